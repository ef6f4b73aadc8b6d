/-! THE BOND: keep, back -/
theorem im_ne {i : PId} {q : Nat} (hq : isC q i) (a b : Nat) : ¬ i = (1, a, b) ∧ ¬ i = (3, a, b) := ⟨fun e => by
    have h1 := hq.1
    have h2 : i.1 = 1 := congrArg Prod.fst e
    omega, fun e => by
    have h1 := hq.1
    have h2 : i.1 = 3 := congrArg Prod.fst e
    omega⟩
theorem nC_i {q a b c : Nat} (h0 : ¬ a = 0) (h6 : ¬ a = 6) : ¬ isC q (a, b, c) := fun z => z.1.elim h0 h6
/-- the living row copied away -/
theorem Inv_keep {h u : HP} {nC nW nS k : Nat} (I : InvD h nC nW nS) (hk : k < 2) (hs : SamC u h (2 + k) 0) (hf : FrC u h (2 + k)) : InvD (upR (upI (upI u (1, 0, 0) 7 (u.1 (1, 0, 0) 7 ||| (1 <<< (nI k &&& 31)))) (3, 0, 3) k 1) (3, 0, 1) (mvR (h.1 (3, 0, 1)) (80 * (k + 1)) 0 80)) nC nW nS := by
  have g : ∀ i : PId, ¬ isC (2 + k) i → ¬ i = (1, 0, 0) → ¬ i = (3, 0, 3) → ¬ i = (3, 0, 1) → (upR (upI (upI u (1, 0, 0) 7 (u.1 (1, 0, 0) 7 ||| (1 <<< (nI k &&& 31)))) (3, 0, 3) k 1) (3, 0, 1) (mvR (h.1 (3, 0, 1)) (80 * (k + 1)) 0 80)).1 i = h.1 i := fun i a b c d => by
    rw [upR_ne _ _ d, upI_ne _ _ _ c, upI_ne _ _ _ b]; exact hf.1 i a
  have gu : ∀ i : PId, isC (2 + k) i → (upR (upI (upI u (1, 0, 0) 7 (u.1 (1, 0, 0) 7 ||| (1 <<< (nI k &&& 31)))) (3, 0, 3) k 1) (3, 0, 1) (mvR (h.1 (3, 0, 1)) (80 * (k + 1)) 0 80)).1 i = u.1 i := fun i a => by
    rw [upR_ne _ _ (im_ne a 0 1).2, upI_ne _ _ _ (im_ne a 0 3).2, upI_ne _ _ _ (im_ne a 0 0).1]
  have e10 : ∀ m, (upR (upI (upI u (1, 0, 0) 7 (u.1 (1, 0, 0) 7 ||| (1 <<< (nI k &&& 31)))) (3, 0, 3) k 1) (3, 0, 1) (mvR (h.1 (3, 0, 1)) (80 * (k + 1)) 0 80)).1 (1, 0, 0) m = if m = 7 then h.1 (1, 0, 0) 7 ||| (1 <<< (nI k &&& 31)) else h.1 (1, 0, 0) m := fun m => by
    rw [upR_ne _ _ (by decide), upI_ne _ _ _ (by decide), upI_at, hf.1 _ (nC_i (by decide) (by decide))]
  have e33 : ∀ m, (upR (upI (upI u (1, 0, 0) 7 (u.1 (1, 0, 0) 7 ||| (1 <<< (nI k &&& 31)))) (3, 0, 3) k 1) (3, 0, 1) (mvR (h.1 (3, 0, 1)) (80 * (k + 1)) 0 80)).1 (3, 0, 3) m = if m = k then 1 else h.1 (3, 0, 3) m := fun m => by
    rw [upR_ne _ _ (by decide), upI_at, upI_ne _ _ _ (by decide), hf.1 _ (nC_i (by decide) (by decide))]
  have e31 : ∀ m, (upR (upI (upI u (1, 0, 0) 7 (u.1 (1, 0, 0) 7 ||| (1 <<< (nI k &&& 31)))) (3, 0, 3) k 1) (3, 0, 1) (mvR (h.1 (3, 0, 1)) (80 * (k + 1)) 0 80)).1 (3, 0, 1) m = if 80 * (k + 1) ≤ m ∧ m < 80 * (k + 1) + 80 then h.1 (3, 0, 1) (0 + (m - 80 * (k + 1))) else h.1 (3, 0, 1) m := fun m => by rw [upR_same]; rfl
  generalize (upR (upI (upI u (1, 0, 0) 7 (u.1 (1, 0, 0) 7 ||| (1 <<< (nI k &&& 31)))) (3, 0, 3) k 1) (3, 0, 1) (mvR (h.1 (3, 0, 1)) (80 * (k + 1)) 0 80)) = H at g gu e10 e33 e31 ⊢
  have gs : ∀ i : PId, ¬ i.1 = 0 → ¬ i.1 = 6 → ¬ i = (1, 0, 0) → ¬ i = (3, 0, 3) → ¬ i = (3, 0, 1) → H.1 i = h.1 i := fun i a b => g i (fun z => z.1.elim a b)
  have e80 : ∀ m, m < 80 → H.1 (3, 0, 1) m = h.1 (3, 0, 1) m := fun m hm => by rw [e31, if_neg (by omega)]
  have ei : ∀ m, m < 80 → imR H k m = h.1 (3, 0, 1) m := fun m hm => by
    show H.1 (3, 0, 1) (80 * (k + 1) + m) = _
    rw [e31, if_pos ⟨by omega, by omega⟩, show 0 + (80 * (k + 1) + m - 80 * (k + 1)) = m by omega]
  have eij : ∀ j, j < 2 → ¬ j = k → ∀ m, m < 80 → imR H j m = imR h j m := fun j hj hjk m hm => by
    show H.1 (3, 0, 1) (80 * (j + 1) + m) = _
    rw [e31, if_neg (by omega)]; rfl
  have e30 := gs (3, 0, 0) (by decide) (by decide) (by decide) (by decide) (by decide)
  obtain ⟨b, hb, hb7⟩ := I.im.1
  refine ⟨by rw [e30]; exact I.b3, by rw [e30]; exact I.b4, RO_fr I.ro e80, CR_fr I.cr (fun i z => g i (fun y => by have := z.2.symm.trans y.2; omega) (im_ne z 0 0).1 (im_ne z 0 3).2 (im_ne z 0 1).2) e80, ⟨?_, fun j hj => ?_⟩, ?_, ?_, fun j hj => ?_, fun q w hq hq1 hw => ?_⟩
  · obtain ⟨b2, h1, h2, h3⟩ := bit_k hb hk hk
    exact ⟨b2, h1, by rw [e10, if_pos rfl, hb7, h2]⟩
  · obtain ⟨b2, h1, h2, h3⟩ := bit_k hb hk hj
    rw [e10, if_pos rfl, e33, hb7, h2, h3]
    by_cases e : j = k
    · rw [if_pos e, if_pos e]
      refine ⟨rfl, fun _ => ⟨nS, ?_⟩⟩
      subst e
      exact ⟨RO_fr I.ro ei, by
        have C := CR_sam hs I.cr (fun m hm => ei m hm)
        exact CR_fr C gu (fun _ _ => rfl)⟩
    · rw [if_neg e, if_neg e]
      obtain ⟨i1, i2⟩ := I.im.2 j hj
      refine ⟨by rw [i1, hb7], fun z => ?_⟩
      obtain ⟨n, r, c⟩ := i2 z
      exact ⟨n, RO_fr r (eij j hj e), CR_fr c (fun i z => g i (fun y => by have := z.2.symm.trans y.2; omega) (im_ne z 0 0).1 (im_ne z 0 3).2 (im_ne z 0 1).2) (eij j hj e)⟩
  · unfold TP
    rw [e30, gs (1, 0, 2) (by decide) (by decide) (by decide) (by decide) (by decide), gs (1, 0, 3) (by decide) (by decide) (by decide) (by decide) (by decide), gs (3, 0, 12) (by decide) (by decide) (by decide) (by decide) (by decide)]
    exact I.tp
  · unfold FT
    rw [e10, e10, e30]
    exact I.ft
  · rw [gs (2, j, 0) (show ¬ (2 : Nat) = 0 by decide) (show ¬ (2 : Nat) = 6 by decide) (fun e => absurd (show (2 : Nat) = 1 from congrArg Prod.fst e) (by decide)) (ne_23 _ _ _) (ne_23 _ _ _), gs (2, j, 1) (show ¬ (2 : Nat) = 0 by decide) (show ¬ (2 : Nat) = 6 by decide) (fun e => absurd (show (2 : Nat) = 1 from congrArg Prod.fst e) (by decide)) (ne_23 _ _ _) (ne_23 _ _ _), gs (3, 0, 25) (by decide) (by decide) (by decide) (by decide) (by decide), gs (3, 0, 26) (by decide) (by decide) (by decide) (by decide) (by decide), gs (3, 0, 27) (by decide) (by decide) (by decide) (by decide) (by decide)]
    exact I.sh j hj
  · by_cases e : q = 2 + k
    · subst e
      rw [gu _ ⟨Or.inr rfl, rfl⟩, hs.2.1 w 2 hw (by decide)]
      exact I.kb 0 w (by decide) (by decide) hw
    · rw [g (6, q, w) (fun y => e y.2) (fun e => absurd (show (6 : Nat) = 1 from congrArg Prod.fst e) (by decide)) (fun e => absurd (show (6 : Nat) = 3 from congrArg Prod.fst e) (by decide)) (fun e => absurd (show (6 : Nat) = 3 from congrArg Prod.fst e) (by decide))]
      exact I.kb q w hq hq1 hw
/-- an image copied back -/
theorem Inv_back {h u : HP} {nC nW nS nS2 k : Nat} (I : InvD h nC nW nS) (hk : k < 2) (hR : RO (imR h k) nC nW nS2) (hC : CR h (2 + k) (imR h k) nC nW nS2) (hs : SamC u h 0 (2 + k)) (hf : FrC u h 0) : InvD (upR u (3, 0, 1) (mvR (u.1 (3, 0, 1)) 0 (80 * (k + 1)) 80)) nC nW nS2 := by
  have eu : u.1 (3, 0, 1) = h.1 (3, 0, 1) := hf.1 _ (nC_i (by decide) (by decide))
  have e31 : ∀ m, (upR u (3, 0, 1) (mvR (u.1 (3, 0, 1)) 0 (80 * (k + 1)) 80)).1 (3, 0, 1) m = if 0 ≤ m ∧ m < 0 + 80 then h.1 (3, 0, 1) (80 * (k + 1) + (m - 0)) else h.1 (3, 0, 1) m := fun m => by rw [upR_same, eu]; rfl
  have e0 : ∀ m, m < 80 → (upR u (3, 0, 1) (mvR (u.1 (3, 0, 1)) 0 (80 * (k + 1)) 80)).1 (3, 0, 1) m = imR h k m := fun m hm => by rw [e31, if_pos ⟨by omega, by omega⟩]; rfl
  have gu : ∀ i : PId, ¬ i = (3, 0, 1) → (upR u (3, 0, 1) (mvR (u.1 (3, 0, 1)) 0 (80 * (k + 1)) 80)).1 i = u.1 i := fun i z => upR_ne _ _ z
  refine Inv_row I (fun i z => by rw [gu i z.2.2.2.2]; exact hf.1 i z.2.2.2.1) (fun m hm => by rw [e31, if_neg (by omega)]) (RO_fr hR e0) (CR_fr (CR_sam hs hC e0) (fun i z => gu i (im_ne z 0 1).2) (fun _ _ => rfl)) (fun w hw => ?_)
  rw [gu _ (fun e => absurd (show (6 : Nat) = 3 from congrArg Prod.fst e) (by decide)), hs.2.1 w 2 hw (by decide)]
  exact I.kb (2 + k) w (by omega) (by omega) hw
theorem bit01 (x y : Int32) : flgF ((x >>> y) &&& 1) = (x >>> y) &&& 1 := flg01 (and1 _)
set_option maxRecDepth 20000 in
set_option maxHeartbeats 2000000 in
theorem s_keep (l9 : Launch) (G : WT) {d : Nat} (hd : 10 ≤ d) (h : HP) (hI : Inv h) (a : Int32)  : SM l9 G yX6_keep cX6_keep 3 yX7_keep cX7_keep 3 d [vi a] h := by
  obtain ⟨nC, nW, nS, I⟩ := hI
  by_cases hb : ¬ a < 0 ∧ ¬ 1 < a
  · obtain ⟨k, hk, rfl⟩ := nI_ofl (n := 1) (by decide) hb
    refine ⟨fun v u => v = (h.1 (1, 0, 0) 7 >>> (nI k &&& 31)) &&& 1 ∧ ∃ u1, SamC u1 h (2 + k) 0 ∧ FrC u1 h (2 + k) ∧ u = upI u1 (1, 0, 0) 7 (u1.1 (1, 0, 0) 7 ||| (1 <<< (nI k &&& 31))), MS.mono (k_keep_ok l9 G (d := d) (by omega) h (by omega) (fun w hw => I.kb 0 w (by decide) (by decide) hw)) (fun r u z => ⟨_, z.1, rfl, z.2⟩), fun v u z => ?_⟩
    obtain ⟨rfl, u1, s1, f1, rfl⟩ := z
    have e33 : (upI u1 (1, 0, 0) 7 (u1.1 (1, 0, 0) 7 ||| (1 <<< (nI k &&& 31)))).1 (3, 0, 3) = h.1 (3, 0, 3) := by rw [upI_ne _ _ _ (by decide), f1.1 _ (nC_i (by decide) (by decide))]
    have e31 : (upI u1 (1, 0, 0) 7 (u1.1 (1, 0, 0) 7 ||| (1 <<< (nI k &&& 31)))).1 (3, 0, 1) = h.1 (3, 0, 1) := by rw [upI_ne _ _ _ (by decide), f1.1 _ (nC_i (by decide) (by decide))]
    refine MS.mono (m_keep_ok l9 G (d := d) (by omega) (upI u1 (1, 0, 0) 7 (u1.1 (1, 0, 0) 7 ||| (1 <<< (nI k &&& 31)))) (k := k) (by omega)) (fun r u z => ⟨?_, nC, nW, nS, ?_⟩)
    · rw [z.1, e33, (I.im.2 k (by omega)).1, bit01]
    · rw [z.2, e31]
      exact Inv_keep I (by omega) s1 f1
  · exact SM_bb ⟨nC, nW, nS, I⟩ (k_keep_bad l9 G (d := d) (by omega) h _ hb) (m_keep_bad l9 G (d := d) (by omega) h _ hb)

set_option maxRecDepth 20000 in
set_option maxHeartbeats 2000000 in
theorem s_back (l9 : Launch) (G : WT) {d : Nat} (hd : 10 ≤ d) (h : HP) (hI : Inv h) (a : Int32)  : SM l9 G yX6_back cX6_back 2 yX7_back cX7_back 2 d [vi a] h := by
  obtain ⟨nC, nW, nS, I⟩ := hI
  by_cases hb : ¬ a < 0 ∧ ¬ 1 < a
  · obtain ⟨k, hk, rfl⟩ := nI_ofl (n := 1) (by decide) hb
    obtain ⟨i1, i2⟩ := I.im.2 k (by omega)
    by_cases hz : (h.1 (1, 0, 0) 7 >>> (nI k &&& 31)) &&& 1 = 0
    · exact SM_bb ⟨nC, nW, nS, I⟩ (k_back_none l9 G (d := d) (by omega) h (by omega) hz) (m_back_none l9 G (d := d) (by omega) h (k := k) (by omega) (by rw [i1]; exact hz))
    · obtain ⟨nS2, r, c⟩ := i2 (by rw [i1]; exact hz)
      refine ⟨fun v u => v = u.1 (0, 0, 0) 2 ∧ SamC u h 0 (2 + k) ∧ FrC u h 0, MS.mono (k_back_ok l9 G (d := d) (by omega) h (by omega) hz (fun w hw => I.kb (2 + k) w (by omega) (by omega) hw)) (fun r u z => ⟨_, z.2.2, rfl, z.1, z.2.1⟩), fun v u z => ?_⟩
      obtain ⟨rfl, s1, f1⟩ := z
      have e33 : u.1 (3, 0, 3) = h.1 (3, 0, 3) := f1.1 _ (nC_i (by decide) (by decide))
      have e31 : u.1 (3, 0, 1) = h.1 (3, 0, 1) := f1.1 _ (nC_i (by decide) (by decide))
      refine MS.mono (m_back_ok l9 G (d := d) (by omega) u (k := k) (by omega) (by rw [e33, i1]; exact hz)) (fun r9 u2 z => ⟨?_, nC, nW, nS2, ?_⟩)
      · rw [z.1, e31, s1.1 2 (by decide), CR_17 c]
        rfl
      · rw [z.2]; exact Inv_back I (by omega) r c s1 f1
  · exact SM_bb ⟨nC, nW, nS, I⟩ (k_back_bad l9 G (d := d) (by omega) h _ hb) (m_back_bad l9 G (d := d) (by omega) h _ hb)
