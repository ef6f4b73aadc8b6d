/-! THE BOND: again, adds, forget -/
theorem cm0 (h : HP) (a k m : Nat) (x y : Int32) : upI (upI h (0, 0, a) k x) (3, 0, 1) m y = upI (upI h (3, 0, 1) m y) (0, 0, a) k x := by
  refine Prod.ext (funext fun j => funext fun n => ?_) rfl
  show (if j = ((3, 0, 1) : PId) ∧ n = m then y else if j = ((0, 0, a) : PId) ∧ n = k then x else h.1 j n) = (if j = ((0, 0, a) : PId) ∧ n = k then x else if j = ((3, 0, 1) : PId) ∧ n = m then y else h.1 j n)
  by_cases e : j = ((0, 0, a) : PId) ∧ n = k
  · rw [if_pos e, if_neg (fun z => absurd (show (3 : Nat) = 0 from congrArg Prod.fst (z.1.symm.trans e.1)) (by decide)), if_pos e]
  · rw [if_neg e, if_neg e]
theorem cm6 (h : HP) (w k m : Nat) (x y : Int32) : upI (upI h (6, 0, w) k x) (3, 0, 1) m y = upI (upI h (3, 0, 1) m y) (6, 0, w) k x := by
  refine Prod.ext (funext fun j => funext fun n => ?_) rfl
  show (if j = ((3, 0, 1) : PId) ∧ n = m then y else if j = ((6, 0, w) : PId) ∧ n = k then x else h.1 j n) = (if j = ((6, 0, w) : PId) ∧ n = k then x else if j = ((3, 0, 1) : PId) ∧ n = m then y else h.1 j n)
  by_cases e : j = ((6, 0, w) : PId) ∧ n = k
  · rw [if_pos e, if_neg (fun z => absurd (show (3 : Nat) = 6 from congrArg Prod.fst (z.1.symm.trans e.1)) (by decide)), if_pos e]
  · rw [if_neg e, if_neg e]
/-- the number of sightings changes -/
theorem Inv_47 {h : HP} {nC nW nS nS2 : Nat} (hI : InvD h nC nW nS) (h8 : nS2 ≤ 8) (hx : ∀ k f, k < nS2 → ¬ k < nS → f < 4 → h.1 (0, 0, 9 + f) k = h.1 (3, 0, 1) (48 + 4 * k + f) ∧ (f = 1 → ∃ n, n ≤ 10 ∧ h.1 (3, 0, 1) (48 + 4 * k + f) = nI n)) : InvD (upI (upI h (0, 0, 0) 5 (nI nS2)) (3, 0, 1) 47 (nI nS2)) nC nW nS2 := by
  have eS : (upI (upI h (0, 0, 0) 5 (nI nS2)) (3, 0, 1) 47 (nI nS2)).1 (3, 0, 1) = upd (h.1 (3, 0, 1)) 47 (nI nS2) := by
    funext j
    show (if (3, 0, 1) = ((3, 0, 1) : PId) ∧ j = 47 then nI nS2 else h.1 (3, 0, 1) j) = _
    unfold upd
    by_cases e : j = 47
    · rw [if_pos ⟨rfl, e⟩, if_pos e]
    · rw [if_neg (fun z => e z.2), if_neg e]
  have eo : ∀ j, ¬ j = (3, 0, 1) → ∀ m, (upI (upI h (0, 0, 0) 5 (nI nS2)) (3, 0, 1) 47 (nI nS2)).1 j m = if j = ((0, 0, 0) : PId) ∧ m = 5 then nI nS2 else h.1 j m := fun j z m => by
    show (if j = ((3, 0, 1) : PId) ∧ m = 47 then nI nS2 else if j = ((0, 0, 0) : PId) ∧ m = 5 then nI nS2 else h.1 j m) = _
    rw [if_neg (fun y => z y.1)]
  have hc : ∀ j, isC 0 j → ¬ j = (3, 0, 1) := fun j z e => by rw [e] at z; exact absurd z.1 (by decide)
  have wit : ∀ j, 48 ≤ j → j < 80 → ∃ k f, j = 48 + 4 * k + f ∧ f < 4 ∧ k = (j - 48) / 4 ∧ f = (j - 48) % 4 ∧ k < 8 := fun j a b => ⟨(j - 48) / 4, (j - 48) % 4, by omega, by omega, rfl, rfl, by omega⟩
  refine Inv_row hI (fun j z => funext fun m => by rw [eo j z.2.2.2.2 m, if_neg (fun y => z.2.2.2.1 (by rw [y.1]; exact ⟨Or.inl rfl, rfl⟩))]) (fun j hj => by rw [eS]; exact if_neg (by omega)) ?_ ?_ (fun w hw => ?_)
  · rw [eS]
    refine ⟨hI.ro.c8, hI.ro.w4, h8, fun j hj => ?_, GL_o hI.ro.w4 hI.ro.gl (fun w hw => by omega)⟩
    unfold upd
    by_cases e : j = 47
    · rw [if_pos e, e]; exact ⟨by omega, by omega, by omega, by omega, by omega, fun _ => rfl, by omega⟩
    · rw [if_neg e]
      obtain ⟨o1, o2, o3, o4, o5, o6, o7⟩ := hI.ro.ok j hj
      refine ⟨o1, o2, o3, o4, o5, fun z => absurd z e, fun a b c => ?_⟩
      by_cases q : (j - 48) / 4 < nS
      · exact o7 a q c
      · obtain ⟨k, f, w1, w2, w3, w4, w5⟩ := wit j a hj
        have := (hx k f (by omega) (by omega) w2).2 (by omega)
        rw [w1]; exact this
  · rw [eS]
    refine ⟨by rw [eo _ (by decide), if_neg (by decide)]; exact hI.cr.c0, by rw [eo _ (by decide), if_neg (by decide)]; exact hI.cr.c4, fun j hj hl => ?_⟩
    rw [eo _ (hc _ (src_C 0 j))]
    unfold upd
    by_cases e : j = 47
    · rw [if_pos e, e]; exact if_pos ⟨rfl, rfl⟩
    · rw [if_neg e, if_neg (fun z => e (src_inj (q := 0) hj (by decide) (Prod.ext z.1 z.2)))]
      by_cases q : 48 ≤ j → (j - 48) / 4 < nS
      · exact hI.cr.at_ j hj ⟨hl.1, q⟩
      · have a : 48 ≤ j := by
          rcases Nat.lt_or_ge j 48 with z | z
          · exact absurd (fun y => by omega) q
          · exact z
        have b : ¬ (j - 48) / 4 < nS := fun z => q (fun _ => z)
        obtain ⟨k, f, w1, w2, w3, w4, w5⟩ := wit j a hj
        have := (hx k f (by have := hl.2 a; omega) (by omega) w2).1
        rw [w1, src_e w5 w2]; exact this
  · rw [eo _ (fun e => absurd (show (6 : Nat) = 3 from congrArg Prod.fst e) (by decide)), if_neg (fun e => absurd (show (6 : Nat) = 0 from congrArg Prod.fst e.1) (by decide))]
    exact hI.kb 0 w (by decide) (by decide) hw
theorem Inv_tp {h h2 : HP} {nC nW nS : Nat} (hI : InvD h nC nW nS) (hf : ∀ i : PId, ¬ i = (1, 0, 2) → ¬ i = (1, 0, 3) → ¬ i = (3, 0, 12) → ¬ i = (3, 0, 0) → h2.1 i = h.1 i) (h30 : ∀ k, ¬ k = 12 → h2.1 (3, 0, 0) k = h.1 (3, 0, 0) k) (hT : TP h2) : InvD h2 nC nW nS := by
  have g : ∀ i : PId, isC i.2.1 i ∨ i.1 = 2 → h2.1 i = h.1 i := fun i z => hf i (fun e => by rw [e] at z; exact z.elim (fun y => absurd y.1 (by decide)) (fun y => absurd y (by decide))) (fun e => by rw [e] at z; exact z.elim (fun y => absurd y.1 (by decide)) (fun y => absurd y (by decide))) (fun e => by rw [e] at z; exact z.elim (fun y => absurd y.1 (by decide)) (fun y => absurd y (by decide))) (fun e => by rw [e] at z; exact z.elim (fun y => absurd y.1 (by decide)) (fun y => absurd y (by decide)))
  have g2 : ∀ q i, isC q i → h2.1 i = h.1 i := fun q i z => g i (Or.inl ⟨z.1, rfl⟩)
  have e31 : h2.1 (3, 0, 1) = h.1 (3, 0, 1) := hf _ (by decide) (by decide) (by decide) (by decide)
  refine ⟨by rw [h30 3 (by decide)]; exact hI.b3, by rw [h30 4 (by decide)]; exact hI.b4, by rw [e31]; exact hI.ro, CR_fr hI.cr (g2 0) (fun _ _ => by rw [e31]), IM_fr hI.im (by rw [hf (1, 0, 0) (by decide) (by decide) (by decide) (by decide)]) (hf _ (by decide) (by decide) (by decide) (by decide)) (fun k _ => g2 _) (fun _ _ => by rw [e31]), hT, ?_, fun k hk => ?_, fun q w hq hq1 hw => ?_⟩
  · unfold FT; rw [hf (1, 0, 0) (by decide) (by decide) (by decide) (by decide), h30 17 (by decide), h30 27 (by decide)]; exact hI.ft
  · rw [g (2, k, 0) (Or.inr rfl), g (2, k, 1) (Or.inr rfl), hf (3, 0, 25) (by decide) (by decide) (by decide) (by decide), hf (3, 0, 26) (by decide) (by decide) (by decide) (by decide), hf (3, 0, 27) (by decide) (by decide) (by decide) (by decide)]
    exact hI.sh k hk
  · rw [g2 q (6, q, w) ⟨Or.inr rfl, rfl⟩]; exact hI.kb q w hq hq1 hw
theorem Inv_sh {h h2 : HP} {nC nW nS : Nat} (hI : InvD h nC nW nS) (hf : ∀ i : PId, ¬ i.1 = 2 → ¬ i = (3, 0, 25) → ¬ i = (3, 0, 26) → ¬ i = (3, 0, 27) → h2.1 i = h.1 i) (hS : SHs h2) : InvD h2 nC nW nS := by
  have g2 : ∀ q i, isC q i → h2.1 i = h.1 i := fun q i z => hf i (fun e => by have := z.1; omega) (fun e => by rw [e] at z; exact absurd z.1 (by decide)) (fun e => by rw [e] at z; exact absurd z.1 (by decide)) (fun e => by rw [e] at z; exact absurd z.1 (by decide))
  have e31 : h2.1 (3, 0, 1) = h.1 (3, 0, 1) := hf _ (by decide) (by decide) (by decide) (by decide)
  have e30 : h2.1 (3, 0, 0) = h.1 (3, 0, 0) := hf _ (by decide) (by decide) (by decide) (by decide)
  have e10 : h2.1 (1, 0, 0) = h.1 (1, 0, 0) := hf _ (by decide) (by decide) (by decide) (by decide)
  refine ⟨by rw [e30]; exact hI.b3, by rw [e30]; exact hI.b4, by rw [e31]; exact hI.ro, CR_fr hI.cr (g2 0) (fun _ _ => by rw [e31]), IM_fr hI.im (by rw [e10]) (hf _ (by decide) (by decide) (by decide) (by decide)) (fun k _ => g2 _) (fun _ _ => by rw [e31]), ?_, ?_, hS, fun q w hq hq1 hw => ?_⟩
  · unfold TP; rw [e30, hf (1, 0, 2) (by decide) (by decide) (by decide) (by decide), hf (1, 0, 3) (by decide) (by decide) (by decide) (by decide), hf (3, 0, 12) (by decide) (by decide) (by decide) (by decide)]; exact hI.tp
  · unfold FT; rw [e10, e30]; exact hI.ft
  · rw [g2 q (6, q, w) ⟨Or.inr rfl, rfl⟩]; exact hI.kb q w hq hq1 hw
theorem nI_ij {a b : Nat} (h : nI a = nI b) (ha : a < 2 ^ 31) (hb : b < 2 ^ 31) : a = b := (nI_eq ha hb).mp h
set_option maxRecDepth 20000 in
set_option maxHeartbeats 2000000 in
theorem s_again (l9 : Launch) (G : WT) {d : Nat} (hd : 10 ≤ d) (h : HP) (hI : Inv h) (a : Int32)  : SM l9 G yX6_again cX6_again 4 yX7_again cX7_again 2 d [vi a] h := by
  obtain ⟨nC, nW, nS, I⟩ := hI
  by_cases hb : ¬ a < 0 ∧ ¬ nI nW ≤ a
  · have h4 := I.ro.w4
    obtain ⟨w, hw, rfl⟩ := nI_ofk (by omega) hb
    obtain ⟨e0, e1, e2, e3, e4, e5⟩ := CR_w I.cr I.ro.w4 hw
    refine SM_put I (p := 18 + 6 * w + 5) (i := (6, 0, w)) (k := 5) (x := 0) (by omega) (okV_w (by omega) (by omega) (fun _ => ⟨by omega, by omega, by omega⟩)) ⟨fun _ _ => by omega, by omega⟩ (fun v hv => ?_) (src_w (by omega) (by decide)) (v := h.1 (3, 0, 1) (18 + 6 * w + 5)) (MS.mono (k_again_ok l9 G (d := d) (by omega) h I.ro.w4 I.cr.c4 hw) (fun r u z => ⟨by rw [z.1, e5], z.2⟩)) (fun q0 q1 => MS.mono (m_again_ok l9 G (d := d) (by omega) (upI h (6, 0, w) 5 0) I.ro.w4 (by rw [q0]; exact I.b4) hw) (fun r u z => ⟨by rw [z.1, q1], z.2⟩))
    obtain ⟨g, m, z1, z2, z3⟩ := I.ro.gl v hv
    by_cases e : v = w
    · subst e
      exact ⟨0, g + m, by omega, updi _ _ _, by rw [updo (by omega), z3, Nat.zero_add]⟩
    · exact ⟨g, m, z1, by rw [updo (by omega), z2], by rw [updo (by omega), z3]⟩
  · exact SM_bb ⟨nC, nW, nS, I⟩ (k_again_bad l9 G (d := d) (by omega) h I.ro.w4 I.cr.c4 _ hb) (m_again_bad l9 G (d := d) (by omega) h I.ro.w4 I.b4 _ hb)

set_option maxRecDepth 20000 in
set_option maxHeartbeats 2000000 in
theorem s_adds (l9 : Launch) (G : WT) {d : Nat} (hd : 10 ≤ d) (h : HP) (hI : Inv h) (a : Int32) (b : Int32)  : SM l9 G yX6_adds cX6_adds 4 yX7_adds cX7_adds 4 d [vi a, vi b] h := by
  obtain ⟨nC, nW, nS, I⟩ := hI
  by_cases hb : (¬ a < 0 ∧ ¬ nI nW ≤ a) ∧ (b = 0 ∨ b = 1)
  · have h4 := I.ro.w4
    obtain ⟨w, hw, rfl⟩ := nI_ofk (by omega) hb.1
    obtain ⟨e0, e1, e2, e3, e4, e5⟩ := CR_w I.cr I.ro.w4 hw
    obtain ⟨s, hs, rfl⟩ := nI_pt hb.2
    obtain ⟨g, m, z1, z2, z3⟩ := I.ro.gl w hw
    by_cases hn : g + m < 10
    · refine SM_up (k_adds_ok l9 G (d := d) (by omega) h I.ro.w4 I.cr.c4 hw hs (e4.trans z3) hn) (MS.mono (m_adds_ok l9 G (d := d) (by omega) (upI (upI h (6, 0, w) 3 (h.1 (6, 0, w) 3 ||| (nI s <<< (nI (g + m) &&& 31)))) (6, 0, w) 4 (nI (g + m + 1))) I.ro.w4 I.b4 hw hs z3 hn) (fun r u z => ⟨z.1, nC, nW, nS, ?_⟩))
      rw [z.2]
      have Q1 : InvD (upI (upI h (6, 0, w) 3 (h.1 (3, 0, 1) (18 + 6 * w + 4) ||| (nI s <<< (nI (g + m) &&& 31)))) (3, 0, 1) (18 + 6 * w + 4) (h.1 (3, 0, 1) (18 + 6 * w + 4) ||| (nI s <<< (nI (g + m) &&& 31)))) nC nW nS := Inv_up I (by omega) (okV_w (by omega) (by omega) (fun _ => ⟨by omega, by omega, by omega⟩)) (fun _ _ => by omega) (GL_o I.ro.w4 I.ro.gl (glw (by omega) (by decide) (by decide) (by decide))) (src_w (by omega) (by decide))
      have e9 : ∀ k, ¬ k = 18 + 6 * w + 4 → (upI (upI h (6, 0, w) 3 (h.1 (3, 0, 1) (18 + 6 * w + 4) ||| (nI s <<< (nI (g + m) &&& 31)))) (3, 0, 1) (18 + 6 * w + 4) (h.1 (3, 0, 1) (18 + 6 * w + 4) ||| (nI s <<< (nI (g + m) &&& 31)))).1 (3, 0, 1) k = h.1 (3, 0, 1) k := fun k hk => if_neg (fun z => hk z.2)
      have Q2 := Inv_up Q1 (p := 18 + 6 * w + 3) (x := nI (g + m + 1)) (i := (6, 0, w)) (k := 4) (by omega) (okV_w (by omega) (by omega) (fun _ => ⟨by omega, by omega, by omega⟩)) (fun _ _ => by omega) (fun v hv => by
        obtain ⟨g2, m2, y1, y2, y3⟩ := I.ro.gl v hv
        by_cases e : v = w
        · subst e
          exact ⟨g, m + 1, by omega, by rw [updo (by omega), e9 _ (by omega), z2], updi _ _ _⟩
        · exact ⟨g2, m2, y1, by rw [updo (by omega), e9 _ (by omega), y2], by rw [updo (by omega), e9 _ (by omega), y3]⟩) (src_w (by omega) (by decide))
      rw [e3]
      simp only [cm6] at Q2 ⊢
      exact Q2
    · have hn10 : g + m = 10 := by omega
      rw [hn10] at z3
      exact SM_bb ⟨nC, nW, nS, I⟩ (k_adds_full l9 G (d := d) (by omega) h I.ro.w4 I.cr.c4 hw hs (e4.trans z3)) (m_adds_full l9 G (d := d) (by omega) h I.ro.w4 I.b4 hw hs z3)
  · exact SM_bb ⟨nC, nW, nS, I⟩ (k_adds_bad l9 G (d := d) (by omega) h I.ro.w4 I.cr.c4 _ _ hb) (m_adds_bad l9 G (d := d) (by omega) h I.ro.w4 I.b4 _ _ hb)

set_option maxRecDepth 20000 in
set_option maxHeartbeats 2000000 in
theorem s_forget (l9 : Launch) (G : WT) {d : Nat} (hd : 10 ≤ d) (h : HP) (hI : Inv h) (a : Int32)  : SM l9 G yX6_forget cX6_forget 3 yX7_forget cX7_forget 2 d [vi a] h := by
  obtain ⟨nC, nW, nS, I⟩ := hI
  by_cases hb : ¬ a < 0 ∧ ¬ nI nS < a
  · have h8 := I.ro.s8
    obtain ⟨n, hn, rfl⟩ := nI_ofl (by omega) hb
    refine SM_up (k_forget_ok l9 G (d := d) (by omega) h h8 ((CR_47 I.cr).trans (RO_n I.ro)) hn) (MS.mono (m_forget_ok l9 G (d := d) (by omega) (upI h (0, 0, 0) 5 (nI n)) h8 (RO_n I.ro) hn) (fun r u z => ⟨?_, nC, nW, n, by rw [z.2]; exact Inv_47 I (by omega) (fun k f a b => by omega)⟩))
    rw [z.1, CR_47 I.cr]
    rfl
  · exact SM_bb ⟨nC, nW, nS, I⟩ (k_forget_bad l9 G (d := d) (by omega) h I.ro.s8 ((CR_47 I.cr).trans (RO_n I.ro)) _ hb) (m_forget_bad l9 G (d := d) (by omega) h I.ro.s8 (RO_n I.ro) _ hb)
