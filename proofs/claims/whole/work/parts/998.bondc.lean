/-! THE BOND: count; what a read leaves -/
theorem itN_2 {α : Type} (f : Nat → α → α) (a : α) : ∀ n, itN f (2 * n) a = itN (fun c a => f (2 * c + 1) (f (2 * c) a)) n a
  | 0 => rfl
  | n + 1 => by
    show itN f (2 * n + 1 + 1) a = f (2 * n + 1) (f (2 * n) (itN _ n a))
    rw [itN_s, itN_s, itN_2 f a n]
theorem pb_or : ∀ b : Fin 256, ∀ p : Fin 8, nI b.1 ||| (1 <<< (nI p.1 &&& 31)) = nI (b.1 ||| 2 ^ p.1) ∧ (b.1 ||| 2 ^ p.1) < 256 := by decide +kernel
theorem kb_2 : ∀ b : Fin 4, bcR (nI b.1) = flgF ((nI b.1 >>> (nI 0 &&& 31)) &&& 1) + flgF ((nI b.1 >>> (nI 1 &&& 31)) &&& 1) := by decide +kernel
theorem plB_b {A : Nat → Int32} {nC nW : Nat} (h8 : nC ≤ 8) (hW : wfW A nC nW) : ∀ n, n ≤ nW → ∃ b, b < 256 ∧ plB A n = nI b
  | 0 => fun _ => ⟨0, by decide, rfl⟩
  | n + 1 => fun hn => by
    obtain ⟨b, hb, e⟩ := plB_b h8 hW n (by omega)
    obtain ⟨p, hp, ep⟩ := hW n (by omega)
    have k := pb_or ⟨b, hb⟩ ⟨p, by omega⟩
    refine ⟨b ||| 2 ^ p, k.2, ?_⟩
    show plB A n ||| (1 <<< (A (18 + 6 * n + 0) &&& 31)) = _
    rw [e, ep]; exact k.1
theorem st_16 {h : HP} {A : Nat → Int32} {nC nW nS : Nat} (C : CR h 0 A nC nW nS) (R : RO A nC nW nS) : itN (fun k a => a + (if h.1 (0, 0, 6) k = -4 then 0 else 1)) 16 0 = cnS A nC := by
  have h8 := R.c8
  rw [show (16 : Nat) = 2 * 8 from rfl, itN_2]
  have e : ∀ c a, c < 8 → (a + (if h.1 (0, 0, 6) (2 * c) = -4 then (0 : Int32) else 1)) + (if h.1 (0, 0, 6) (2 * c + 1) = -4 then 0 else 1) = a + (bI (¬ A (0 + c) = -4) + bI (¬ A (8 + c) = -4)) := fun c a hc => by
    have e0 : h.1 (0, 0, 6) (2 * c) = A (0 + c) := by
      have := CR_s C hc (s := 0) (by decide)
      rw [show 0 + 8 * 0 + c = 0 + c by omega] at this; exact this
    have e1 : h.1 (0, 0, 6) (2 * c + 1) = A (8 + c) := by
      have := CR_s C hc (s := 1) (by decide)
      rw [show 0 + 8 * 1 + c = 8 + c by omega] at this; exact this
    rw [e0, e1, Int32.add_assoc]
    congr 1
    by_cases q0 : A (0 + c) = -4 <;> by_cases q1 : A (8 + c) = -4
    · rw [if_pos q0, if_pos q1, bI_f (fun z => z q0), bI_f (fun z => z q1)]
    · rw [if_pos q0, if_neg q1, bI_f (fun z => z q0), bI_t q1]
    · rw [if_neg q0, if_pos q1, bI_t q0, bI_f (fun z => z q1)]
    · rw [if_neg q0, if_neg q1, bI_t q0, bI_t q1]
  rw [itN_cong (g := fun c a => a + (bI (¬ A (0 + c) = -4) + bI (¬ A (8 + c) = -4))) (fun c a hc => e c a hc) rfl]
  unfold cnS
  have t : ∀ k, nC + k ≤ 8 → itN (fun c a => a + (bI (¬ A (0 + c) = -4) + bI (¬ A (8 + c) = -4))) (nC + k) 0 = itN (fun c a => a + (bI (¬ A (0 + c) = -4) + bI (¬ A (8 + c) = -4))) nC 0 := by
    intro k
    induction k with
    | zero => exact fun _ => rfl
    | succ k ih =>
      intro hk
      rw [show nC + (k + 1) = (nC + k) + 1 from rfl, itN_s, ih (by omega)]
      have a0 : A (0 + (nC + k)) = -4 := by
        have := RO_s4 R (c := nC + k) (s := 0) (by omega) (by omega) (by decide)
        rw [show 0 + (nC + k) = 8 * 0 + (nC + k) by omega]; exact this
      have a1 : A (8 + (nC + k)) = -4 := by
        have := RO_s4 R (c := nC + k) (s := 1) (by omega) (by omega) (by decide)
        rw [show 8 + (nC + k) = 8 * 1 + (nC + k) by omega]; exact this
      show _ + (bI (¬ A (0 + (nC + k)) = -4) + bI (¬ A (8 + (nC + k)) = -4)) = _
      rw [bI_f (fun z => z a0), bI_f (fun z => z a1)]
      exact i_add0 _
  have := t (8 - nC) (by omega)
  rw [show nC + (8 - nC) = 8 by omega] at this
  exact this
/-- how many pairs lie on a sheet -/
theorem who_n {z f0 : Nat} (hz : z ≤ 40) (hf : f0 < 2 ^ 31) : ∀ n, n ≤ 20 → ∃ m, m ≤ n ∧ itN (whoS (nI z) (nI f0)) n 0 = nI m ∧ (∀ i, i < m → f0 + 2 * i + 1 < z) ∧ (m = n ∨ ¬ f0 + 2 * m + 1 < z) := by
  intro n
  induction n with
  | zero => exact fun _ => ⟨0, Nat.le_refl _, rfl, fun i hi => absurd hi (Nat.not_lt_zero _), Or.inl rfl⟩
  | succ n ih =>
    intro hn
    obtain ⟨m, h1, h2, h3, h4⟩ := ih (by omega)
    have k : nI f0 < nI z - 1 - 2 * nI n ↔ f0 + 2 * n + 1 < z := by
      rw [show (2 : Int32) = nI 2 from rfl, pk_mul, Int32.lt_iff_toInt_lt, Int32.toInt_sub, Int32.toInt_sub, nI_toInt hf, nI_toInt (show z < 2 ^ 31 by omega), nI_toInt (show 2 * n < 2 ^ 31 by omega), show (1 : Int32).toInt = 1 from rfl, Int.bmod_def, Int.bmod_def]
      omega
    rw [itN_s, h2]
    unfold whoS
    by_cases q : f0 + 2 * n + 1 < z
    · rw [if_pos (k.mpr q)]
      have e : m = n := h4.elim id (fun y => by omega)
      subst e
      refine ⟨m + 1, Nat.le_refl _, (nI_succ m).symm, fun i hi => by omega, Or.inl rfl⟩
    · rw [if_neg (fun y => q (k.mp y))]
      refine ⟨m, by omega, rfl, h3, Or.inr ?_⟩
      rcases h4 with y | y
      · rw [y]; exact q
      · exact y
theorem cel_n {h : HP} {k f0 i z : Nat} (hz : z ≤ 40) (h7 : ∀ j, j < 40 → h.1 (2, k, 1) j = h.1 (3, 0, 27) (40 * k + j)) (hi : f0 + 2 * i + 1 < z) : caR h k (nI f0) i = ceF h k f0 i ∧ cbR h k (nI f0) i = ceG h k f0 i := by
  have e : nI f0 + 2 * nI i = nI (f0 + 2 * i) := by rw [show (2 : Int32) = nI 2 from rfl, pk_mul, nI_add]
  have e1 : nI (f0 + 2 * i) + 1 = nI (f0 + 2 * i + 1) := (nI_succ _).symm
  unfold caR cbR celF ceF ceG
  rw [e, e1, if_pos (show ¬ nI (f0 + 2 * i) < 0 ∧ ¬ (40 : Int32) ≤ nI (f0 + 2 * i) from in_of (n := 40) (by omega) (by decide)), if_pos (show ¬ nI (f0 + 2 * i + 1) < 0 ∧ ¬ (40 : Int32) ≤ nI (f0 + 2 * i + 1) from in_of (n := 40) (by omega) (by decide)), nI_clamp (by omega), nI_clamp (by omega), h7 _ (by omega), h7 _ (by omega)]
  exact ⟨congrArg _ (by omega), congrArg _ (by omega)⟩
theorem rd_up (u : HP) (R : Nat → Int32) (w p : Nat) (x : Int32) : upR (upI u (6, 0, w) 0 x) (3, 0, 1) (upd R p x) = upI (upI (upR u (3, 0, 1) R) (6, 0, w) 0 x) (3, 0, 1) p x := by
  refine Prod.ext (funext fun j => funext fun n => ?_) rfl
  show (if j = ((3, 0, 1) : PId) then upd R p x n else if j = ((6, 0, w) : PId) ∧ n = 0 then x else u.1 j n) = (if j = ((3, 0, 1) : PId) ∧ n = p then x else if j = ((6, 0, w) : PId) ∧ n = 0 then x else if j = ((3, 0, 1) : PId) then R n else u.1 j n)
  by_cases e : j = (3, 0, 1)
  · rw [if_pos e]
    unfold upd
    by_cases e2 : n = p
    · rw [if_pos e2, if_pos ⟨e, e2⟩]
    · rw [if_neg e2, if_neg (fun z => e2 z.2), if_neg (fun z => absurd (show (3 : Nat) = 6 from congrArg Prod.fst (e.symm.trans z.1)) (by decide)), if_pos e]
  · rw [if_neg e]
    by_cases q : j = ((6, 0, w) : PId) ∧ n = 0
    · rw [if_pos q, if_neg (fun z => e z.1), if_pos q]
    · rw [if_neg q, if_neg (fun z => e z.1), if_neg q, if_neg e]
theorem rd_all {h : HP} {nC nW nS : Nat} (I : InvD h nC nW nS) {k f0 z : Nat} (hz : z ≤ 40) (h7 : ∀ j, j < 40 → h.1 (2, k, 1) j = h.1 (3, 0, 27) (40 * k + j)) {m : Nat} (hm : ∀ i, i < m → f0 + 2 * i + 1 < z) (hok : ∀ i, i < m → rdK h k f0 nC nW i) : ∀ n, n ≤ m → InvD (upR (ptC h k (nI f0) n) (3, 0, 1) (rdS h k f0 n)) nC nW nS ∧ ∀ i, ¬ isC 0 i → (ptC h k (nI f0) n).1 i = h.1 i := by
  intro n
  induction n with
  | zero => exact fun _ => ⟨by
      show InvD (upR h (3, 0, 1) (h.1 (3, 0, 1))) nC nW nS
      rw [upR_id]; exact I, fun _ _ => rfl⟩
  | succ n ih =>
    intro hn
    obtain ⟨i1, i2⟩ := ih (by omega)
    have h4 := I.ro.w4
    have h8 := I.ro.c8
    have e1 : ptC h k (nI f0) (n + 1) = upI (ptC h k (nI f0) n) (6, 0, (caR h k (nI f0) n).toNatClampNeg) 0 (cbR h k (nI f0) n) := rfl
    have e2 : rdS h k f0 (n + 1) = upd (rdS h k f0 n) (18 + 6 * (ceF h k f0 n).toNatClampNeg + 0) (ceG h k f0 n) := rfl
    obtain ⟨c1, c2⟩ := cel_n hz h7 (hm n (by omega))
    obtain ⟨w, hw, ew⟩ := nI_ofk (by omega) (hok n (by omega)).1
    obtain ⟨p, hp, ep⟩ := nI_ofk (by omega) (hok n (by omega)).2
    rw [e1, e2, c1, c2, ew, ep, nI_clamp (by omega)]
    refine ⟨?_, fun i hi => ?_⟩
    · rw [rd_up]
      exact Inv_up i1 (i := (6, 0, w)) (k := 0) (by omega) (okV_w (by omega) (by omega) (fun _ => ⟨fun _ => ⟨p, hp, rfl⟩, by omega, by omega⟩)) (fun _ _ => by omega) (GL_o h4 i1.ro.gl (glw (by omega) (by decide) (by decide) (by decide))) (src_w (by omega) (by decide))
    · rw [upI_ne _ _ _ (fun e => hi (by rw [e]; exact ⟨Or.inr rfl, rfl⟩))]; exact i2 i hi
theorem Inv_f9 {h : HP} {nC nW nS : Nat} (I : InvD h nC nW nS) {v : HP} {x : Int32} (hf : ∀ i, ¬ scI i → ¬ i = (1, 0, 0) → ¬ i = (3, 0, 0) → v.1 i = h.1 i) (h1 : ∀ k, v.1 (1, 0, 0) k = if k = 9 then x else h.1 (1, 0, 0) k) (h3 : ∀ k, v.1 (3, 0, 0) k = if k = 27 then x else h.1 (3, 0, 0) k) : InvD v nC nW nS := by
  have g2 : ∀ q i, isC q i → v.1 i = h.1 i := fun q i z => hf i (fun y => by have := y.1; have := z.1; omega) (im_ne z 0 0).1 (im_ne z 0 0).2
  have e31 : v.1 (3, 0, 1) = h.1 (3, 0, 1) := hf _ (by decide) (by decide) (by decide)
  refine ⟨by rw [h3, if_neg (by decide)]; exact I.b3, by rw [h3, if_neg (by decide)]; exact I.b4, by rw [e31]; exact I.ro, CR_fr I.cr (g2 0) (fun _ _ => by rw [e31]), IM_fr I.im (by rw [h1, if_neg (by decide)]) (hf _ (by decide) (by decide) (by decide)) (fun k _ => g2 _) (fun _ _ => by rw [e31]), ?_, ⟨?_, ?_⟩, fun k hk => ?_, fun q w hq hq1 hw => ?_⟩
  · unfold TP; rw [hf (1, 0, 2) (by decide) (by decide) (by decide), hf (1, 0, 3) (by decide) (by decide) (by decide), hf (3, 0, 12) (by decide) (by decide) (by decide), h3, if_neg (by decide)]; exact I.tp
  · rw [h1, if_neg (by decide), h3, if_neg (by decide)]; exact I.ft.1
  · rw [h1, if_pos rfl, h3, if_pos rfl]
  · have g : ∀ a, v.1 (2, k, a) = h.1 (2, k, a) := fun a => hf _ (fr_s k a).1 (fun e => absurd (show (2 : Nat) = 1 from congrArg Prod.fst e) (by decide)) (ne_23 _ _ _)
    rw [g 0, g 1, hf (3, 0, 25) (by decide) (by decide) (by decide), hf (3, 0, 26) (by decide) (by decide) (by decide), hf (3, 0, 27) (by decide) (by decide) (by decide)]
    exact I.sh k hk
  · rw [g2 q (6, q, w) ⟨Or.inr rfl, rfl⟩]; exact I.kb q w hq hq1 hw
set_option maxRecDepth 20000 in
set_option maxHeartbeats 2000000 in
theorem s_count (l9 : Launch) (G : WT) {d : Nat} (hd : 10 ≤ d) (h : HP) (hI : Inv h) (x : Int32)  : SM l9 G yX6_count cX6_count 2 yX7_count cX7_count 6 d [vi x] h := by
  obtain ⟨nC, nW, nS, I⟩ := hI
  have h4 := I.ro.w4
  obtain ⟨t1, t, t2, t3, t4, t5⟩ := I.tp
  obtain ⟨b, hb, e7⟩ := I.im.1
  refine SM_ro (k_count l9 G (d := d) (by omega) h I.ro.w4 I.cr.c4 x) (MS.mono (m_count l9 G (d := d) (by omega) h I.ro.c8 I.b3 I.ro.w4 I.b4 x) (fun r u z => ⟨?_, nC, nW, nS, Inv_scr I z.1⟩))
  have f0 : h.1 (0, 0, 0) 5 = h.1 (3, 0, 1) 47 := CR_47 I.cr
  have f1 : bcR (h.1 (1, 0, 0) 7) = flgF (h.1 (3, 0, 3) 0) + flgF (h.1 (3, 0, 3) 1) := by
    rw [(I.im.2 0 (by decide)).1, (I.im.2 1 (by decide)).1, e7]
    exact kb_2 ⟨b, hb⟩
  have f2 : h.1 (1, 0, 2) 1 = h.1 (3, 0, 0) 12 := t3.trans t4.symm
  have f3 : (if (0 : Int32) ≤ h.1 (2, 0, 0) 2 then h.1 (2, 0, 0) 2 else -4) = (if h.1 (3, 0, 25) 0 = -4 then -4 else h.1 (3, 0, 26) 0) := by
    rcases I.sh 0 (by decide) with z | ⟨l, n, z1, z2, z3, z4, z5, z6, z7⟩
    · rw [if_pos z.1, if_neg (Int32.not_le.mpr z.2)]
    · rw [z3, z5, z6, if_neg (nI_n4 (by omega)), if_pos (Int32.not_lt.mp (nI_pos (by omega)))]
  have f4 : itN (fun w a => a + (h.1 (6, 0, w) 4 - h.1 (6, 0, w) 5)) nW 0 = cnL ((stH h).1 (3, 0, 2)) nW := itN_cong (fun w a hw => by
    obtain ⟨e0, e1, e2, e3, e4, e5⟩ := CR_w (CA I) I.ro.w4 hw
    show a + _ = a + lefA _ w
    unfold lefA
    rw [e4, e5]) rfl
  have f5 : itN (fun w a => a ||| (1 <<< ((h.1 (6, 0, w) 0) &&& 31))) nW 0 = plB ((stH h).1 (3, 0, 2)) nW := itN_cong (fun w a hw => by
    obtain ⟨e0, e1, e2, e3, e4, e5⟩ := CR_w (CA I) I.ro.w4 hw
    show a ||| _ = a ||| _
    rw [e0]) rfl
  obtain ⟨b2, hb2, e2⟩ := plB_b I.ro.c8 (RO_wfW (RA I)) nW (Nat.le_refl _)
  rw [z.2, st_16 (CA I) (RA I), f0, f1, f2, f3, f4, f5, e2, bc_8 b2 hb2]
