/-! THE BOND: drift -/
def drC (h : HP) (nW : Nat) (v : Int32) : Int32 := ccF (fun w => h.1 (6, 1, w) 0) (fun k => drG h 1 k (sdG (sdN (k + 1) v))) nW
theorem arr_o (A D : Nat → Int32) {nW k : Nat} (h1 : ¬ k = 17) (h2 : ¬ (18 ≤ k ∧ k < 18 + 6 * nW ∧ (k - 18) % 6 = 0)) : arrR A D nW k = A k := by
  unfold arrR
  rw [show upd (plR A D nW) 17 (A 17 + 1) k = plR A D nW k from if_neg h1]
  exact if_neg h2
theorem arr_17 (A D : Nat → Int32) (nW : Nat) : arrR A D nW 17 = A 17 + 1 := updi _ _ _
section DR
variable {h : HP} {A B : Nat → Int32} {nC nW nS : Nat}
theorem drg_d (C : CR h 1 B nC nW nS) (hA : ∀ k, k < 80 → ¬ k = 42 → B k = A k) (h8 : nC ≤ 8) (h4 : nW ≤ 4) (hW : wfW A nC nW) (hk : ∀ w, w < nW → A (18 + 6 * w + 2) = 0 ∨ A (18 + 6 * w + 2) = 1) {w : Nat} (hw : w < nW) (v : Int32) : drG h 1 w (sdG v) = dto A w (sdG v) := by
  obtain ⟨s, hs, e⟩ := sdG_nat v
  obtain ⟨c0, c1, c2, c3, c4, c5⟩ := CR_w C h4 hw
  obtain ⟨p, hp, ep⟩ := hW w hw
  unfold drG dto
  rw [e, c0, c2, CR_17 C, hA (18 + 6 * w + 0) (by omega) (by omega), hA (18 + 6 * w + 2) (by omega) (by omega), hA 17 (by omega) (by omega), kpA01 (hk w hw)]
  by_cases q : s = 2
  · subst q; rfl
  · have hn : ¬ nI s = 2 := fun z => q (nI_ij (show nI s = nI 2 from z) (by omega) (by decide))
    rw [if_neg hn, if_neg hn, ep, nI_clamp (by omega), nI_clamp (by omega), com_go C (by omega) (by omega)]
    unfold goM ldM
    rw [hA 16 (by omega) (by omega)]
    have : ∀ x, x < 2 → B (8 * x + p) = A (8 * x + p) := fun x hx => hA _ (by omega) (by omega)
    rw [this _ (by split <;> omega)]
theorem dcc_d (C : CR h 1 B nC nW nS) (hA : ∀ k, k < 80 → ¬ k = 42 → B k = A k) (h8 : nC ≤ 8) (h4 : nW ≤ 4) (hW : wfW A nC nW) (hk : ∀ w, w < nW → A (18 + 6 * w + 2) = 0 ∨ A (18 + 6 * w + 2) = 1) (v : Int32) : drC h nW v = ckF (fun w => A (18 + 6 * w + 0)) (dtoF A v) (dgoF v) nW := by
  unfold drC ccF ckF
  refine itN_cong (fun w a hw => ?_) rfl
  unfold ccW ckW
  refine itN_cong (fun x b hx => ?_) rfl
  have hx2 : x < nW := by omega
  have pw : h.1 (6, 1, w) 0 = A (18 + 6 * w + 0) := (CR_w C h4 hw).1.trans (hA _ (by omega) (by omega))
  have px : h.1 (6, 1, x) 0 = A (18 + 6 * x + 0) := (CR_w C h4 hx2).1.trans (hA _ (by omega) (by omega))
  unfold ccS
  show (if ¬ h.1 (6, 1, w) 0 = drG h 1 w (sdG (sdN (w + 1) v)) ∧ drG h 1 w (sdG (sdN (w + 1) v)) = h.1 (6, 1, x) 0 ∧ h.1 (6, 1, w) 0 = drG h 1 x (sdG (sdN (x + 1) v)) then b + 1 else b) = b + bP (dcP (fun w => A (18 + 6 * w + 0)) (dtoF A v) (dgoF v) w x)
  rw [drg_d C hA h8 h4 hW hk hw, drg_d C hA h8 h4 hW hk hx2, pw, px]
  have sit : ∀ w, dgoF v w = 0 → dtoF A v w = A (18 + 6 * w + 0) := fun w z => by
    unfold dgoF dgo at z
    unfold dtoF dto
    by_cases q : sdG (sdN (w + 1) v) = 2
    · rw [if_pos q]
    · rw [if_neg q] at z; exact absurd z (by decide)
  have k : (¬ A (18 + 6 * w + 0) = dtoF A v w ∧ dtoF A v w = A (18 + 6 * x + 0) ∧ A (18 + 6 * w + 0) = dtoF A v x) ↔ dcP (fun w => A (18 + 6 * w + 0)) (dtoF A v) (dgoF v) w x := by
    unfold dcP
    exact ⟨fun ⟨a, b, c⟩ => ⟨fun z => a (sit w z).symm, fun z => a (by rw [b, c, sit x z]), fun z => a (by rw [b]; exact z), b, c.symm⟩, fun ⟨a, b, c, d, e⟩ => ⟨fun z => c (z.trans d), d, e.symm⟩⟩
  show (if ¬ A (18 + 6 * w + 0) = dtoF A v w ∧ dtoF A v w = A (18 + 6 * x + 0) ∧ A (18 + 6 * w + 0) = dtoF A v x then b + 1 else b) = _
  by_cases q : ¬ A (18 + 6 * w + 0) = dtoF A v w ∧ dtoF A v w = A (18 + 6 * x + 0) ∧ A (18 + 6 * w + 0) = dtoF A v x
  · rw [if_pos q, bP_t (k.mp q)]
  · rw [if_neg q, bP_f (fun z => q (k.mpr z)), i_add0]
theorem ne_61 (w a : Nat) : ((6, 1, w) : PId) ≠ (0, 1, a) := fun e => absurd (show (6 : Nat) = 0 from congrArg Prod.fst e) (by decide)
theorem ds_j (h : HP) (n : Nat) (v c : Int32) {j : Nat} (h0 : ¬ j = 0) (h13 : ¬ j = 13) : (endH (drgH h 1 n v) 1 n c).1 (0, 1, j) = h.1 (0, 1, j) := by
  have e : ((0, 1, j) : PId) ≠ (0, 1, 0) := fun e => h0 (congrArg (fun z : PId => z.2.2) e)
  unfold endH
  rw [upI_ne _ _ _ e, upI_ne _ _ _ e, plcH_g, drgH_f _ _ _ _ (fun e => h13 (congrArg (fun z : PId => z.2.2) e))]
theorem ds_0 (h : HP) (n : Nat) (v c : Int32) {k : Nat} (h2 : ¬ k = 2) (h3 : ¬ k = 3) : (endH (drgH h 1 n v) 1 n c).1 (0, 1, 0) k = h.1 (0, 1, 0) k := by
  rw [endH_f _ _ _ _ h2 h3, drgH_f _ _ _ _ (by decide)]
theorem ds_02 (h : HP) (n : Nat) (v c : Int32) : (endH (drgH h 1 n v) 1 n c).1 (0, 1, 0) 2 = h.1 (0, 1, 0) 2 + 1 := by
  unfold endH
  rw [upI_i, drgH_f _ _ _ _ (by decide)]
theorem ds_03 (h : HP) (n : Nat) (v c : Int32) : (endH (drgH h 1 n v) 1 n c).1 (0, 1, 0) 3 = h.1 (0, 1, 0) 3 + c := by
  unfold endH
  rw [upI_k _ _ _ _ _ (by decide), upI_i, drgH_f _ _ _ _ (by decide)]
theorem ds_w0 (h : HP) {n w : Nat} (v c : Int32) (hw : w < n) : (endH (drgH h 1 n v) 1 n c).1 (6, 1, w) 0 = drG h 1 w (sdG (sdN (w + 1) v)) := by
  unfold endH
  rw [upI_ne _ _ _ (ne_61 _ _), upI_ne _ _ _ (ne_61 _ _)]
  show (if (6 : Nat) = 6 ∧ (1 : Nat) = 1 ∧ w < n ∧ (0 : Nat) = 0 then (drgH h 1 n v).1 (0, 1, 13) w else (drgH h 1 n v).1 (6, 1, w) 0) = _
  rw [if_pos ⟨rfl, rfl, hw, rfl⟩, drgH_g _ _ _ _ _ hw]
theorem ds_wk (h : HP) (n w : Nat) (v c : Int32) {k : Nat} (hk : ¬ k = 0) : (endH (drgH h 1 n v) 1 n c).1 (6, 1, w) k = h.1 (6, 1, w) k := by
  unfold endH
  rw [upI_ne _ _ _ (ne_61 _ _), upI_ne _ _ _ (ne_61 _ _)]
  show (if (6 : Nat) = 6 ∧ (1 : Nat) = 1 ∧ w < n ∧ k = 0 then (drgH h 1 n v).1 (0, 1, 13) w else (drgH h 1 n v).1 (6, 1, w) k) = _
  rw [if_neg (fun z => hk z.2.2.2), drgH_f _ _ _ _ (ne_61 _ _)]
theorem ds_CR (C : CR h 1 B nC nW nS) (hA : ∀ k, k < 80 → ¬ k = 42 → B k = A k) (h8 : nC ≤ 8) (h4 : nW ≤ 4) (hW : wfW A nC nW) (hk : ∀ w, w < nW → A (18 + 6 * w + 2) = 0 ∨ A (18 + 6 * w + 2) = 1) (v c : Int32) : CR (endH (drgH h 1 nW v) 1 nW c) 1 (fun k => if k = 42 then B 42 + c else arrR A (dtoF A v) nW k) nC nW nS := by
  refine ⟨(ds_0 h nW v c (by decide) (by decide)).trans C.c0, (ds_0 h nW v c (by decide) (by decide)).trans C.c4, fun k hk9 hl => ?_⟩
  have old := C.at_ k hk9 hl
  show _ = if k = 42 then B 42 + c else arrR A (dtoF A v) nW k
  by_cases c5 : k = 42
  · subst c5
    rw [if_pos rfl, ← old]
    exact ds_03 h nW v c
  rw [if_neg c5]
  by_cases c3 : k = 17
  · subst c3
    rw [arr_17, ← hA 17 (by decide) (by decide), ← old]
    exact ds_02 h nW v c
  by_cases c4 : 18 ≤ k ∧ k < 42
  · obtain ⟨w, f, e, hf, hw⟩ : ∃ w f, k = 18 + 6 * w + f ∧ f < 6 ∧ w < nW := ⟨(k - 18) / 6, (k - 18) % 6, by omega, by omega, hl.1 c4.1 c4.2⟩
    subst e
    by_cases f0 : f = 0
    · subst f0
      rw [src_w (by omega) hf, arr_pl _ _ hw]
      exact (ds_w0 h v c hw).trans (drg_d C hA h8 h4 hW hk hw _)
    · rw [arr_o _ _ (by omega) (by omega), ← hA _ hk9 c5, ← old, src_w (by omega) hf]
      exact ds_wk h nW w v c (by
        show ¬ (if f = 3 then 4 else if f = 4 then 3 else f) = 0
        split
        · decide
        · split
          · decide
          · exact f0)
  rw [arr_o _ _ c3 (by omega), ← hA _ hk9 c5, ← old]
  by_cases c1 : k < 16
  · have : (src 1 k).1 = (0, 1, 6) := by
      unfold src
      by_cases d : k < 8
      · rw [if_pos d]
      · rw [if_neg d, if_pos c1]
    rw [this, ds_j _ _ _ _ (by decide) (by decide)]
  by_cases c2 : k = 16
  · subst c2
    exact ds_0 h nW v c (by decide) (by decide)
  by_cases c6 : k < 47
  · have : (src 1 k).1 = (0, 1, 8) := by
      unfold src
      rw [if_neg (by omega), if_neg c1, if_neg c2, if_neg c3, if_neg (by omega), if_neg c5, if_pos c6]
    rw [this, ds_j _ _ _ _ (by decide) (by decide)]
  by_cases c7 : k = 47
  · subst c7
    exact ds_0 h nW v c (by decide) (by decide)
  have : (src 1 k).1 = (0, 1, 9 + (k - 48) % 4) := by
    unfold src
    rw [if_neg (by omega), if_neg c1, if_neg c2, if_neg c3, if_neg (by omega), if_neg c5, if_neg c6, if_neg c7]
  rw [this, ds_j _ _ _ _ (by omega) (by omega)]
end DR
theorem dr_all {h : HP} {A : Nat → Int32} {nC nW nS : Nat} (C : CR h 1 A nC nW nS) (R : RO A nC nW nS) (v : Int32) : ∀ n, (drF 1 nW n (h, 0, v)).2.1 = (dI nW n (A, 0, v)).2.1 ∧ (drF 1 nW n (h, 0, v)).2.2 = (dI nW n (A, 0, v)).2.2 ∧ (∃ B, CR (drF 1 nW n (h, 0, v)).1 1 B nC nW nS ∧ ∀ k, k < 80 → ¬ k = 42 → B k = (dI nW n (A, 0, v)).1 k) ∧ ∀ w, w < nW → (dI nW n (A, 0, v)).1 (18 + 6 * w + 2) = A (18 + 6 * w + 2) := by
  intro n
  induction n with
  | zero => exact ⟨rfl, rfl, ⟨A, C, fun _ _ _ => rfl⟩, fun _ _ => rfl⟩
  | succ n ih =>
    obtain ⟨i1, i2, ⟨B, i3, i4⟩, i5⟩ := ih
    have wf := dI_wf R.c8 (RO_wfS R) (RO_wfW R) 0 v n
    have e : drF 1 nW (n + 1) (h, 0, v) = drS 1 nW (drF 1 nW n (h, 0, v)) := rfl
    rw [e, dI_s]
    generalize drF 1 nW n (h, 0, v) = U at i1 i2 i3 ⊢
    generalize dI nW n (A, 0, v) = Y at i1 i2 i4 i5 wf ⊢
    have hk : ∀ w, w < nW → Y.1 (18 + 6 * w + 2) = 0 ∨ Y.1 (18 + 6 * w + 2) = 1 := fun w hw => by rw [i5 w hw]; exact RO_k R hw
    have cc := dcc_d i3 i4 R.c8 R.w4 wf.2 hk U.2.2
    refine ⟨?_, ?_, ⟨_, ds_CR i3 i4 R.c8 R.w4 wf.2 hk U.2.2 (drC U.1 nW U.2.2), fun k hk hk2 => ?_⟩, fun w hw => ?_⟩
    · show U.2.1 + drC U.1 nW U.2.2 = Y.2.1 + ckF (fun w => Y.1 (18 + 6 * w + 0)) (dtoF Y.1 Y.2.2) (dgoF Y.2.2) nW
      rw [cc, i1, i2]
    · show sdN nW U.2.2 = sdN nW Y.2.2
      rw [i2]
    · show (if k = 42 then B 42 + drC U.1 nW U.2.2 else arrR Y.1 (dtoF Y.1 U.2.2) nW k) = arrR Y.1 (dtoF Y.1 Y.2.2) nW k
      rw [if_neg hk2, i2]
    · show arrR Y.1 (dtoF Y.1 Y.2.2) nW (18 + 6 * w + 2) = _
      have := R.w4
      rw [arr_o _ _ (by omega) (by omega)]; exact i5 w hw
theorem stC1 {h u : HP} (f : FrC u h 1) : (stH u).1 (3, 0, 2) = (stH h).1 (3, 0, 2) := by
  unfold stH
  rw [upR_same, upR_same, f.1 _ (nC_i (by decide) (by decide)), f.1 _ (nC_i (by decide) (by decide))]
set_option maxRecDepth 20000 in
set_option maxHeartbeats 2000000 in
theorem s_drift (l9 : Launch) (G : WT) {d : Nat} (hd : 10 ≤ d) (h : HP) (hI : Inv h) (a : Int32) (b : Int32) (x : Int32)  : SM l9 G yX6_drift cX6_drift 5 yX7_drift cX7_drift 10 d [vi a, vi b, vi x] h := by
  obtain ⟨nC, nW, nS, I⟩ := hI
  have h4 := I.ro.w4
  have hz : ∀ w, w < 4 → h.1 (6, 0, w) 2 = 0 ∨ h.1 (6, 0, w) 2 = 1 := fun w hw => I.kb 0 w (by decide) (by decide) hw
  by_cases hb : (¬ b < 1 ∧ ¬ 60 < b) ∧ (x = 0 ∨ x = 1)
  · have hc0 : ¬ b < 0 := fun z => hb.1.1 (by
      rw [Int32.lt_iff_toInt_lt] at z ⊢
      rw [Int32.toInt_zero] at z
      rw [show (1 : Int32).toInt = 1 from rfl]
      omega)
    obtain ⟨n, hn, rfl⟩ := nI_ofl (n := 60) (by decide) ⟨hc0, hb.1.2⟩
    have hn1 : 1 ≤ n := by
      rcases Nat.eq_zero_or_pos n with z | z
      · subst z; exact absurd (by decide : nI 0 < 1) hb.1.1
      · exact z
    rcases hb.2 with rfl | rfl
    · refine ⟨fun v u => v = (dI nW n ((stH h).1 (3, 0, 2), 0, a)).2.1 ∧ FrC u h 1, MS.mono (k_drift_0 l9 G (d := d) (by omega) h I.ro.w4 I.cr.c4 hz a hn1 hn) (fun r u z => ?_), fun v u z => ?_⟩
      · obtain ⟨u0, s1, f1, f2, e⟩ := z
        have C1 := CR_sam s1 (CA I) (fun _ _ => rfl)
        obtain ⟨d1, d2, ⟨B, d3, d4⟩, d5⟩ := dr_all C1 (RA I) a n
        refine ⟨_, e, ?_, f2⟩
        exact d1
      · obtain ⟨rfl, f2⟩ := z
        have Iu := Inv_FrC I f2
        refine MS.mono (m_drift_ok l9 G (d := d) (by omega) u I.ro.c8 h4 Iu.b4 (RO_wfS Iu.ro) (RO_wfW Iu.ro) hn1 hn (x := 0) (by decide)) (fun r u2 z => ⟨?_, nC, nW, nS, Inv_scr Iu z.1⟩)
        rw [z.2, stC1 f2]; rfl
    · refine ⟨fun v u => v = plB (dI nW n ((stH h).1 (3, 0, 2), 0, a)).1 nW ∧ FrC u h 1, MS.mono (k_drift_1 l9 G (d := d) (by omega) h I.ro.w4 I.cr.c4 hz a hn1 hn) (fun r u z => ?_), fun v u z => ?_⟩
      · obtain ⟨u0, s1, f1, f2, e⟩ := z
        have C1 := CR_sam s1 (CA I) (fun _ _ => rfl)
        obtain ⟨d1, d2, ⟨B, d3, d4⟩, d5⟩ := dr_all C1 (RA I) a n
        refine ⟨_, e, ?_, f2⟩
        refine itN_cong (fun w y hw => ?_) rfl
        show y ||| _ = y ||| _
        rw [(CR_w d3 h4 hw).1, d4 _ (by omega) (by omega)]
      · obtain ⟨rfl, f2⟩ := z
        have Iu := Inv_FrC I f2
        refine MS.mono (m_drift_ok l9 G (d := d) (by omega) u I.ro.c8 h4 Iu.b4 (RO_wfS Iu.ro) (RO_wfW Iu.ro) hn1 hn (x := 1) (by decide)) (fun r u2 z => ⟨?_, nC, nW, nS, Inv_scr Iu z.1⟩)
        rw [z.2, stC1 f2]; rfl
  · exact SM_bb ⟨nC, nW, nS, I⟩ (k_drift_bad l9 G (d := d) (by omega) h _ _ _ hb) (m_drift_bad l9 G (d := d) (by omega) h _ _ _ hb)
