/-! THE BOND: fits, go -/
theorem ft_Bs (h : HP) (w nS x : Nat) : ∀ n, n ≤ 8 → Bs (ftC h w nS x n) (fun p => p < n ∧ asC h w nS x p) := by
  intro n
  unfold ftC
  induction n with
  | zero => exact fun _ => Bs_congr Bs_0 (fun p => ⟨False.elim, fun z => absurd z.1 (Nat.not_lt_zero _)⟩)
  | succ n ih =>
    intro hn
    rw [itN_s]
    refine Bs_congr (Bs_or (ih (by omega)) (Bs_shl (asC h w nS x n) (show n < 32 by omega))) (fun p => ⟨fun z => ?_, fun z => ?_⟩)
    · rcases z with z | z
      · exact ⟨by omega, z.2⟩
      · rw [z.2]; exact ⟨by omega, z.1⟩
    · rcases Nat.lt_or_ge p n with y | y
      · exact Or.inl ⟨y, z.2⟩
      · have e : p = n := by omega
        subst e
        exact Or.inr ⟨z.2, rfl⟩
theorem as_fit {h : HP} {nC nW nS : Nat} (I : InvD h nC nW nS) {w c x : Nat} (hw : w < nW) (hc : c < nC) (hx : x < 2) : asC h w nS x c ↔ fitP (h.1 (3, 0, 1)) (beg ((stH h).1 (3, 0, 2)) w c x) nW w nS := by
  have h4 := I.ro.w4
  have h8 := I.ro.s8
  have hc8 := I.ro.c8
  have eb : ∀ k, k < 80 → ¬ k = 18 + 6 * w + 0 → ¬ k = 18 + 6 * w + 2 → beg ((stH h).1 (3, 0, 2)) w c x k = h.1 (3, 0, 1) k := fun k hk a b => by
    unfold beg
    rw [updo b, updo a]; exact stA h hk
  have e0 : beg ((stH h).1 (3, 0, 2)) w c x (18 + 6 * w + 0) = nI c := by
    unfold beg
    rw [updo (by omega), updi]
  have e2 : kpA (beg ((stH h).1 (3, 0, 2)) w c x) w = nI x := by
    have : beg ((stH h).1 (3, 0, 2)) w c x (18 + 6 * w + 2) = nI x := by unfold beg; rw [updi]
    rw [kpA01 (by rw [this]; rcases (show x = 0 ∨ x = 1 by omega) with rfl | rfl; exact Or.inl rfl; exact Or.inr rfl), this]
  have hWB : wfW (beg ((stH h).1 (3, 0, 2)) w c x) nC nW := fun v hv => by
    by_cases e : v = w
    · subst e; exact ⟨c, hc, e0⟩
    · rw [eb _ (by omega) (by omega) (by omega)]; exact RO_p I.ro hv
  have wy := fun n hn => way_row I.cr hc8 h4 (RO_wfS I.ro) I.ro.gl hw eb hWB e0 e2 n hn
  have hr : ∀ k, k < nS → ∃ n, n ≤ 10 ∧ h.1 (3, 0, 1) (48 + 4 * k + 1) = nI n := fun k hk => (I.ro.ok (48 + 4 * k + 1) (by omega)).2.2.2.2.2.2 (by omega) (by omega) (by omega)
  have r0 : ∀ k, k < nS → h.1 (0, 0, 9) k = h.1 (3, 0, 1) (48 + 4 * k + 0) := fun k hk => CR_e I.cr h8 hk (f := 0) (by decide)
  have r1 : ∀ k, k < nS → h.1 (0, 0, 10) k = h.1 (3, 0, 1) (48 + 4 * k + 1) := fun k hk => CR_e I.cr h8 hk (f := 1) (by decide)
  have r2 : ∀ k, k < nS → h.1 (0, 0, 11) k = h.1 (3, 0, 1) (48 + 4 * k + 2) := fun k hk => CR_e I.cr h8 hk (f := 2) (by decide)
  have r3 : ∀ k, k < nS → h.1 (0, 0, 12) k = h.1 (3, 0, 1) (48 + 4 * k + 3) := fun k hk => CR_e I.cr h8 hk (f := 3) (by decide)
  constructor
  · intro z m hm j hj a b
    have := z j hj (by rw [r0 j hj]; exact a)
    rw [r1 j hj, b, nI_clamp (by omega), r2 j hj, r3 j hj, ← wy m (by omega)] at this
    exact this
  · intro z k hk a
    obtain ⟨m, hm, em⟩ := hr k hk
    have := z m hm k hk (by rw [r0 k hk] at a; exact a) em
    rw [r1 k hk, em, nI_clamp (by omega), r2 k hk, r3 k hk, ← wy m (by omega)]
    exact this
section PS
variable {h : HP} {A : Nat → Int32} {nC nW nS : Nat}
theorem ps_j (h : HP) (n : Nat) {j : Nat} (h0 : ¬ j = 0) (h13 : ¬ j = 13) : (passH h 0 n).1 (0, 0, j) = h.1 (0, 0, j) := by
  have e : ((0, 0, j) : PId) ≠ (0, 0, 0) := fun e => h0 (congrArg (fun z : PId => z.2.2) e)
  unfold passH endH
  rw [upI_ne _ _ _ e, upI_ne _ _ _ e, plcH_g, setH_f _ _ _ h13]
theorem ps_02 (h : HP) (n : Nat) : (passH h 0 n).1 (0, 0, 0) 2 = h.1 (0, 0, 0) 2 + 1 := by
  unfold passH endH
  rw [upI_i, setH_f _ _ _ (by decide)]
theorem ps_03 (h : HP) (n : Nat) : (passH h 0 n).1 (0, 0, 0) 3 = h.1 (0, 0, 0) 3 + ccF (fun w => h.1 (6, 0, w) 0) (goalF h 0) n := by
  unfold passH endH
  rw [upI_k _ _ _ _ _ (by decide), upI_i, setH_f _ _ _ (by decide)]
theorem ne_60 (w a : Nat) : ((6, 0, w) : PId) ≠ (0, 0, a) := fun e => absurd (show (6 : Nat) = 0 from congrArg Prod.fst e) (by decide)
theorem ps_w0 (h : HP) {n w : Nat} (hw : w < n) : (passH h 0 n).1 (6, 0, w) 0 = goalF h 0 w := by
  unfold passH endH
  rw [upI_ne _ _ _ (ne_60 _ _), upI_ne _ _ _ (ne_60 _ _)]
  show (if (6 : Nat) = 6 ∧ (0 : Nat) = 0 ∧ w < n ∧ (0 : Nat) = 0 then (setH h 0 n).1 (0, 0, 13) w else (setH h 0 n).1 (6, 0, w) 0) = _
  rw [if_pos ⟨rfl, rfl, hw, rfl⟩, setH_g _ _ _ _ hw]
  rfl
theorem ps_w (h : HP) (n w : Nat) {k : Nat} (hk : ¬ k = 0) : (passH h 0 n).1 (6, 0, w) k = (setH h 0 n).1 (6, 0, w) k := by
  unfold passH endH
  rw [upI_ne _ _ _ (ne_60 _ _), upI_ne _ _ _ (ne_60 _ _)]
  show (if (6 : Nat) = 6 ∧ (0 : Nat) = 0 ∧ w < n ∧ k = 0 then (setH h 0 n).1 (0, 0, 13) w else (setH h 0 n).1 (6, 0, w) k) = _
  rw [if_neg (fun z => hk z.2.2.2)]
theorem ps_w5 (h : HP) {n w : Nat} (hw : w < n) : (passH h 0 n).1 (6, 0, w) 5 = minF (h.1 (6, 0, w) 5 + 1) (h.1 (6, 0, w) 4) := by
  rw [ps_w h n w (by decide)]
  simp [setH, hw]
theorem ps_wk (h : HP) (n w : Nat) {k : Nat} (hk : ¬ k = 0) (h5 : ¬ k = 5) : (passH h 0 n).1 (6, 0, w) k = h.1 (6, 0, w) k := by
  rw [ps_w h n w hk, setH_w _ _ _ _ h5]
theorem ps_o (h : HP) (n : Nat) {i : PId} (hi : ¬ isC 0 i) : (passH h 0 n).1 i = h.1 i := by
  have e : i ≠ (0, 0, 0) := fun e => hi (by rw [e]; exact ⟨Or.inl rfl, rfl⟩)
  unfold passH endH
  rw [upI_ne _ _ _ e, upI_ne _ _ _ e]
  funext k
  show (if i.1 = 6 ∧ i.2.1 = 0 ∧ i.2.2 < n ∧ k = 0 then (setH h 0 n).1 (0, 0, 13) i.2.2 else if i = (0, 0, 13) ∧ k < n then _ else if i.1 = 6 ∧ i.2.1 = 0 ∧ i.2.2 < n ∧ k = 5 then _ else h.1 i k) = h.1 i k
  rw [if_neg (fun z => hi ⟨Or.inr z.1, z.2.1⟩), if_neg (fun z => hi (by rw [z.1]; exact ⟨Or.inl rfl, rfl⟩)), if_neg (fun z => hi ⟨Or.inr z.1, z.2.1⟩)]
theorem goal_to (C : CR h 0 A nC nW nS) (R : RO A nC nW nS) {w : Nat} (hw : w < nW) : goalF h 0 w = toM A w := by
  obtain ⟨c0, c1, c2, c3, c4, c5⟩ := CR_w C R.w4 hw
  obtain ⟨p, hp, e⟩ := RO_p R hw
  unfold goalF
  rw [c0, c2]
  refine nxt_to C R.c8 R.w4 hw (fun _ _ => rfl) rfl rfl (i_add0 _).symm ?_ (fun _ => (i_add0 _).symm) (kpA01 (RO_k R hw)) rfl hp e
  unfold lefA
  exact ⟨Int32.not_lt.mpr, Int32.not_lt.mp⟩
theorem cc_ck (C : CR h 0 A nC nW nS) (R : RO A nC nW nS) : ccF (fun w => h.1 (6, 0, w) 0) (goalF h 0) nW = manA A nW := by
  unfold ccF manA ckF
  refine itN_cong (fun w a hw => ?_) rfl
  unfold ccW ckW
  refine itN_cong (fun v b hv => ?_) rfl
  unfold ccS
  have ew := (CR_w C R.w4 hw).1
  have ev := (CR_w C R.w4 (show v < nW by omega)).1
  show (if ¬ h.1 (6, 0, w) 0 = goalF h 0 w ∧ goalF h 0 w = h.1 (6, 0, v) 0 ∧ h.1 (6, 0, w) 0 = goalF h 0 v then b + 1 else b) = _
  rw [goal_to C R hw, goal_to C R (show v < nW by omega), ew, ev]
  have k : (¬ A (18 + 6 * w + 0) = toM A w ∧ toM A w = A (18 + 6 * v + 0) ∧ A (18 + 6 * w + 0) = toM A v) ↔ dcP (fun w => A (18 + 6 * w + 0)) (toM A) (wenF A) w v := by
    have h4 := R.w4
    have := cls_ho (A := A) h4 hw (show v < nW by omega) 0
    rw [hrsR_s] at this
    have e0 : hrsR A nW 0 = A := rfl
    rw [e0, hrR_pl _ h4 hw, hrR_pl _ h4 (show v < nW by omega)] at this
    exact this.symm
  by_cases q : ¬ A (18 + 6 * w + 0) = toM A w ∧ toM A w = A (18 + 6 * v + 0) ∧ A (18 + 6 * w + 0) = toM A v
  · rw [if_pos q, bP_t (k.mp q)]
  · rw [if_neg q, bP_f (fun z => q (k.mpr z)), i_add0]
theorem min_g (R : RO A nC nW nS) {w : Nat} (hw : w < nW) : minF (A (18 + 6 * w + 5) + 1) (A (18 + 6 * w + 3)) = A (18 + 6 * w + 5) + (if lefA A w ≤ 0 then 0 else 1) ∧ ∃ g m, g + m ≤ 10 ∧ A (18 + 6 * w + 5) + (if lefA A w ≤ 0 then 0 else 1) = nI g ∧ A (18 + 6 * w + 3) = nI (g + m) := by
  obtain ⟨g, m, z1, z2, z3⟩ := R.gl w hw
  unfold lefA minF
  rw [z2, z3, nI_sb (by omega), show g + m - g = m by omega, show (1 : Int32) = nI 1 from rfl, nI_add]
  by_cases q : m = 0
  · subst q
    rw [if_pos (show nI 0 ≤ 0 by decide), if_pos (show nI (g + 0) < nI (g + 1) from nI_lt (by omega) (by omega))]
    exact ⟨(i_add0 _).symm, g, 0, by omega, i_add0 _, rfl⟩
  · rw [if_neg (show ¬ nI m ≤ 0 from nI_ge (a := 0) (b := m) (by omega) (by omega)), if_neg (show ¬ nI (g + m) < nI (g + 1) from nI_ge2 (by omega) (by omega)), nI_add]
    exact ⟨rfl, g + 1, m - 1, by omega, rfl, by rw [show g + 1 + (m - 1) = g + m by omega]⟩
theorem ps_CR (C : CR h 0 A nC nW nS) (R : RO A nC nW nS) : CR (passH h 0 nW) 0 (hrR A nW) nC nW nS := by
  have h4 := R.w4
  refine ⟨(congrFun (funext fun k => rfl) 0).trans ((passH_f h 0 nW (by decide) (by decide)).trans C.c0), (passH_f h 0 nW (by decide) (by decide)).trans C.c4, fun k hk hl => ?_⟩
  have old := C.at_ k hk hl
  by_cases c1 : k < 16
  · rw [hrR_lo _ (by omega), ← old]
    have : (src 0 k).1 = (0, 0, 6) := by
      unfold src
      by_cases d : k < 8
      · rw [if_pos d]
      · rw [if_neg d, if_pos c1]
    rw [this, ps_j _ _ (by decide) (by decide)]
  by_cases c2 : k = 16
  · subst c2
    rw [hrR_lo _ (by omega), ← old]
    exact passH_f h 0 nW (by decide) (by decide)
  by_cases c3 : k = 17
  · subst c3
    rw [hrR_17, ← old]
    exact ps_02 h nW
  by_cases c4 : k < 42
  · obtain ⟨w, f, e, hf, hw⟩ : ∃ w f, k = 18 + 6 * w + f ∧ f < 6 ∧ w < nW := ⟨(k - 18) / 6, (k - 18) % 6, by omega, by omega, hl.1 (by omega) c4⟩
    subst e
    obtain ⟨y0, y1, y2, y3, y4, y5⟩ := CR_w C h4 hw
    rw [src_w (by omega) hf]
    rcases (show f = 0 ∨ f = 1 ∨ f = 2 ∨ f = 3 ∨ f = 4 ∨ f = 5 by omega) with rfl | rfl | rfl | rfl | rfl | rfl
    · rw [hrR_pl _ h4 hw, ← goal_to C R hw]; exact ps_w0 h hw
    · rw [hrR_o _ (by omega) (by omega) (by omega) (by omega), ← y1]; exact ps_wk h nW w (k := 1) (by decide) (by decide)
    · rw [hrR_o _ (by omega) (by omega) (by omega) (by omega), ← y2]; exact ps_wk h nW w (k := 2) (by decide) (by decide)
    · rw [hrR_o _ (by omega) (by omega) (by omega) (by omega), ← y4]; exact ps_wk h nW w (k := 4) (by decide) (by decide)
    · rw [hrR_o _ (by omega) (by omega) (by omega) (by omega), ← y3]; exact ps_wk h nW w (k := 3) (by decide) (by decide)
    · rw [hrR_gone _ h4 hw, ← (min_g R hw).1, ← y5, ← y4]; exact ps_w5 h hw
  by_cases c5 : k = 42
  · subst c5
    rw [hrR_42, ← cc_ck C R, ← old]
    exact ps_03 h nW
  rw [hrR_o _ (by omega) (by omega) (by omega) (by omega), ← old]
  by_cases c6 : k < 47
  · have : (src 0 k).1 = (0, 0, 8) := by
      unfold src
      rw [if_neg (by omega), if_neg c1, if_neg c2, if_neg c3, if_neg c4, if_neg c5, if_pos c6]
    rw [this, ps_j _ _ (by decide) (by decide)]
  by_cases c7 : k = 47
  · subst c7
    exact passH_f h 0 nW (by decide) (by decide)
  have : (src 0 k).1 = (0, 0, 9 + (k - 48) % 4) := by
    unfold src
    rw [if_neg (by omega), if_neg c1, if_neg c2, if_neg c3, if_neg c4, if_neg c5, if_neg c6, if_neg c7]
  rw [this, ps_j _ _ (by omega) (by omega)]
theorem ps_RO (R : RO A nC nW nS) {t : Nat} (ht : A 17 = nI t) (ht2 : t + 1 < 1000) : RO (hrR A nW) nC nW nS := by
  have h4 := R.w4
  refine ⟨R.c8, R.w4, R.s8, fun k hk => ?_, fun w hw => ?_⟩
  · obtain ⟨o1, o2, o3, o4, o5, o6, o7⟩ := R.ok k hk
    by_cases c1 : k < 17
    · rw [hrR_lo _ c1]; exact ⟨o1, o2, o3, o4, o5, o6, o7⟩
    by_cases c3 : k = 17
    · subst c3
      rw [hrR_17, ht, ← nI_succ]; exact okV_17 ht2
    by_cases c4 : k < 42
    · refine okV_w (by omega) c4 (fun hw => ?_)
      obtain ⟨w, f, e, hf, hw2⟩ : ∃ w f, k = 18 + 6 * w + f ∧ f < 6 ∧ w < nW := ⟨(k - 18) / 6, (k - 18) % 6, by omega, by omega, hw⟩
      subst e
      refine ⟨fun z => ?_, fun z => ?_, fun z => ?_⟩
      · have : f = 0 := by omega
        subst this
        exact hrR_wfW R.c8 h4 (RO_wfS R) (RO_wfW R) w hw2
      · rw [hrR_o _ (by omega) (by omega) (by omega) (by omega)]; exact (o4 (by omega) c4 hw).2.1 z
      · rw [hrR_o _ (by omega) (by omega) (by omega) (by omega)]; exact (o4 (by omega) c4 hw).2.2 z
    by_cases c5 : k = 42
    · subst c5; exact okV_42
    rw [hrR_o _ (by omega) (by omega) (by omega) (by omega)]; exact ⟨o1, o2, o3, o4, o5, o6, o7⟩
  · rw [hrR_gone _ h4 hw, hrR_o _ (by omega) (by omega) (by omega) (by omega)]
    exact (min_g R hw).2
theorem gp_all (C : CR h 0 A nC nW nS) (R : RO A nC nW nS) {t : Nat} (ht : A 17 = nI t) : ∀ n, t + n < 1000 → CR (gpH h nW n) 0 (hrsR A nW n) nC nW nS ∧ RO (hrsR A nW n) nC nW nS ∧ hrsR A nW n 17 = nI (t + n) ∧ gpM h nW n = hrsM A nW n ∧ (∀ i, ¬ isC 0 i → (gpH h nW n).1 i = h.1 i) ∧ ∀ w, (gpH h nW n).1 (6, 0, w) 2 = h.1 (6, 0, w) 2 := by
  intro n
  induction n with
  | zero => exact fun _ => ⟨C, R, ht, rfl, fun _ _ => rfl, fun _ => rfl⟩
  | succ n ih =>
    intro hn
    obtain ⟨i1, i2, i3, i4, i5, i6⟩ := ih (by omega)
    have e : gpH h nW (n + 1) = passH (gpH h nW n) 0 nW := rfl
    have e2 : hrsR A nW (n + 1) = hrR (hrsR A nW n) nW := rfl
    rw [e, e2]
    refine ⟨ps_CR i1 i2, ps_RO i2 i3 (by omega), ?_, ?_, fun i hi => (ps_o _ _ hi).trans (i5 i hi), fun w => (ps_wk _ _ _ (by decide) (by decide)).trans (i6 w)⟩
    · rw [hrR_17, i3, ← nI_succ]; rfl
    · show gpM h nW n + _ = hrsM A nW n + manA (hrsR A nW n) nW
      rw [i4, ← cc_ck i1 i2]
end PS
set_option maxRecDepth 20000 in
set_option maxHeartbeats 2000000 in
theorem s_fits (l9 : Launch) (G : WT) {d : Nat} (hd : 10 ≤ d) (h : HP) (hI : Inv h) (a : Int32) (x : Int32)  : SM l9 G yX6_fits cX6_fits 5 yX7_fits cX7_fits 5 d [vi a, vi x] h := by
  obtain ⟨nC, nW, nS, I⟩ := hI
  by_cases hb : (¬ a < 0 ∧ ¬ nI nW ≤ a) ∧ (x = 0 ∨ x = 1)
  · have h4 := I.ro.w4
    have h8 := I.ro.s8
    have hc8 := I.ro.c8
    obtain ⟨w, hw, rfl⟩ := nI_ofk (by omega) hb.1
    have hh : ∀ k, k < nS → ∃ n, n ≤ 10 ∧ h.1 (0, 0, 10) k = nI n := fun k hk => by
      obtain ⟨n, h1, h2⟩ := (I.ro.ok (48 + 4 * k + 1) (by omega)).2.2.2.2.2.2 (by omega) (by omega) (by omega)
      exact ⟨n, h1, (CR_e I.cr h8 hk (f := 1) (by decide)).trans h2⟩
    have s1 : ∀ k, k < nS → (h.1 (0, 0, 10) k).toNatClampNeg ≤ 10 := fun k hk => by
      obtain ⟨n, h1, h2⟩ := hh k hk
      rw [h2, nI_clamp (by omega)]; exact h1
    have s2 : ∀ k, k < nS → h.1 (0, 0, 10) k = nI (h.1 (0, 0, 10) k).toNatClampNeg := fun k hk => by
      obtain ⟨n, h1, h2⟩ := hh k hk
      rw [h2, nI_clamp (by omega)]
    have nS5 := (CR_47 I.cr).trans (RO_n I.ro)
    rcases hb.2 with rfl | rfl
    · refine SM_ro (k_fits_0 l9 G (d := d) (by omega) h I.ro.c8 I.cr.c0 I.ro.w4 I.cr.c4 h8 nS5 s1 s2 hw) (MS.mono (m_fits_ok l9 G (d := d) (by omega) h I.ro.c8 I.b3 I.ro.w4 I.b4 (RO_wfS I.ro) (RO_wfW I.ro) h8 (RO_n I.ro) hw (x := 0) (by decide)) (fun r u z => ⟨?_, nC, nW, nS, Inv_scr I z.1⟩))
      obtain ⟨v, e, hB⟩ := z.2
      rw [e, Bs_eq hB (Bs_congr (ft_Bs h w nS 0 nC hc8) (fun p => ⟨fun z => ⟨z.1, (as_fit I hw z.1 (by decide)).mp z.2⟩, fun z => ⟨z.1, (as_fit I hw z.1 (by decide)).mpr z.2⟩⟩))]
    · refine SM_ro (k_fits_1 l9 G (d := d) (by omega) h I.ro.c8 I.cr.c0 I.ro.w4 I.cr.c4 h8 nS5 s1 s2 hw) (MS.mono (m_fits_ok l9 G (d := d) (by omega) h I.ro.c8 I.b3 I.ro.w4 I.b4 (RO_wfS I.ro) (RO_wfW I.ro) h8 (RO_n I.ro) hw (x := 1) (by decide)) (fun r u z => ⟨?_, nC, nW, nS, Inv_scr I z.1⟩))
      obtain ⟨v, e, hB⟩ := z.2
      rw [e, Bs_eq hB (Bs_congr (ft_Bs h w nS 1 nC hc8) (fun p => ⟨fun z => ⟨z.1, (as_fit I hw z.1 (by decide)).mp z.2⟩, fun z => ⟨z.1, (as_fit I hw z.1 (by decide)).mpr z.2⟩⟩))]
  · exact SM_bb ⟨nC, nW, nS, I⟩ (k_fits_bad l9 G (d := d) (by omega) h I.ro.w4 I.cr.c4 _ _ hb) (m_fits_bad l9 G (d := d) (by omega) h I.ro.w4 I.b4 _ _ hb)

set_option maxRecDepth 20000 in
set_option maxHeartbeats 2000000 in
theorem s_go (l9 : Launch) (G : WT) {d : Nat} (hd : 10 ≤ d) (h : HP) (hI : Inv h) (a : Int32)  : SM l9 G yX6_go cX6_go 4 yX7_go cX7_go 4 d [vi a] h := by
  obtain ⟨nC, nW, nS, I⟩ := hI
  obtain ⟨t, ht, hhr⟩ := RO_t I.ro
  by_cases hb : ¬ a < 0 ∧ ¬ 60 < a
  · obtain ⟨n, hn, rfl⟩ := nI_ofl (n := 60) (by decide) hb
    by_cases hf : t + n ≤ 999
    · obtain ⟨g1, g2, g3, g4, g5, g6⟩ := gp_all (CA I) (RA I) ((stA h (by decide)).trans hhr) n (by omega)
      have e30 : (gpH h nW n).1 (3, 0, 0) = h.1 (3, 0, 0) := g5 _ (nC_i (by decide) (by decide))
      have e31 : (gpH h nW n).1 (3, 0, 1) = h.1 (3, 0, 1) := g5 _ (nC_i (by decide) (by decide))
      have e32 : (gpH h nW n).1 (3, 0, 2) = h.1 (3, 0, 2) := g5 _ (nC_i (by decide) (by decide))
      have est : (stH (gpH h nW n)).1 (3, 0, 2) = (stH h).1 (3, 0, 2) := by
        unfold stH
        rw [upR_same, upR_same, e31, e32]
      refine SM_up (k_go_ok l9 G (d := d) (by omega) h I.ro.w4 I.cr.c4 ((CR_17 I.cr).trans hhr) hn hf) (MS.mono (m_go_ok l9 G (d := d) (by omega) (gpH h nW n) I.ro.c8 I.ro.w4 (by rw [e30]; exact I.b4) (by rw [e31]; exact RO_wfS I.ro) (by rw [e31]; exact RO_wfW I.ro) (by rw [e31]; exact hhr) hn hf) (fun r u z => ⟨by rw [z.1, est, g4], nC, nW, nS, ?_⟩))
      obtain ⟨u2, s1, rfl⟩ := z.2
      rw [est, e31]
      have eS : ∀ k, k < 80 → (upR u2 (3, 0, 1) (cpR (h.1 (3, 0, 1)) (hrsR ((stH h).1 (3, 0, 2)) nW n) 80)).1 (3, 0, 1) k = hrsR ((stH h).1 (3, 0, 2)) nW n k := fun k hk => by
        rw [upR_same]; exact if_pos hk
      refine Inv_row I (fun i z => ?_) (fun k hk => by rw [upR_same]; exact if_neg (by omega)) (RO_fr g2 eS) (CR_fr g1 (fun i z => ?_) eS) (fun w hw => ?_)
      · rw [upR_ne _ _ z.2.2.2.2, s1.1 i z.1, g5 i z.2.2.2.1]
      · rw [upR_ne _ _ (im_ne z 0 1).2, s1.1 i (fun y => by have := y.1; have := z.1; omega)]
      · rw [upR_ne _ _ (fun e => absurd (show (6 : Nat) = 3 from congrArg Prod.fst e) (by decide)), s1.1 _ (fun y => absurd (show (6 : Nat) = 3 from y.1) (by decide)), g6]
        exact I.kb 0 w (by decide) (by decide) hw
    · exact SM_bb ⟨nC, nW, nS, I⟩ (k_go_full l9 G (d := d) (by omega) h ((CR_17 I.cr).trans hhr) hn ht hf) (m_go_full l9 G (d := d) (by omega) h hhr hn ht hf)
  · exact SM_bb ⟨nC, nW, nS, I⟩ (k_go_bad l9 G (d := d) (by omega) h _ hb) (m_go_bad l9 G (d := d) (by omega) h _ hb)
