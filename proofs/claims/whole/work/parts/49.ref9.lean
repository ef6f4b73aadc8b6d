/-! THE REFERENCE: hours that pass -/
/-- but for scratch the heaps are the same -/
abbrev scI (i : PId) : Prop := i.1 = 3 ∧ i.2.1 = 0 ∧ (i.2.2 = 2 ∨ (20 ≤ i.2.2 ∧ i.2.2 ≤ 24) ∨ i.2.2 = 29)
def scr (h u : HP) : Prop := (∀ i : PId, ¬ scI i → u.1 i = h.1 i) ∧ ∀ i : PId, ¬ scI i → u.2 i = h.2 i
theorem sc_ne {i j : PId} (h : ¬ scI i) (hj : scI j) : i ≠ j := fun e => h (e ▸ hj)
theorem scr_r (h : HP) : scr h h := ⟨fun _ _ => rfl, fun _ _ => rfl⟩
theorem scr_st (h : HP) : scr h (stH h) := ⟨fun _ h1 => stH_o h (sc_ne h1 (by decide)), fun _ _ => rfl⟩
theorem scr_set {h u : HP} (e : scr h u) (n : Nat) : scr h (setM u n) := by
  refine ⟨fun i h1 => ?_, e.2⟩
  rw [setM_o _ _ (sc_ne h1 (by decide)) (sc_ne h1 (by decide))]
  exact e.1 i h1
theorem scr_hg {h u : HP} (e : scr h u) (n : Nat) : scr h (hgH u n) := by
  refine ⟨fun i h1 => ?_, e.2⟩
  unfold hgH
  rw [upR_ne _ _ (sc_ne h1 (by decide)), setM_o _ _ (sc_ne h1 (by decide)) (sc_ne h1 (by decide))]
  exact e.1 i h1
theorem scr_upI {h u : HP} (e : scr h u) {j : PId} (hj : scI j) (k : Nat) (x : Int32) : scr h (upI u j k x) := ⟨fun i h1 => (upI_ne u k x (sc_ne h1 hj)).trans (e.1 i h1), e.2⟩
theorem scr_upR {h u : HP} (e : scr h u) {j : PId} (hj : scI j) (f : Nat → Int32) : scr h (upR u j f) := ⟨fun i h1 => (upR_ne u f (sc_ne h1 hj)).trans (e.1 i h1), e.2⟩
theorem scr_0 {h u : HP} (e : scr h u) : u.1 (3, 0, 0) = h.1 (3, 0, 0) := e.1 _ (by decide)
theorem scr_1 {h u : HP} (e : scr h u) : u.1 (3, 0, 1) = h.1 (3, 0, 1) := e.1 _ (by decide)
/-- streets lead to corners, walkers stand at corners -/
def wfS (A : Nat → Int32) (nC : Nat) : Prop := ∀ c s, c < nC → s < 2 → A (8 * s + c) = -4 ∨ ∃ p, p < nC ∧ A (8 * s + c) = nI p
def wfW (A : Nat → Int32) (nC nW : Nat) : Prop := ∀ w, w < nW → ∃ p, p < nC ∧ A (18 + 6 * w + 0) = nI p
theorem hrR_lo (A : Nat → Int32) {nW k : Nat} (hk : k < 17) : hrR A nW k = A k := by
  unfold hrR arrR
  rw [show upd (gonR (upd (plR A (toM A) nW) 17 (A 17 + 1)) nW) 42 (A 42 + manA A nW) k = gonR (upd (plR A (toM A) nW) 17 (A 17 + 1)) nW k from if_neg (by omega), gonR_o _ _ _ (by omega)]
  rw [show upd (plR A (toM A) nW) 17 (A 17 + 1) k = plR A (toM A) nW k from if_neg (by omega)]
  exact if_neg (by omega)
theorem hrR_17 (A : Nat → Int32) (nW : Nat) : hrR A nW 17 = A 17 + 1 := by
  unfold hrR arrR
  rw [show upd (gonR (upd (plR A (toM A) nW) 17 (A 17 + 1)) nW) 42 (A 42 + manA A nW) 17 = gonR (upd (plR A (toM A) nW) 17 (A 17 + 1)) nW 17 from if_neg (by omega), gonR_o _ _ _ (by omega)]
  exact if_pos rfl
theorem hrR_42 (A : Nat → Int32) (nW : Nat) : hrR A nW 42 = A 42 + manA A nW := by
  unfold hrR
  exact if_pos rfl
theorem hrR_pl (A : Nat → Int32) {nW w : Nat} (h4 : nW ≤ 4) (hw : w < nW) : hrR A nW (18 + 6 * w + 0) = toM A w := by
  unfold hrR arrR
  rw [show upd (gonR (upd (plR A (toM A) nW) 17 (A 17 + 1)) nW) 42 (A 42 + manA A nW) (18 + 6 * w + 0) = gonR (upd (plR A (toM A) nW) 17 (A 17 + 1)) nW (18 + 6 * w + 0) from if_neg (by omega), gonR_o _ _ _ (by omega)]
  rw [show upd (plR A (toM A) nW) 17 (A 17 + 1) (18 + 6 * w + 0) = plR A (toM A) nW (18 + 6 * w + 0) from if_neg (by omega)]
  unfold plR
  rw [if_pos (by omega), show (18 + 6 * w + 0 - 18) / 6 = w by omega]
theorem hrR_gone (A : Nat → Int32) {nW w : Nat} (h4 : nW ≤ 4) (hw : w < nW) : hrR A nW (18 + 6 * w + 5) = A (18 + 6 * w + 5) + (if lefA A w ≤ 0 then 0 else 1) := by
  have e : ∀ k, k < 42 → ¬ k = 17 → ¬ (18 ≤ k ∧ k < 18 + 6 * nW ∧ (k - 18) % 6 = 0) → upd (plR A (toM A) nW) 17 (A 17 + 1) k = A k := fun k h1 h2 h3 => by
    rw [show upd (plR A (toM A) nW) 17 (A 17 + 1) k = plR A (toM A) nW k from if_neg h2]
    exact if_neg h3
  unfold hrR arrR
  rw [show upd (gonR (upd (plR A (toM A) nW) 17 (A 17 + 1)) nW) 42 (A 42 + manA A nW) (18 + 6 * w + 5) = gonR (upd (plR A (toM A) nW) 17 (A 17 + 1)) nW (18 + 6 * w + 5) from if_neg (by omega)]
  unfold gonR
  rw [if_pos (show 18 ≤ 18 + 6 * w + 5 ∧ 18 + 6 * w + 5 < 18 + 6 * nW ∧ (18 + 6 * w + 5 - 18) % 6 = 5 by omega), show (18 + 6 * w + 5 - 18) / 6 = w by omega]
  unfold lefA
  rw [e (18 + 6 * w + 5) (by omega) (by omega) (by omega), e (18 + 6 * w + 3) (by omega) (by omega) (by omega)]
theorem hrR_o (A : Nat → Int32) {nW k : Nat} (h1 : 17 < k) (h0 : ¬ k = 42) (h2 : ¬ (k < 18 + 6 * nW ∧ (k - 18) % 6 = 0)) (h3 : ¬ (k < 18 + 6 * nW ∧ (k - 18) % 6 = 5)) : hrR A nW k = A k := by
  unfold hrR arrR
  rw [show upd (gonR (upd (plR A (toM A) nW) 17 (A 17 + 1)) nW) 42 (A 42 + manA A nW) k = gonR (upd (plR A (toM A) nW) 17 (A 17 + 1)) nW k from if_neg h0, gonR_o _ _ _ (by omega)]
  rw [show upd (plR A (toM A) nW) 17 (A 17 + 1) k = plR A (toM A) nW k from if_neg (by omega)]
  exact if_neg (by omega)
theorem nI_n4 {p : Nat} (hp : p < 2 ^ 31) : ¬ nI p = -4 := fun e => nI_pos hp (e ▸ by decide)
theorem ldM_wf {A : Nat → Int32} {nC c s : Nat} (hS : wfS A nC) (hc : c < nC) (hs : s < 2) (hour kp sg : Int32) : ldM A c s hour kp sg = -4 ∨ ∃ p, p < nC ∧ ldM A c s hour kp sg = nI p := by
  unfold ldM
  split
  · exact hS c (1 - s) hc (by omega)
  · exact hS c s hc hs
theorem goM_wf {A : Nat → Int32} {nC c s : Nat} (h8 : nC ≤ 8) (hS : wfS A nC) (hc : c < nC) (hs : s < 2) (hour kp : Int32) : ∃ p, p < nC ∧ goM A c s hour kp = nI p := by
  unfold goM
  rcases ldM_wf hS hc hs hour kp (A 16) with e | ⟨p, hp, e⟩
  · exact ⟨c, hc, if_pos e⟩
  · refine ⟨p, hp, ?_⟩
    by_cases e2 : ldM A c s hour kp (A 16) = -4
    · exact absurd (e.symm.trans e2) (nI_n4 (by omega))
    · rw [if_neg e2, e]
theorem sidA_nat (A : Nat → Int32) (w : Nat) : (sidA A w).toNatClampNeg < 2 := by
  obtain ⟨s, hs, e⟩ := and1_nat (A (18 + 6 * w + 4) >>> (A (18 + 6 * w + 5) &&& 31))
  unfold sidA
  rw [e, nI_clamp (by omega)]
  exact hs
theorem toM_wf {A : Nat → Int32} {nC nW w : Nat} (h8 : nC ≤ 8) (hS : wfS A nC) (hW : wfW A nC nW) (hw : w < nW) : ∃ p, p < nC ∧ toM A w = nI p := by
  unfold toM
  split
  · exact hW w hw
  · obtain ⟨p, hp, e⟩ := hW w hw
    rw [e, nI_clamp (by omega)]
    exact goM_wf h8 hS hp (sidA_nat A w) _ _
theorem hrR_wfS {A : Nat → Int32} {nC nW : Nat} (h8 : nC ≤ 8) (hS : wfS A nC) : wfS (hrR A nW) nC := by
  intro c s hc hs
  rw [hrR_lo A (show 8 * s + c < 17 by omega)]
  exact hS c s hc hs
theorem hrR_wfW {A : Nat → Int32} {nC nW : Nat} (h8 : nC ≤ 8) (h4 : nW ≤ 4) (hS : wfS A nC) (hW : wfW A nC nW) : wfW (hrR A nW) nC nW := by
  intro w hw
  rw [hrR_pl A h4 hw]
  exact toM_wf h8 hS hW hw
noncomputable def hrsR (A : Nat → Int32) (nW n : Nat) : Nat → Int32 := itN (fun _ B => hrR B nW) n A
noncomputable def hrsM (A : Nat → Int32) (nW n : Nat) : Int32 := itN (fun k a => a + manA (hrsR A nW k) nW) n 0
theorem hrsR_s (A : Nat → Int32) (nW n : Nat) : hrsR A nW (n + 1) = hrR (hrsR A nW n) nW := rfl
theorem hrsM_s (A : Nat → Int32) (nW n : Nat) : hrsM A nW (n + 1) = hrsM A nW n + manA (hrsR A nW n) nW := rfl
theorem hrsR_wf {A : Nat → Int32} {nC nW : Nat} (h8 : nC ≤ 8) (h4 : nW ≤ 4) (hS : wfS A nC) (hW : wfW A nC nW) : ∀ n, wfS (hrsR A nW n) nC ∧ wfW (hrsR A nW n) nC nW
  | 0 => ⟨hS, hW⟩
  | n + 1 => ⟨hrR_wfS h8 (hrsR_wf h8 h4 hS hW n).1, hrR_wfW h8 h4 (hrsR_wf h8 h4 hS hW n).1 (hrsR_wf h8 h4 hS hW n).2⟩
theorem wf_pl {A : Nat → Int32} {nC nW : Nat} (h8 : nC ≤ 8) (hW : wfW A nC nW) : ∀ w, w < nW → ∃ p, p < 8 ∧ A (18 + 6 * w + 0) = nI p := fun w hw => let ⟨p, hp, e⟩ := hW w hw; ⟨p, by omega, e⟩
theorem stH_wf {h : HP} {nC nW : Nat} (h8 : nC ≤ 8) (h4 : nW ≤ 4) (hS : wfS (h.1 (3, 0, 1)) nC) (hW : wfW (h.1 (3, 0, 1)) nC nW) : wfS ((stH h).1 (3, 0, 2)) nC ∧ wfW ((stH h).1 (3, 0, 2)) nC nW := by
  refine ⟨fun c s hc hs => ?_, fun w hw => ?_⟩
  · rw [stH_at h (by omega)]
    exact hS c s hc hs
  · rw [stH_at h (by omega)]
    exact hW w hw
set_option maxRecDepth 20000 in
set_option maxHeartbeats 2000000 in
theorem m_go_ok (l9 : Launch) (G : WT) {d : Nat} (hd : 6 ≤ d) (h : HP) {nC nW : Nat} (hn8 : nC ≤ 8) (hn4 : nW ≤ 4) (hnw : h.1 (3, 0, 0) 4 = nI nW) (hS : wfS (h.1 (3, 0, 1)) nC) (hW : wfW (h.1 (3, 0, 1)) nC nW) {t n1 : Nat} (hhr : h.1 (3, 0, 1) 17 = nI t) (hn : n1 ≤ 60) (ht : t + n1 ≤ 999) : MS l9 G yX7_go cX7_go 4 (some .int) d [vr (3, 0, 0), vi (nI n1)] h (fun r h1 => r = some (vi (hrsM ((stH h).1 (3, 0, 2)) nW n1)) ∧ ∃ u, scr h u ∧ h1 = upR u (3, 0, 1) (cpR (h.1 (3, 0, 1)) (hrsR ((stH h).1 (3, 0, 2)) nW n1) 80)) := by
  refine MS_of (by decide +kernel) (Nat.le_of_ble_eq_true rfl) (fun X hC hX => ?_)
  show V X G 4 0 _ [] _
  have hwf := hrsR_wf hn8 hn4 (stH_wf hn8 hn4 hS hW).1 (stH_wf hn8 hn4 hS hW).2
  have loop2 : ∀ (n i : Nat) (u : HP), i ≤ 80 → 80 + 1 ≤ i + n → (scr h u ∧ u.1 (3, 0, 2) = hrsR ((stH h).1 (3, 0, 2)) nW n1) → V X G 4 60 [(3, vi (nI i)), (2, vi (hrsM ((stH h).1 (3, 0, 2)) nW n1)), (0, vr (3, 0, 0)), (1, vi (nI n1))] [] (upR u (3, 0, 1) (cpR (h.1 (3, 0, 1)) (hrsR ((stH h).1 (3, 0, 2)) nW n1) i)) := by
    intro n
    induction n with
    | zero => intro i u h1 h2; exact absurd h2 (by omega)
    | succ n ih =>
      intro i u h1 h2 ha
      refine v_iload_n hC (pc := 60) (k := 3) 0 rfl dX7_go_60 ?_
      refine v_bipush hC (pc := 61) (v := 80) (by decide +kernel) dX7_go_61 ?_
      refine v_icmp_ge hC (pc := 63) (tgt := 84) dX7_go_63 (by decide) (fun c_63 => ?_) (fun c_63 => ?_)
      · skip
        have hi : i = 80 := lp_ex (N := 80) (c_63) h1 (by omega)
        refine v_iload_n hC (pc := 84) (k := 2) 1 rfl dX7_go_84 ?_
        refine v_iret hC hX (pc := 85) dX7_go_85 ?_
        exact ⟨rfl, u, ha.1, by rw [hi]⟩
      · skip
        have hi : i < 80 := lp_in (N := 80) (c_63) h1 (by omega)
        refine v_aload_n hC (pc := 66) (k := 0) 2 rfl dX7_go_66 ?_
        refine v_getR hC (pc := 67) dX7_go_67 fl_X7_7 rfl (by first | rfl | exact ok_c hq rfl | exact ok_w hq hw | exact ok_w (by omega) (by omega) | exact ok_s (by omega) (by omega) | exact ok_c (by omega) rfl | assumption) rfl (by decide) (by decide) rfl ?_
        refine v_iload_n hC (pc := 70) (k := 3) 0 rfl dX7_go_70 ?_
        refine v_aload_n hC (pc := 71) (k := 0) 2 rfl dX7_go_71 ?_
        refine v_getR hC (pc := 72) dX7_go_72 fl_X7_13 rfl (by first | rfl | exact ok_c hq rfl | exact ok_w hq hw | exact ok_w (by omega) (by omega) | exact ok_s (by omega) (by omega) | exact ok_c (by omega) rfl | assumption) rfl (by decide) (by decide) rfl ?_
        refine v_iload_n hC (pc := 75) (k := 3) 0 rfl dX7_go_75 ?_
        refine v_iald hC (pc := 76) dX7_go_76 rfl (by first | rfl | exact ok_c hq rfl | exact ok_w hq hw | exact ok_w (by omega) (by omega) | exact ok_s (by omega) (by omega) | exact ok_c (by omega) rfl | assumption) (vp_nat (by omega) (by decide)) ?_
        refine v_iast hC (pc := 77) dX7_go_77 rfl (by first | rfl | exact ok_c hq rfl | exact ok_w hq hw | exact ok_w (by omega) (by omega) | exact ok_s (by omega) (by omega) | exact ok_c (by omega) rfl | assumption) (vp_nat (by omega) (by decide)) ?_
        refine v_heap (show _ = upR u (3, 0, 1) (cpR (h.1 (3, 0, 1)) (hrsR ((stH h).1 (3, 0, 2)) nW n1) (i + 1)) from ?_) ?_
        · rw [nI_clamp (show i < 2 ^ 31 by omega), upI_upR]
          show upR u (3, 0, 1) (upd _ i (u.1 (3, 0, 2) i)) = _
          rw [ha.2, cpR_s]
        refine v_iinc hC (pc := 78) (l' := [(3, _), (2, _), (0, _), (1, _)]) 0 (v := nI (i + 1)) dX7_go_78 rfl (nI_inc i) (by decide) rfl ?_
        refine v_goto hC (pc := 81) (tgt := 60) dX7_go_81 (by decide) ?_
        exact ih (i + 1) _ (by omega) (by omega) ha
  have loop : ∀ (n k : Nat) (u : HP), k ≤ n1 → n1 + 1 ≤ k + n → (scr h u ∧ u.1 (3, 0, 2) = hrsR ((stH h).1 (3, 0, 2)) nW k) → V X G 4 40 [(3, vi (nI k)), (2, vi (hrsM ((stH h).1 (3, 0, 2)) nW k)), (0, vr (3, 0, 0)), (1, vi (nI n1))] [] (u) := by
    intro n
    induction n with
    | zero => intro k u h1 h2; exact absurd h2 (by omega)
    | succ n ih =>
      intro k u h1 h2 ha
      refine v_iload_n hC (pc := 40) (k := 3) 0 rfl dX7_go_40 ?_
      refine v_iload_n hC (pc := 41) (k := 1) 3 rfl dX7_go_41 ?_
      refine v_icmp_ge hC (pc := 42) (tgt := 58) dX7_go_42 (by decide) (fun c_42 => ?_) (fun c_42 => ?_)
      · skip
        have hi : k = n1 := lp_ex (c_42) h1 (by omega)
        refine v_iconst hC (pc := 58) (v := 0) (by decide) dX7_go_58 ?_
        refine v_istore_n hC (pc := 59) (l' := [(3, _), (2, _), (0, _), (1, _)]) dX7_go_59 (by decide) rfl ?_
        subst hi
        refine v_heap (show _ = upR u (3, 0, 1) (cpR (h.1 (3, 0, 1)) (hrsR ((stH h).1 (3, 0, 2)) nW k) 0) from ?_) ?_
        · rw [cpR_0, ← scr_1 ha.1, upR_id]
        · exact loop2 81 0 u (by omega) (by omega) ha
      · skip
        have hi : k < n1 := lp_in (c_42) h1 (by omega)
        refine v_iload_n hC (pc := 45) (k := 2) 1 rfl dX7_go_45 ?_
        refine v_aload_n hC (pc := 46) (k := 0) 2 rfl dX7_go_46 ?_
        refine v_callV hC (pc := 47) (As := []) dX7_go_47 rfl (m_hourGoes _ _ (d := d - 1) (by omega) _ hn4 (by rw [scr_0 ha.1]; exact hnw) (by rw [ha.2]; exact wf_pl hn8 (hwf k).2)) cv_X7_237 rfl (by decide) rfl (by first | rfl | exact ok_c hq rfl | exact ok_w hq hw | exact ok_w (by omega) (by omega) | exact ok_s (by omega) (by omega) | exact ok_c (by omega) rfl | assumption) (Nat.le_of_ble_eq_true rfl) (by omega) (fun r h' hr => ?_)
        obtain ⟨rfl, rfl⟩ := hr
        show V _ _ _ (47 + 3) _ (_ :: _) _
        rw [ha.2]
        refine v_iadd hC (pc := 50) dX7_go_50 ?_
        refine v_istore_n hC (pc := 51) (l' := [(2, _), (3, _), (0, _), (1, _)]) dX7_go_51 (by decide) rfl ?_
        refine v_iinc hC (pc := 52) (l' := [(3, _), (2, _), (0, _), (1, _)]) 1 (v := nI (k + 1)) dX7_go_52 rfl (nI_inc k) (by decide) rfl ?_
        refine v_goto hC (pc := 55) (tgt := 40) dX7_go_55 (by decide) ?_
        exact ih (k + 1) _ (by omega) (by omega) ⟨scr_hg ha.1 nW, by unfold hgH; rw [upR_same, ha.2]; rfl⟩
  refine v_iload_n hC (pc := 0) (k := 1) 1 rfl dX7_go_0 ?_
  refine v_i2l hC (pc := 1) dX7_go_1 ?_
  refine v_lconst hC (pc := 2) (v := 0) (by decide) dX7_go_2 ?_
  refine v_ldc2 hC (pc := 3) k_X7_235 dX7_go_3 ?_
  refine v_callS hC (pc := 6) (As := [_, _, _]) dX7_go_6 rfl (m_in_t _ _ (d := d - 1) (by omega) _ (nI n1) 0 60 ⟨nI_pos (by omega), nI_nlt hn (by decide)⟩) cs_X7_84 (Nat.le_of_ble_eq_true rfl) (by omega) (fun r h' hr => ?_)
  obtain ⟨he9, rfl⟩ := hr
  rw [he9]
  clear he9 h'
  show V _ _ _ (6 + 3) _ (_ :: _) _
  refine v_if_ne hC (pc := 9) (tgt := 14) dX7_go_9 (by decide) (fun c_9 => ?_) (fun c_9 => ?_)
  · skip
    refine v_aload_n hC (pc := 14) (k := 0) 0 rfl dX7_go_14 ?_
    refine v_getR hC (pc := 15) dX7_go_15 fl_X7_7 rfl (by first | rfl | exact ok_c hq rfl | exact ok_w hq hw | exact ok_w (by omega) (by omega) | exact ok_s (by omega) (by omega) | exact ok_c (by omega) rfl | assumption) rfl (by decide) (by decide) rfl ?_
    refine v_bipush hC (pc := 18) (v := 17) (by decide +kernel) dX7_go_18 ?_
    refine v_iald hC (pc := 20) dX7_go_20 rfl (by first | rfl | exact ok_c hq rfl | exact ok_w hq hw | exact ok_w (by omega) (by omega) | exact ok_s (by omega) (by omega) | exact ok_c (by omega) rfl | assumption) (vp_nat (n := 17) (by omega) (by decide)) ?_
    show V X G 4 21 _ (vi (h.1 (3, 0, 1) 17) :: _) _
    rw [hhr]
    refine v_iload_n hC (pc := 21) (k := 1) 1 rfl dX7_go_21 ?_
    refine v_iadd hC (pc := 22) dX7_go_22 ?_
    rw [nI_add]
    refine v_sipush hC (pc := 23) (v := 999) (by decide +kernel) dX7_go_23 ?_
    refine v_icmp_le hC (pc := 26) (tgt := 32) dX7_go_26 (by decide) (fun c_26 => ?_) (fun c_26 => ?_)
    · skip
      refine v_iconst hC (pc := 32) (v := 0) (by decide) dX7_go_32 ?_
      refine v_istore_n hC (pc := 33) (l' := [(2, _), (0, _), (1, _)]) dX7_go_33 (by decide) rfl ?_
      refine v_aload_n hC (pc := 34) (k := 0) 1 rfl dX7_go_34 ?_
      refine v_callV hC (pc := 35) (As := []) dX7_go_35 rfl (m_starts _ _ (d := d - 1) (by omega) _) cv_X7_219 rfl (by decide) rfl (by first | rfl | exact ok_c hq rfl | exact ok_w hq hw | exact ok_w (by omega) (by omega) | exact ok_s (by omega) (by omega) | exact ok_c (by omega) rfl | assumption) (Nat.le_of_ble_eq_true rfl) (by omega) (fun r h' hr => ?_)
      obtain ⟨rfl, rfl⟩ := hr
      refine v_heap (show _ = stH h from rfl) ?_
      show V _ _ _ (35 + 3) _ _ _
      refine v_iconst hC (pc := 38) (v := 0) (by decide) dX7_go_38 ?_
      refine v_istore_n hC (pc := 39) (l' := [(3, _), (2, _), (0, _), (1, _)]) dX7_go_39 (by decide) rfl ?_
      exact loop (n1 + 1) 0 _ (by omega) (by omega) ⟨scr_st h, rfl⟩
    · exact absurd (nI_nlt ht (by decide)) (fun z => c_26 (Int32.not_lt.mp z))
  · exact absurd c_9 (by decide)

set_option maxRecDepth 20000 in
set_option maxHeartbeats 2000000 in
theorem m_go_full (l9 : Launch) (G : WT) {d : Nat} (hd : 3 ≤ d) (h : HP) {t n1 : Nat} (hhr : h.1 (3, 0, 1) 17 = nI t) (hn : n1 ≤ 60) (ht1 : t < 1000) (ht : ¬ t + n1 ≤ 999) : MS l9 G yX7_go cX7_go 4 (some .int) d [vr (3, 0, 0), vi (nI n1)] h (fun r h1 => h1 = h ∧ r = some (vi (-3))) := by
  refine MS_of (by decide +kernel) (Nat.le_of_ble_eq_true rfl) (fun X hC hX => ?_)
  show V X G 4 0 _ [] _
  refine v_iload_n hC (pc := 0) (k := 1) 1 rfl dX7_go_0 ?_
  refine v_i2l hC (pc := 1) dX7_go_1 ?_
  refine v_lconst hC (pc := 2) (v := 0) (by decide) dX7_go_2 ?_
  refine v_ldc2 hC (pc := 3) k_X7_235 dX7_go_3 ?_
  refine v_callS hC (pc := 6) (As := [_, _, _]) dX7_go_6 rfl (m_in_t _ _ (d := d - 1) (by omega) _ (nI n1) 0 60 ⟨nI_pos (by omega), nI_nlt hn (by decide)⟩) cs_X7_84 (Nat.le_of_ble_eq_true rfl) (by omega) (fun r h' hr => ?_)
  obtain ⟨he9, rfl⟩ := hr
  rw [he9]
  clear he9 h'
  show V _ _ _ (6 + 3) _ (_ :: _) _
  refine v_if_ne hC (pc := 9) (tgt := 14) dX7_go_9 (by decide) (fun c_9 => ?_) (fun c_9 => ?_)
  · skip
    refine v_aload_n hC (pc := 14) (k := 0) 0 rfl dX7_go_14 ?_
    refine v_getR hC (pc := 15) dX7_go_15 fl_X7_7 rfl (by first | rfl | exact ok_c hq rfl | exact ok_w hq hw | exact ok_w (by omega) (by omega) | exact ok_s (by omega) (by omega) | exact ok_c (by omega) rfl | assumption) rfl (by decide) (by decide) rfl ?_
    refine v_bipush hC (pc := 18) (v := 17) (by decide +kernel) dX7_go_18 ?_
    try simp only [nL_0, nL_1, nL_2, nL_3, nL_4, nL_5, nL_6, nL_8, nL_16, nL_17, nL_18, nL_40, nL_42, nL_43, nL_47, nL_48, nL_64, nL_80, pk_mul, nI_add]
    refine v_iald hC (pc := 20) dX7_go_20 rfl (by first | rfl | exact ok_c hq rfl | exact ok_w hq hw | exact ok_w (by omega) (by omega) | exact ok_s (by omega) (by omega) | exact ok_c (by omega) rfl | assumption) (vp_nat (n := 17) (by omega) (by decide)) ?_
    show V X G 4 21 _ (vi (h.1 (3, 0, 1) 17) :: _) _
    rw [hhr]
    refine v_iload_n hC (pc := 21) (k := 1) 1 rfl dX7_go_21 ?_
    refine v_iadd hC (pc := 22) dX7_go_22 ?_
    rw [nI_add]
    refine v_sipush hC (pc := 23) (v := 999) (by decide +kernel) dX7_go_23 ?_
    refine v_icmp_le hC (pc := 26) (tgt := 32) dX7_go_26 (by decide) (fun c_26 => ?_) (fun c_26 => ?_)
    · exact absurd (lp_ngt (N := 999) (Int32.not_lt.mpr c_26) (by decide) (by omega)) ht
    · skip
      refine v_bipush hC (pc := 29) (v := (-3)) (by decide +kernel) dX7_go_29 ?_
      refine v_iret hC hX (pc := 31) dX7_go_31 ?_
      exact ⟨rfl, rfl⟩
  · exact absurd c_9 (by decide)

set_option maxRecDepth 20000 in
set_option maxHeartbeats 2000000 in
theorem m_go_bad (l9 : Launch) (G : WT) {d : Nat} (hd : 3 ≤ d) (h : HP) (x : Int32) (hbad : ¬ (¬ x < 0 ∧ ¬ 60 < x)) : MS l9 G yX7_go cX7_go 4 (some .int) d [vr (3, 0, 0), vi x] h (fun r h1 => h1 = h ∧ r = some (vi (-1))) := by
  refine MS_of (by decide +kernel) (Nat.le_of_ble_eq_true rfl) (fun X hC hX => ?_)
  show V X G 4 0 _ [] _
  refine v_iload_n hC (pc := 0) (k := 1) 1 rfl dX7_go_0 ?_
  refine v_i2l hC (pc := 1) dX7_go_1 ?_
  refine v_lconst hC (pc := 2) (v := 0) (by decide) dX7_go_2 ?_
  refine v_ldc2 hC (pc := 3) k_X7_235 dX7_go_3 ?_
  refine v_callS hC (pc := 6) (As := [_, _, _]) dX7_go_6 rfl (m_in _ _ (d := d - 1) (by omega) _ x 0 60) cs_X7_84 (Nat.le_of_ble_eq_true rfl) (by omega) (fun r h' hr => ?_)
  obtain ⟨he9, rfl⟩ := hr
  rw [he9]
  clear he9 h'
  show V _ _ _ (6 + 3) _ (_ :: _) _
  refine v_ifb_ne hC (pc := 9) (tgt := 14) dX7_go_9 (by decide) (fun c_9 => ?_) (fun c_9 => ?_)
  · skip
    exact absurd c_9 hbad
  · skip
    refine v_iconst hC (pc := 12) (v := (-1)) (by decide) dX7_go_12 ?_
    refine v_iret hC hX (pc := 13) dX7_go_13 ?_
    exact ⟨rfl, rfl⟩

set_option maxRecDepth 20000 in
set_option maxHeartbeats 2000000 in
theorem m_ahead_ok (l9 : Launch) (G : WT) {d : Nat} (hd : 6 ≤ d) (h : HP) {nC nW : Nat} (hn8 : nC ≤ 8) (hn4 : nW ≤ 4) (hnw : h.1 (3, 0, 0) 4 = nI nW) (hS : wfS (h.1 (3, 0, 1)) nC) (hW : wfW (h.1 (3, 0, 1)) nC nW) {w n1 x : Nat} (hw : w < nW) (hn : n1 ≤ 60) (hx : x < 2) : MS l9 G yX7_ahead cX7_ahead 5 (some .int) d [vr (3, 0, 0), vi (nI w), vi (nI n1), vi (nI x)] h (fun r h1 => r = some (vi (if x = 0 then hrsR ((stH h).1 (3, 0, 2)) nW n1 (18 + 6 * w + 0) else lefA (hrsR ((stH h).1 (3, 0, 2)) nW n1) w)) ∧ scr h h1) := by
  refine MS_of (by decide +kernel) (Nat.le_of_ble_eq_true rfl) (fun X hC hX => ?_)
  show V X G 5 0 _ [] _
  have hwf := hrsR_wf hn8 hn4 (stH_wf hn8 hn4 hS hW).1 (stH_wf hn8 hn4 hS hW).2
  have loop : ∀ (n k : Nat) (u : HP), k ≤ n1 → n1 + 1 ≤ k + n → (scr h u ∧ u.1 (3, 0, 2) = hrsR ((stH h).1 (3, 0, 2)) nW k) → V X G 5 36 [(4, vi (nI k)), (0, vr (3, 0, 0)), (1, vi (nI w)), (2, vi (nI n1)), (3, vi (nI x))] [] (u) := by
    intro n
    induction n with
    | zero => intro k u h1 h2; exact absurd h2 (by omega)
    | succ n ih =>
      intro k u h1 h2 ha
      refine v_iload hC (pc := 36) 0 rfl dX7_ahead_36 ?_
      refine v_iload_n hC (pc := 38) (k := 2) 3 rfl dX7_ahead_38 ?_
      refine v_icmp_ge hC (pc := 39) (tgt := 53) dX7_ahead_39 (by decide) (fun c_39 => ?_) (fun c_39 => ?_)
      · skip
        have hi : k = n1 := lp_ex (c_39) h1 (by omega)
        refine v_iload_n hC (pc := 53) (k := 3) 4 rfl dX7_ahead_53 ?_
        refine v_if_ne hC (pc := 54) (tgt := 66) dX7_ahead_54 (by decide) (fun c_54 => ?_) (fun c_54 => ?_)
        · skip
          refine v_aload_n hC (pc := 66) (k := 0) 1 rfl dX7_ahead_66 ?_
          refine v_iload_n hC (pc := 67) (k := 1) 2 rfl dX7_ahead_67 ?_
          refine v_callV hC (pc := 68) (As := [_]) dX7_ahead_68 rfl (m_leftOf _ _ (d := d - 1) (by omega) _ (w := w) (by omega)) cv_X7_197 rfl (by decide) rfl (by first | rfl | exact ok_c hq rfl | exact ok_w hq hw | exact ok_w (by omega) (by omega) | exact ok_s (by omega) (by omega) | exact ok_c (by omega) rfl | assumption) (Nat.le_of_ble_eq_true rfl) (by omega) (fun r h' hr => ?_)
          obtain ⟨he9, rfl⟩ := hr
          rw [he9]
          clear he9 h'
          show V _ _ _ (68 + 3) _ (_ :: _) _
          refine v_iret hC hX (pc := 71) dX7_ahead_71 ?_
          subst hi
          refine ⟨?_, ha.1⟩
          first | (rw [if_pos (show x = 0 by rcases (show x = 0 ∨ x = 1 by omega) with rfl | rfl <;> first | rfl | exact absurd c_54 (by decide)), ha.2]; done) | (rw [if_neg (show ¬ x = 0 by rintro rfl; exact absurd rfl c_54), ha.2]; rfl)
        · skip
          refine v_aload_n hC (pc := 57) (k := 0) 1 rfl dX7_ahead_57 ?_
          refine v_iload_n hC (pc := 58) (k := 1) 2 rfl dX7_ahead_58 ?_
          refine v_iconst hC (pc := 59) (v := 0) (by decide) dX7_ahead_59 ?_
          refine v_callV hC (pc := 60) (As := [_, _]) dX7_ahead_60 rfl (m_of _ _ (d := d - 1) (by omega) _ (w := w) (by omega) (k := 0) (by decide)) cv_X7_187 rfl (by decide) rfl (by first | rfl | exact ok_c hq rfl | exact ok_w hq hw | exact ok_w (by omega) (by omega) | exact ok_s (by omega) (by omega) | exact ok_c (by omega) rfl | assumption) (Nat.le_of_ble_eq_true rfl) (by omega) (fun r h' hr => ?_)
          obtain ⟨he9, rfl⟩ := hr
          rw [he9]
          clear he9 h'
          show V _ _ _ (60 + 3) _ (_ :: _) _
          refine v_goto hC (pc := 63) (tgt := 71) dX7_ahead_63 (by decide) ?_
          refine v_iret hC hX (pc := 71) dX7_ahead_71 ?_
          subst hi
          refine ⟨?_, ha.1⟩
          first | (rw [if_pos (show x = 0 by rcases (show x = 0 ∨ x = 1 by omega) with rfl | rfl <;> first | rfl | exact absurd c_54 (by decide)), ha.2]; done) | (rw [if_neg (show ¬ x = 0 by rintro rfl; exact absurd rfl c_54), ha.2]; rfl)
      · skip
        have hi : k < n1 := lp_in (c_39) h1 (by omega)
        refine v_aload_n hC (pc := 42) (k := 0) 1 rfl dX7_ahead_42 ?_
        refine v_callV hC (pc := 43) (As := []) dX7_ahead_43 rfl (m_hourGoes _ _ (d := d - 1) (by omega) _ hn4 (by rw [scr_0 ha.1]; exact hnw) (by rw [ha.2]; exact wf_pl hn8 (hwf k).2)) cv_X7_237 rfl (by decide) rfl (by first | rfl | exact ok_c hq rfl | exact ok_w hq hw | exact ok_w (by omega) (by omega) | exact ok_s (by omega) (by omega) | exact ok_c (by omega) rfl | assumption) (Nat.le_of_ble_eq_true rfl) (by omega) (fun r h' hr => ?_)
        obtain ⟨rfl, rfl⟩ := hr
        show V _ _ _ (43 + 3) _ (_ :: _) _
        refine v_pop hC (pc := 46) rfl dX7_ahead_46 ?_
        refine v_iinc hC (pc := 47) (l' := [(4, _), (0, _), (1, _), (2, _), (3, _)]) 0 (v := nI (k + 1)) dX7_ahead_47 rfl (nI_inc k) (by decide) rfl ?_
        refine v_goto hC (pc := 50) (tgt := 36) dX7_ahead_50 (by decide) ?_
        exact ih (k + 1) _ (by omega) (by omega) ⟨scr_hg ha.1 nW, by unfold hgH; rw [upR_same, ha.2]; rfl⟩
  refine v_aload_n hC (pc := 0) (k := 0) 0 rfl dX7_ahead_0 ?_
  refine v_iload_n hC (pc := 1) (k := 1) 1 rfl dX7_ahead_1 ?_
  refine v_callV hC (pc := 2) (As := [_]) dX7_ahead_2 rfl (m_isWalker_t _ _ (d := d - 1) (by omega) _ (c := w) (by assumption) hn4 hnw) cv_X7_216 rfl (by decide) rfl (by first | rfl | exact ok_c hq rfl | exact ok_w hq hw | exact ok_w (by omega) (by omega) | exact ok_s (by omega) (by omega) | exact ok_c (by omega) rfl | assumption) (Nat.le_of_ble_eq_true rfl) (by omega) (fun r h' hr => ?_)
  obtain ⟨he9, rfl⟩ := hr
  rw [he9]
  clear he9 h'
  show V _ _ _ (2 + 3) _ (_ :: _) _
  refine v_if_eq hC (pc := 5) (tgt := 27) dX7_ahead_5 (by decide) (fun c_5 => ?_) (fun c_5 => ?_)
  · exact absurd c_5 (by decide)
  · skip
    refine v_iload_n hC (pc := 8) (k := 2) 2 rfl dX7_ahead_8 ?_
    refine v_i2l hC (pc := 9) dX7_ahead_9 ?_
    refine v_lconst hC (pc := 10) (v := 0) (by decide) dX7_ahead_10 ?_
    refine v_ldc2 hC (pc := 11) k_X7_235 dX7_ahead_11 ?_
    refine v_callS hC (pc := 14) (As := [_, _, _]) dX7_ahead_14 rfl (m_in_t _ _ (d := d - 1) (by omega) _ (nI n1) 0 60 ⟨nI_pos (by omega), nI_nlt hn (by decide)⟩) cs_X7_84 (Nat.le_of_ble_eq_true rfl) (by omega) (fun r h' hr => ?_)
    obtain ⟨he9, rfl⟩ := hr
    rw [he9]
    clear he9 h'
    show V _ _ _ (14 + 3) _ (_ :: _) _
    refine v_if_eq hC (pc := 17) (tgt := 27) dX7_ahead_17 (by decide) (fun c_17 => ?_) (fun c_17 => ?_)
    · exact absurd c_17 (by decide)
    · skip
      refine v_iload_n hC (pc := 20) (k := 3) 3 rfl dX7_ahead_20 ?_
      refine v_callS hC (pc := 21) (As := [_]) dX7_ahead_21 rfl (m_isPart_t _ _ (d := d - 1) (by omega) _ (s := x) (by assumption)) cs_X7_213 (Nat.le_of_ble_eq_true rfl) (by omega) (fun r h' hr => ?_)
      obtain ⟨he9, rfl⟩ := hr
      rw [he9]
      clear he9 h'
      show V _ _ _ (21 + 3) _ (_ :: _) _
      refine v_if_ne hC (pc := 24) (tgt := 29) dX7_ahead_24 (by decide) (fun c_24 => ?_) (fun c_24 => ?_)
      · skip
        refine v_aload_n hC (pc := 29) (k := 0) 0 rfl dX7_ahead_29 ?_
        refine v_callV hC (pc := 30) (As := []) dX7_ahead_30 rfl (m_starts _ _ (d := d - 1) (by omega) _) cv_X7_219 rfl (by decide) rfl (by first | rfl | exact ok_c hq rfl | exact ok_w hq hw | exact ok_w (by omega) (by omega) | exact ok_s (by omega) (by omega) | exact ok_c (by omega) rfl | assumption) (Nat.le_of_ble_eq_true rfl) (by omega) (fun r h' hr => ?_)
        obtain ⟨rfl, rfl⟩ := hr
        refine v_heap (show _ = stH h from rfl) ?_
        show V _ _ _ (30 + 3) _ _ _
        refine v_iconst hC (pc := 33) (v := 0) (by decide) dX7_ahead_33 ?_
        refine v_istore hC (pc := 34) (l' := [(4, _), (0, _), (1, _), (2, _), (3, _)]) dX7_ahead_34 (by decide) rfl ?_
        exact loop (n1 + 1) 0 _ (by omega) (by omega) ⟨scr_st h, rfl⟩
      · exact absurd c_24 (by decide)

set_option maxRecDepth 20000 in
set_option maxHeartbeats 2000000 in
theorem m_ahead_bad (l9 : Launch) (G : WT) {d : Nat} (hd : 3 ≤ d) (h : HP) {nW : Nat} (hn4 : nW ≤ 4) (hnw : h.1 (3, 0, 0) 4 = nI nW) (w n x : Int32) (hbad : ¬ ((¬ w < 0 ∧ ¬ nI nW ≤ w) ∧ (¬ n < 0 ∧ ¬ 60 < n) ∧ (x = 0 ∨ x = 1))) : MS l9 G yX7_ahead cX7_ahead 5 (some .int) d [vr (3, 0, 0), vi w, vi n, vi x] h (fun r h1 => h1 = h ∧ r = some (vi (-1))) := by
  refine MS_of (by decide +kernel) (Nat.le_of_ble_eq_true rfl) (fun X hC hX => ?_)
  show V X G 5 0 _ [] _
  refine v_aload_n hC (pc := 0) (k := 0) 0 rfl dX7_ahead_0 ?_
  refine v_iload_n hC (pc := 1) (k := 1) 1 rfl dX7_ahead_1 ?_
  refine v_callV hC (pc := 2) (As := [_]) dX7_ahead_2 rfl (m_isWalker _ _ (d := d - 1) (by omega) _ hn4 hnw _) cv_X7_216 rfl (by decide) rfl (by first | rfl | exact ok_c hq rfl | exact ok_w hq hw | exact ok_w (by omega) (by omega) | exact ok_s (by omega) (by omega) | exact ok_c (by omega) rfl | assumption) (Nat.le_of_ble_eq_true rfl) (by omega) (fun r h' hr => ?_)
  obtain ⟨he9, rfl⟩ := hr
  rw [he9]
  clear he9 h'
  show V _ _ _ (2 + 3) _ (_ :: _) _
  refine v_ifb_eq hC (pc := 5) (tgt := 27) dX7_ahead_5 (by decide) (fun c_5 => ?_) (fun c_5 => ?_)
  · skip
    refine v_iconst hC (pc := 27) (v := (-1)) (by decide) dX7_ahead_27 ?_
    refine v_iret hC hX (pc := 28) dX7_ahead_28 ?_
    exact ⟨rfl, rfl⟩
  · skip
    refine v_iload_n hC (pc := 8) (k := 2) 2 rfl dX7_ahead_8 ?_
    refine v_i2l hC (pc := 9) dX7_ahead_9 ?_
    refine v_lconst hC (pc := 10) (v := 0) (by decide) dX7_ahead_10 ?_
    refine v_ldc2 hC (pc := 11) k_X7_235 dX7_ahead_11 ?_
    refine v_callS hC (pc := 14) (As := [_, _, _]) dX7_ahead_14 rfl (m_in _ _ (d := d - 1) (by omega) _ n 0 60) cs_X7_84 (Nat.le_of_ble_eq_true rfl) (by omega) (fun r h' hr => ?_)
    obtain ⟨he9, rfl⟩ := hr
    rw [he9]
    clear he9 h'
    show V _ _ _ (14 + 3) _ (_ :: _) _
    refine v_ifb_eq hC (pc := 17) (tgt := 27) dX7_ahead_17 (by decide) (fun c_17 => ?_) (fun c_17 => ?_)
    · skip
      refine v_iconst hC (pc := 27) (v := (-1)) (by decide) dX7_ahead_27 ?_
      refine v_iret hC hX (pc := 28) dX7_ahead_28 ?_
      exact ⟨rfl, rfl⟩
    · skip
      refine v_iload_n hC (pc := 20) (k := 3) 3 rfl dX7_ahead_20 ?_
      refine v_callS hC (pc := 21) (As := [_]) dX7_ahead_21 rfl (m_isPart _ _ (d := d - 1) (by omega) _ _) cs_X7_213 (Nat.le_of_ble_eq_true rfl) (by omega) (fun r h' hr => ?_)
      obtain ⟨he9, rfl⟩ := hr
      rw [he9]
      clear he9 h'
      show V _ _ _ (21 + 3) _ (_ :: _) _
      refine v_ifb_ne hC (pc := 24) (tgt := 29) dX7_ahead_24 (by decide) (fun c_24 => ?_) (fun c_24 => ?_)
      · skip
        exact absurd ⟨c_5, c_17, c_24⟩ hbad
      · skip
        refine v_iconst hC (pc := 27) (v := (-1)) (by decide) dX7_ahead_27 ?_
        refine v_iret hC hX (pc := 28) dX7_ahead_28 ?_
        exact ⟨rfl, rfl⟩

noncomputable def clsP (A : Nat → Int32) (w v : Nat) : Prop := dcP (fun k => A (18 + 6 * k + 0)) (toM A) (wenF A) w v
theorem dcP_S {h : HP} {A : Nat → Int32} {nW w v : Nat} (e : h.1 (3, 0, 2) = A) (hw : w < nW) (hv : v < nW) : bP (dcP (plM (setM h nW)) ((setM h nW).1 (3, 0, 20)) ((setM h nW).1 (3, 0, 21)) w v) = bP (clsP A w v) := by
  refine bP_cong ?_
  unfold clsP
  rw [← e]
  exact dcP_cong hw hv (fun k hk => by unfold plM; rw [setM_o _ _ (by decide) (by decide)]) (fun k hk => setM_t h hk) (fun k hk => setM_g h hk)
set_option maxRecDepth 20000 in
set_option maxHeartbeats 2000000 in
theorem m_clash_ok (l9 : Launch) (G : WT) {d : Nat} (hd : 6 ≤ d) (h : HP) {nC nW : Nat} (hn8 : nC ≤ 8) (hn4 : nW ≤ 4) (hnw : h.1 (3, 0, 0) 4 = nI nW) (hS : wfS (h.1 (3, 0, 1)) nC) (hW : wfW (h.1 (3, 0, 1)) nC nW) {w v : Nat} (hw : w < nW) (hv : v < nW) (hne : ¬ w = v) : MS l9 G yX7_clash cX7_clash 4 (some .int) d [vr (3, 0, 0), vi (nI w), vi (nI v)] h (fun r h1 => scr h h1 ∧ ((∃ n, 1 ≤ n ∧ n ≤ 10 ∧ r = some (vi (nI n)) ∧ clsP (hrsR ((stH h).1 (3, 0, 2)) nW (n - 1)) w v ∧ ∀ m, 1 ≤ m → m < n → ¬ clsP (hrsR ((stH h).1 (3, 0, 2)) nW (m - 1)) w v) ∨ (r = some (vi (-4)) ∧ ∀ m, 1 ≤ m → m ≤ 10 → ¬ clsP (hrsR ((stH h).1 (3, 0, 2)) nW (m - 1)) w v))) := by
  refine MS_of (by decide +kernel) (Nat.le_of_ble_eq_true rfl) (fun X hC hX => ?_)
  show V X G 4 0 _ [] _
  have hwf := hrsR_wf hn8 hn4 (stH_wf hn8 hn4 hS hW).1 (stH_wf hn8 hn4 hS hW).2
  have loop : ∀ (n k : Nat) (u : HP), k ≤ 11 → 11 + 1 ≤ k + n → ((scr h u ∧ u.1 (3, 0, 2) = hrsR ((stH h).1 (3, 0, 2)) nW (k - 1)) ∧ 1 ≤ k ∧ ∀ m, 1 ≤ m → m < k → ¬ clsP (hrsR ((stH h).1 (3, 0, 2)) nW (m - 1)) w v) → V X G 4 29 [(3, vi (nI k)), (0, vr (3, 0, 0)), (1, vi (nI w)), (2, vi (nI v))] [] (u) := by
    intro n
    induction n with
    | zero => intro k u h1 h2; exact absurd h2 (by omega)
    | succ n ih =>
      intro k u h1 h2 ha
      obtain ⟨ha, ha2, ha3⟩ := ha
      refine v_iload_n hC (pc := 29) (k := 3) 0 rfl dX7_clash_29 ?_
      refine v_bipush hC (pc := 30) (v := 10) (by decide +kernel) dX7_clash_30 ?_
      refine v_icmp_gt hC (pc := 32) (tgt := 61) dX7_clash_32 (by decide) (fun c_32 => ?_) (fun c_32 => ?_)
      · skip
        have hi : 10 < k := lp_gt (N := 10) c_32 (by decide) (by omega)
        refine v_bipush hC (pc := 61) (v := (-4)) (by decide +kernel) dX7_clash_61 ?_
        refine v_iret hC hX (pc := 63) dX7_clash_63 ?_
        exact ⟨ha.1, Or.inr ⟨rfl, fun m m1 m2 => ha3 m m1 (by omega)⟩⟩
      · skip
        have hi : k ≤ 10 := lp_ngt (N := 10) c_32 (by decide) (by omega)
        refine v_aload_n hC (pc := 35) (k := 0) 1 rfl dX7_clash_35 ?_
        refine v_callV hC (pc := 36) (As := []) dX7_clash_36 rfl (m_setsOut _ _ (d := d - 1) (by omega) _ hn4 (by rw [scr_0 ha.1]; exact hnw) (by rw [ha.2]; exact wf_pl hn8 (hwf (k - 1)).2)) cv_X7_204 rfl (by decide) rfl (by first | rfl | exact ok_c hq rfl | exact ok_w hq hw | exact ok_w (by omega) (by omega) | exact ok_s (by omega) (by omega) | exact ok_c (by omega) rfl | assumption) (Nat.le_of_ble_eq_true rfl) (by omega) (fun r h' hr => ?_)
        obtain ⟨rfl, rfl⟩ := hr
        show V _ _ _ (36 + 3) _ _ _
        refine v_aload_n hC (pc := 39) (k := 0) 1 rfl dX7_clash_39 ?_
        refine v_iload_n hC (pc := 40) (k := 1) 2 rfl dX7_clash_40 ?_
        refine v_iload_n hC (pc := 41) (k := 2) 3 rfl dX7_clash_41 ?_
        refine v_callV hC (pc := 42) (As := [_, _]) dX7_clash_42 rfl (m_doClash _ _ (d := d - 1) (by omega) _ (w := w) (v := v) (by omega) (by omega)) cv_X7_190 rfl (by decide) rfl (by first | rfl | exact ok_c hq rfl | exact ok_w hq hw | exact ok_w (by omega) (by omega) | exact ok_s (by omega) (by omega) | exact ok_c (by omega) rfl | assumption) (Nat.le_of_ble_eq_true rfl) (by omega) (fun r h' hr => ?_)
        obtain ⟨he9, rfl⟩ := hr
        rw [he9]
        clear he9 h'
        rw [dcP_S ha.2 hw hv]
        show V _ _ _ (42 + 3) _ (_ :: _) _
        refine v_if_eq hC (pc := 45) (tgt := 50) dX7_clash_45 (by decide) (fun c_45 => ?_) (fun c_45 => ?_)
        · skip
          refine v_aload_n hC (pc := 50) (k := 0) 1 rfl dX7_clash_50 ?_
          refine v_callV hC (pc := 51) (As := []) dX7_clash_51 rfl (m_hourGoes _ _ (d := d - 1) (by omega) _ hn4 (by rw [scr_0 (scr_set ha.1 nW)]; exact hnw) (by rw [setM_o _ _ (by decide) (by decide), ha.2]; exact wf_pl hn8 (hwf (k - 1)).2)) cv_X7_237 rfl (by decide) rfl (by first | rfl | exact ok_c hq rfl | exact ok_w hq hw | exact ok_w (by omega) (by omega) | exact ok_s (by omega) (by omega) | exact ok_c (by omega) rfl | assumption) (Nat.le_of_ble_eq_true rfl) (by omega) (fun r h' hr => ?_)
          obtain ⟨rfl, rfl⟩ := hr
          show V _ _ _ (51 + 3) _ (_ :: _) _
          refine v_pop hC (pc := 54) rfl dX7_clash_54 ?_
          refine v_iinc hC (pc := 55) (l' := [(3, _), (0, _), (1, _), (2, _)]) 0 (v := nI (k + 1)) dX7_clash_55 rfl (nI_inc k) (by decide) rfl ?_
          refine v_goto hC (pc := 58) (tgt := 29) dX7_clash_58 (by decide) ?_
          exact ih (k + 1) _ (by omega) (by omega) ⟨⟨scr_hg (scr_set ha.1 nW) nW, by unfold hgH; rw [upR_same, setM_o _ _ (by decide) (by decide), ha.2, show k + 1 - 1 = (k - 1) + 1 by omega]; rfl⟩, by omega, fun m m1 m2 => by rcases (show m < k ∨ m = k by omega) with q | rfl; exact ha3 m m1 q; exact bP_0.mp c_45⟩
        · skip
          refine v_iload_n hC (pc := 48) (k := 3) 0 rfl dX7_clash_48 ?_
          refine v_iret hC hX (pc := 49) dX7_clash_49 ?_
          exact ⟨scr_set ha.1 nW, Or.inl ⟨k, ha2, hi, rfl, bP_1.mp ((bP_01 _).resolve_left c_45), ha3⟩⟩
  refine v_aload_n hC (pc := 0) (k := 0) 0 rfl dX7_clash_0 ?_
  refine v_iload_n hC (pc := 1) (k := 1) 1 rfl dX7_clash_1 ?_
  refine v_callV hC (pc := 2) (As := [_]) dX7_clash_2 rfl (m_isWalker_t _ _ (d := d - 1) (by omega) _ (c := w) (by assumption) hn4 hnw) cv_X7_216 rfl (by decide) rfl (by first | rfl | exact ok_c hq rfl | exact ok_w hq hw | exact ok_w (by omega) (by omega) | exact ok_s (by omega) (by omega) | exact ok_c (by omega) rfl | assumption) (Nat.le_of_ble_eq_true rfl) (by omega) (fun r h' hr => ?_)
  obtain ⟨he9, rfl⟩ := hr
  rw [he9]
  clear he9 h'
  show V _ _ _ (2 + 3) _ (_ :: _) _
  refine v_if_eq hC (pc := 5) (tgt := 21) dX7_clash_5 (by decide) (fun c_5 => ?_) (fun c_5 => ?_)
  · exact absurd c_5 (by decide)
  · skip
    refine v_aload_n hC (pc := 8) (k := 0) 0 rfl dX7_clash_8 ?_
    refine v_iload_n hC (pc := 9) (k := 2) 2 rfl dX7_clash_9 ?_
    refine v_callV hC (pc := 10) (As := [_]) dX7_clash_10 rfl (m_isWalker_t _ _ (d := d - 1) (by omega) _ (c := v) (by assumption) hn4 hnw) cv_X7_216 rfl (by decide) rfl (by first | rfl | exact ok_c hq rfl | exact ok_w hq hw | exact ok_w (by omega) (by omega) | exact ok_s (by omega) (by omega) | exact ok_c (by omega) rfl | assumption) (Nat.le_of_ble_eq_true rfl) (by omega) (fun r h' hr => ?_)
    obtain ⟨he9, rfl⟩ := hr
    rw [he9]
    clear he9 h'
    show V _ _ _ (10 + 3) _ (_ :: _) _
    refine v_if_eq hC (pc := 13) (tgt := 21) dX7_clash_13 (by decide) (fun c_13 => ?_) (fun c_13 => ?_)
    · exact absurd c_13 (by decide)
    · skip
      refine v_iload_n hC (pc := 16) (k := 1) 1 rfl dX7_clash_16 ?_
      refine v_iload_n hC (pc := 17) (k := 2) 2 rfl dX7_clash_17 ?_
      refine v_icmp_ne hC (pc := 18) (tgt := 23) dX7_clash_18 (by decide) (fun c_18 => ?_) (fun c_18 => ?_)
      · skip
        refine v_aload_n hC (pc := 23) (k := 0) 0 rfl dX7_clash_23 ?_
        refine v_callV hC (pc := 24) (As := []) dX7_clash_24 rfl (m_starts _ _ (d := d - 1) (by omega) _) cv_X7_219 rfl (by decide) rfl (by first | rfl | exact ok_c hq rfl | exact ok_w hq hw | exact ok_w (by omega) (by omega) | exact ok_s (by omega) (by omega) | exact ok_c (by omega) rfl | assumption) (Nat.le_of_ble_eq_true rfl) (by omega) (fun r h' hr => ?_)
        obtain ⟨rfl, rfl⟩ := hr
        refine v_heap (show _ = stH h from rfl) ?_
        show V _ _ _ (24 + 3) _ _ _
        refine v_iconst hC (pc := 27) (v := 1) (by decide) dX7_clash_27 ?_
        refine v_istore_n hC (pc := 28) (l' := [(3, _), (0, _), (1, _), (2, _)]) dX7_clash_28 (by decide) rfl ?_
        exact loop 12 1 _ (by omega) (by omega) ⟨⟨scr_st h, rfl⟩, by omega, fun m m1 m2 => absurd m2 (by omega)⟩
      · exact absurd ((nI_eq (show w < 2 ^ 31 by omega) (show v < 2 ^ 31 by omega)).mp c_18) hne

set_option maxRecDepth 20000 in
set_option maxHeartbeats 2000000 in
theorem m_clash_bad (l9 : Launch) (G : WT) {d : Nat} (hd : 3 ≤ d) (h : HP) {nW : Nat} (hn4 : nW ≤ 4) (hnw : h.1 (3, 0, 0) 4 = nI nW) (w v : Int32) (hbad : ¬ ((¬ w < 0 ∧ ¬ nI nW ≤ w) ∧ (¬ v < 0 ∧ ¬ nI nW ≤ v) ∧ ¬ w = v)) : MS l9 G yX7_clash cX7_clash 4 (some .int) d [vr (3, 0, 0), vi w, vi v] h (fun r h1 => h1 = h ∧ r = some (vi (-1))) := by
  refine MS_of (by decide +kernel) (Nat.le_of_ble_eq_true rfl) (fun X hC hX => ?_)
  show V X G 4 0 _ [] _
  refine v_aload_n hC (pc := 0) (k := 0) 0 rfl dX7_clash_0 ?_
  refine v_iload_n hC (pc := 1) (k := 1) 1 rfl dX7_clash_1 ?_
  refine v_callV hC (pc := 2) (As := [_]) dX7_clash_2 rfl (m_isWalker _ _ (d := d - 1) (by omega) _ hn4 hnw _) cv_X7_216 rfl (by decide) rfl (by first | rfl | exact ok_c hq rfl | exact ok_w hq hw | exact ok_w (by omega) (by omega) | exact ok_s (by omega) (by omega) | exact ok_c (by omega) rfl | assumption) (Nat.le_of_ble_eq_true rfl) (by omega) (fun r h' hr => ?_)
  obtain ⟨he9, rfl⟩ := hr
  rw [he9]
  clear he9 h'
  show V _ _ _ (2 + 3) _ (_ :: _) _
  refine v_ifb_eq hC (pc := 5) (tgt := 21) dX7_clash_5 (by decide) (fun c_5 => ?_) (fun c_5 => ?_)
  · skip
    refine v_iconst hC (pc := 21) (v := (-1)) (by decide) dX7_clash_21 ?_
    refine v_iret hC hX (pc := 22) dX7_clash_22 ?_
    exact ⟨rfl, rfl⟩
  · skip
    refine v_aload_n hC (pc := 8) (k := 0) 0 rfl dX7_clash_8 ?_
    refine v_iload_n hC (pc := 9) (k := 2) 2 rfl dX7_clash_9 ?_
    refine v_callV hC (pc := 10) (As := [_]) dX7_clash_10 rfl (m_isWalker _ _ (d := d - 1) (by omega) _ hn4 hnw _) cv_X7_216 rfl (by decide) rfl (by first | rfl | exact ok_c hq rfl | exact ok_w hq hw | exact ok_w (by omega) (by omega) | exact ok_s (by omega) (by omega) | exact ok_c (by omega) rfl | assumption) (Nat.le_of_ble_eq_true rfl) (by omega) (fun r h' hr => ?_)
    obtain ⟨he9, rfl⟩ := hr
    rw [he9]
    clear he9 h'
    show V _ _ _ (10 + 3) _ (_ :: _) _
    refine v_ifb_eq hC (pc := 13) (tgt := 21) dX7_clash_13 (by decide) (fun c_13 => ?_) (fun c_13 => ?_)
    · skip
      refine v_iconst hC (pc := 21) (v := (-1)) (by decide) dX7_clash_21 ?_
      refine v_iret hC hX (pc := 22) dX7_clash_22 ?_
      exact ⟨rfl, rfl⟩
    · skip
      refine v_iload_n hC (pc := 16) (k := 1) 1 rfl dX7_clash_16 ?_
      refine v_iload_n hC (pc := 17) (k := 2) 2 rfl dX7_clash_17 ?_
      refine v_icmp_ne hC (pc := 18) (tgt := 23) dX7_clash_18 (by decide) (fun c_18 => ?_) (fun c_18 => ?_)
      · skip
        exact absurd ⟨c_5, c_13, c_18⟩ hbad
      · skip
        refine v_iconst hC (pc := 21) (v := (-1)) (by decide) dX7_clash_21 ?_
        refine v_iret hC hX (pc := 22) dX7_clash_22 ?_
        exact ⟨rfl, rfl⟩

