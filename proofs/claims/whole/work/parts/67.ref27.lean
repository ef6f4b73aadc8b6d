/-! THE REFERENCE: the draft -/
def dftF (f : Nat → Int32) (n : Nat) : Nat → Int32 := fun j => if j < n then (if j < 16 then -4 else 0) else f j
theorem dftF_0 (f : Nat → Int32) : dftF f 0 = f := by
  funext j
  exact if_neg (Nat.not_lt_zero _)
theorem dftF_s (f : Nat → Int32) (n : Nat) : upd (dftF f n) n (if n < 16 then -4 else 0) = dftF f (n + 1) := by
  funext j
  unfold upd dftF
  by_cases e : j = n
  · subst e
    rw [if_pos rfl, if_pos (Nat.lt_succ_self _)]
  · rw [if_neg e]
    by_cases e2 : j < n
    · rw [if_pos e2, if_pos (show j < n + 1 by omega)]
    · rw [if_neg e2, if_neg (show ¬ j < n + 1 by omega)]
set_option maxRecDepth 20000 in
set_option maxHeartbeats 2000000 in
theorem m_firstDraft (l9 : Launch) (G : WT) {d : Nat} (hd : 1 ≤ d) (h : HP) : MS l9 G yX7_firstDraft cX7_firstDraft 2 none d [vr (3, 0, 0)] h (fun r h1 => r = none ∧ h1 = upI (upI (upI (upI (upI (upI (upR h (3, 0, 6) (dftF (h.1 (3, 0, 6)) 80)) (3, 0, 0) 6 4) (3, 0, 0) 7 0) (3, 0, 0) 8 0) (3, 0, 10) 0 0) (3, 0, 10) 1 0) (3, 0, 0) 10 (-4)) := by
  refine MS_of (by decide +kernel) (Nat.le_of_ble_eq_true rfl) (fun X hC hX => ?_)
  show V X G 2 0 _ [] _
  have loop : ∀ (n k : Nat), k ≤ 80 → 81 ≤ k + n → V X G 2 2 [(1, vi (nI k)), (0, vr (3, 0, 0))] [] (upR h (3, 0, 6) (dftF (h.1 (3, 0, 6)) k)) := by
    intro n
    induction n with
    | zero => intro k h1 h2; exact absurd h2 (by omega)
    | succ n ih =>
      intro k h1 h2
      refine v_iload_n hC (pc := 2) (k := 1) 0 rfl dX7_firstDraft_2 ?_
      refine v_bipush hC (pc := 3) (v := 80) (by decide +kernel) dX7_firstDraft_3 ?_
      refine v_icmp_ge hC (pc := 5) (tgt := 32) dX7_firstDraft_5 (by decide) (fun c_5 => ?_) (fun c_5 => ?_)
      · skip
        have hk : k = 80 := lp_ex (N := 80) c_5 h1 (by decide)
        refine v_aload_n hC (pc := 32) (k := 0) 1 rfl dX7_firstDraft_32 ?_
        refine v_iconst hC (pc := 33) (v := 4) (by decide) dX7_firstDraft_33 ?_
        refine v_putI hC (pc := 34) dX7_firstDraft_34 fs_X7_63 rfl (by first | rfl | exact ok_c hq rfl | exact ok_w hq hw | exact ok_w (by omega) (by omega) | exact ok_s (by omega) (by omega) | exact ok_c (by omega) rfl | assumption) rfl (by decide) (by decide) ?_
        refine v_aload_n hC (pc := 37) (k := 0) 1 rfl dX7_firstDraft_37 ?_
        refine v_iconst hC (pc := 38) (v := 0) (by decide) dX7_firstDraft_38 ?_
        refine v_putI hC (pc := 39) dX7_firstDraft_39 fs_X7_67 rfl (by first | rfl | exact ok_c hq rfl | exact ok_w hq hw | exact ok_w (by omega) (by omega) | exact ok_s (by omega) (by omega) | exact ok_c (by omega) rfl | assumption) rfl (by decide) (by decide) ?_
        refine v_aload_n hC (pc := 42) (k := 0) 1 rfl dX7_firstDraft_42 ?_
        refine v_iconst hC (pc := 43) (v := 0) (by decide) dX7_firstDraft_43 ?_
        refine v_putI hC (pc := 44) dX7_firstDraft_44 fs_X7_70 rfl (by first | rfl | exact ok_c hq rfl | exact ok_w hq hw | exact ok_w (by omega) (by omega) | exact ok_s (by omega) (by omega) | exact ok_c (by omega) rfl | assumption) rfl (by decide) (by decide) ?_
        refine v_aload_n hC (pc := 47) (k := 0) 1 rfl dX7_firstDraft_47 ?_
        refine v_getR hC (pc := 48) dX7_firstDraft_48 fl_X7_23 rfl (by first | rfl | exact ok_c hq rfl | exact ok_w hq hw | exact ok_w (by omega) (by omega) | exact ok_s (by omega) (by omega) | exact ok_c (by omega) rfl | assumption) rfl (by decide) (by decide) rfl ?_
        refine v_iconst hC (pc := 51) (v := 0) (by decide) dX7_firstDraft_51 ?_
        refine v_iconst hC (pc := 52) (v := 0) (by decide) dX7_firstDraft_52 ?_
        refine v_iast hC (pc := 53) dX7_firstDraft_53 rfl (by first | rfl | exact ok_c hq rfl | exact ok_w hq hw | exact ok_w (by omega) (by omega) | exact ok_s (by omega) (by omega) | exact ok_c (by omega) rfl | assumption) (vp_nat (n := 0) (by omega) (by decide)) ?_
        refine v_aload_n hC (pc := 54) (k := 0) 1 rfl dX7_firstDraft_54 ?_
        refine v_getR hC (pc := 55) dX7_firstDraft_55 fl_X7_23 rfl (by first | rfl | exact ok_c hq rfl | exact ok_w hq hw | exact ok_w (by omega) (by omega) | exact ok_s (by omega) (by omega) | exact ok_c (by omega) rfl | assumption) rfl (by decide) (by decide) rfl ?_
        refine v_iconst hC (pc := 58) (v := 1) (by decide) dX7_firstDraft_58 ?_
        refine v_iconst hC (pc := 59) (v := 0) (by decide) dX7_firstDraft_59 ?_
        refine v_iast hC (pc := 60) dX7_firstDraft_60 rfl (by first | rfl | exact ok_c hq rfl | exact ok_w hq hw | exact ok_w (by omega) (by omega) | exact ok_s (by omega) (by omega) | exact ok_c (by omega) rfl | assumption) (vp_nat (n := 1) (by omega) (by decide)) ?_
        refine v_aload_n hC (pc := 61) (k := 0) 1 rfl dX7_firstDraft_61 ?_
        refine v_bipush hC (pc := 62) (v := (-4)) (by decide +kernel) dX7_firstDraft_62 ?_
        refine v_putI hC (pc := 64) dX7_firstDraft_64 fs_X7_73 rfl (by first | rfl | exact ok_c hq rfl | exact ok_w hq hw | exact ok_w (by omega) (by omega) | exact ok_s (by omega) (by omega) | exact ok_c (by omega) rfl | assumption) rfl (by decide) (by decide) ?_
        refine v_vret hC hX (pc := 67) dX7_firstDraft_67 ?_
        subst hk
        exact ⟨rfl, rfl⟩
      · skip
        have hk : k < 80 := lp_in (N := 80) c_5 h1 (by decide)
        refine v_aload_n hC (pc := 8) (k := 0) 1 rfl dX7_firstDraft_8 ?_
        refine v_getR hC (pc := 9) dX7_firstDraft_9 fl_X7_20 rfl (by first | rfl | exact ok_c hq rfl | exact ok_w hq hw | exact ok_w (by omega) (by omega) | exact ok_s (by omega) (by omega) | exact ok_c (by omega) rfl | assumption) rfl (by decide) (by decide) rfl ?_
        refine v_iload_n hC (pc := 12) (k := 1) 0 rfl dX7_firstDraft_12 ?_
        refine v_iload_n hC (pc := 13) (k := 1) 0 rfl dX7_firstDraft_13 ?_
        refine v_bipush hC (pc := 14) (v := 16) (by decide +kernel) dX7_firstDraft_14 ?_
        refine v_icmp_ge hC (pc := 16) (tgt := 24) dX7_firstDraft_16 (by decide) (fun c_16 => ?_) (fun c_16 => ?_)
        · skip
          refine v_iconst hC (pc := 24) (v := 0) (by decide) dX7_firstDraft_24 ?_
          refine v_iast hC (pc := 25) dX7_firstDraft_25 rfl (by first | rfl | exact ok_c hq rfl | exact ok_w hq hw | exact ok_w (by omega) (by omega) | exact ok_s (by omega) (by omega) | exact ok_c (by omega) rfl | assumption) (vp_nat (n := k) (by omega) (by decide)) ?_
          refine v_heap (show _ = upR h (3, 0, 6) (dftF (h.1 (3, 0, 6)) (k + 1)) from ?_) ?_
          · rw [nI_clamp (show k < 2 ^ 31 by omega), upI_upR, ← dftF_s]
            first | (rw [if_neg (show ¬ k < 16 from fun z => absurd c_16 (nI_ge z (by decide)))]) | (rw [if_pos (show k < 16 from Nat.lt_of_not_le (fun z => c_16 (nI_le z (by omega))))])
          refine v_iinc hC (pc := 26) (l' := [(1, _), (0, _)]) 0 (v := nI (k + 1)) dX7_firstDraft_26 rfl (nI_inc k) (by decide) rfl ?_
          refine v_goto hC (pc := 29) (tgt := 2) dX7_firstDraft_29 (by decide) ?_
          exact ih (k + 1) (by omega) (by omega)
        · skip
          refine v_bipush hC (pc := 19) (v := (-4)) (by decide +kernel) dX7_firstDraft_19 ?_
          refine v_goto hC (pc := 21) (tgt := 25) dX7_firstDraft_21 (by decide) ?_
          refine v_iast hC (pc := 25) dX7_firstDraft_25 rfl (by first | rfl | exact ok_c hq rfl | exact ok_w hq hw | exact ok_w (by omega) (by omega) | exact ok_s (by omega) (by omega) | exact ok_c (by omega) rfl | assumption) (vp_nat (n := k) (by omega) (by decide)) ?_
          refine v_heap (show _ = upR h (3, 0, 6) (dftF (h.1 (3, 0, 6)) (k + 1)) from ?_) ?_
          · rw [nI_clamp (show k < 2 ^ 31 by omega), upI_upR, ← dftF_s]
            first | (rw [if_neg (show ¬ k < 16 from fun z => absurd c_16 (nI_ge z (by decide)))]) | (rw [if_pos (show k < 16 from Nat.lt_of_not_le (fun z => c_16 (nI_le z (by omega))))])
          refine v_iinc hC (pc := 26) (l' := [(1, _), (0, _)]) 0 (v := nI (k + 1)) dX7_firstDraft_26 rfl (nI_inc k) (by decide) rfl ?_
          refine v_goto hC (pc := 29) (tgt := 2) dX7_firstDraft_29 (by decide) ?_
          exact ih (k + 1) (by omega) (by omega)
  refine v_iconst hC (pc := 0) (v := 0) (by decide) dX7_firstDraft_0 ?_
  refine v_istore_n hC (pc := 1) (l' := [(1, _), (0, _)]) dX7_firstDraft_1 (by decide) rfl ?_
  refine v_heap (show _ = upR h (3, 0, 6) (dftF (h.1 (3, 0, 6)) 0) from ?_) ?_
  · rw [dftF_0, upR_id]
  · exact loop 81 0 (by omega) (by omega)

set_option maxRecDepth 20000 in
set_option maxHeartbeats 2000000 in
theorem m_keepDraft (l9 : Launch) (G : WT) {d : Nat} (hd : 1 ≤ d) (h : HP) : MS l9 G yX7_keepDraft cX7_keepDraft 2 none d [vr (3, 0, 0)] h (fun r h1 => r = none ∧ h1 = upI (upI (upI (upI (upR h (3, 0, 1) (cpR (h.1 (3, 0, 1)) (h.1 (3, 0, 6)) 80)) (3, 0, 0) 3 (h.1 (3, 0, 0) 6)) (3, 0, 0) 4 (h.1 (3, 0, 0) 7)) (3, 0, 3) 0 0) (3, 0, 3) 1 0) := by
  refine MS_of (by decide +kernel) (Nat.le_of_ble_eq_true rfl) (fun X hC hX => ?_)
  show V X G 2 0 _ [] _
  have loop : ∀ (n k : Nat), k ≤ 80 → 81 ≤ k + n → V X G 2 2 [(1, vi (nI k)), (0, vr (3, 0, 0))] [] (upR h (3, 0, 1) (cpR (h.1 (3, 0, 1)) (h.1 (3, 0, 6)) k)) := by
    intro n
    induction n with
    | zero => intro k h1 h2; exact absurd h2 (by omega)
    | succ n ih =>
      intro k h1 h2
      refine v_iload_n hC (pc := 2) (k := 1) 0 rfl dX7_keepDraft_2 ?_
      refine v_bipush hC (pc := 3) (v := 80) (by decide +kernel) dX7_keepDraft_3 ?_
      refine v_icmp_ge hC (pc := 5) (tgt := 26) dX7_keepDraft_5 (by decide) (fun c_5 => ?_) (fun c_5 => ?_)
      · skip
        have hk : k = 80 := lp_ex (N := 80) c_5 h1 (by decide)
        refine v_aload_n hC (pc := 26) (k := 0) 1 rfl dX7_keepDraft_26 ?_
        refine v_aload_n hC (pc := 27) (k := 0) 1 rfl dX7_keepDraft_27 ?_
        refine v_getI hC (pc := 28) dX7_keepDraft_28 fl_X7_63 rfl (by first | rfl | exact ok_c hq rfl | exact ok_w hq hw | exact ok_w (by omega) (by omega) | exact ok_s (by omega) (by omega) | exact ok_c (by omega) rfl | assumption) rfl (by decide) (by decide) ?_
        refine v_putI hC (pc := 31) dX7_keepDraft_31 fs_X7_76 rfl (by first | rfl | exact ok_c hq rfl | exact ok_w hq hw | exact ok_w (by omega) (by omega) | exact ok_s (by omega) (by omega) | exact ok_c (by omega) rfl | assumption) rfl (by decide) (by decide) ?_
        refine v_aload_n hC (pc := 34) (k := 0) 1 rfl dX7_keepDraft_34 ?_
        refine v_aload_n hC (pc := 35) (k := 0) 1 rfl dX7_keepDraft_35 ?_
        refine v_getI hC (pc := 36) dX7_keepDraft_36 fl_X7_67 rfl (by first | rfl | exact ok_c hq rfl | exact ok_w hq hw | exact ok_w (by omega) (by omega) | exact ok_s (by omega) (by omega) | exact ok_c (by omega) rfl | assumption) rfl (by decide) (by decide) ?_
        refine v_putI hC (pc := 39) dX7_keepDraft_39 fs_X7_79 rfl (by first | rfl | exact ok_c hq rfl | exact ok_w hq hw | exact ok_w (by omega) (by omega) | exact ok_s (by omega) (by omega) | exact ok_c (by omega) rfl | assumption) rfl (by decide) (by decide) ?_
        refine v_aload_n hC (pc := 42) (k := 0) 1 rfl dX7_keepDraft_42 ?_
        refine v_getR hC (pc := 43) dX7_keepDraft_43 fl_X7_16 rfl (by first | rfl | exact ok_c hq rfl | exact ok_w hq hw | exact ok_w (by omega) (by omega) | exact ok_s (by omega) (by omega) | exact ok_c (by omega) rfl | assumption) rfl (by decide) (by decide) rfl ?_
        refine v_iconst hC (pc := 46) (v := 0) (by decide) dX7_keepDraft_46 ?_
        refine v_iconst hC (pc := 47) (v := 0) (by decide) dX7_keepDraft_47 ?_
        refine v_zast hC (pc := 48) dX7_keepDraft_48 rfl (by first | rfl | exact ok_c hq rfl | exact ok_w hq hw | exact ok_w (by omega) (by omega) | exact ok_s (by omega) (by omega) | exact ok_c (by omega) rfl | assumption) (vp_nat (n := 0) (by omega) (by decide)) ?_
        refine v_aload_n hC (pc := 49) (k := 0) 1 rfl dX7_keepDraft_49 ?_
        refine v_getR hC (pc := 50) dX7_keepDraft_50 fl_X7_16 rfl (by first | rfl | exact ok_c hq rfl | exact ok_w hq hw | exact ok_w (by omega) (by omega) | exact ok_s (by omega) (by omega) | exact ok_c (by omega) rfl | assumption) rfl (by decide) (by decide) rfl ?_
        refine v_iconst hC (pc := 53) (v := 1) (by decide) dX7_keepDraft_53 ?_
        refine v_iconst hC (pc := 54) (v := 0) (by decide) dX7_keepDraft_54 ?_
        refine v_zast hC (pc := 55) dX7_keepDraft_55 rfl (by first | rfl | exact ok_c hq rfl | exact ok_w hq hw | exact ok_w (by omega) (by omega) | exact ok_s (by omega) (by omega) | exact ok_c (by omega) rfl | assumption) (vp_nat (n := 1) (by omega) (by decide)) ?_
        refine v_vret hC hX (pc := 56) dX7_keepDraft_56 ?_
        subst hk
        exact ⟨rfl, rfl⟩
      · skip
        have hk : k < 80 := lp_in (N := 80) c_5 h1 (by decide)
        refine v_aload_n hC (pc := 8) (k := 0) 1 rfl dX7_keepDraft_8 ?_
        refine v_getR hC (pc := 9) dX7_keepDraft_9 fl_X7_7 rfl (by first | rfl | exact ok_c hq rfl | exact ok_w hq hw | exact ok_w (by omega) (by omega) | exact ok_s (by omega) (by omega) | exact ok_c (by omega) rfl | assumption) rfl (by decide) (by decide) rfl ?_
        refine v_iload_n hC (pc := 12) (k := 1) 0 rfl dX7_keepDraft_12 ?_
        refine v_aload_n hC (pc := 13) (k := 0) 1 rfl dX7_keepDraft_13 ?_
        refine v_getR hC (pc := 14) dX7_keepDraft_14 fl_X7_20 rfl (by first | rfl | exact ok_c hq rfl | exact ok_w hq hw | exact ok_w (by omega) (by omega) | exact ok_s (by omega) (by omega) | exact ok_c (by omega) rfl | assumption) rfl (by decide) (by decide) rfl ?_
        refine v_iload_n hC (pc := 17) (k := 1) 0 rfl dX7_keepDraft_17 ?_
        refine v_iald hC (pc := 18) dX7_keepDraft_18 rfl (by first | rfl | exact ok_c hq rfl | exact ok_w hq hw | exact ok_w (by omega) (by omega) | exact ok_s (by omega) (by omega) | exact ok_c (by omega) rfl | assumption) (vp_nat (n := k) (by omega) (by decide)) ?_
        refine v_iast hC (pc := 19) dX7_keepDraft_19 rfl (by first | rfl | exact ok_c hq rfl | exact ok_w hq hw | exact ok_w (by omega) (by omega) | exact ok_s (by omega) (by omega) | exact ok_c (by omega) rfl | assumption) (vp_nat (n := k) (by omega) (by decide)) ?_
        refine v_heap (show _ = upR h (3, 0, 1) (cpR (h.1 (3, 0, 1)) (h.1 (3, 0, 6)) (k + 1)) from ?_) ?_
        · rw [nI_clamp (show k < 2 ^ 31 by omega), upI_upR, ← cpR_s]
          rfl
        refine v_iinc hC (pc := 20) (l' := [(1, _), (0, _)]) 0 (v := nI (k + 1)) dX7_keepDraft_20 rfl (nI_inc k) (by decide) rfl ?_
        refine v_goto hC (pc := 23) (tgt := 2) dX7_keepDraft_23 (by decide) ?_
        exact ih (k + 1) (by omega) (by omega)
  refine v_iconst hC (pc := 0) (v := 0) (by decide) dX7_keepDraft_0 ?_
  refine v_istore_n hC (pc := 1) (l' := [(1, _), (0, _)]) dX7_keepDraft_1 (by decide) rfl ?_
  refine v_heap (show _ = upR h (3, 0, 1) (cpR (h.1 (3, 0, 1)) (h.1 (3, 0, 6)) 0) from ?_) ?_
  · rw [cpR_0, upR_id]
  · exact loop 81 0 (by omega) (by omega)

