/-! THE CLASS: hours, and who meets -/
theorem passH_f (h : HP) (q n : Nat) {k : Nat} (h2 : k ≠ 2) (h3 : k ≠ 3) : (passH h q n).1 (0, q, 0) k = h.1 (0, q, 0) k := by
  unfold passH
  rw [endH_f _ _ _ _ h2 h3]
  simp [setH]
noncomputable def gpH (h : HP) (nW n : Nat) : HP := itN (fun _ u => passH u 0 nW) n h
noncomputable def gpM (h : HP) (nW n : Nat) : Int32 := itN (fun k a => a + ccF (fun w => (gpH h nW k).1 (6, 0, w) 0) (goalF (gpH h nW k) 0) nW) n 0
theorem gpH_w (h : HP) (nW : Nat) : ∀ n, (gpH h nW n).1 (0, 0, 0) 4 = h.1 (0, 0, 0) 4
  | 0 => rfl
  | n + 1 => by
    show (passH (gpH h nW n) 0 nW).1 (0, 0, 0) 4 = _
    rw [passH_f _ _ _ (by decide) (by decide)]
    exact gpH_w h nW n
set_option maxRecDepth 20000 in
set_option maxHeartbeats 2000000 in
theorem k_go_ok (l9 : Launch) (G : WT) {d : Nat} (hd : 6 ≤ d) (h : HP) {nW : Nat} (hn4 : nW ≤ 4) (hnw : h.1 (0, 0, 0) 4 = nI nW) {t n1 : Nat} (hhr : h.1 (0, 0, 0) 2 = nI t) (hn : n1 ≤ 60) (ht : t + n1 ≤ 999) : MS l9 G yX6_go cX6_go 4 (some .int) d [vr (1, 0, 0), vi (nI n1)] h (fun r h1 => r = some (vi (gpM h nW n1)) ∧ h1 = gpH h nW n1) := by
  refine MS_of (by decide +kernel) (Nat.le_of_ble_eq_true rfl) (fun X hC hX => ?_)
  show V X G 4 0 _ [] _
  have lp : ∀ (n i : Nat) , i ≤ n1 → n1 + 1 ≤ i + n → V X G 4 34 [(3, vi (nI i)), (2, vi (gpM h nW i)), (0, vr (1, 0, 0)), (1, vi (nI n1))] [] (gpH h nW i) := by
    intro n
    induction n with
    | zero => intro i  h1 h2; exact absurd h2 (by omega)
    | succ n ih =>
      intro i  h1 h2
      refine v_iload_n hC (pc := 34) (k := 3) 0 rfl dX6_go_34 ?_
      refine v_iload_n hC (pc := 35) (k := 1) 3 rfl dX6_go_35 ?_
      refine v_icmp_ge hC (pc := 36) (tgt := 55) dX6_go_36 (by decide) (fun c_36 => ?_) (fun c_36 => ?_)
      · skip
        have hi : i = n1 := lp_ex (c_36) h1 (by omega)
        refine v_iload_n hC (pc := 55) (k := 2) 1 rfl dX6_go_55 ?_
        refine v_iret hC hX (pc := 56) dX6_go_56 ?_
        subst hi
        exact ⟨rfl, rfl⟩
      · skip
        have hi : i < n1 := lp_in (c_36) h1 (by omega)
        refine v_iload_n hC (pc := 39) (k := 2) 1 rfl dX6_go_39 ?_
        refine v_aload_n hC (pc := 40) (k := 0) 2 rfl dX6_go_40 ?_
        refine v_getR hC (pc := 41) dX6_go_41 fl_X6_10 rfl (by first | rfl | exact ok_c hq rfl | exact ok_w hq hw | exact ok_w (by omega) (by omega) | exact ok_s (by omega) (by omega) | exact ok_c (by omega) rfl | assumption) rfl (by decide) (by decide) rfl ?_
        refine v_callV hC (pc := 44) (As := []) dX6_go_44 rfl (t_passHour _ _ (d := d - 1) (by omega) (q := 0) (by decide) _ hn4 (by rw [gpH_w]; exact hnw)) cv_X6_168 rfl (by decide) rfl (by first | rfl | exact ok_c hq rfl | exact ok_w hq hw | exact ok_w (by omega) (by omega) | exact ok_s (by omega) (by omega) | exact ok_c (by omega) rfl | assumption) (Nat.le_of_ble_eq_true rfl) (by omega) (fun r h' hr => ?_)
        obtain ⟨rfl, he9⟩ := hr
        rw [he9]
        clear he9 h'
        show V _ _ _ (44 + 3) _ (_ :: _) _
        refine v_iadd hC (pc := 47) dX6_go_47 ?_
        refine v_istore_n hC (pc := 48) (l' := [(2, _), (3, _), (0, _), (1, _)]) dX6_go_48 (by decide) rfl ?_
        refine v_iinc hC (pc := 49) (l' := [(3, _), (2, _), (0, _), (1, _)]) 1 (v := nI (i + 1)) dX6_go_49 rfl (nI_inc i) (by decide) rfl ?_
        refine v_goto hC (pc := 52) (tgt := 34) dX6_go_52 (by decide) ?_
        exact ih (i + 1) (by omega) (by omega)
  refine v_iload_n hC (pc := 0) (k := 1) 1 rfl dX6_go_0 ?_
  refine v_if_lt hC (pc := 1) (tgt := 10) dX6_go_1 (by decide) (fun c_1 => ?_) (fun c_1 => ?_)
  · exact absurd c_1 (nI_pos (by omega))
  · skip
    refine v_iload_n hC (pc := 4) (k := 1) 1 rfl dX6_go_4 ?_
    refine v_bipush hC (pc := 5) (v := 60) (by decide +kernel) dX6_go_5 ?_
    refine v_icmp_le hC (pc := 7) (tgt := 12) dX6_go_7 (by decide) (fun c_7 => ?_) (fun c_7 => ?_)
    · skip
      refine v_aload_n hC (pc := 12) (k := 0) 0 rfl dX6_go_12 ?_
      refine v_getR hC (pc := 13) dX6_go_13 fl_X6_10 rfl (by first | rfl | exact ok_c hq rfl | exact ok_w hq hw | exact ok_w (by omega) (by omega) | exact ok_s (by omega) (by omega) | exact ok_c (by omega) rfl | assumption) rfl (by decide) (by decide) rfl ?_
      refine v_getI hC (pc := 16) dX6_go_16 fl_X6_85 rfl (by first | rfl | exact ok_c hq rfl | exact ok_w hq hw | exact ok_w (by omega) (by omega) | exact ok_s (by omega) (by omega) | exact ok_c (by omega) rfl | assumption) rfl (by decide) (by decide) ?_
      rw [hhr]
      refine v_iload_n hC (pc := 19) (k := 1) 1 rfl dX6_go_19 ?_
      refine v_iadd hC (pc := 20) dX6_go_20 ?_
      refine v_sipush hC (pc := 21) (v := 999) (by decide +kernel) dX6_go_21 ?_
      rw [nI_add]
      refine v_icmp_le hC (pc := 24) (tgt := 30) dX6_go_24 (by decide) (fun c_24 => ?_) (fun c_24 => ?_)
      · skip
        refine v_iconst hC (pc := 30) (v := 0) (by decide) dX6_go_30 ?_
        refine v_istore_n hC (pc := 31) (l' := [(2, _), (0, _), (1, _)]) dX6_go_31 (by decide) rfl ?_
        refine v_iconst hC (pc := 32) (v := 0) (by decide) dX6_go_32 ?_
        refine v_istore_n hC (pc := 33) (l' := [(3, _), (2, _), (0, _), (1, _)]) dX6_go_33 (by decide) rfl ?_
        exact lp (n1 + 1) 0 (by omega) (by omega)
      · exact absurd (nI_le ht (by decide)) c_24
    · exact absurd (nI_le hn (by decide)) c_7

set_option maxRecDepth 20000 in
set_option maxHeartbeats 2000000 in
theorem k_go_full (l9 : Launch) (G : WT) {d : Nat} (hd : 3 ≤ d) (h : HP) {t n1 : Nat} (hhr : h.1 (0, 0, 0) 2 = nI t) (hn : n1 ≤ 60) (ht1 : t < 1000) (ht : ¬ t + n1 ≤ 999) : MS l9 G yX6_go cX6_go 4 (some .int) d [vr (1, 0, 0), vi (nI n1)] h (fun r h1 => h1 = h ∧ r = some (vi (-3))) := by
  refine MS_of (by decide +kernel) (Nat.le_of_ble_eq_true rfl) (fun X hC hX => ?_)
  show V X G 4 0 _ [] _
  refine v_iload_n hC (pc := 0) (k := 1) 1 rfl dX6_go_0 ?_
  refine v_if_lt hC (pc := 1) (tgt := 10) dX6_go_1 (by decide) (fun c_1 => ?_) (fun c_1 => ?_)
  · exact absurd c_1 (nI_pos (by omega))
  · skip
    refine v_iload_n hC (pc := 4) (k := 1) 1 rfl dX6_go_4 ?_
    refine v_bipush hC (pc := 5) (v := 60) (by decide +kernel) dX6_go_5 ?_
    refine v_icmp_le hC (pc := 7) (tgt := 12) dX6_go_7 (by decide) (fun c_7 => ?_) (fun c_7 => ?_)
    · skip
      refine v_aload_n hC (pc := 12) (k := 0) 0 rfl dX6_go_12 ?_
      refine v_getR hC (pc := 13) dX6_go_13 fl_X6_10 rfl (by first | rfl | exact ok_c hq rfl | exact ok_w hq hw | exact ok_w (by omega) (by omega) | exact ok_s (by omega) (by omega) | exact ok_c (by omega) rfl | assumption) rfl (by decide) (by decide) rfl ?_
      refine v_getI hC (pc := 16) dX6_go_16 fl_X6_85 rfl (by first | rfl | exact ok_c hq rfl | exact ok_w hq hw | exact ok_w (by omega) (by omega) | exact ok_s (by omega) (by omega) | exact ok_c (by omega) rfl | assumption) rfl (by decide) (by decide) ?_
      rw [hhr]
      refine v_iload_n hC (pc := 19) (k := 1) 1 rfl dX6_go_19 ?_
      refine v_iadd hC (pc := 20) dX6_go_20 ?_
      refine v_sipush hC (pc := 21) (v := 999) (by decide +kernel) dX6_go_21 ?_
      rw [nI_add]
      refine v_icmp_le hC (pc := 24) (tgt := 30) dX6_go_24 (by decide) (fun c_24 => ?_) (fun c_24 => ?_)
      · exact absurd c_24 (Int32.not_le.mpr (nI_lt (show 999 < t + n1 by omega) (by omega)))
      · skip
        refine v_bipush hC (pc := 27) (v := (-3)) (by decide +kernel) dX6_go_27 ?_
        refine v_iret hC hX (pc := 29) dX6_go_29 ?_
        exact ⟨rfl, rfl⟩
    · exact absurd (nI_le hn (by decide)) c_7

set_option maxRecDepth 20000 in
set_option maxHeartbeats 2000000 in
theorem k_go_bad (l9 : Launch) (G : WT) {d : Nat} (hd : 3 ≤ d) (h : HP) (x : Int32) (hbad : ¬ (¬ x < 0 ∧ ¬ 60 < x)) : MS l9 G yX6_go cX6_go 4 (some .int) d [vr (1, 0, 0), vi x] h (fun r h1 => h1 = h ∧ r = some (vi (-1))) := by
  refine MS_of (by decide +kernel) (Nat.le_of_ble_eq_true rfl) (fun X hC hX => ?_)
  show V X G 4 0 _ [] _
  refine v_iload_n hC (pc := 0) (k := 1) 1 rfl dX6_go_0 ?_
  refine v_if_lt hC (pc := 1) (tgt := 10) dX6_go_1 (by decide) (fun c_1 => ?_) (fun c_1 => ?_)
  · skip
    refine v_iconst hC (pc := 10) (v := (-1)) (by decide) dX6_go_10 ?_
    refine v_iret hC hX (pc := 11) dX6_go_11 ?_
    exact ⟨rfl, rfl⟩
  · skip
    refine v_iload_n hC (pc := 4) (k := 1) 1 rfl dX6_go_4 ?_
    refine v_bipush hC (pc := 5) (v := 60) (by decide +kernel) dX6_go_5 ?_
    refine v_icmp_le hC (pc := 7) (tgt := 12) dX6_go_7 (by decide) (fun c_7 => ?_) (fun c_7 => ?_)
    · skip
      exact absurd (show ¬ x < 0 ∧ ¬ 60 < x from ⟨c_1, Int32.not_lt.mpr c_7⟩) hbad
    · skip
      refine v_iconst hC (pc := 10) (v := (-1)) (by decide) dX6_go_10 ?_
      refine v_iret hC hX (pc := 11) dX6_go_11 ?_
      exact ⟨rfl, rfl⟩

set_option maxRecDepth 20000 in
set_option maxHeartbeats 2000000 in
theorem k_ahead_1 (l9 : Launch) (G : WT) {d : Nat} (hd : 4 ≤ d) (h : HP) {nW : Nat} (hn4 : nW ≤ 4) (hnw : h.1 (0, 0, 0) 4 = nI nW) {w n1 : Nat} (hw : w < nW) (hn : n1 ≤ 60) : MS l9 G yX6_ahead cX6_ahead 5 (some .int) d [vr (1, 0, 0), vi (nI w), vi (nI n1), vi (nI 1)] h (fun r h1 => h1 = h ∧ r = some (vi (if 0 < h.1 (6, 0, w) 4 - h.1 (6, 0, w) 5 - nI n1 then h.1 (6, 0, w) 4 - h.1 (6, 0, w) 5 - nI n1 else 0))) := by
  refine MS_of (by decide +kernel) (Nat.le_of_ble_eq_true rfl) (fun X hC hX => ?_)
  show V X G 5 0 _ [] _
  refine v_aload_n hC (pc := 0) (k := 0) 0 rfl dX6_ahead_0 ?_
  refine v_getR hC (pc := 1) dX6_ahead_1 fl_X6_10 rfl (by first | rfl | exact ok_c hq rfl | exact ok_w hq hw | exact ok_w (by omega) (by omega) | exact ok_s (by omega) (by omega) | exact ok_c (by omega) rfl | assumption) rfl (by decide) (by decide) rfl ?_
  refine v_iload_n hC (pc := 4) (k := 1) 1 rfl dX6_ahead_4 ?_
  refine v_callV hC (pc := 5) (As := [_]) dX6_ahead_5 rfl (t_hasWalker_t _ _ (d := d - 1) (by omega) (q := 0) (by decide) _ (c := w) (by assumption) (by omega) hnw) cv_X6_115 rfl (by decide) rfl (by first | rfl | exact ok_c hq rfl | exact ok_w hq hw | exact ok_w (by omega) (by omega) | exact ok_s (by omega) (by omega) | exact ok_c (by omega) rfl | assumption) (Nat.le_of_ble_eq_true rfl) (by omega) (fun r h' hr => ?_)
  obtain ⟨he9, rfl⟩ := hr
  rw [he9]
  clear he9 h'
  show V _ _ _ (5 + 3) _ (_ :: _) _
  refine v_if_eq hC (pc := 8) (tgt := 28) dX6_ahead_8 (by decide) (fun c_8 => ?_) (fun c_8 => ?_)
  · exact absurd c_8 (by decide)
  · skip
    refine v_iload_n hC (pc := 11) (k := 2) 2 rfl dX6_ahead_11 ?_
    refine v_if_lt hC (pc := 12) (tgt := 28) dX6_ahead_12 (by decide) (fun c_12 => ?_) (fun c_12 => ?_)
    · exact absurd c_12 (nI_pos (by omega))
    · skip
      refine v_iload_n hC (pc := 15) (k := 2) 2 rfl dX6_ahead_15 ?_
      refine v_bipush hC (pc := 16) (v := 60) (by decide +kernel) dX6_ahead_16 ?_
      refine v_icmp_gt hC (pc := 18) (tgt := 28) dX6_ahead_18 (by decide) (fun c_18 => ?_) (fun c_18 => ?_)
      · exact absurd c_18 (nI_nlt hn (by decide))
      · skip
        refine v_iload_n hC (pc := 21) (k := 3) 3 rfl dX6_ahead_21 ?_
        refine v_callS hC (pc := 22) (As := [_]) dX6_ahead_22 rfl (t_isZeroOrOne_t _ _ (d := d - 1) (by omega) _ (s := 1) (by decide)) cs_X6_108 (Nat.le_of_ble_eq_true rfl) (by omega) (fun r h' hr => ?_)
        obtain ⟨he9, rfl⟩ := hr
        rw [he9]
        clear he9 h'
        show V _ _ _ (22 + 3) _ (_ :: _) _
        refine v_if_ne hC (pc := 25) (tgt := 30) dX6_ahead_25 (by decide) (fun c_25 => ?_) (fun c_25 => ?_)
        · skip
          refine v_aload_n hC (pc := 30) (k := 0) 0 rfl dX6_ahead_30 ?_
          refine v_getR hC (pc := 31) dX6_ahead_31 fl_X6_10 rfl (by first | rfl | exact ok_c hq rfl | exact ok_w hq hw | exact ok_w (by omega) (by omega) | exact ok_s (by omega) (by omega) | exact ok_c (by omega) rfl | assumption) rfl (by decide) (by decide) rfl ?_
          refine v_getR hC (pc := 34) dX6_ahead_34 fl_X6_118 rfl (by first | rfl | exact ok_c hq rfl | exact ok_w hq hw | exact ok_w (by omega) (by omega) | exact ok_s (by omega) (by omega) | exact ok_c (by omega) rfl | assumption) rfl (by decide) (by decide) rfl ?_
          refine v_iload_n hC (pc := 37) (k := 1) 1 rfl dX6_ahead_37 ?_
          refine v_aald hC (pc := 38) (j := (6, 0, w)) 5 dX6_ahead_38 rfl (by decide) (fun _ => rfl) (by first | rfl | exact ok_c hq rfl | exact ok_w hq hw | exact ok_w (by omega) (by omega) | exact ok_s (by omega) (by omega) | exact ok_c (by omega) rfl | assumption) (vp_nat (n := w) (by omega) (by decide)) (by rw [nI_clamp (show w < 2 ^ 31 by omega)]; rfl) ?_
          refine v_astore hC (pc := 39) (l' := [(4, _), (0, _), (1, _), (2, _), (3, _)]) dX6_ahead_39 (by decide) rfl ?_
          refine v_iload_n hC (pc := 41) (k := 3) 4 rfl dX6_ahead_41 ?_
          refine v_iconst hC (pc := 42) (v := 1) (by decide) dX6_ahead_42 ?_
          refine v_icmp_ne hC (pc := 43) (tgt := 58) dX6_ahead_43 (by decide) (fun c_43 => ?_) (fun c_43 => ?_)
          · exact absurd rfl c_43
          · skip
            refine v_iconst hC (pc := 46) (v := 0) (by decide) dX6_ahead_46 ?_
            refine v_aload hC (pc := 47) 0 rfl dX6_ahead_47 ?_
            refine v_callV hC (pc := 49) (As := []) dX6_ahead_49 rfl (t_lettersLeft _ _ (d := d - 1) (by omega) (q := 0) (by decide) (w := w) (by omega) _) cv_X6_133 rfl (by decide) rfl (by first | rfl | exact ok_c hq rfl | exact ok_w hq hw | exact ok_w (by omega) (by omega) | exact ok_s (by omega) (by omega) | exact ok_c (by omega) rfl | assumption) (Nat.le_of_ble_eq_true rfl) (by omega) (fun r h' hr => ?_)
            obtain ⟨he9, rfl⟩ := hr
            rw [he9]
            clear he9 h'
            show V _ _ _ (49 + 3) _ (_ :: _) _
            refine v_iload_n hC (pc := 52) (k := 2) 3 rfl dX6_ahead_52 ?_
            refine v_isub hC (pc := 53) dX6_ahead_53 ?_
            refine v_max hC (pc := 54) dX6_ahead_54 ml_X6_171 (Nat.le_of_ble_eq_true rfl) (by omega) ?_
            refine v_iret hC hX (pc := 57) dX6_ahead_57 ?_
            exact ⟨rfl, rfl⟩
        · exact absurd c_25 (by decide)

set_option maxRecDepth 20000 in
set_option maxHeartbeats 2000000 in
theorem k_ahead_0 (l9 : Launch) (G : WT) {d : Nat} (hd : 6 ≤ d) (h : HP) {nW : Nat} (hn4 : nW ≤ 4) (hnw : h.1 (0, 0, 0) 4 = nI nW) {w n1 : Nat} (hw : w < nW) (hn : n1 ≤ 60) : MS l9 G yX6_ahead cX6_ahead 5 (some .int) d [vr (1, 0, 0), vi (nI w), vi (nI n1), vi (nI 0)] h (fun r h1 => h1 = h ∧ r = some (vi (itN (fun i c => nxtH h 0 w c (nI i) (h.1 (6, 0, w) 2)) n1 (h.1 (6, 0, w) 0)))) := by
  refine MS_of (by decide +kernel) (Nat.le_of_ble_eq_true rfl) (fun X hC hX => ?_)
  show V X G 5 0 _ [] _
  refine v_aload_n hC (pc := 0) (k := 0) 0 rfl dX6_ahead_0 ?_
  refine v_getR hC (pc := 1) dX6_ahead_1 fl_X6_10 rfl (by first | rfl | exact ok_c hq rfl | exact ok_w hq hw | exact ok_w (by omega) (by omega) | exact ok_s (by omega) (by omega) | exact ok_c (by omega) rfl | assumption) rfl (by decide) (by decide) rfl ?_
  refine v_iload_n hC (pc := 4) (k := 1) 1 rfl dX6_ahead_4 ?_
  refine v_callV hC (pc := 5) (As := [_]) dX6_ahead_5 rfl (t_hasWalker_t _ _ (d := d - 1) (by omega) (q := 0) (by decide) _ (c := w) (by assumption) (by omega) hnw) cv_X6_115 rfl (by decide) rfl (by first | rfl | exact ok_c hq rfl | exact ok_w hq hw | exact ok_w (by omega) (by omega) | exact ok_s (by omega) (by omega) | exact ok_c (by omega) rfl | assumption) (Nat.le_of_ble_eq_true rfl) (by omega) (fun r h' hr => ?_)
  obtain ⟨he9, rfl⟩ := hr
  rw [he9]
  clear he9 h'
  show V _ _ _ (5 + 3) _ (_ :: _) _
  refine v_if_eq hC (pc := 8) (tgt := 28) dX6_ahead_8 (by decide) (fun c_8 => ?_) (fun c_8 => ?_)
  · exact absurd c_8 (by decide)
  · skip
    refine v_iload_n hC (pc := 11) (k := 2) 2 rfl dX6_ahead_11 ?_
    refine v_if_lt hC (pc := 12) (tgt := 28) dX6_ahead_12 (by decide) (fun c_12 => ?_) (fun c_12 => ?_)
    · exact absurd c_12 (nI_pos (by omega))
    · skip
      refine v_iload_n hC (pc := 15) (k := 2) 2 rfl dX6_ahead_15 ?_
      refine v_bipush hC (pc := 16) (v := 60) (by decide +kernel) dX6_ahead_16 ?_
      refine v_icmp_gt hC (pc := 18) (tgt := 28) dX6_ahead_18 (by decide) (fun c_18 => ?_) (fun c_18 => ?_)
      · exact absurd c_18 (nI_nlt hn (by decide))
      · skip
        refine v_iload_n hC (pc := 21) (k := 3) 3 rfl dX6_ahead_21 ?_
        refine v_callS hC (pc := 22) (As := [_]) dX6_ahead_22 rfl (t_isZeroOrOne_t _ _ (d := d - 1) (by omega) _ (s := 0) (by decide)) cs_X6_108 (Nat.le_of_ble_eq_true rfl) (by omega) (fun r h' hr => ?_)
        obtain ⟨he9, rfl⟩ := hr
        rw [he9]
        clear he9 h'
        show V _ _ _ (22 + 3) _ (_ :: _) _
        refine v_if_ne hC (pc := 25) (tgt := 30) dX6_ahead_25 (by decide) (fun c_25 => ?_) (fun c_25 => ?_)
        · skip
          refine v_aload_n hC (pc := 30) (k := 0) 0 rfl dX6_ahead_30 ?_
          refine v_getR hC (pc := 31) dX6_ahead_31 fl_X6_10 rfl (by first | rfl | exact ok_c hq rfl | exact ok_w hq hw | exact ok_w (by omega) (by omega) | exact ok_s (by omega) (by omega) | exact ok_c (by omega) rfl | assumption) rfl (by decide) (by decide) rfl ?_
          refine v_getR hC (pc := 34) dX6_ahead_34 fl_X6_118 rfl (by first | rfl | exact ok_c hq rfl | exact ok_w hq hw | exact ok_w (by omega) (by omega) | exact ok_s (by omega) (by omega) | exact ok_c (by omega) rfl | assumption) rfl (by decide) (by decide) rfl ?_
          refine v_iload_n hC (pc := 37) (k := 1) 1 rfl dX6_ahead_37 ?_
          refine v_aald hC (pc := 38) (j := (6, 0, w)) 5 dX6_ahead_38 rfl (by decide) (fun _ => rfl) (by first | rfl | exact ok_c hq rfl | exact ok_w hq hw | exact ok_w (by omega) (by omega) | exact ok_s (by omega) (by omega) | exact ok_c (by omega) rfl | assumption) (vp_nat (n := w) (by omega) (by decide)) (by rw [nI_clamp (show w < 2 ^ 31 by omega)]; rfl) ?_
          refine v_astore hC (pc := 39) (l' := [(4, _), (0, _), (1, _), (2, _), (3, _)]) dX6_ahead_39 (by decide) rfl ?_
          refine v_iload_n hC (pc := 41) (k := 3) 4 rfl dX6_ahead_41 ?_
          refine v_iconst hC (pc := 42) (v := 1) (by decide) dX6_ahead_42 ?_
          refine v_icmp_ne hC (pc := 43) (tgt := 58) dX6_ahead_43 (by decide) (fun c_43 => ?_) (fun c_43 => ?_)
          · skip
            refine v_aload_n hC (pc := 58) (k := 0) 1 rfl dX6_ahead_58 ?_
            refine v_getR hC (pc := 59) dX6_ahead_59 fl_X6_10 rfl (by first | rfl | exact ok_c hq rfl | exact ok_w hq hw | exact ok_w (by omega) (by omega) | exact ok_s (by omega) (by omega) | exact ok_c (by omega) rfl | assumption) rfl (by decide) (by decide) rfl ?_
            refine v_aload hC (pc := 62) 0 rfl dX6_ahead_62 ?_
            refine v_aload hC (pc := 64) 0 rfl dX6_ahead_64 ?_
            refine v_getI hC (pc := 66) dX6_ahead_66 fl_X6_122 rfl (by first | rfl | exact ok_c hq rfl | exact ok_w hq hw | exact ok_w (by omega) (by omega) | exact ok_s (by omega) (by omega) | exact ok_c (by omega) rfl | assumption) rfl (by decide) (by decide) ?_
            refine v_iload_n hC (pc := 69) (k := 2) 3 rfl dX6_ahead_69 ?_
            refine v_aload hC (pc := 70) 0 rfl dX6_ahead_70 ?_
            refine v_getZ hC (pc := 72) dX6_ahead_72 fl_X6_129 rfl (by first | rfl | exact ok_c hq rfl | exact ok_w hq hw | exact ok_w (by omega) (by omega) | exact ok_s (by omega) (by omega) | exact ok_c (by omega) rfl | assumption) rfl (by decide) (by decide) ?_
            refine v_callV hC (pc := 75) (As := [_, _, _, _]) dX6_ahead_75 rfl (t_placeBehind _ _ (d := d - 1) (by omega) (q := 0) (by decide) (w := w) (by omega) _ _ _ (N := n1) (by omega)) cv_X6_176 rfl (by decide) rfl (by first | rfl | exact ok_c hq rfl | exact ok_w hq hw | exact ok_w (by omega) (by omega) | exact ok_s (by omega) (by omega) | exact ok_c (by omega) rfl | assumption) (Nat.le_of_ble_eq_true rfl) (by omega) (fun r h' hr => ?_)
            obtain ⟨he9, rfl⟩ := hr
            rw [he9]
            clear he9 h'
            show V _ _ _ (75 + 3) _ (_ :: _) _
            refine v_iret hC hX (pc := 78) dX6_ahead_78 ?_
            exact ⟨rfl, rfl⟩
          · exact absurd c_43 (by decide)
        · exact absurd c_25 (by decide)

set_option maxRecDepth 20000 in
set_option maxHeartbeats 2000000 in
theorem k_ahead_bad (l9 : Launch) (G : WT) {d : Nat} (hd : 3 ≤ d) (h : HP) {nW : Nat} (hn4 : nW ≤ 4) (hnw : h.1 (0, 0, 0) 4 = nI nW) (w n x : Int32) (hbad : ¬ ((¬ w < 0 ∧ ¬ nI nW ≤ w) ∧ (¬ n < 0 ∧ ¬ 60 < n) ∧ (x = 0 ∨ x = 1))) : MS l9 G yX6_ahead cX6_ahead 5 (some .int) d [vr (1, 0, 0), vi w, vi n, vi x] h (fun r h1 => h1 = h ∧ r = some (vi (-1))) := by
  refine MS_of (by decide +kernel) (Nat.le_of_ble_eq_true rfl) (fun X hC hX => ?_)
  show V X G 5 0 _ [] _
  refine v_aload_n hC (pc := 0) (k := 0) 0 rfl dX6_ahead_0 ?_
  refine v_getR hC (pc := 1) dX6_ahead_1 fl_X6_10 rfl (by first | rfl | exact ok_c hq rfl | exact ok_w hq hw | exact ok_w (by omega) (by omega) | exact ok_s (by omega) (by omega) | exact ok_c (by omega) rfl | assumption) rfl (by decide) (by decide) rfl ?_
  refine v_iload_n hC (pc := 4) (k := 1) 1 rfl dX6_ahead_4 ?_
  refine v_callV hC (pc := 5) (As := [_]) dX6_ahead_5 rfl (t_hasWalker _ _ (d := d - 1) (by omega) (q := 0) (by decide) _ _) cv_X6_115 rfl (by decide) rfl (by first | rfl | exact ok_c hq rfl | exact ok_w hq hw | exact ok_w (by omega) (by omega) | exact ok_s (by omega) (by omega) | exact ok_c (by omega) rfl | assumption) (Nat.le_of_ble_eq_true rfl) (by omega) (fun r h' hr => ?_)
  obtain ⟨he9, rfl⟩ := hr
  rw [he9, hnw]
  clear he9 h'
  show V _ _ _ (5 + 3) _ (_ :: _) _
  refine v_ifb_eq hC (pc := 8) (tgt := 28) dX6_ahead_8 (by decide) (fun c_8 => ?_) (fun c_8 => ?_)
  · skip
    refine v_iconst hC (pc := 28) (v := (-1)) (by decide) dX6_ahead_28 ?_
    refine v_iret hC hX (pc := 29) dX6_ahead_29 ?_
    exact ⟨rfl, rfl⟩
  · skip
    refine v_iload_n hC (pc := 11) (k := 2) 2 rfl dX6_ahead_11 ?_
    refine v_if_lt hC (pc := 12) (tgt := 28) dX6_ahead_12 (by decide) (fun c_12 => ?_) (fun c_12 => ?_)
    · skip
      refine v_iconst hC (pc := 28) (v := (-1)) (by decide) dX6_ahead_28 ?_
      refine v_iret hC hX (pc := 29) dX6_ahead_29 ?_
      exact ⟨rfl, rfl⟩
    · skip
      refine v_iload_n hC (pc := 15) (k := 2) 2 rfl dX6_ahead_15 ?_
      refine v_bipush hC (pc := 16) (v := 60) (by decide +kernel) dX6_ahead_16 ?_
      refine v_icmp_gt hC (pc := 18) (tgt := 28) dX6_ahead_18 (by decide) (fun c_18 => ?_) (fun c_18 => ?_)
      · skip
        refine v_iconst hC (pc := 28) (v := (-1)) (by decide) dX6_ahead_28 ?_
        refine v_iret hC hX (pc := 29) dX6_ahead_29 ?_
        exact ⟨rfl, rfl⟩
      · skip
        refine v_iload_n hC (pc := 21) (k := 3) 3 rfl dX6_ahead_21 ?_
        refine v_callS hC (pc := 22) (As := [_]) dX6_ahead_22 rfl (t_isZeroOrOne _ _ (d := d - 1) (by omega) _ _) cs_X6_108 (Nat.le_of_ble_eq_true rfl) (by omega) (fun r h' hr => ?_)
        obtain ⟨he9, rfl⟩ := hr
        rw [he9]
        clear he9 h'
        show V _ _ _ (22 + 3) _ (_ :: _) _
        refine v_ifb_ne hC (pc := 25) (tgt := 30) dX6_ahead_25 (by decide) (fun c_25 => ?_) (fun c_25 => ?_)
        · skip
          exact absurd (show _ ∧ _ ∧ _ from ⟨c_8, ⟨c_12, c_18⟩, c_25⟩) hbad
        · skip
          refine v_iconst hC (pc := 28) (v := (-1)) (by decide) dX6_ahead_28 ?_
          refine v_iret hC hX (pc := 29) dX6_ahead_29 ?_
          exact ⟨rfl, rfl⟩

/-- where a walker is behind i hours from now on -/
def wyC (h : HP) (w i : Nat) : Int32 := itN (fun i c => nxtH h 0 w c (nI i) (h.1 (6, 0, w) 2)) i (h.1 (6, 0, w) 0)
def hoC (h : HP) (w v i : Nat) : Prop := ¬ wyC h w i = wyC h w (i + 1) ∧ wyC h w (i + 1) = wyC h v i ∧ wyC h w i = wyC h v (i + 1)
set_option maxRecDepth 20000 in
set_option maxHeartbeats 2000000 in
theorem k_clash_ok (l9 : Launch) (G : WT) {d : Nat} (hd : 5 ≤ d) (h : HP) {nW : Nat} (hn4 : nW ≤ 4) (hnw : h.1 (0, 0, 0) 4 = nI nW) {w v : Nat} (hw : w < nW) (hv : v < nW) (hne : ¬ w = v) : MS l9 G yX6_clash cX6_clash 10 (some .int) d [vr (1, 0, 0), vi (nI w), vi (nI v)] h (fun r h1 => h1 = h ∧ ((∃ i, i < 10 ∧ r = some (vi (nI (i + 1))) ∧ hoC h w v i ∧ ∀ j, j < i → ¬ hoC h w v j) ∨ (r = some (vi (-4)) ∧ ∀ j, j < 10 → ¬ hoC h w v j))) := by
  refine MS_of (by decide +kernel) (Nat.le_of_ble_eq_true rfl) (fun X hC hX => ?_)
  show V X G 10 0 _ [] _
  have lp : ∀ (n i : Nat) , i ≤ 10 → 10 + 1 ≤ i + n → (∀ j, j < i → ¬ hoC h w v j) → V X G 10 66 [(7, vi (nI i)), (6, vi (wyC h v i)), (5, vi (wyC h w i)), (4, vr (6, 0, v)), (3, vr (6, 0, w)), (0, vr (1, 0, 0)), (1, vi (nI w)), (2, vi (nI v))] [] (h) := by
    intro n
    induction n with
    | zero => intro i  h1 h2; exact absurd h2 (by omega)
    | succ n ih =>
      intro i  h1 h2 ha
      refine v_iload hC (pc := 66) 0 rfl dX6_clash_66 ?_
      refine v_bipush hC (pc := 68) (v := 10) (by decide +kernel) dX6_clash_68 ?_
      refine v_icmp_ge hC (pc := 70) (tgt := 144) dX6_clash_70 (by decide) (fun c_70 => ?_) (fun c_70 => ?_)
      · skip
        have hi : i = 10 := lp_ex (c_70) h1 (by decide)
        refine v_bipush hC (pc := 144) (v := (-4)) (by decide +kernel) dX6_clash_144 ?_
        refine v_iret hC hX (pc := 146) dX6_clash_146 ?_
        subst hi
        exact ⟨rfl, Or.inr ⟨rfl, ha⟩⟩
      · skip
        have hi : i < 10 := lp_in (c_70) h1 (by decide)
        refine v_aload_n hC (pc := 73) (k := 0) 5 rfl dX6_clash_73 ?_
        refine v_getR hC (pc := 74) dX6_clash_74 fl_X6_10 rfl (by first | rfl | exact ok_c hq rfl | exact ok_w hq hw | exact ok_w (by omega) (by omega) | exact ok_s (by omega) (by omega) | exact ok_c (by omega) rfl | assumption) rfl (by decide) (by decide) rfl ?_
        refine v_aload_n hC (pc := 77) (k := 3) 4 rfl dX6_clash_77 ?_
        refine v_iload hC (pc := 78) 2 rfl dX6_clash_78 ?_
        refine v_iload hC (pc := 80) 0 rfl dX6_clash_80 ?_
        refine v_aload_n hC (pc := 82) (k := 3) 4 rfl dX6_clash_82 ?_
        refine v_getZ hC (pc := 83) dX6_clash_83 fl_X6_129 rfl (by first | rfl | exact ok_c hq rfl | exact ok_w hq hw | exact ok_w (by omega) (by omega) | exact ok_s (by omega) (by omega) | exact ok_c (by omega) rfl | assumption) rfl (by decide) (by decide) ?_
        refine v_callV hC (pc := 86) (As := [_, _, _, _]) dX6_clash_86 rfl (t_nextPlace _ _ (d := d - 1) (by omega) (q := 0) (by decide) (w := w) (by omega) _ _ _ _) cv_X6_180 rfl (by decide) rfl (by first | rfl | exact ok_c hq rfl | exact ok_w hq hw | exact ok_w (by omega) (by omega) | exact ok_s (by omega) (by omega) | exact ok_c (by omega) rfl | assumption) (Nat.le_of_ble_eq_true rfl) (by omega) (fun r h' hr => ?_)
        obtain ⟨he9, rfl⟩ := hr
        rw [he9]
        clear he9 h'
        show V _ _ _ (86 + 3) _ (_ :: _) _
        refine v_istore hC (pc := 89) (l' := [(8, _), (7, _), (6, _), (5, _), (4, _), (3, _), (0, _), (1, _), (2, _)]) dX6_clash_89 (by decide) rfl ?_
        refine v_aload_n hC (pc := 91) (k := 0) 6 rfl dX6_clash_91 ?_
        refine v_getR hC (pc := 92) dX6_clash_92 fl_X6_10 rfl (by first | rfl | exact ok_c hq rfl | exact ok_w hq hw | exact ok_w (by omega) (by omega) | exact ok_s (by omega) (by omega) | exact ok_c (by omega) rfl | assumption) rfl (by decide) (by decide) rfl ?_
        refine v_aload hC (pc := 95) 4 rfl dX6_clash_95 ?_
        refine v_iload hC (pc := 97) 2 rfl dX6_clash_97 ?_
        refine v_iload hC (pc := 99) 1 rfl dX6_clash_99 ?_
        refine v_aload hC (pc := 101) 4 rfl dX6_clash_101 ?_
        refine v_getZ hC (pc := 103) dX6_clash_103 fl_X6_129 rfl (by first | rfl | exact ok_c hq rfl | exact ok_w hq hw | exact ok_w (by omega) (by omega) | exact ok_s (by omega) (by omega) | exact ok_c (by omega) rfl | assumption) rfl (by decide) (by decide) ?_
        refine v_callV hC (pc := 106) (As := [_, _, _, _]) dX6_clash_106 rfl (t_nextPlace _ _ (d := d - 1) (by omega) (q := 0) (by decide) (w := v) (by omega) _ _ _ _) cv_X6_180 rfl (by decide) rfl (by first | rfl | exact ok_c hq rfl | exact ok_w hq hw | exact ok_w (by omega) (by omega) | exact ok_s (by omega) (by omega) | exact ok_c (by omega) rfl | assumption) (Nat.le_of_ble_eq_true rfl) (by omega) (fun r h' hr => ?_)
        obtain ⟨he9, rfl⟩ := hr
        rw [he9]
        clear he9 h'
        show V _ _ _ (106 + 3) _ (_ :: _) _
        refine v_istore hC (pc := 109) (l' := [(9, _), (8, _), (7, _), (6, _), (5, _), (4, _), (3, _), (0, _), (1, _), (2, _)]) dX6_clash_109 (by decide) rfl ?_
        refine v_iload hC (pc := 111) 4 rfl dX6_clash_111 ?_
        refine v_iload hC (pc := 113) 1 rfl dX6_clash_113 ?_
        refine v_iload hC (pc := 115) 3 rfl dX6_clash_115 ?_
        refine v_iload hC (pc := 117) 0 rfl dX6_clash_117 ?_
        refine v_callS hC (pc := 119) (As := [_, _, _, _]) dX6_clash_119 rfl (t_isHeadOn _ _ (d := d - 1) (by omega) _ _ _ _ _) cs_X6_183 (Nat.le_of_ble_eq_true rfl) (by omega) (fun r h' hr => ?_)
        obtain ⟨he9, rfl⟩ := hr
        rw [he9]
        clear he9 h'
        show V _ _ _ (119 + 3) _ (_ :: _) _
        refine v_ifb_eq hC (pc := 122) (tgt := 130) dX6_clash_122 (by decide) (fun c_122 => ?_) (fun c_122 => ?_)
        · skip
          refine v_iload hC (pc := 130) 1 rfl dX6_clash_130 ?_
          refine v_istore hC (pc := 132) (l' := [(5, _), (9, _), (8, _), (7, _), (6, _), (4, _), (3, _), (0, _), (1, _), (2, _)]) dX6_clash_132 (by decide) rfl ?_
          refine v_iload hC (pc := 134) 1 rfl dX6_clash_134 ?_
          refine v_istore hC (pc := 136) (l' := [(6, _), (5, _), (9, _), (8, _), (7, _), (4, _), (3, _), (0, _), (1, _), (2, _)]) dX6_clash_136 (by decide) rfl ?_
          refine v_iinc hC (pc := 138) (l' := [(7, _), (6, _), (5, _), (9, _), (8, _), (4, _), (3, _), (0, _), (1, _), (2, _)]) 4 (v := nI (i + 1)) dX6_clash_138 rfl (nI_inc i) (by decide) rfl ?_
          refine v_goto hC (pc := 141) (tgt := 66) dX6_clash_141 (by decide) ?_
          refine v_loc (l' := [(7, _), (6, _), (5, _), (4, _), (3, _), (0, _), (1, _), (2, _)]) [0, 1, 2, 5, 6, 7, 8, 9] rfl ?_
          refine ih (i + 1) (by omega) (by omega) (fun j hj => ?_)
          rcases (show j < i ∨ j = i by omega) with q | rfl
          · exact ha j q
          · exact c_122
        · skip
          refine v_iload hC (pc := 125) 2 rfl dX6_clash_125 ?_
          refine v_iconst hC (pc := 127) (v := 1) (by decide) dX6_clash_127 ?_
          refine v_iadd hC (pc := 128) dX6_clash_128 ?_
          refine v_iret hC hX (pc := 129) dX6_clash_129 ?_
          exact ⟨rfl, Or.inl ⟨i, hi, by rw [nI_1], c_122, ha⟩⟩
  refine v_aload_n hC (pc := 0) (k := 0) 0 rfl dX6_clash_0 ?_
  refine v_getR hC (pc := 1) dX6_clash_1 fl_X6_10 rfl (by first | rfl | exact ok_c hq rfl | exact ok_w hq hw | exact ok_w (by omega) (by omega) | exact ok_s (by omega) (by omega) | exact ok_c (by omega) rfl | assumption) rfl (by decide) (by decide) rfl ?_
  refine v_iload_n hC (pc := 4) (k := 1) 1 rfl dX6_clash_4 ?_
  refine v_callV hC (pc := 5) (As := [_]) dX6_clash_5 rfl (t_hasWalker_t _ _ (d := d - 1) (by omega) (q := 0) (by decide) _ (c := w) (by assumption) (by omega) hnw) cv_X6_115 rfl (by decide) rfl (by first | rfl | exact ok_c hq rfl | exact ok_w hq hw | exact ok_w (by omega) (by omega) | exact ok_s (by omega) (by omega) | exact ok_c (by omega) rfl | assumption) (Nat.le_of_ble_eq_true rfl) (by omega) (fun r h' hr => ?_)
  obtain ⟨he9, rfl⟩ := hr
  rw [he9]
  clear he9 h'
  show V _ _ _ (5 + 3) _ (_ :: _) _
  refine v_if_eq hC (pc := 8) (tgt := 27) dX6_clash_8 (by decide) (fun c_8 => ?_) (fun c_8 => ?_)
  · exact absurd c_8 (by decide)
  · skip
    refine v_aload_n hC (pc := 11) (k := 0) 0 rfl dX6_clash_11 ?_
    refine v_getR hC (pc := 12) dX6_clash_12 fl_X6_10 rfl (by first | rfl | exact ok_c hq rfl | exact ok_w hq hw | exact ok_w (by omega) (by omega) | exact ok_s (by omega) (by omega) | exact ok_c (by omega) rfl | assumption) rfl (by decide) (by decide) rfl ?_
    refine v_iload_n hC (pc := 15) (k := 2) 2 rfl dX6_clash_15 ?_
    refine v_callV hC (pc := 16) (As := [_]) dX6_clash_16 rfl (t_hasWalker_t _ _ (d := d - 1) (by omega) (q := 0) (by decide) _ (c := v) (by assumption) (by omega) hnw) cv_X6_115 rfl (by decide) rfl (by first | rfl | exact ok_c hq rfl | exact ok_w hq hw | exact ok_w (by omega) (by omega) | exact ok_s (by omega) (by omega) | exact ok_c (by omega) rfl | assumption) (Nat.le_of_ble_eq_true rfl) (by omega) (fun r h' hr => ?_)
    obtain ⟨he9, rfl⟩ := hr
    rw [he9]
    clear he9 h'
    show V _ _ _ (16 + 3) _ (_ :: _) _
    refine v_if_eq hC (pc := 19) (tgt := 27) dX6_clash_19 (by decide) (fun c_19 => ?_) (fun c_19 => ?_)
    · exact absurd c_19 (by decide)
    · skip
      refine v_iload_n hC (pc := 22) (k := 1) 1 rfl dX6_clash_22 ?_
      refine v_iload_n hC (pc := 23) (k := 2) 2 rfl dX6_clash_23 ?_
      refine v_icmp_ne hC (pc := 24) (tgt := 29) dX6_clash_24 (by decide) (fun c_24 => ?_) (fun c_24 => ?_)
      · skip
        refine v_aload_n hC (pc := 29) (k := 0) 0 rfl dX6_clash_29 ?_
        refine v_getR hC (pc := 30) dX6_clash_30 fl_X6_10 rfl (by first | rfl | exact ok_c hq rfl | exact ok_w hq hw | exact ok_w (by omega) (by omega) | exact ok_s (by omega) (by omega) | exact ok_c (by omega) rfl | assumption) rfl (by decide) (by decide) rfl ?_
        refine v_getR hC (pc := 33) dX6_clash_33 fl_X6_118 rfl (by first | rfl | exact ok_c hq rfl | exact ok_w hq hw | exact ok_w (by omega) (by omega) | exact ok_s (by omega) (by omega) | exact ok_c (by omega) rfl | assumption) rfl (by decide) (by decide) rfl ?_
        refine v_iload_n hC (pc := 36) (k := 1) 1 rfl dX6_clash_36 ?_
        refine v_aald hC (pc := 37) (j := (6, 0, w)) 5 dX6_clash_37 rfl (by decide) (fun _ => rfl) (by first | rfl | exact ok_c hq rfl | exact ok_w hq hw | exact ok_w (by omega) (by omega) | exact ok_s (by omega) (by omega) | exact ok_c (by omega) rfl | assumption) (vp_nat (n := w) (by omega) (by decide)) (by rw [nI_clamp (show w < 2 ^ 31 by omega)]; rfl) ?_
        refine v_astore_n hC (pc := 38) (l' := [(3, _), (0, _), (1, _), (2, _)]) dX6_clash_38 (by decide) rfl ?_
        refine v_aload_n hC (pc := 39) (k := 0) 1 rfl dX6_clash_39 ?_
        refine v_getR hC (pc := 40) dX6_clash_40 fl_X6_10 rfl (by first | rfl | exact ok_c hq rfl | exact ok_w hq hw | exact ok_w (by omega) (by omega) | exact ok_s (by omega) (by omega) | exact ok_c (by omega) rfl | assumption) rfl (by decide) (by decide) rfl ?_
        refine v_getR hC (pc := 43) dX6_clash_43 fl_X6_118 rfl (by first | rfl | exact ok_c hq rfl | exact ok_w hq hw | exact ok_w (by omega) (by omega) | exact ok_s (by omega) (by omega) | exact ok_c (by omega) rfl | assumption) rfl (by decide) (by decide) rfl ?_
        refine v_iload_n hC (pc := 46) (k := 2) 3 rfl dX6_clash_46 ?_
        refine v_aald hC (pc := 47) (j := (6, 0, v)) 5 dX6_clash_47 rfl (by decide) (fun _ => rfl) (by first | rfl | exact ok_c hq rfl | exact ok_w hq hw | exact ok_w (by omega) (by omega) | exact ok_s (by omega) (by omega) | exact ok_c (by omega) rfl | assumption) (vp_nat (n := v) (by omega) (by decide)) (by rw [nI_clamp (show v < 2 ^ 31 by omega)]; rfl) ?_
        refine v_astore hC (pc := 48) (l' := [(4, _), (3, _), (0, _), (1, _), (2, _)]) dX6_clash_48 (by decide) rfl ?_
        refine v_aload_n hC (pc := 50) (k := 3) 1 rfl dX6_clash_50 ?_
        refine v_getI hC (pc := 51) dX6_clash_51 fl_X6_122 rfl (by first | rfl | exact ok_c hq rfl | exact ok_w hq hw | exact ok_w (by omega) (by omega) | exact ok_s (by omega) (by omega) | exact ok_c (by omega) rfl | assumption) rfl (by decide) (by decide) ?_
        refine v_istore hC (pc := 54) (l' := [(5, _), (4, _), (3, _), (0, _), (1, _), (2, _)]) dX6_clash_54 (by decide) rfl ?_
        refine v_aload hC (pc := 56) 1 rfl dX6_clash_56 ?_
        refine v_getI hC (pc := 58) dX6_clash_58 fl_X6_122 rfl (by first | rfl | exact ok_c hq rfl | exact ok_w hq hw | exact ok_w (by omega) (by omega) | exact ok_s (by omega) (by omega) | exact ok_c (by omega) rfl | assumption) rfl (by decide) (by decide) ?_
        refine v_istore hC (pc := 61) (l' := [(6, _), (5, _), (4, _), (3, _), (0, _), (1, _), (2, _)]) dX6_clash_61 (by decide) rfl ?_
        refine v_iconst hC (pc := 63) (v := 0) (by decide) dX6_clash_63 ?_
        refine v_istore hC (pc := 64) (l' := [(7, _), (6, _), (5, _), (4, _), (3, _), (0, _), (1, _), (2, _)]) dX6_clash_64 (by decide) rfl ?_
        exact lp 11 0 (by omega) (by omega) (fun j hj => absurd hj (Nat.not_lt_zero _))
      · exact absurd ((nI_eq (by omega) (by omega)).mp c_24) hne

set_option maxRecDepth 20000 in
set_option maxHeartbeats 2000000 in
theorem k_clash_bad (l9 : Launch) (G : WT) {d : Nat} (hd : 3 ≤ d) (h : HP) {nW : Nat} (hn4 : nW ≤ 4) (hnw : h.1 (0, 0, 0) 4 = nI nW) (w v : Int32) (hbad : ¬ ((¬ w < 0 ∧ ¬ nI nW ≤ w) ∧ (¬ v < 0 ∧ ¬ nI nW ≤ v) ∧ ¬ w = v)) : MS l9 G yX6_clash cX6_clash 10 (some .int) d [vr (1, 0, 0), vi w, vi v] h (fun r h1 => h1 = h ∧ r = some (vi (-1))) := by
  refine MS_of (by decide +kernel) (Nat.le_of_ble_eq_true rfl) (fun X hC hX => ?_)
  show V X G 10 0 _ [] _
  refine v_aload_n hC (pc := 0) (k := 0) 0 rfl dX6_clash_0 ?_
  refine v_getR hC (pc := 1) dX6_clash_1 fl_X6_10 rfl (by first | rfl | exact ok_c hq rfl | exact ok_w hq hw | exact ok_w (by omega) (by omega) | exact ok_s (by omega) (by omega) | exact ok_c (by omega) rfl | assumption) rfl (by decide) (by decide) rfl ?_
  refine v_iload_n hC (pc := 4) (k := 1) 1 rfl dX6_clash_4 ?_
  refine v_callV hC (pc := 5) (As := [_]) dX6_clash_5 rfl (t_hasWalker _ _ (d := d - 1) (by omega) (q := 0) (by decide) _ _) cv_X6_115 rfl (by decide) rfl (by first | rfl | exact ok_c hq rfl | exact ok_w hq hw | exact ok_w (by omega) (by omega) | exact ok_s (by omega) (by omega) | exact ok_c (by omega) rfl | assumption) (Nat.le_of_ble_eq_true rfl) (by omega) (fun r h' hr => ?_)
  obtain ⟨he9, rfl⟩ := hr
  rw [he9, hnw]
  clear he9 h'
  show V _ _ _ (5 + 3) _ (_ :: _) _
  refine v_ifb_eq hC (pc := 8) (tgt := 27) dX6_clash_8 (by decide) (fun c_8 => ?_) (fun c_8 => ?_)
  · skip
    refine v_iconst hC (pc := 27) (v := (-1)) (by decide) dX6_clash_27 ?_
    refine v_iret hC hX (pc := 28) dX6_clash_28 ?_
    exact ⟨rfl, rfl⟩
  · skip
    refine v_aload_n hC (pc := 11) (k := 0) 0 rfl dX6_clash_11 ?_
    refine v_getR hC (pc := 12) dX6_clash_12 fl_X6_10 rfl (by first | rfl | exact ok_c hq rfl | exact ok_w hq hw | exact ok_w (by omega) (by omega) | exact ok_s (by omega) (by omega) | exact ok_c (by omega) rfl | assumption) rfl (by decide) (by decide) rfl ?_
    refine v_iload_n hC (pc := 15) (k := 2) 2 rfl dX6_clash_15 ?_
    refine v_callV hC (pc := 16) (As := [_]) dX6_clash_16 rfl (t_hasWalker _ _ (d := d - 1) (by omega) (q := 0) (by decide) _ _) cv_X6_115 rfl (by decide) rfl (by first | rfl | exact ok_c hq rfl | exact ok_w hq hw | exact ok_w (by omega) (by omega) | exact ok_s (by omega) (by omega) | exact ok_c (by omega) rfl | assumption) (Nat.le_of_ble_eq_true rfl) (by omega) (fun r h' hr => ?_)
    obtain ⟨he9, rfl⟩ := hr
    rw [he9, hnw]
    clear he9 h'
    show V _ _ _ (16 + 3) _ (_ :: _) _
    refine v_ifb_eq hC (pc := 19) (tgt := 27) dX6_clash_19 (by decide) (fun c_19 => ?_) (fun c_19 => ?_)
    · skip
      refine v_iconst hC (pc := 27) (v := (-1)) (by decide) dX6_clash_27 ?_
      refine v_iret hC hX (pc := 28) dX6_clash_28 ?_
      exact ⟨rfl, rfl⟩
    · skip
      refine v_iload_n hC (pc := 22) (k := 1) 1 rfl dX6_clash_22 ?_
      refine v_iload_n hC (pc := 23) (k := 2) 2 rfl dX6_clash_23 ?_
      refine v_icmp_ne hC (pc := 24) (tgt := 29) dX6_clash_24 (by decide) (fun c_24 => ?_) (fun c_24 => ?_)
      · skip
        exact absurd (show _ ∧ _ ∧ _ from ⟨c_8, c_19, c_24⟩) hbad
      · skip
        refine v_iconst hC (pc := 27) (v := (-1)) (by decide) dX6_clash_27 ?_
        refine v_iret hC hX (pc := 28) dX6_clash_28 ?_
        exact ⟨rfl, rfl⟩

set_option maxRecDepth 20000 in
set_option maxHeartbeats 2000000 in
theorem k_shake_ok (l9 : Launch) (G : WT) {d : Nat} (hd : 5 ≤ d) (h : HP) {nW : Nat} (hn4 : nW ≤ 4) (hnw : h.1 (0, 0, 0) 4 = nI nW) {w v : Nat} (hw : w < nW) (hv : v < nW) (hne : ¬ w = v) : MS l9 G yX6_shake cX6_shake 4 (some .int) d [vr (1, 0, 0), vi (nI w), vi (nI v)] h (fun r h1 => h1 = h ∧ ((∃ k, k < 24 ∧ hndF (h.1 (6, 0, w) 1) (h.1 (6, 0, w) 2) (nI k) = hndF (h.1 (6, 0, v) 1) (h.1 (6, 0, v) 2) (nI k) ∧ (∀ m, m < k → ¬ hndF (h.1 (6, 0, w) 1) (h.1 (6, 0, w) 2) (nI m) = hndF (h.1 (6, 0, v) 1) (h.1 (6, 0, v) 2) (nI m)) ∧ r = some (vi (nI k))) ∨ (r = some (vi (-4)) ∧ ∀ m, m < 24 → ¬ hndF (h.1 (6, 0, w) 1) (h.1 (6, 0, w) 2) (nI m) = hndF (h.1 (6, 0, v) 1) (h.1 (6, 0, v) 2) (nI m)))) := by
  refine MS_of (by decide +kernel) (Nat.le_of_ble_eq_true rfl) (fun X hC hX => ?_)
  show V X G 4 0 _ [] _
  have lp : ∀ (n i : Nat) , i ≤ 24 → 24 + 1 ≤ i + n → (∀ j, j < i → ¬ hndF (h.1 (6, 0, w) 1) (h.1 (6, 0, w) 2) (nI j) = hndF (h.1 (6, 0, v) 1) (h.1 (6, 0, v) 2) (nI j)) → V X G 4 31 [(3, vi (nI i)), (0, vr (1, 0, 0)), (1, vi (nI w)), (2, vi (nI v))] [] (h) := by
    intro n
    induction n with
    | zero => intro i  h1 h2; exact absurd h2 (by omega)
    | succ n ih =>
      intro i  h1 h2 ha
      refine v_iload_n hC (pc := 31) (k := 3) 0 rfl dX6_shake_31 ?_
      refine v_bipush hC (pc := 32) (v := 24) (by decide +kernel) dX6_shake_32 ?_
      refine v_icmp_ge hC (pc := 34) (tgt := 74) dX6_shake_34 (by decide) (fun c_34 => ?_) (fun c_34 => ?_)
      · skip
        have hi : i = 24 := lp_ex (c_34) h1 (by decide)
        refine v_bipush hC (pc := 74) (v := (-4)) (by decide +kernel) dX6_shake_74 ?_
        refine v_iret hC hX (pc := 76) dX6_shake_76 ?_
        subst hi
        exact ⟨rfl, Or.inr ⟨rfl, ha⟩⟩
      · skip
        have hi : i < 24 := lp_in (c_34) h1 (by decide)
        refine v_aload_n hC (pc := 37) (k := 0) 1 rfl dX6_shake_37 ?_
        refine v_getR hC (pc := 38) dX6_shake_38 fl_X6_10 rfl (by first | rfl | exact ok_c hq rfl | exact ok_w hq hw | exact ok_w (by omega) (by omega) | exact ok_s (by omega) (by omega) | exact ok_c (by omega) rfl | assumption) rfl (by decide) (by decide) rfl ?_
        refine v_getR hC (pc := 41) dX6_shake_41 fl_X6_118 rfl (by first | rfl | exact ok_c hq rfl | exact ok_w hq hw | exact ok_w (by omega) (by omega) | exact ok_s (by omega) (by omega) | exact ok_c (by omega) rfl | assumption) rfl (by decide) (by decide) rfl ?_
        refine v_iload_n hC (pc := 44) (k := 1) 2 rfl dX6_shake_44 ?_
        refine v_aald hC (pc := 45) (j := (6, 0, w)) 5 dX6_shake_45 rfl (by decide) (fun _ => rfl) (by first | rfl | exact ok_c hq rfl | exact ok_w hq hw | exact ok_w (by omega) (by omega) | exact ok_s (by omega) (by omega) | exact ok_c (by omega) rfl | assumption) (vp_nat (n := w) (by omega) (by decide)) (by rw [nI_clamp (show w < 2 ^ 31 by omega)]; rfl) ?_
        refine v_iload_n hC (pc := 46) (k := 3) 0 rfl dX6_shake_46 ?_
        refine v_callV hC (pc := 47) (As := [_]) dX6_shake_47 rfl (t_handIn _ _ (d := d - 1) (by omega) (q := 0) (by decide) (w := w) (by omega) _ _) cv_X6_125 rfl (by decide) rfl (by first | rfl | exact ok_c hq rfl | exact ok_w hq hw | exact ok_w (by omega) (by omega) | exact ok_s (by omega) (by omega) | exact ok_c (by omega) rfl | assumption) (Nat.le_of_ble_eq_true rfl) (by omega) (fun r h' hr => ?_)
        obtain ⟨he9, rfl⟩ := hr
        rw [he9]
        clear he9 h'
        show V _ _ _ (47 + 3) _ (_ :: _) _
        refine v_aload_n hC (pc := 50) (k := 0) 1 rfl dX6_shake_50 ?_
        refine v_getR hC (pc := 51) dX6_shake_51 fl_X6_10 rfl (by first | rfl | exact ok_c hq rfl | exact ok_w hq hw | exact ok_w (by omega) (by omega) | exact ok_s (by omega) (by omega) | exact ok_c (by omega) rfl | assumption) rfl (by decide) (by decide) rfl ?_
        refine v_getR hC (pc := 54) dX6_shake_54 fl_X6_118 rfl (by first | rfl | exact ok_c hq rfl | exact ok_w hq hw | exact ok_w (by omega) (by omega) | exact ok_s (by omega) (by omega) | exact ok_c (by omega) rfl | assumption) rfl (by decide) (by decide) rfl ?_
        refine v_iload_n hC (pc := 57) (k := 2) 3 rfl dX6_shake_57 ?_
        refine v_aald hC (pc := 58) (j := (6, 0, v)) 5 dX6_shake_58 rfl (by decide) (fun _ => rfl) (by first | rfl | exact ok_c hq rfl | exact ok_w hq hw | exact ok_w (by omega) (by omega) | exact ok_s (by omega) (by omega) | exact ok_c (by omega) rfl | assumption) (vp_nat (n := v) (by omega) (by decide)) (by rw [nI_clamp (show v < 2 ^ 31 by omega)]; rfl) ?_
        refine v_iload_n hC (pc := 59) (k := 3) 0 rfl dX6_shake_59 ?_
        refine v_callV hC (pc := 60) (As := [_]) dX6_shake_60 rfl (t_handIn _ _ (d := d - 1) (by omega) (q := 0) (by decide) (w := v) (by omega) _ _) cv_X6_125 rfl (by decide) rfl (by first | rfl | exact ok_c hq rfl | exact ok_w hq hw | exact ok_w (by omega) (by omega) | exact ok_s (by omega) (by omega) | exact ok_c (by omega) rfl | assumption) (Nat.le_of_ble_eq_true rfl) (by omega) (fun r h' hr => ?_)
        obtain ⟨he9, rfl⟩ := hr
        rw [he9]
        clear he9 h'
        show V _ _ _ (60 + 3) _ (_ :: _) _
        refine v_icmp_ne hC (pc := 63) (tgt := 68) dX6_shake_63 (by decide) (fun c_63 => ?_) (fun c_63 => ?_)
        · skip
          refine v_iinc hC (pc := 68) (l' := [(3, _), (0, _), (1, _), (2, _)]) 0 (v := nI (i + 1)) dX6_shake_68 rfl (nI_inc i) (by decide) rfl ?_
          refine v_goto hC (pc := 71) (tgt := 31) dX6_shake_71 (by decide) ?_
          refine ih (i + 1) (by omega) (by omega) (fun j hj => ?_)
          rcases (show j < i ∨ j = i by omega) with q | rfl
          · exact ha j q
          · exact c_63
        · skip
          refine v_iload_n hC (pc := 66) (k := 3) 0 rfl dX6_shake_66 ?_
          refine v_iret hC hX (pc := 67) dX6_shake_67 ?_
          exact ⟨rfl, Or.inl ⟨i, hi, c_63, ha, rfl⟩⟩
  refine v_aload_n hC (pc := 0) (k := 0) 0 rfl dX6_shake_0 ?_
  refine v_getR hC (pc := 1) dX6_shake_1 fl_X6_10 rfl (by first | rfl | exact ok_c hq rfl | exact ok_w hq hw | exact ok_w (by omega) (by omega) | exact ok_s (by omega) (by omega) | exact ok_c (by omega) rfl | assumption) rfl (by decide) (by decide) rfl ?_
  refine v_iload_n hC (pc := 4) (k := 1) 1 rfl dX6_shake_4 ?_
  refine v_callV hC (pc := 5) (As := [_]) dX6_shake_5 rfl (t_hasWalker_t _ _ (d := d - 1) (by omega) (q := 0) (by decide) _ (c := w) (by assumption) (by omega) hnw) cv_X6_115 rfl (by decide) rfl (by first | rfl | exact ok_c hq rfl | exact ok_w hq hw | exact ok_w (by omega) (by omega) | exact ok_s (by omega) (by omega) | exact ok_c (by omega) rfl | assumption) (Nat.le_of_ble_eq_true rfl) (by omega) (fun r h' hr => ?_)
  obtain ⟨he9, rfl⟩ := hr
  rw [he9]
  clear he9 h'
  show V _ _ _ (5 + 3) _ (_ :: _) _
  refine v_if_eq hC (pc := 8) (tgt := 27) dX6_shake_8 (by decide) (fun c_8 => ?_) (fun c_8 => ?_)
  · exact absurd c_8 (by decide)
  · skip
    refine v_aload_n hC (pc := 11) (k := 0) 0 rfl dX6_shake_11 ?_
    refine v_getR hC (pc := 12) dX6_shake_12 fl_X6_10 rfl (by first | rfl | exact ok_c hq rfl | exact ok_w hq hw | exact ok_w (by omega) (by omega) | exact ok_s (by omega) (by omega) | exact ok_c (by omega) rfl | assumption) rfl (by decide) (by decide) rfl ?_
    refine v_iload_n hC (pc := 15) (k := 2) 2 rfl dX6_shake_15 ?_
    refine v_callV hC (pc := 16) (As := [_]) dX6_shake_16 rfl (t_hasWalker_t _ _ (d := d - 1) (by omega) (q := 0) (by decide) _ (c := v) (by assumption) (by omega) hnw) cv_X6_115 rfl (by decide) rfl (by first | rfl | exact ok_c hq rfl | exact ok_w hq hw | exact ok_w (by omega) (by omega) | exact ok_s (by omega) (by omega) | exact ok_c (by omega) rfl | assumption) (Nat.le_of_ble_eq_true rfl) (by omega) (fun r h' hr => ?_)
    obtain ⟨he9, rfl⟩ := hr
    rw [he9]
    clear he9 h'
    show V _ _ _ (16 + 3) _ (_ :: _) _
    refine v_if_eq hC (pc := 19) (tgt := 27) dX6_shake_19 (by decide) (fun c_19 => ?_) (fun c_19 => ?_)
    · exact absurd c_19 (by decide)
    · skip
      refine v_iload_n hC (pc := 22) (k := 1) 1 rfl dX6_shake_22 ?_
      refine v_iload_n hC (pc := 23) (k := 2) 2 rfl dX6_shake_23 ?_
      refine v_icmp_ne hC (pc := 24) (tgt := 29) dX6_shake_24 (by decide) (fun c_24 => ?_) (fun c_24 => ?_)
      · skip
        refine v_iconst hC (pc := 29) (v := 0) (by decide) dX6_shake_29 ?_
        refine v_istore_n hC (pc := 30) (l' := [(3, _), (0, _), (1, _), (2, _)]) dX6_shake_30 (by decide) rfl ?_
        exact lp 25 0 (by omega) (by omega) (fun j hj => absurd hj (Nat.not_lt_zero _))
      · exact absurd ((nI_eq (by omega) (by omega)).mp c_24) hne

set_option maxRecDepth 20000 in
set_option maxHeartbeats 2000000 in
theorem k_shake_bad (l9 : Launch) (G : WT) {d : Nat} (hd : 3 ≤ d) (h : HP) {nW : Nat} (hn4 : nW ≤ 4) (hnw : h.1 (0, 0, 0) 4 = nI nW) (w v : Int32) (hbad : ¬ ((¬ w < 0 ∧ ¬ nI nW ≤ w) ∧ (¬ v < 0 ∧ ¬ nI nW ≤ v) ∧ ¬ w = v)) : MS l9 G yX6_shake cX6_shake 4 (some .int) d [vr (1, 0, 0), vi w, vi v] h (fun r h1 => h1 = h ∧ r = some (vi (-1))) := by
  refine MS_of (by decide +kernel) (Nat.le_of_ble_eq_true rfl) (fun X hC hX => ?_)
  show V X G 4 0 _ [] _
  refine v_aload_n hC (pc := 0) (k := 0) 0 rfl dX6_shake_0 ?_
  refine v_getR hC (pc := 1) dX6_shake_1 fl_X6_10 rfl (by first | rfl | exact ok_c hq rfl | exact ok_w hq hw | exact ok_w (by omega) (by omega) | exact ok_s (by omega) (by omega) | exact ok_c (by omega) rfl | assumption) rfl (by decide) (by decide) rfl ?_
  refine v_iload_n hC (pc := 4) (k := 1) 1 rfl dX6_shake_4 ?_
  refine v_callV hC (pc := 5) (As := [_]) dX6_shake_5 rfl (t_hasWalker _ _ (d := d - 1) (by omega) (q := 0) (by decide) _ _) cv_X6_115 rfl (by decide) rfl (by first | rfl | exact ok_c hq rfl | exact ok_w hq hw | exact ok_w (by omega) (by omega) | exact ok_s (by omega) (by omega) | exact ok_c (by omega) rfl | assumption) (Nat.le_of_ble_eq_true rfl) (by omega) (fun r h' hr => ?_)
  obtain ⟨he9, rfl⟩ := hr
  rw [he9, hnw]
  clear he9 h'
  show V _ _ _ (5 + 3) _ (_ :: _) _
  refine v_ifb_eq hC (pc := 8) (tgt := 27) dX6_shake_8 (by decide) (fun c_8 => ?_) (fun c_8 => ?_)
  · skip
    refine v_iconst hC (pc := 27) (v := (-1)) (by decide) dX6_shake_27 ?_
    refine v_iret hC hX (pc := 28) dX6_shake_28 ?_
    exact ⟨rfl, rfl⟩
  · skip
    refine v_aload_n hC (pc := 11) (k := 0) 0 rfl dX6_shake_11 ?_
    refine v_getR hC (pc := 12) dX6_shake_12 fl_X6_10 rfl (by first | rfl | exact ok_c hq rfl | exact ok_w hq hw | exact ok_w (by omega) (by omega) | exact ok_s (by omega) (by omega) | exact ok_c (by omega) rfl | assumption) rfl (by decide) (by decide) rfl ?_
    refine v_iload_n hC (pc := 15) (k := 2) 2 rfl dX6_shake_15 ?_
    refine v_callV hC (pc := 16) (As := [_]) dX6_shake_16 rfl (t_hasWalker _ _ (d := d - 1) (by omega) (q := 0) (by decide) _ _) cv_X6_115 rfl (by decide) rfl (by first | rfl | exact ok_c hq rfl | exact ok_w hq hw | exact ok_w (by omega) (by omega) | exact ok_s (by omega) (by omega) | exact ok_c (by omega) rfl | assumption) (Nat.le_of_ble_eq_true rfl) (by omega) (fun r h' hr => ?_)
    obtain ⟨he9, rfl⟩ := hr
    rw [he9, hnw]
    clear he9 h'
    show V _ _ _ (16 + 3) _ (_ :: _) _
    refine v_ifb_eq hC (pc := 19) (tgt := 27) dX6_shake_19 (by decide) (fun c_19 => ?_) (fun c_19 => ?_)
    · skip
      refine v_iconst hC (pc := 27) (v := (-1)) (by decide) dX6_shake_27 ?_
      refine v_iret hC hX (pc := 28) dX6_shake_28 ?_
      exact ⟨rfl, rfl⟩
    · skip
      refine v_iload_n hC (pc := 22) (k := 1) 1 rfl dX6_shake_22 ?_
      refine v_iload_n hC (pc := 23) (k := 2) 2 rfl dX6_shake_23 ?_
      refine v_icmp_ne hC (pc := 24) (tgt := 29) dX6_shake_24 (by decide) (fun c_24 => ?_) (fun c_24 => ?_)
      · skip
        exact absurd (show _ ∧ _ ∧ _ from ⟨c_8, c_19, c_24⟩) hbad
      · skip
        refine v_iconst hC (pc := 27) (v := (-1)) (by decide) dX6_shake_27 ?_
        refine v_iret hC hX (pc := 28) dX6_shake_28 ?_
        exact ⟨rfl, rfl⟩

set_option maxRecDepth 20000 in
set_option maxHeartbeats 2000000 in
theorem k_pairs_ok (l9 : Launch) (G : WT) {d : Nat} (hd : 3 ≤ d) (h : HP) {nW : Nat} (hn4 : nW ≤ 4) (hnw : h.1 (0, 0, 0) 4 = nI nW) (t : Int32) (ht : ¬ t < 0 ∧ ¬ 24 ≤ t) : MS l9 G yX6_pairs cX6_pairs 4 (some .int) d [vr (1, 0, 0), vi t] h (fun r h1 => h1 = h ∧ r = some (vi (itN (fun w a => a + hndF (h.1 (6, 0, w) 1) (h.1 (6, 0, w) 2) t) nW 0 / 2 + (nI nW - itN (fun w a => a + hndF (h.1 (6, 0, w) 1) (h.1 (6, 0, w) 2) t) nW 0) / 2))) := by
  refine MS_of (by decide +kernel) (Nat.le_of_ble_eq_true rfl) (fun X hC hX => ?_)
  show V X G 4 0 _ [] _
  have lp : ∀ (n i : Nat) , i ≤ nW → nW + 1 ≤ i + n → V X G 4 13 [(3, vi (nI i)), (2, vi (itN (fun w a => a + hndF (h.1 (6, 0, w) 1) (h.1 (6, 0, w) 2) t) i 0)), (0, vr (1, 0, 0)), (1, vi t)] [] (h) := by
    intro n
    induction n with
    | zero => intro i  h1 h2; exact absurd h2 (by omega)
    | succ n ih =>
      intro i  h1 h2
      refine v_iload_n hC (pc := 13) (k := 3) 0 rfl dX6_pairs_13 ?_
      refine v_aload_n hC (pc := 14) (k := 0) 2 rfl dX6_pairs_14 ?_
      refine v_getR hC (pc := 15) dX6_pairs_15 fl_X6_10 rfl (by first | rfl | exact ok_c hq rfl | exact ok_w hq hw | exact ok_w (by omega) (by omega) | exact ok_s (by omega) (by omega) | exact ok_c (by omega) rfl | assumption) rfl (by decide) (by decide) rfl ?_
      refine v_getI hC (pc := 18) dX6_pairs_18 fl_X6_88 rfl (by first | rfl | exact ok_c hq rfl | exact ok_w hq hw | exact ok_w (by omega) (by omega) | exact ok_s (by omega) (by omega) | exact ok_c (by omega) rfl | assumption) rfl (by decide) (by decide) ?_
      rw [hnw]
      refine v_icmp_ge hC (pc := 21) (tgt := 46) dX6_pairs_21 (by decide) (fun c_21 => ?_) (fun c_21 => ?_)
      · skip
        have hi : i = nW := lp_ex (c_21) h1 (by omega)
        refine v_iload_n hC (pc := 46) (k := 2) 1 rfl dX6_pairs_46 ?_
        refine v_iconst hC (pc := 47) (v := 2) (by decide) dX6_pairs_47 ?_
        refine v_idiv hC (pc := 48) (by decide) dX6_pairs_48 ?_
        refine v_aload_n hC (pc := 49) (k := 0) 2 rfl dX6_pairs_49 ?_
        refine v_getR hC (pc := 50) dX6_pairs_50 fl_X6_10 rfl (by first | rfl | exact ok_c hq rfl | exact ok_w hq hw | exact ok_w (by omega) (by omega) | exact ok_s (by omega) (by omega) | exact ok_c (by omega) rfl | assumption) rfl (by decide) (by decide) rfl ?_
        refine v_getI hC (pc := 53) dX6_pairs_53 fl_X6_88 rfl (by first | rfl | exact ok_c hq rfl | exact ok_w hq hw | exact ok_w (by omega) (by omega) | exact ok_s (by omega) (by omega) | exact ok_c (by omega) rfl | assumption) rfl (by decide) (by decide) ?_
        rw [hnw]
        refine v_iload_n hC (pc := 56) (k := 2) 1 rfl dX6_pairs_56 ?_
        refine v_isub hC (pc := 57) dX6_pairs_57 ?_
        refine v_iconst hC (pc := 58) (v := 2) (by decide) dX6_pairs_58 ?_
        refine v_idiv hC (pc := 59) (by decide) dX6_pairs_59 ?_
        refine v_iadd hC (pc := 60) dX6_pairs_60 ?_
        refine v_iret hC hX (pc := 61) dX6_pairs_61 ?_
        subst hi
        exact ⟨rfl, rfl⟩
      · skip
        have hi : i < nW := lp_in (c_21) h1 (by omega)
        refine v_iload_n hC (pc := 24) (k := 2) 1 rfl dX6_pairs_24 ?_
        refine v_aload_n hC (pc := 25) (k := 0) 2 rfl dX6_pairs_25 ?_
        refine v_getR hC (pc := 26) dX6_pairs_26 fl_X6_10 rfl (by first | rfl | exact ok_c hq rfl | exact ok_w hq hw | exact ok_w (by omega) (by omega) | exact ok_s (by omega) (by omega) | exact ok_c (by omega) rfl | assumption) rfl (by decide) (by decide) rfl ?_
        refine v_getR hC (pc := 29) dX6_pairs_29 fl_X6_118 rfl (by first | rfl | exact ok_c hq rfl | exact ok_w hq hw | exact ok_w (by omega) (by omega) | exact ok_s (by omega) (by omega) | exact ok_c (by omega) rfl | assumption) rfl (by decide) (by decide) rfl ?_
        refine v_iload_n hC (pc := 32) (k := 3) 0 rfl dX6_pairs_32 ?_
        refine v_aald hC (pc := 33) (j := (6, 0, i)) 5 dX6_pairs_33 rfl (by decide) (fun _ => rfl) (by first | rfl | exact ok_c hq rfl | exact ok_w hq hw | exact ok_w (by omega) (by omega) | exact ok_s (by omega) (by omega) | exact ok_c (by omega) rfl | assumption) (vp_nat (n := i) (by omega) (by decide)) (by rw [nI_clamp (show i < 2 ^ 31 by omega)]; rfl) ?_
        refine v_iload_n hC (pc := 34) (k := 1) 3 rfl dX6_pairs_34 ?_
        refine v_callV hC (pc := 35) (As := [_]) dX6_pairs_35 rfl (t_handIn _ _ (d := d - 1) (by omega) (q := 0) (by decide) (w := i) (by omega) _ _) cv_X6_125 rfl (by decide) rfl (by first | rfl | exact ok_c hq rfl | exact ok_w hq hw | exact ok_w (by omega) (by omega) | exact ok_s (by omega) (by omega) | exact ok_c (by omega) rfl | assumption) (Nat.le_of_ble_eq_true rfl) (by omega) (fun r h' hr => ?_)
        obtain ⟨he9, rfl⟩ := hr
        rw [he9]
        clear he9 h'
        show V _ _ _ (35 + 3) _ (_ :: _) _
        refine v_iadd hC (pc := 38) dX6_pairs_38 ?_
        refine v_istore_n hC (pc := 39) (l' := [(2, _), (3, _), (0, _), (1, _)]) dX6_pairs_39 (by decide) rfl ?_
        refine v_iinc hC (pc := 40) (l' := [(3, _), (2, _), (0, _), (1, _)]) 1 (v := nI (i + 1)) dX6_pairs_40 rfl (nI_inc i) (by decide) rfl ?_
        refine v_goto hC (pc := 43) (tgt := 13) dX6_pairs_43 (by decide) ?_
        exact ih (i + 1) (by omega) (by omega)
  refine v_iload_n hC (pc := 0) (k := 1) 1 rfl dX6_pairs_0 ?_
  refine v_callS hC (pc := 1) (As := [_]) dX6_pairs_1 rfl (t_isHour _ _ (d := d - 1) (by omega) _ _) cs_X6_144 (Nat.le_of_ble_eq_true rfl) (by omega) (fun r h' hr => ?_)
  obtain ⟨he9, rfl⟩ := hr
  rw [he9, bI_t ht]
  clear he9 h'
  show V _ _ _ (1 + 3) _ (_ :: _) _
  refine v_if_ne hC (pc := 4) (tgt := 9) dX6_pairs_4 (by decide) (fun c_4 => ?_) (fun c_4 => ?_)
  · skip
    refine v_iconst hC (pc := 9) (v := 0) (by decide) dX6_pairs_9 ?_
    refine v_istore_n hC (pc := 10) (l' := [(2, _), (0, _), (1, _)]) dX6_pairs_10 (by decide) rfl ?_
    refine v_iconst hC (pc := 11) (v := 0) (by decide) dX6_pairs_11 ?_
    refine v_istore_n hC (pc := 12) (l' := [(3, _), (2, _), (0, _), (1, _)]) dX6_pairs_12 (by decide) rfl ?_
    exact lp 5 0 (by omega) (by omega)
  · exact absurd c_4 (by decide)

set_option maxRecDepth 20000 in
set_option maxHeartbeats 2000000 in
theorem k_pairs_bad (l9 : Launch) (G : WT) {d : Nat} (hd : 3 ≤ d) (h : HP) (t : Int32) (hbad : ¬ (¬ t < 0 ∧ ¬ 24 ≤ t)) : MS l9 G yX6_pairs cX6_pairs 4 (some .int) d [vr (1, 0, 0), vi t] h (fun r h1 => h1 = h ∧ r = some (vi (-1))) := by
  refine MS_of (by decide +kernel) (Nat.le_of_ble_eq_true rfl) (fun X hC hX => ?_)
  show V X G 4 0 _ [] _
  refine v_iload_n hC (pc := 0) (k := 1) 1 rfl dX6_pairs_0 ?_
  refine v_callS hC (pc := 1) (As := [_]) dX6_pairs_1 rfl (t_isHour _ _ (d := d - 1) (by omega) _ _) cs_X6_144 (Nat.le_of_ble_eq_true rfl) (by omega) (fun r h' hr => ?_)
  obtain ⟨he9, rfl⟩ := hr
  rw [he9]
  clear he9 h'
  show V _ _ _ (1 + 3) _ (_ :: _) _
  refine v_ifb_ne hC (pc := 4) (tgt := 9) dX6_pairs_4 (by decide) (fun c_4 => ?_) (fun c_4 => ?_)
  · skip
    exact absurd c_4 hbad
  · skip
    refine v_iconst hC (pc := 7) (v := (-1)) (by decide) dX6_pairs_7 ?_
    refine v_iret hC hX (pc := 8) dX6_pairs_8 ?_
    exact ⟨rfl, rfl⟩

