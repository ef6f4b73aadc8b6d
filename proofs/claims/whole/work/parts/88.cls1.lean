/-! THE CLASS: its calls, simple ones -/
theorem to_in {nC : Nat} {to : Int32} (h8 : nC ≤ 8) (hto : to = -4 ∨ ∃ t, t < nC ∧ to = nI t) (hn : ¬ to = -4) : ¬ to < 0 ∧ ¬ nI nC ≤ to := by
  rcases hto with z | ⟨t9, z1, z2⟩
  · exact absurd z hn
  · rw [z2]; exact in_of z1 (by omega)
theorem lt4 {k : Int32} (h : ¬ nI 4 ≤ k) : ¬ (3 : Int32) < k := by
  rw [Int32.le_iff_toInt_le] at h
  rw [Int32.lt_iff_toInt_lt]
  have e1 : (nI 4).toInt = 4 := by decide
  have e2 : (3 : Int32).toInt = 3 := by decide
  omega
set_option maxRecDepth 20000 in
set_option maxHeartbeats 2000000 in
theorem k_feed_ok (l9 : Launch) (G : WT) {d : Nat} (hd : 3 ≤ d) (h : HP) {t : Nat} (htp : h.1 (1, 0, 2) 1 = nI t) (ht : t < 160) (x : Int32) (hx : ¬ x < 0 ∧ ¬ 127 < x) : MS l9 G yX6_feed cX6_feed 2 (some .int) d [vr (1, 0, 0), vi x] h (fun r h1 => r = some (vi (nI (t + 1))) ∧ h1 = upI (upI h (1, 0, 3) t x) (1, 0, 2) 1 (nI (t + 1))) := by
  refine MS_of (by decide +kernel) (Nat.le_of_ble_eq_true rfl) (fun X hC hX => ?_)
  show V X G 2 0 _ [] _
  refine v_iload_n hC (pc := 0) (k := 1) 1 rfl dX6_feed_0 ?_
  refine v_if_lt hC (pc := 1) (tgt := 10) dX6_feed_1 (by decide) (fun c_1 => ?_) (fun c_1 => ?_)
  · exact absurd c_1 hx.1
  · skip
    refine v_iload_n hC (pc := 4) (k := 1) 1 rfl dX6_feed_4 ?_
    refine v_bipush hC (pc := 5) (v := 127) (by decide +kernel) dX6_feed_5 ?_
    refine v_icmp_le hC (pc := 7) (tgt := 12) dX6_feed_7 (by decide) (fun c_7 => ?_) (fun c_7 => ?_)
    · skip
      refine v_aload_n hC (pc := 12) (k := 0) 0 rfl dX6_feed_12 ?_
      refine v_getR hC (pc := 13) dX6_feed_13 fl_X6_26 rfl (by first | rfl | exact ok_c hq rfl | exact ok_w hq hw | exact ok_w (by omega) (by omega) | exact ok_s (by omega) (by omega) | exact ok_c (by omega) rfl | assumption) rfl (by decide) (by decide) rfl ?_
      refine v_getI hC (pc := 16) dX6_feed_16 fl_X6_51 rfl (by first | rfl | exact ok_c hq rfl | exact ok_w hq hw | exact ok_w (by omega) (by omega) | exact ok_s (by omega) (by omega) | exact ok_c (by omega) rfl | assumption) rfl (by decide) (by decide) ?_
      refine v_sipush hC (pc := 19) (v := 160) (by decide +kernel) dX6_feed_19 ?_
      rw [htp, show (160 : Int32) = nI 160 from rfl]
      refine v_icmp_lt hC (pc := 22) (tgt := 28) dX6_feed_22 (by decide) (fun c_22 => ?_) (fun c_22 => ?_)
      · skip
        refine v_aload_n hC (pc := 28) (k := 0) 0 rfl dX6_feed_28 ?_
        refine v_getR hC (pc := 29) dX6_feed_29 fl_X6_26 rfl (by first | rfl | exact ok_c hq rfl | exact ok_w hq hw | exact ok_w (by omega) (by omega) | exact ok_s (by omega) (by omega) | exact ok_c (by omega) rfl | assumption) rfl (by decide) (by decide) rfl ?_
        refine v_getR hC (pc := 32) dX6_feed_32 fl_X6_55 rfl (by first | rfl | exact ok_c hq rfl | exact ok_w hq hw | exact ok_w (by omega) (by omega) | exact ok_s (by omega) (by omega) | exact ok_c (by omega) rfl | assumption) rfl (by decide) (by decide) rfl ?_
        refine v_aload_n hC (pc := 35) (k := 0) 0 rfl dX6_feed_35 ?_
        refine v_getR hC (pc := 36) dX6_feed_36 fl_X6_26 rfl (by first | rfl | exact ok_c hq rfl | exact ok_w hq hw | exact ok_w (by omega) (by omega) | exact ok_s (by omega) (by omega) | exact ok_c (by omega) rfl | assumption) rfl (by decide) (by decide) rfl ?_
        refine v_getI hC (pc := 39) dX6_feed_39 fl_X6_51 rfl (by first | rfl | exact ok_c hq rfl | exact ok_w hq hw | exact ok_w (by omega) (by omega) | exact ok_s (by omega) (by omega) | exact ok_c (by omega) rfl | assumption) rfl (by decide) (by decide) ?_
        refine v_iload_n hC (pc := 42) (k := 1) 1 rfl dX6_feed_42 ?_
        rw [htp]
        refine v_iast hC (pc := 43) dX6_feed_43 rfl (by first | rfl | exact ok_c hq rfl | exact ok_w hq hw | exact ok_w (by omega) (by omega) | exact ok_s (by omega) (by omega) | exact ok_c (by omega) rfl | assumption) (vp_nat (n := t) (by omega) (by decide)) ?_
        rw [nI_clamp (show t < 2 ^ 31 by omega)]
        refine v_aload_n hC (pc := 44) (k := 0) 0 rfl dX6_feed_44 ?_
        refine v_getR hC (pc := 45) dX6_feed_45 fl_X6_26 rfl (by first | rfl | exact ok_c hq rfl | exact ok_w hq hw | exact ok_w (by omega) (by omega) | exact ok_s (by omega) (by omega) | exact ok_c (by omega) rfl | assumption) rfl (by decide) (by decide) rfl ?_
        refine v_dup hC (pc := 48) rfl dX6_feed_48 ?_
        refine v_getI hC (pc := 49) dX6_feed_49 fl_X6_51 rfl (by first | rfl | exact ok_c hq rfl | exact ok_w hq hw | exact ok_w (by omega) (by omega) | exact ok_s (by omega) (by omega) | exact ok_c (by omega) rfl | assumption) rfl (by decide) (by decide) ?_
        refine v_iconst hC (pc := 52) (v := 1) (by decide) dX6_feed_52 ?_
        refine v_iadd hC (pc := 53) dX6_feed_53 ?_
        refine v_putI hC (pc := 54) dX6_feed_54 fs_X6_51 rfl (by first | rfl | exact ok_c hq rfl | exact ok_w hq hw | exact ok_w (by omega) (by omega) | exact ok_s (by omega) (by omega) | exact ok_c (by omega) rfl | assumption) rfl (by decide) (by decide) ?_
        refine v_aload_n hC (pc := 57) (k := 0) 0 rfl dX6_feed_57 ?_
        refine v_getR hC (pc := 58) dX6_feed_58 fl_X6_26 rfl (by first | rfl | exact ok_c hq rfl | exact ok_w hq hw | exact ok_w (by omega) (by omega) | exact ok_s (by omega) (by omega) | exact ok_c (by omega) rfl | assumption) rfl (by decide) (by decide) rfl ?_
        refine v_getI hC (pc := 61) dX6_feed_61 fl_X6_51 rfl (by first | rfl | exact ok_c hq rfl | exact ok_w hq hw | exact ok_w (by omega) (by omega) | exact ok_s (by omega) (by omega) | exact ok_c (by omega) rfl | assumption) rfl (by decide) (by decide) ?_
        refine v_iret hC hX (pc := 64) dX6_feed_64 ?_
        refine ⟨?_, ?_⟩
        · simp (decide := true) only [upI_i, upI_k]; rw [upI_ne _ _ _ (show ((1, 0, 2) : PId) ≠ (1, 0, 3) by decide), htp, nI_1]
        · rw [upI_ne _ _ _ (show ((1, 0, 2) : PId) ≠ (1, 0, 3) by decide), htp, nI_1]
      · exact absurd (nI_lt ht (by decide)) c_22
    · exact absurd (Int32.not_lt.mp hx.2) c_7

set_option maxRecDepth 20000 in
set_option maxHeartbeats 2000000 in
theorem k_feed_full (l9 : Launch) (G : WT) {d : Nat} (hd : 3 ≤ d) (h : HP) (htp : h.1 (1, 0, 2) 1 = nI 160) (x : Int32) (hx : ¬ x < 0 ∧ ¬ 127 < x) : MS l9 G yX6_feed cX6_feed 2 (some .int) d [vr (1, 0, 0), vi x] h (fun r h1 => h1 = h ∧ r = some (vi (-3))) := by
  refine MS_of (by decide +kernel) (Nat.le_of_ble_eq_true rfl) (fun X hC hX => ?_)
  show V X G 2 0 _ [] _
  refine v_iload_n hC (pc := 0) (k := 1) 1 rfl dX6_feed_0 ?_
  refine v_if_lt hC (pc := 1) (tgt := 10) dX6_feed_1 (by decide) (fun c_1 => ?_) (fun c_1 => ?_)
  · exact absurd c_1 hx.1
  · skip
    refine v_iload_n hC (pc := 4) (k := 1) 1 rfl dX6_feed_4 ?_
    refine v_bipush hC (pc := 5) (v := 127) (by decide +kernel) dX6_feed_5 ?_
    refine v_icmp_le hC (pc := 7) (tgt := 12) dX6_feed_7 (by decide) (fun c_7 => ?_) (fun c_7 => ?_)
    · skip
      refine v_aload_n hC (pc := 12) (k := 0) 0 rfl dX6_feed_12 ?_
      refine v_getR hC (pc := 13) dX6_feed_13 fl_X6_26 rfl (by first | rfl | exact ok_c hq rfl | exact ok_w hq hw | exact ok_w (by omega) (by omega) | exact ok_s (by omega) (by omega) | exact ok_c (by omega) rfl | assumption) rfl (by decide) (by decide) rfl ?_
      refine v_getI hC (pc := 16) dX6_feed_16 fl_X6_51 rfl (by first | rfl | exact ok_c hq rfl | exact ok_w hq hw | exact ok_w (by omega) (by omega) | exact ok_s (by omega) (by omega) | exact ok_c (by omega) rfl | assumption) rfl (by decide) (by decide) ?_
      refine v_sipush hC (pc := 19) (v := 160) (by decide +kernel) dX6_feed_19 ?_
      refine v_icmp_lt hC (pc := 22) (tgt := 28) dX6_feed_22 (by decide) (fun c_22 => ?_) (fun c_22 => ?_)
      · exact absurd c_22 (by rw [htp]; decide)
      · skip
        refine v_bipush hC (pc := 25) (v := (-3)) (by decide +kernel) dX6_feed_25 ?_
        refine v_iret hC hX (pc := 27) dX6_feed_27 ?_
        exact ⟨rfl, rfl⟩
    · exact absurd (Int32.not_lt.mp hx.2) c_7

set_option maxRecDepth 20000 in
set_option maxHeartbeats 2000000 in
theorem k_feed_bad (l9 : Launch) (G : WT) {d : Nat} (hd : 3 ≤ d) (h : HP) (x : Int32) (hbad : ¬ (¬ x < 0 ∧ ¬ 127 < x)) : MS l9 G yX6_feed cX6_feed 2 (some .int) d [vr (1, 0, 0), vi x] h (fun r h1 => h1 = h ∧ r = some (vi (-1))) := by
  refine MS_of (by decide +kernel) (Nat.le_of_ble_eq_true rfl) (fun X hC hX => ?_)
  show V X G 2 0 _ [] _
  refine v_iload_n hC (pc := 0) (k := 1) 1 rfl dX6_feed_0 ?_
  refine v_if_lt hC (pc := 1) (tgt := 10) dX6_feed_1 (by decide) (fun c_1 => ?_) (fun c_1 => ?_)
  · skip
    refine v_iconst hC (pc := 10) (v := (-1)) (by decide) dX6_feed_10 ?_
    refine v_iret hC hX (pc := 11) dX6_feed_11 ?_
    exact ⟨rfl, rfl⟩
  · skip
    refine v_iload_n hC (pc := 4) (k := 1) 1 rfl dX6_feed_4 ?_
    refine v_bipush hC (pc := 5) (v := 127) (by decide +kernel) dX6_feed_5 ?_
    refine v_icmp_le hC (pc := 7) (tgt := 12) dX6_feed_7 (by decide) (fun c_7 => ?_) (fun c_7 => ?_)
    · skip
      exact absurd (show ¬ x < 0 ∧ ¬ 127 < x from ⟨c_1, Int32.not_lt.mpr c_7⟩) hbad
    · skip
      refine v_iconst hC (pc := 10) (v := (-1)) (by decide) dX6_feed_10 ?_
      refine v_iret hC hX (pc := 11) dX6_feed_11 ?_
      exact ⟨rfl, rfl⟩

set_option maxRecDepth 20000 in
set_option maxHeartbeats 2000000 in
theorem k_end_ok (l9 : Launch) (G : WT) {d : Nat} (hd : 3 ≤ d) (h : HP) {t : Nat} (htp : h.1 (1, 0, 2) 1 = nI t) (ht : t ≤ 160) {n : Nat} (hn : n ≤ t) : MS l9 G yX6_end cX6_end 3 (some .int) d [vr (1, 0, 0), vi (nI n)] h (fun r h1 => r = some (vi (nI t)) ∧ h1 = upI h (1, 0, 2) 1 (nI n)) := by
  refine MS_of (by decide +kernel) (Nat.le_of_ble_eq_true rfl) (fun X hC hX => ?_)
  show V X G 3 0 _ [] _
  refine v_iload_n hC (pc := 0) (k := 1) 1 rfl dX6_end_0 ?_
  refine v_if_lt hC (pc := 1) (tgt := 15) dX6_end_1 (by decide) (fun c_1 => ?_) (fun c_1 => ?_)
  · exact absurd c_1 (nI_pos (by omega))
  · skip
    refine v_iload_n hC (pc := 4) (k := 1) 1 rfl dX6_end_4 ?_
    refine v_aload_n hC (pc := 5) (k := 0) 0 rfl dX6_end_5 ?_
    refine v_getR hC (pc := 6) dX6_end_6 fl_X6_26 rfl (by first | rfl | exact ok_c hq rfl | exact ok_w hq hw | exact ok_w (by omega) (by omega) | exact ok_s (by omega) (by omega) | exact ok_c (by omega) rfl | assumption) rfl (by decide) (by decide) rfl ?_
    refine v_getI hC (pc := 9) dX6_end_9 fl_X6_51 rfl (by first | rfl | exact ok_c hq rfl | exact ok_w hq hw | exact ok_w (by omega) (by omega) | exact ok_s (by omega) (by omega) | exact ok_c (by omega) rfl | assumption) rfl (by decide) (by decide) ?_
    rw [htp]
    refine v_icmp_le hC (pc := 12) (tgt := 17) dX6_end_12 (by decide) (fun c_12 => ?_) (fun c_12 => ?_)
    · skip
      refine v_aload_n hC (pc := 17) (k := 0) 0 rfl dX6_end_17 ?_
      refine v_getR hC (pc := 18) dX6_end_18 fl_X6_26 rfl (by first | rfl | exact ok_c hq rfl | exact ok_w hq hw | exact ok_w (by omega) (by omega) | exact ok_s (by omega) (by omega) | exact ok_c (by omega) rfl | assumption) rfl (by decide) (by decide) rfl ?_
      refine v_getI hC (pc := 21) dX6_end_21 fl_X6_51 rfl (by first | rfl | exact ok_c hq rfl | exact ok_w hq hw | exact ok_w (by omega) (by omega) | exact ok_s (by omega) (by omega) | exact ok_c (by omega) rfl | assumption) rfl (by decide) (by decide) ?_
      refine v_istore_n hC (pc := 24) (l' := [(2, _), (0, _), (1, _)]) dX6_end_24 (by decide) rfl ?_
      refine v_aload_n hC (pc := 25) (k := 0) 1 rfl dX6_end_25 ?_
      refine v_getR hC (pc := 26) dX6_end_26 fl_X6_26 rfl (by first | rfl | exact ok_c hq rfl | exact ok_w hq hw | exact ok_w (by omega) (by omega) | exact ok_s (by omega) (by omega) | exact ok_c (by omega) rfl | assumption) rfl (by decide) (by decide) rfl ?_
      refine v_iload_n hC (pc := 29) (k := 1) 2 rfl dX6_end_29 ?_
      refine v_putI hC (pc := 30) dX6_end_30 fs_X6_51 rfl (by first | rfl | exact ok_c hq rfl | exact ok_w hq hw | exact ok_w (by omega) (by omega) | exact ok_s (by omega) (by omega) | exact ok_c (by omega) rfl | assumption) rfl (by decide) (by decide) ?_
      refine v_iload_n hC (pc := 33) (k := 2) 0 rfl dX6_end_33 ?_
      refine v_iret hC hX (pc := 34) dX6_end_34 ?_
      exact ⟨by rw [htp], rfl⟩
    · exact absurd (nI_le hn (by omega)) c_12

set_option maxRecDepth 20000 in
set_option maxHeartbeats 2000000 in
theorem k_end_bad (l9 : Launch) (G : WT) {d : Nat} (hd : 3 ≤ d) (h : HP) {t : Nat} (htp : h.1 (1, 0, 2) 1 = nI t) (n : Int32) (hbad : ¬ (¬ n < 0 ∧ ¬ nI t < n)) : MS l9 G yX6_end cX6_end 3 (some .int) d [vr (1, 0, 0), vi n] h (fun r h1 => h1 = h ∧ r = some (vi (-1))) := by
  refine MS_of (by decide +kernel) (Nat.le_of_ble_eq_true rfl) (fun X hC hX => ?_)
  show V X G 3 0 _ [] _
  refine v_iload_n hC (pc := 0) (k := 1) 1 rfl dX6_end_0 ?_
  refine v_if_lt hC (pc := 1) (tgt := 15) dX6_end_1 (by decide) (fun c_1 => ?_) (fun c_1 => ?_)
  · skip
    refine v_iconst hC (pc := 15) (v := (-1)) (by decide) dX6_end_15 ?_
    refine v_iret hC hX (pc := 16) dX6_end_16 ?_
    exact ⟨rfl, rfl⟩
  · skip
    refine v_iload_n hC (pc := 4) (k := 1) 1 rfl dX6_end_4 ?_
    refine v_aload_n hC (pc := 5) (k := 0) 0 rfl dX6_end_5 ?_
    refine v_getR hC (pc := 6) dX6_end_6 fl_X6_26 rfl (by first | rfl | exact ok_c hq rfl | exact ok_w hq hw | exact ok_w (by omega) (by omega) | exact ok_s (by omega) (by omega) | exact ok_c (by omega) rfl | assumption) rfl (by decide) (by decide) rfl ?_
    refine v_getI hC (pc := 9) dX6_end_9 fl_X6_51 rfl (by first | rfl | exact ok_c hq rfl | exact ok_w hq hw | exact ok_w (by omega) (by omega) | exact ok_s (by omega) (by omega) | exact ok_c (by omega) rfl | assumption) rfl (by decide) (by decide) ?_
    rw [htp]
    refine v_icmp_le hC (pc := 12) (tgt := 17) dX6_end_12 (by decide) (fun c_12 => ?_) (fun c_12 => ?_)
    · skip
      exact absurd (show ¬ n < 0 ∧ ¬ nI t < n from ⟨c_1, Int32.not_lt.mpr c_12⟩) hbad
    · skip
      refine v_iconst hC (pc := 15) (v := (-1)) (by decide) dX6_end_15 ?_
      refine v_iret hC hX (pc := 16) dX6_end_16 ?_
      exact ⟨rfl, rfl⟩

set_option maxRecDepth 20000 in
set_option maxHeartbeats 2000000 in
theorem k_fault (l9 : Launch) (G : WT) {d : Nat} (hd : 3 ≤ d) (h : HP)  : MS l9 G yX6_fault cX6_fault 1 (some .int) d [vr (1, 0, 0)] h (fun r h1 => h1 = h ∧ r = some (vi (h.1 (1, 0, 0) 8))) := by
  refine MS_of (by decide +kernel) (Nat.le_of_ble_eq_true rfl) (fun X hC hX => ?_)
  show V X G 1 0 _ [] _
  refine v_aload_n hC (pc := 0) (k := 0) 0 rfl dX6_fault_0 ?_
  refine v_getI hC (pc := 1) dX6_fault_1 fl_X6_66 rfl (by first | rfl | exact ok_c hq rfl | exact ok_w hq hw | exact ok_w (by omega) (by omega) | exact ok_s (by omega) (by omega) | exact ok_c (by omega) rfl | assumption) rfl (by decide) (by decide) ?_
  refine v_iret hC hX (pc := 4) dX6_fault_4 ?_
  exact ⟨rfl, rfl⟩

set_option maxRecDepth 20000 in
set_option maxHeartbeats 2000000 in
theorem k_torn (l9 : Launch) (G : WT) {d : Nat} (hd : 3 ≤ d) (h : HP)  : MS l9 G yX6_torn cX6_torn 1 (some .int) d [vr (1, 0, 0)] h (fun r h1 => h1 = h ∧ r = some (vi (h.1 (1, 0, 0) 9))) := by
  refine MS_of (by decide +kernel) (Nat.le_of_ble_eq_true rfl) (fun X hC hX => ?_)
  show V X G 1 0 _ [] _
  refine v_aload_n hC (pc := 0) (k := 0) 0 rfl dX6_torn_0 ?_
  refine v_getI hC (pc := 1) dX6_torn_1 fl_X6_270 rfl (by first | rfl | exact ok_c hq rfl | exact ok_w hq hw | exact ok_w (by omega) (by omega) | exact ok_s (by omega) (by omega) | exact ok_c (by omega) rfl | assumption) rfl (by decide) (by decide) ?_
  refine v_iret hC hX (pc := 4) dX6_torn_4 ?_
  exact ⟨rfl, rfl⟩

set_option maxRecDepth 20000 in
set_option maxHeartbeats 2000000 in
theorem k_rule (l9 : Launch) (G : WT) {d : Nat} (hd : 3 ≤ d) (h : HP) (x : Int32) : MS l9 G yX6_rule cX6_rule 2 (some .int) d [vr (1, 0, 0), vi x] h (fun r h1 => h1 = h ∧ r = some (vi (swF [h.1 (0, 0, 0) 0, h.1 (0, 0, 0) 2, h.1 (0, 0, 0) 4, h.1 (0, 0, 0) 1, h.1 (0, 0, 0) 3, oneF (bI (¬ h.1 (0, 0, 0) 2 - h.1 (0, 0, 0) 2 / 24 * 24 < 12))] x))) := by
  refine MS_of (by decide +kernel) (Nat.le_of_ble_eq_true rfl) (fun X hC hX => ?_)
  show V X G 2 0 _ [] _
  refine v_iload_n hC (pc := 0) (k := 1) 1 rfl dX6_rule_0 ?_
  rcases sw_cases (x) 5 (by decide) with ⟨k9, hk9, hsw⟩ | hsw
  · rcases (show k9 = 0 ∨ k9 = 1 ∨ k9 = 2 ∨ k9 = 3 ∨ k9 = 4 ∨ k9 = 5 by omega) with rfl | rfl | rfl | rfl | rfl | rfl
    · rw [hsw]
      refine v_tabIn hC (pc := 1) (tgt := 40) dX6_rule_1 (by decide) (by decide) (off := 39) (by decide) (by decide) ?_
      refine v_aload_n hC (pc := 40) (k := 0) 0 rfl dX6_rule_40 ?_
      refine v_getR hC (pc := 41) dX6_rule_41 fl_X6_10 rfl (by first | rfl | exact ok_c hq rfl | exact ok_w hq hw | exact ok_w (by omega) (by omega) | exact ok_s (by omega) (by omega) | exact ok_c (by omega) rfl | assumption) rfl (by decide) (by decide) rfl ?_
      refine v_getI hC (pc := 44) dX6_rule_44 fl_X6_82 rfl (by first | rfl | exact ok_c hq rfl | exact ok_w hq hw | exact ok_w (by omega) (by omega) | exact ok_s (by omega) (by omega) | exact ok_c (by omega) rfl | assumption) rfl (by decide) (by decide) ?_
      refine v_iret hC hX (pc := 47) dX6_rule_47 ?_
      exact ⟨rfl, by rw [hsw]; rfl⟩
    · rw [hsw]
      refine v_tabIn hC (pc := 1) (tgt := 48) dX6_rule_1 (by decide) (by decide) (off := 47) (by decide) (by decide) ?_
      refine v_aload_n hC (pc := 48) (k := 0) 0 rfl dX6_rule_48 ?_
      refine v_getR hC (pc := 49) dX6_rule_49 fl_X6_10 rfl (by first | rfl | exact ok_c hq rfl | exact ok_w hq hw | exact ok_w (by omega) (by omega) | exact ok_s (by omega) (by omega) | exact ok_c (by omega) rfl | assumption) rfl (by decide) (by decide) rfl ?_
      refine v_getI hC (pc := 52) dX6_rule_52 fl_X6_85 rfl (by first | rfl | exact ok_c hq rfl | exact ok_w hq hw | exact ok_w (by omega) (by omega) | exact ok_s (by omega) (by omega) | exact ok_c (by omega) rfl | assumption) rfl (by decide) (by decide) ?_
      refine v_iret hC hX (pc := 55) dX6_rule_55 ?_
      exact ⟨rfl, by rw [hsw]; rfl⟩
    · rw [hsw]
      refine v_tabIn hC (pc := 1) (tgt := 56) dX6_rule_1 (by decide) (by decide) (off := 55) (by decide) (by decide) ?_
      refine v_aload_n hC (pc := 56) (k := 0) 0 rfl dX6_rule_56 ?_
      refine v_getR hC (pc := 57) dX6_rule_57 fl_X6_10 rfl (by first | rfl | exact ok_c hq rfl | exact ok_w hq hw | exact ok_w (by omega) (by omega) | exact ok_s (by omega) (by omega) | exact ok_c (by omega) rfl | assumption) rfl (by decide) (by decide) rfl ?_
      refine v_getI hC (pc := 60) dX6_rule_60 fl_X6_88 rfl (by first | rfl | exact ok_c hq rfl | exact ok_w hq hw | exact ok_w (by omega) (by omega) | exact ok_s (by omega) (by omega) | exact ok_c (by omega) rfl | assumption) rfl (by decide) (by decide) ?_
      refine v_iret hC hX (pc := 63) dX6_rule_63 ?_
      exact ⟨rfl, by rw [hsw]; rfl⟩
    · rw [hsw]
      refine v_tabIn hC (pc := 1) (tgt := 64) dX6_rule_1 (by decide) (by decide) (off := 63) (by decide) (by decide) ?_
      refine v_aload_n hC (pc := 64) (k := 0) 0 rfl dX6_rule_64 ?_
      refine v_getR hC (pc := 65) dX6_rule_65 fl_X6_10 rfl (by first | rfl | exact ok_c hq rfl | exact ok_w hq hw | exact ok_w (by omega) (by omega) | exact ok_s (by omega) (by omega) | exact ok_c (by omega) rfl | assumption) rfl (by decide) (by decide) rfl ?_
      refine v_getI hC (pc := 68) dX6_rule_68 fl_X6_91 rfl (by first | rfl | exact ok_c hq rfl | exact ok_w hq hw | exact ok_w (by omega) (by omega) | exact ok_s (by omega) (by omega) | exact ok_c (by omega) rfl | assumption) rfl (by decide) (by decide) ?_
      refine v_iret hC hX (pc := 71) dX6_rule_71 ?_
      exact ⟨rfl, by rw [hsw]; rfl⟩
    · rw [hsw]
      refine v_tabIn hC (pc := 1) (tgt := 72) dX6_rule_1 (by decide) (by decide) (off := 71) (by decide) (by decide) ?_
      refine v_aload_n hC (pc := 72) (k := 0) 0 rfl dX6_rule_72 ?_
      refine v_getR hC (pc := 73) dX6_rule_73 fl_X6_10 rfl (by first | rfl | exact ok_c hq rfl | exact ok_w hq hw | exact ok_w (by omega) (by omega) | exact ok_s (by omega) (by omega) | exact ok_c (by omega) rfl | assumption) rfl (by decide) (by decide) rfl ?_
      refine v_getI hC (pc := 76) dX6_rule_76 fl_X6_94 rfl (by first | rfl | exact ok_c hq rfl | exact ok_w hq hw | exact ok_w (by omega) (by omega) | exact ok_s (by omega) (by omega) | exact ok_c (by omega) rfl | assumption) rfl (by decide) (by decide) ?_
      refine v_iret hC hX (pc := 79) dX6_rule_79 ?_
      exact ⟨rfl, by rw [hsw]; rfl⟩
    · rw [hsw]
      refine v_tabIn hC (pc := 1) (tgt := 80) dX6_rule_1 (by decide) (by decide) (off := 79) (by decide) (by decide) ?_
      refine v_aload_n hC (pc := 80) (k := 0) 0 rfl dX6_rule_80 ?_
      refine v_getR hC (pc := 81) dX6_rule_81 fl_X6_10 rfl (by first | rfl | exact ok_c hq rfl | exact ok_w hq hw | exact ok_w (by omega) (by omega) | exact ok_s (by omega) (by omega) | exact ok_c (by omega) rfl | assumption) rfl (by decide) (by decide) rfl ?_
      refine v_getI hC (pc := 84) dX6_rule_84 fl_X6_85 rfl (by first | rfl | exact ok_c hq rfl | exact ok_w hq hw | exact ok_w (by omega) (by omega) | exact ok_s (by omega) (by omega) | exact ok_c (by omega) rfl | assumption) rfl (by decide) (by decide) ?_
      refine v_callS hC (pc := 87) (As := [_]) dX6_rule_87 rfl (t_isTurned _ _ (d := d - 1) (by omega) _ _) cs_X6_97 (Nat.le_of_ble_eq_true rfl) (by omega) (fun r h' hr => ?_)
      obtain ⟨he9, rfl⟩ := hr
      rw [he9]
      clear he9 h'
      show V _ _ _ (87 + 3) _ (_ :: _) _
      refine v_callS hC (pc := 90) (As := [_]) dX6_rule_90 rfl (t_oneIf _ _ (d := d - 1) (by omega) _ _) cs_X6_101 (Nat.le_of_ble_eq_true rfl) (by omega) (fun r h' hr => ?_)
      obtain ⟨he9, rfl⟩ := hr
      rw [he9]
      clear he9 h'
      show V _ _ _ (90 + 3) _ (_ :: _) _
      refine v_iret hC hX (pc := 93) dX6_rule_93 ?_
      exact ⟨rfl, by rw [hsw]; rfl⟩
  · refine v_tabOut hC (pc := 1) (tgt := 94) dX6_rule_1 hsw (by decide) ?_
    refine v_iconst hC (pc := 94) (v := (-1)) (by decide) dX6_rule_94 ?_
    refine v_iret hC hX (pc := 95) dX6_rule_95 ?_
    exact ⟨rfl, by rw [swF_out rfl hsw]⟩

set_option maxRecDepth 20000 in
set_option maxHeartbeats 2000000 in
theorem k_corner_ok (l9 : Launch) (G : WT) {d : Nat} (hd : 3 ≤ d) (h : HP) {nC : Nat} (hn8 : nC ≤ 8) (hnc : h.1 (0, 0, 0) 0 = nI nC) {c s : Nat} (hc : c < nC) (hs : s < 2) : MS l9 G yX6_corner cX6_corner 3 (some .int) d [vr (1, 0, 0), vi (nI c), vi (nI s)] h (fun r h1 => h1 = h ∧ r = some (vi (strF (h.1 (0, 0, 6)) (2 * nI c + nI s)))) := by
  refine MS_of (by decide +kernel) (Nat.le_of_ble_eq_true rfl) (fun X hC hX => ?_)
  show V X G 3 0 _ [] _
  refine v_aload_n hC (pc := 0) (k := 0) 0 rfl dX6_corner_0 ?_
  refine v_getR hC (pc := 1) dX6_corner_1 fl_X6_10 rfl (by first | rfl | exact ok_c hq rfl | exact ok_w hq hw | exact ok_w (by omega) (by omega) | exact ok_s (by omega) (by omega) | exact ok_c (by omega) rfl | assumption) rfl (by decide) (by decide) rfl ?_
  refine v_iload_n hC (pc := 4) (k := 1) 1 rfl dX6_corner_4 ?_
  refine v_callV hC (pc := 5) (As := [_]) dX6_corner_5 rfl (t_hasCorner_t _ _ (d := d - 1) (by omega) (q := 0) (by decide) _ (c := c) (by assumption) (by omega) hnc) cv_X6_105 rfl (by decide) rfl (by first | rfl | exact ok_c hq rfl | exact ok_w hq hw | exact ok_w (by omega) (by omega) | exact ok_s (by omega) (by omega) | exact ok_c (by omega) rfl | assumption) (Nat.le_of_ble_eq_true rfl) (by omega) (fun r h' hr => ?_)
  obtain ⟨he9, rfl⟩ := hr
  rw [he9]
  clear he9 h'
  show V _ _ _ (5 + 3) _ (_ :: _) _
  refine v_if_eq hC (pc := 8) (tgt := 18) dX6_corner_8 (by decide) (fun c_8 => ?_) (fun c_8 => ?_)
  · exact absurd c_8 (by decide)
  · skip
    refine v_iload_n hC (pc := 11) (k := 2) 2 rfl dX6_corner_11 ?_
    refine v_callS hC (pc := 12) (As := [_]) dX6_corner_12 rfl (t_isZeroOrOne_t _ _ (d := d - 1) (by omega) _ (s := s) (by assumption)) cs_X6_108 (Nat.le_of_ble_eq_true rfl) (by omega) (fun r h' hr => ?_)
    obtain ⟨he9, rfl⟩ := hr
    rw [he9]
    clear he9 h'
    show V _ _ _ (12 + 3) _ (_ :: _) _
    refine v_if_ne hC (pc := 15) (tgt := 20) dX6_corner_15 (by decide) (fun c_15 => ?_) (fun c_15 => ?_)
    · skip
      refine v_aload_n hC (pc := 20) (k := 0) 0 rfl dX6_corner_20 ?_
      refine v_getR hC (pc := 21) dX6_corner_21 fl_X6_10 rfl (by first | rfl | exact ok_c hq rfl | exact ok_w hq hw | exact ok_w (by omega) (by omega) | exact ok_s (by omega) (by omega) | exact ok_c (by omega) rfl | assumption) rfl (by decide) (by decide) rfl ?_
      refine v_iload_n hC (pc := 24) (k := 1) 1 rfl dX6_corner_24 ?_
      refine v_iload_n hC (pc := 25) (k := 2) 2 rfl dX6_corner_25 ?_
      refine v_callV hC (pc := 26) (As := [_, _]) dX6_corner_26 rfl (t_streetOf _ _ (d := d - 1) (by omega) (q := 0) (by decide) _ _ _) cv_X6_111 rfl (by decide) rfl (by first | rfl | exact ok_c hq rfl | exact ok_w hq hw | exact ok_w (by omega) (by omega) | exact ok_s (by omega) (by omega) | exact ok_c (by omega) rfl | assumption) (Nat.le_of_ble_eq_true rfl) (by omega) (fun r h' hr => ?_)
      obtain ⟨he9, rfl⟩ := hr
      rw [he9]
      clear he9 h'
      show V _ _ _ (26 + 3) _ (_ :: _) _
      refine v_iret hC hX (pc := 29) dX6_corner_29 ?_
      exact ⟨rfl, rfl⟩
    · exact absurd c_15 (by decide)

set_option maxRecDepth 20000 in
set_option maxHeartbeats 2000000 in
theorem k_corner_bad (l9 : Launch) (G : WT) {d : Nat} (hd : 3 ≤ d) (h : HP) {nC : Nat} (hn8 : nC ≤ 8) (hnc : h.1 (0, 0, 0) 0 = nI nC) (c s : Int32) (hbad : ¬ ((¬ c < 0 ∧ ¬ nI nC ≤ c) ∧ (s = 0 ∨ s = 1))) : MS l9 G yX6_corner cX6_corner 3 (some .int) d [vr (1, 0, 0), vi c, vi s] h (fun r h1 => h1 = h ∧ r = some (vi (-1))) := by
  refine MS_of (by decide +kernel) (Nat.le_of_ble_eq_true rfl) (fun X hC hX => ?_)
  show V X G 3 0 _ [] _
  refine v_aload_n hC (pc := 0) (k := 0) 0 rfl dX6_corner_0 ?_
  refine v_getR hC (pc := 1) dX6_corner_1 fl_X6_10 rfl (by first | rfl | exact ok_c hq rfl | exact ok_w hq hw | exact ok_w (by omega) (by omega) | exact ok_s (by omega) (by omega) | exact ok_c (by omega) rfl | assumption) rfl (by decide) (by decide) rfl ?_
  refine v_iload_n hC (pc := 4) (k := 1) 1 rfl dX6_corner_4 ?_
  refine v_callV hC (pc := 5) (As := [_]) dX6_corner_5 rfl (t_hasCorner _ _ (d := d - 1) (by omega) (q := 0) (by decide) _ _) cv_X6_105 rfl (by decide) rfl (by first | rfl | exact ok_c hq rfl | exact ok_w hq hw | exact ok_w (by omega) (by omega) | exact ok_s (by omega) (by omega) | exact ok_c (by omega) rfl | assumption) (Nat.le_of_ble_eq_true rfl) (by omega) (fun r h' hr => ?_)
  obtain ⟨he9, rfl⟩ := hr
  rw [he9, hnc]
  clear he9 h'
  show V _ _ _ (5 + 3) _ (_ :: _) _
  refine v_ifb_eq hC (pc := 8) (tgt := 18) dX6_corner_8 (by decide) (fun c_8 => ?_) (fun c_8 => ?_)
  · skip
    refine v_iconst hC (pc := 18) (v := (-1)) (by decide) dX6_corner_18 ?_
    refine v_iret hC hX (pc := 19) dX6_corner_19 ?_
    exact ⟨rfl, rfl⟩
  · skip
    refine v_iload_n hC (pc := 11) (k := 2) 2 rfl dX6_corner_11 ?_
    refine v_callS hC (pc := 12) (As := [_]) dX6_corner_12 rfl (t_isZeroOrOne _ _ (d := d - 1) (by omega) _ _) cs_X6_108 (Nat.le_of_ble_eq_true rfl) (by omega) (fun r h' hr => ?_)
    obtain ⟨he9, rfl⟩ := hr
    rw [he9]
    clear he9 h'
    show V _ _ _ (12 + 3) _ (_ :: _) _
    refine v_ifb_ne hC (pc := 15) (tgt := 20) dX6_corner_15 (by decide) (fun c_15 => ?_) (fun c_15 => ?_)
    · skip
      exact absurd (show _ ∧ _ from ⟨c_8, c_15⟩) hbad
    · skip
      refine v_iconst hC (pc := 18) (v := (-1)) (by decide) dX6_corner_18 ?_
      refine v_iret hC hX (pc := 19) dX6_corner_19 ?_
      exact ⟨rfl, rfl⟩

set_option maxRecDepth 20000 in
set_option maxHeartbeats 2000000 in
theorem k_walker_ok (l9 : Launch) (G : WT) {d : Nat} (hd : 4 ≤ d) (h : HP) {nW : Nat} (hn4 : nW ≤ 4) (hnw : h.1 (0, 0, 0) 4 = nI nW) {w : Nat} (hw : w < nW) (x : Int32) : MS l9 G yX6_walker cX6_walker 4 (some .int) d [vr (1, 0, 0), vi (nI w), vi x] h (fun r h1 => h1 = h ∧ r = some (vi (swF [h.1 (6, 0, w) 0, hndF (h.1 (6, 0, w) 1) (h.1 (6, 0, w) 2) (h.1 (0, 0, 0) 2), oneF (h.1 (6, 0, w) 2), h.1 (6, 0, w) 4 - h.1 (6, 0, w) 5] x))) := by
  refine MS_of (by decide +kernel) (Nat.le_of_ble_eq_true rfl) (fun X hC hX => ?_)
  show V X G 4 0 _ [] _
  refine v_aload_n hC (pc := 0) (k := 0) 0 rfl dX6_walker_0 ?_
  refine v_getR hC (pc := 1) dX6_walker_1 fl_X6_10 rfl (by first | rfl | exact ok_c hq rfl | exact ok_w hq hw | exact ok_w (by omega) (by omega) | exact ok_s (by omega) (by omega) | exact ok_c (by omega) rfl | assumption) rfl (by decide) (by decide) rfl ?_
  refine v_iload_n hC (pc := 4) (k := 1) 1 rfl dX6_walker_4 ?_
  refine v_callV hC (pc := 5) (As := [_]) dX6_walker_5 rfl (t_hasWalker_t _ _ (d := d - 1) (by omega) (q := 0) (by decide) _ (c := w) (by assumption) (by omega) hnw) cv_X6_115 rfl (by decide) rfl (by first | rfl | exact ok_c hq rfl | exact ok_w hq hw | exact ok_w (by omega) (by omega) | exact ok_s (by omega) (by omega) | exact ok_c (by omega) rfl | assumption) (Nat.le_of_ble_eq_true rfl) (by omega) (fun r h' hr => ?_)
  obtain ⟨he9, rfl⟩ := hr
  rw [he9]
  clear he9 h'
  show V _ _ _ (5 + 3) _ (_ :: _) _
  refine v_if_ne hC (pc := 8) (tgt := 13) dX6_walker_8 (by decide) (fun c_8 => ?_) (fun c_8 => ?_)
  · skip
    refine v_aload_n hC (pc := 13) (k := 0) 0 rfl dX6_walker_13 ?_
    refine v_getR hC (pc := 14) dX6_walker_14 fl_X6_10 rfl (by first | rfl | exact ok_c hq rfl | exact ok_w hq hw | exact ok_w (by omega) (by omega) | exact ok_s (by omega) (by omega) | exact ok_c (by omega) rfl | assumption) rfl (by decide) (by decide) rfl ?_
    refine v_getR hC (pc := 17) dX6_walker_17 fl_X6_118 rfl (by first | rfl | exact ok_c hq rfl | exact ok_w hq hw | exact ok_w (by omega) (by omega) | exact ok_s (by omega) (by omega) | exact ok_c (by omega) rfl | assumption) rfl (by decide) (by decide) rfl ?_
    refine v_iload_n hC (pc := 20) (k := 1) 1 rfl dX6_walker_20 ?_
    refine v_aald hC (pc := 21) (j := (6, 0, w)) 5 dX6_walker_21 rfl (by decide) (fun _ => rfl) (by first | rfl | exact ok_c hq rfl | exact ok_w hq hw | exact ok_w (by omega) (by omega) | exact ok_s (by omega) (by omega) | exact ok_c (by omega) rfl | assumption) (vp_nat (n := w) (by omega) (by decide)) (by rw [nI_clamp (show w < 2 ^ 31 by omega)]; rfl) ?_
    refine v_astore_n hC (pc := 22) (l' := [(3, _), (0, _), (1, _), (2, _)]) dX6_walker_22 (by decide) rfl ?_
    refine v_iload_n hC (pc := 23) (k := 2) 3 rfl dX6_walker_23 ?_
    rcases sw_cases (x) 3 (by decide) with ⟨k9, hk9, hsw⟩ | hsw
    · rcases (show k9 = 0 ∨ k9 = 1 ∨ k9 = 2 ∨ k9 = 3 by omega) with rfl | rfl | rfl | rfl
      · rw [hsw]
        refine v_tabIn hC (pc := 24) (tgt := 56) dX6_walker_24 (by decide) (by decide) (off := 32) (by decide) (by decide) ?_
        refine v_aload_n hC (pc := 56) (k := 3) 0 rfl dX6_walker_56 ?_
        refine v_getI hC (pc := 57) dX6_walker_57 fl_X6_122 rfl (by first | rfl | exact ok_c hq rfl | exact ok_w hq hw | exact ok_w (by omega) (by omega) | exact ok_s (by omega) (by omega) | exact ok_c (by omega) rfl | assumption) rfl (by decide) (by decide) ?_
        refine v_iret hC hX (pc := 60) dX6_walker_60 ?_
        exact ⟨rfl, by rw [hsw]; rfl⟩
      · rw [hsw]
        refine v_tabIn hC (pc := 24) (tgt := 61) dX6_walker_24 (by decide) (by decide) (off := 37) (by decide) (by decide) ?_
        refine v_aload_n hC (pc := 61) (k := 3) 0 rfl dX6_walker_61 ?_
        refine v_aload_n hC (pc := 62) (k := 0) 1 rfl dX6_walker_62 ?_
        refine v_getR hC (pc := 63) dX6_walker_63 fl_X6_10 rfl (by first | rfl | exact ok_c hq rfl | exact ok_w hq hw | exact ok_w (by omega) (by omega) | exact ok_s (by omega) (by omega) | exact ok_c (by omega) rfl | assumption) rfl (by decide) (by decide) rfl ?_
        refine v_getI hC (pc := 66) dX6_walker_66 fl_X6_85 rfl (by first | rfl | exact ok_c hq rfl | exact ok_w hq hw | exact ok_w (by omega) (by omega) | exact ok_s (by omega) (by omega) | exact ok_c (by omega) rfl | assumption) rfl (by decide) (by decide) ?_
        refine v_callV hC (pc := 69) (As := [_]) dX6_walker_69 rfl (t_handIn _ _ (d := d - 1) (by omega) (q := 0) (by decide) (w := w) (by omega) _ _) cv_X6_125 rfl (by decide) rfl (by first | rfl | exact ok_c hq rfl | exact ok_w hq hw | exact ok_w (by omega) (by omega) | exact ok_s (by omega) (by omega) | exact ok_c (by omega) rfl | assumption) (Nat.le_of_ble_eq_true rfl) (by omega) (fun r h' hr => ?_)
        obtain ⟨he9, rfl⟩ := hr
        rw [he9]
        clear he9 h'
        show V _ _ _ (69 + 3) _ (_ :: _) _
        refine v_iret hC hX (pc := 72) dX6_walker_72 ?_
        exact ⟨rfl, by rw [hsw]; rfl⟩
      · rw [hsw]
        refine v_tabIn hC (pc := 24) (tgt := 73) dX6_walker_24 (by decide) (by decide) (off := 49) (by decide) (by decide) ?_
        refine v_aload_n hC (pc := 73) (k := 3) 0 rfl dX6_walker_73 ?_
        refine v_getZ hC (pc := 74) dX6_walker_74 fl_X6_129 rfl (by first | rfl | exact ok_c hq rfl | exact ok_w hq hw | exact ok_w (by omega) (by omega) | exact ok_s (by omega) (by omega) | exact ok_c (by omega) rfl | assumption) rfl (by decide) (by decide) ?_
        refine v_callS hC (pc := 77) (As := [_]) dX6_walker_77 rfl (t_oneIf _ _ (d := d - 1) (by omega) _ _) cs_X6_101 (Nat.le_of_ble_eq_true rfl) (by omega) (fun r h' hr => ?_)
        obtain ⟨he9, rfl⟩ := hr
        rw [he9]
        clear he9 h'
        show V _ _ _ (77 + 3) _ (_ :: _) _
        refine v_iret hC hX (pc := 80) dX6_walker_80 ?_
        exact ⟨rfl, by rw [hsw]; rfl⟩
      · rw [hsw]
        refine v_tabIn hC (pc := 24) (tgt := 81) dX6_walker_24 (by decide) (by decide) (off := 57) (by decide) (by decide) ?_
        refine v_aload_n hC (pc := 81) (k := 3) 0 rfl dX6_walker_81 ?_
        refine v_callV hC (pc := 82) (As := []) dX6_walker_82 rfl (t_lettersLeft _ _ (d := d - 1) (by omega) (q := 0) (by decide) (w := w) (by omega) _) cv_X6_133 rfl (by decide) rfl (by first | rfl | exact ok_c hq rfl | exact ok_w hq hw | exact ok_w (by omega) (by omega) | exact ok_s (by omega) (by omega) | exact ok_c (by omega) rfl | assumption) (Nat.le_of_ble_eq_true rfl) (by omega) (fun r h' hr => ?_)
        obtain ⟨he9, rfl⟩ := hr
        rw [he9]
        clear he9 h'
        show V _ _ _ (82 + 3) _ (_ :: _) _
        refine v_iret hC hX (pc := 85) dX6_walker_85 ?_
        exact ⟨rfl, by rw [hsw]; rfl⟩
    · refine v_tabOut hC (pc := 24) (tgt := 86) dX6_walker_24 hsw (by decide) ?_
      refine v_iconst hC (pc := 86) (v := (-1)) (by decide) dX6_walker_86 ?_
      refine v_iret hC hX (pc := 87) dX6_walker_87 ?_
      exact ⟨rfl, by rw [swF_out rfl hsw]⟩
  · exact absurd c_8 (by decide)

set_option maxRecDepth 20000 in
set_option maxHeartbeats 2000000 in
theorem k_walker_bad (l9 : Launch) (G : WT) {d : Nat} (hd : 3 ≤ d) (h : HP) {nW : Nat} (hn4 : nW ≤ 4) (hnw : h.1 (0, 0, 0) 4 = nI nW) (w x : Int32) (hbad : ¬ (¬ w < 0 ∧ ¬ nI nW ≤ w)) : MS l9 G yX6_walker cX6_walker 4 (some .int) d [vr (1, 0, 0), vi w, vi x] h (fun r h1 => h1 = h ∧ r = some (vi (-1))) := by
  refine MS_of (by decide +kernel) (Nat.le_of_ble_eq_true rfl) (fun X hC hX => ?_)
  show V X G 4 0 _ [] _
  refine v_aload_n hC (pc := 0) (k := 0) 0 rfl dX6_walker_0 ?_
  refine v_getR hC (pc := 1) dX6_walker_1 fl_X6_10 rfl (by first | rfl | exact ok_c hq rfl | exact ok_w hq hw | exact ok_w (by omega) (by omega) | exact ok_s (by omega) (by omega) | exact ok_c (by omega) rfl | assumption) rfl (by decide) (by decide) rfl ?_
  refine v_iload_n hC (pc := 4) (k := 1) 1 rfl dX6_walker_4 ?_
  refine v_callV hC (pc := 5) (As := [_]) dX6_walker_5 rfl (t_hasWalker _ _ (d := d - 1) (by omega) (q := 0) (by decide) _ _) cv_X6_115 rfl (by decide) rfl (by first | rfl | exact ok_c hq rfl | exact ok_w hq hw | exact ok_w (by omega) (by omega) | exact ok_s (by omega) (by omega) | exact ok_c (by omega) rfl | assumption) (Nat.le_of_ble_eq_true rfl) (by omega) (fun r h' hr => ?_)
  obtain ⟨he9, rfl⟩ := hr
  rw [he9, hnw]
  clear he9 h'
  show V _ _ _ (5 + 3) _ (_ :: _) _
  refine v_ifb_ne hC (pc := 8) (tgt := 13) dX6_walker_8 (by decide) (fun c_8 => ?_) (fun c_8 => ?_)
  · skip
    exact absurd c_8 hbad
  · skip
    refine v_iconst hC (pc := 11) (v := (-1)) (by decide) dX6_walker_11 ?_
    refine v_iret hC hX (pc := 12) dX6_walker_12 ?_
    exact ⟨rfl, rfl⟩

set_option maxRecDepth 20000 in
set_option maxHeartbeats 2000000 in
theorem k_letter_ok (l9 : Launch) (G : WT) {d : Nat} (hd : 3 ≤ d) (h : HP) {nW : Nat} (hn4 : nW ≤ 4) (hnw : h.1 (0, 0, 0) 4 = nI nW) {w i n : Nat} (hw : w < nW) (hln : h.1 (6, 0, w) 4 = nI n) (hn : n < 1000) (hi : i < n) : MS l9 G yX6_letter cX6_letter 4 (some .int) d [vr (1, 0, 0), vi (nI w), vi (nI i)] h (fun r h1 => h1 = h ∧ r = some (vi ((h.1 (6, 0, w) 3 >>> (nI i &&& 31)) &&& 1))) := by
  refine MS_of (by decide +kernel) (Nat.le_of_ble_eq_true rfl) (fun X hC hX => ?_)
  show V X G 4 0 _ [] _
  refine v_aload_n hC (pc := 0) (k := 0) 0 rfl dX6_letter_0 ?_
  refine v_getR hC (pc := 1) dX6_letter_1 fl_X6_10 rfl (by first | rfl | exact ok_c hq rfl | exact ok_w hq hw | exact ok_w (by omega) (by omega) | exact ok_s (by omega) (by omega) | exact ok_c (by omega) rfl | assumption) rfl (by decide) (by decide) rfl ?_
  refine v_iload_n hC (pc := 4) (k := 1) 1 rfl dX6_letter_4 ?_
  refine v_callV hC (pc := 5) (As := [_]) dX6_letter_5 rfl (t_hasWalker_t _ _ (d := d - 1) (by omega) (q := 0) (by decide) _ (c := w) (by assumption) (by omega) hnw) cv_X6_115 rfl (by decide) rfl (by first | rfl | exact ok_c hq rfl | exact ok_w hq hw | exact ok_w (by omega) (by omega) | exact ok_s (by omega) (by omega) | exact ok_c (by omega) rfl | assumption) (Nat.le_of_ble_eq_true rfl) (by omega) (fun r h' hr => ?_)
  obtain ⟨he9, rfl⟩ := hr
  rw [he9]
  clear he9 h'
  show V _ _ _ (5 + 3) _ (_ :: _) _
  refine v_if_ne hC (pc := 8) (tgt := 13) dX6_letter_8 (by decide) (fun c_8 => ?_) (fun c_8 => ?_)
  · skip
    refine v_aload_n hC (pc := 13) (k := 0) 0 rfl dX6_letter_13 ?_
    refine v_getR hC (pc := 14) dX6_letter_14 fl_X6_10 rfl (by first | rfl | exact ok_c hq rfl | exact ok_w hq hw | exact ok_w (by omega) (by omega) | exact ok_s (by omega) (by omega) | exact ok_c (by omega) rfl | assumption) rfl (by decide) (by decide) rfl ?_
    refine v_getR hC (pc := 17) dX6_letter_17 fl_X6_118 rfl (by first | rfl | exact ok_c hq rfl | exact ok_w hq hw | exact ok_w (by omega) (by omega) | exact ok_s (by omega) (by omega) | exact ok_c (by omega) rfl | assumption) rfl (by decide) (by decide) rfl ?_
    refine v_iload_n hC (pc := 20) (k := 1) 1 rfl dX6_letter_20 ?_
    refine v_aald hC (pc := 21) (j := (6, 0, w)) 5 dX6_letter_21 rfl (by decide) (fun _ => rfl) (by first | rfl | exact ok_c hq rfl | exact ok_w hq hw | exact ok_w (by omega) (by omega) | exact ok_s (by omega) (by omega) | exact ok_c (by omega) rfl | assumption) (vp_nat (n := w) (by omega) (by decide)) (by rw [nI_clamp (show w < 2 ^ 31 by omega)]; rfl) ?_
    refine v_astore_n hC (pc := 22) (l' := [(3, _), (0, _), (1, _), (2, _)]) dX6_letter_22 (by decide) rfl ?_
    refine v_iload_n hC (pc := 23) (k := 2) 3 rfl dX6_letter_23 ?_
    refine v_if_lt hC (pc := 24) (tgt := 35) dX6_letter_24 (by decide) (fun c_24 => ?_) (fun c_24 => ?_)
    · exact absurd c_24 (nI_pos (by omega))
    · skip
      refine v_iload_n hC (pc := 27) (k := 2) 3 rfl dX6_letter_27 ?_
      refine v_aload_n hC (pc := 28) (k := 3) 0 rfl dX6_letter_28 ?_
      refine v_getI hC (pc := 29) dX6_letter_29 fl_X6_136 rfl (by first | rfl | exact ok_c hq rfl | exact ok_w hq hw | exact ok_w (by omega) (by omega) | exact ok_s (by omega) (by omega) | exact ok_c (by omega) rfl | assumption) rfl (by decide) (by decide) ?_
      rw [hln]
      refine v_icmp_lt hC (pc := 32) (tgt := 37) dX6_letter_32 (by decide) (fun c_32 => ?_) (fun c_32 => ?_)
      · skip
        refine v_aload_n hC (pc := 37) (k := 3) 0 rfl dX6_letter_37 ?_
        refine v_iload_n hC (pc := 38) (k := 2) 3 rfl dX6_letter_38 ?_
        refine v_callV hC (pc := 39) (As := [_]) dX6_letter_39 rfl (t_letterAt _ _ (d := d - 1) (by omega) (q := 0) (by decide) (w := w) (by omega) _ _) cv_X6_137 rfl (by decide) rfl (by first | rfl | exact ok_c hq rfl | exact ok_w hq hw | exact ok_w (by omega) (by omega) | exact ok_s (by omega) (by omega) | exact ok_c (by omega) rfl | assumption) (Nat.le_of_ble_eq_true rfl) (by omega) (fun r h' hr => ?_)
        obtain ⟨he9, rfl⟩ := hr
        rw [he9]
        clear he9 h'
        show V _ _ _ (39 + 3) _ (_ :: _) _
        refine v_iret hC hX (pc := 42) dX6_letter_42 ?_
        exact ⟨rfl, rfl⟩
      · exact absurd (nI_lt hi (by omega)) c_32
  · exact absurd c_8 (by decide)

set_option maxRecDepth 20000 in
set_option maxHeartbeats 2000000 in
theorem k_letter_n (l9 : Launch) (G : WT) {d : Nat} (hd : 3 ≤ d) (h : HP) {nW : Nat} (hn4 : nW ≤ 4) (hnw : h.1 (0, 0, 0) 4 = nI nW) {w n : Nat} (i : Int32) (hw : w < nW) (hln : h.1 (6, 0, w) 4 = nI n) (hi : ¬ (¬ i < 0 ∧ ¬ nI n ≤ i)) : MS l9 G yX6_letter cX6_letter 4 (some .int) d [vr (1, 0, 0), vi (nI w), vi i] h (fun r h1 => h1 = h ∧ r = some (vi (-1))) := by
  refine MS_of (by decide +kernel) (Nat.le_of_ble_eq_true rfl) (fun X hC hX => ?_)
  show V X G 4 0 _ [] _
  refine v_aload_n hC (pc := 0) (k := 0) 0 rfl dX6_letter_0 ?_
  refine v_getR hC (pc := 1) dX6_letter_1 fl_X6_10 rfl (by first | rfl | exact ok_c hq rfl | exact ok_w hq hw | exact ok_w (by omega) (by omega) | exact ok_s (by omega) (by omega) | exact ok_c (by omega) rfl | assumption) rfl (by decide) (by decide) rfl ?_
  refine v_iload_n hC (pc := 4) (k := 1) 1 rfl dX6_letter_4 ?_
  refine v_callV hC (pc := 5) (As := [_]) dX6_letter_5 rfl (t_hasWalker_t _ _ (d := d - 1) (by omega) (q := 0) (by decide) _ (c := w) (by assumption) (by omega) hnw) cv_X6_115 rfl (by decide) rfl (by first | rfl | exact ok_c hq rfl | exact ok_w hq hw | exact ok_w (by omega) (by omega) | exact ok_s (by omega) (by omega) | exact ok_c (by omega) rfl | assumption) (Nat.le_of_ble_eq_true rfl) (by omega) (fun r h' hr => ?_)
  obtain ⟨he9, rfl⟩ := hr
  rw [he9]
  clear he9 h'
  show V _ _ _ (5 + 3) _ (_ :: _) _
  refine v_if_ne hC (pc := 8) (tgt := 13) dX6_letter_8 (by decide) (fun c_8 => ?_) (fun c_8 => ?_)
  · skip
    refine v_aload_n hC (pc := 13) (k := 0) 0 rfl dX6_letter_13 ?_
    refine v_getR hC (pc := 14) dX6_letter_14 fl_X6_10 rfl (by first | rfl | exact ok_c hq rfl | exact ok_w hq hw | exact ok_w (by omega) (by omega) | exact ok_s (by omega) (by omega) | exact ok_c (by omega) rfl | assumption) rfl (by decide) (by decide) rfl ?_
    refine v_getR hC (pc := 17) dX6_letter_17 fl_X6_118 rfl (by first | rfl | exact ok_c hq rfl | exact ok_w hq hw | exact ok_w (by omega) (by omega) | exact ok_s (by omega) (by omega) | exact ok_c (by omega) rfl | assumption) rfl (by decide) (by decide) rfl ?_
    refine v_iload_n hC (pc := 20) (k := 1) 1 rfl dX6_letter_20 ?_
    refine v_aald hC (pc := 21) (j := (6, 0, w)) 5 dX6_letter_21 rfl (by decide) (fun _ => rfl) (by first | rfl | exact ok_c hq rfl | exact ok_w hq hw | exact ok_w (by omega) (by omega) | exact ok_s (by omega) (by omega) | exact ok_c (by omega) rfl | assumption) (vp_nat (n := w) (by omega) (by decide)) (by rw [nI_clamp (show w < 2 ^ 31 by omega)]; rfl) ?_
    refine v_astore_n hC (pc := 22) (l' := [(3, _), (0, _), (1, _), (2, _)]) dX6_letter_22 (by decide) rfl ?_
    refine v_iload_n hC (pc := 23) (k := 2) 3 rfl dX6_letter_23 ?_
    refine v_if_lt hC (pc := 24) (tgt := 35) dX6_letter_24 (by decide) (fun c_24 => ?_) (fun c_24 => ?_)
    · skip
      refine v_iconst hC (pc := 35) (v := (-1)) (by decide) dX6_letter_35 ?_
      refine v_iret hC hX (pc := 36) dX6_letter_36 ?_
      exact ⟨rfl, rfl⟩
    · skip
      refine v_iload_n hC (pc := 27) (k := 2) 3 rfl dX6_letter_27 ?_
      refine v_aload_n hC (pc := 28) (k := 3) 0 rfl dX6_letter_28 ?_
      refine v_getI hC (pc := 29) dX6_letter_29 fl_X6_136 rfl (by first | rfl | exact ok_c hq rfl | exact ok_w hq hw | exact ok_w (by omega) (by omega) | exact ok_s (by omega) (by omega) | exact ok_c (by omega) rfl | assumption) rfl (by decide) (by decide) ?_
      rw [hln]
      refine v_icmp_lt hC (pc := 32) (tgt := 37) dX6_letter_32 (by decide) (fun c_32 => ?_) (fun c_32 => ?_)
      · exact absurd ⟨c_24, Int32.not_le.mpr c_32⟩ hi
      · skip
        refine v_iconst hC (pc := 35) (v := (-1)) (by decide) dX6_letter_35 ?_
        refine v_iret hC hX (pc := 36) dX6_letter_36 ?_
        exact ⟨rfl, rfl⟩
  · exact absurd c_8 (by decide)

set_option maxRecDepth 20000 in
set_option maxHeartbeats 2000000 in
theorem k_letter_bad (l9 : Launch) (G : WT) {d : Nat} (hd : 3 ≤ d) (h : HP) {nW : Nat} (hn4 : nW ≤ 4) (hnw : h.1 (0, 0, 0) 4 = nI nW) (w i : Int32) (hbad : ¬ (¬ w < 0 ∧ ¬ nI nW ≤ w)) : MS l9 G yX6_letter cX6_letter 4 (some .int) d [vr (1, 0, 0), vi w, vi i] h (fun r h1 => h1 = h ∧ r = some (vi (-1))) := by
  refine MS_of (by decide +kernel) (Nat.le_of_ble_eq_true rfl) (fun X hC hX => ?_)
  show V X G 4 0 _ [] _
  refine v_aload_n hC (pc := 0) (k := 0) 0 rfl dX6_letter_0 ?_
  refine v_getR hC (pc := 1) dX6_letter_1 fl_X6_10 rfl (by first | rfl | exact ok_c hq rfl | exact ok_w hq hw | exact ok_w (by omega) (by omega) | exact ok_s (by omega) (by omega) | exact ok_c (by omega) rfl | assumption) rfl (by decide) (by decide) rfl ?_
  refine v_iload_n hC (pc := 4) (k := 1) 1 rfl dX6_letter_4 ?_
  refine v_callV hC (pc := 5) (As := [_]) dX6_letter_5 rfl (t_hasWalker _ _ (d := d - 1) (by omega) (q := 0) (by decide) _ _) cv_X6_115 rfl (by decide) rfl (by first | rfl | exact ok_c hq rfl | exact ok_w hq hw | exact ok_w (by omega) (by omega) | exact ok_s (by omega) (by omega) | exact ok_c (by omega) rfl | assumption) (Nat.le_of_ble_eq_true rfl) (by omega) (fun r h' hr => ?_)
  obtain ⟨he9, rfl⟩ := hr
  rw [he9, hnw]
  clear he9 h'
  show V _ _ _ (5 + 3) _ (_ :: _) _
  refine v_ifb_ne hC (pc := 8) (tgt := 13) dX6_letter_8 (by decide) (fun c_8 => ?_) (fun c_8 => ?_)
  · skip
    exact absurd c_8 hbad
  · skip
    refine v_iconst hC (pc := 11) (v := (-1)) (by decide) dX6_letter_11 ?_
    refine v_iret hC hX (pc := 12) dX6_letter_12 ?_
    exact ⟨rfl, rfl⟩

set_option maxRecDepth 20000 in
set_option maxHeartbeats 2000000 in
theorem k_gloves_0 (l9 : Launch) (G : WT) {d : Nat} (hd : 3 ≤ d) (h : HP)  : MS l9 G yX6_gloves cX6_gloves 2 (some .int) d [vr (1, 0, 0), vi (nI 0)] h (fun r h1 => h1 = h ∧ r = some (vi (h.1 (0, 0, 8) (if (bI (¬ h.1 (0, 0, 0) 2 - h.1 (0, 0, 0) 2 / 24 * 24 < 12)) = 0 then 0 else 1 - 0) + h.1 (0, 0, 8) (2 + 0)))) := by
  refine MS_of (by decide +kernel) (Nat.le_of_ble_eq_true rfl) (fun X hC hX => ?_)
  show V X G 2 0 _ [] _
  refine v_iload_n hC (pc := 0) (k := 1) 1 rfl dX6_gloves_0 ?_
  refine v_tabIn hC (pc := 1) (tgt := 28) dX6_gloves_1 (by decide) (by decide) (off := 27) (by decide) (by decide) ?_
  refine v_aload_n hC (pc := 28) (k := 0) 0 rfl dX6_gloves_28 ?_
  refine v_getR hC (pc := 29) dX6_gloves_29 fl_X6_10 rfl (by first | rfl | exact ok_c hq rfl | exact ok_w hq hw | exact ok_w (by omega) (by omega) | exact ok_s (by omega) (by omega) | exact ok_c (by omega) rfl | assumption) rfl (by decide) (by decide) rfl ?_
  refine v_iconst hC (pc := 32) (v := 0) (by decide) dX6_gloves_32 ?_
  refine v_aload_n hC (pc := 33) (k := 0) 0 rfl dX6_gloves_33 ?_
  refine v_getR hC (pc := 34) dX6_gloves_34 fl_X6_10 rfl (by first | rfl | exact ok_c hq rfl | exact ok_w hq hw | exact ok_w (by omega) (by omega) | exact ok_s (by omega) (by omega) | exact ok_c (by omega) rfl | assumption) rfl (by decide) (by decide) rfl ?_
  refine v_getI hC (pc := 37) dX6_gloves_37 fl_X6_85 rfl (by first | rfl | exact ok_c hq rfl | exact ok_w hq hw | exact ok_w (by omega) (by omega) | exact ok_s (by omega) (by omega) | exact ok_c (by omega) rfl | assumption) rfl (by decide) (by decide) ?_
  refine v_callS hC (pc := 40) (As := [_]) dX6_gloves_40 rfl (t_isTurned _ _ (d := d - 1) (by omega) _ _) cs_X6_97 (Nat.le_of_ble_eq_true rfl) (by omega) (fun r h' hr => ?_)
  obtain ⟨he9, rfl⟩ := hr
  rw [he9]
  clear he9 h'
  show V _ _ _ (40 + 3) _ (_ :: _) _
  refine v_callV hC (pc := 43) (As := [_, _]) dX6_gloves_43 rfl (t_glovesFor _ _ (d := d - 1) (by omega) (q := 0) (by decide) _ (g := 0) (by decide) _) cv_X6_140 rfl (by decide) rfl (by first | rfl | exact ok_c hq rfl | exact ok_w hq hw | exact ok_w (by omega) (by omega) | exact ok_s (by omega) (by omega) | exact ok_c (by omega) rfl | assumption) (Nat.le_of_ble_eq_true rfl) (by omega) (fun r h' hr => ?_)
  obtain ⟨he9, rfl⟩ := hr
  rw [he9]
  clear he9 h'
  show V _ _ _ (43 + 3) _ (_ :: _) _
  refine v_iret hC hX (pc := 46) dX6_gloves_46 ?_
  exact ⟨rfl, rfl⟩

set_option maxRecDepth 20000 in
set_option maxHeartbeats 2000000 in
theorem k_gloves_1 (l9 : Launch) (G : WT) {d : Nat} (hd : 3 ≤ d) (h : HP)  : MS l9 G yX6_gloves cX6_gloves 2 (some .int) d [vr (1, 0, 0), vi (nI 1)] h (fun r h1 => h1 = h ∧ r = some (vi (h.1 (0, 0, 8) (if (bI (¬ h.1 (0, 0, 0) 2 - h.1 (0, 0, 0) 2 / 24 * 24 < 12)) = 0 then 1 else 1 - 1) + h.1 (0, 0, 8) (2 + 1)))) := by
  refine MS_of (by decide +kernel) (Nat.le_of_ble_eq_true rfl) (fun X hC hX => ?_)
  show V X G 2 0 _ [] _
  refine v_iload_n hC (pc := 0) (k := 1) 1 rfl dX6_gloves_0 ?_
  refine v_tabIn hC (pc := 1) (tgt := 47) dX6_gloves_1 (by decide) (by decide) (off := 46) (by decide) (by decide) ?_
  refine v_aload_n hC (pc := 47) (k := 0) 0 rfl dX6_gloves_47 ?_
  refine v_getR hC (pc := 48) dX6_gloves_48 fl_X6_10 rfl (by first | rfl | exact ok_c hq rfl | exact ok_w hq hw | exact ok_w (by omega) (by omega) | exact ok_s (by omega) (by omega) | exact ok_c (by omega) rfl | assumption) rfl (by decide) (by decide) rfl ?_
  refine v_iconst hC (pc := 51) (v := 1) (by decide) dX6_gloves_51 ?_
  refine v_aload_n hC (pc := 52) (k := 0) 0 rfl dX6_gloves_52 ?_
  refine v_getR hC (pc := 53) dX6_gloves_53 fl_X6_10 rfl (by first | rfl | exact ok_c hq rfl | exact ok_w hq hw | exact ok_w (by omega) (by omega) | exact ok_s (by omega) (by omega) | exact ok_c (by omega) rfl | assumption) rfl (by decide) (by decide) rfl ?_
  refine v_getI hC (pc := 56) dX6_gloves_56 fl_X6_85 rfl (by first | rfl | exact ok_c hq rfl | exact ok_w hq hw | exact ok_w (by omega) (by omega) | exact ok_s (by omega) (by omega) | exact ok_c (by omega) rfl | assumption) rfl (by decide) (by decide) ?_
  refine v_callS hC (pc := 59) (As := [_]) dX6_gloves_59 rfl (t_isTurned _ _ (d := d - 1) (by omega) _ _) cs_X6_97 (Nat.le_of_ble_eq_true rfl) (by omega) (fun r h' hr => ?_)
  obtain ⟨he9, rfl⟩ := hr
  rw [he9]
  clear he9 h'
  show V _ _ _ (59 + 3) _ (_ :: _) _
  refine v_callV hC (pc := 62) (As := [_, _]) dX6_gloves_62 rfl (t_glovesFor _ _ (d := d - 1) (by omega) (q := 0) (by decide) _ (g := 1) (by decide) _) cv_X6_140 rfl (by decide) rfl (by first | rfl | exact ok_c hq rfl | exact ok_w hq hw | exact ok_w (by omega) (by omega) | exact ok_s (by omega) (by omega) | exact ok_c (by omega) rfl | assumption) (Nat.le_of_ble_eq_true rfl) (by omega) (fun r h' hr => ?_)
  obtain ⟨he9, rfl⟩ := hr
  rw [he9]
  clear he9 h'
  show V _ _ _ (62 + 3) _ (_ :: _) _
  refine v_iret hC hX (pc := 65) dX6_gloves_65 ?_
  exact ⟨rfl, rfl⟩

set_option maxRecDepth 20000 in
set_option maxHeartbeats 2000000 in
theorem k_gloves_2 (l9 : Launch) (G : WT) {d : Nat} (hd : 3 ≤ d) (h : HP)  : MS l9 G yX6_gloves cX6_gloves 2 (some .int) d [vr (1, 0, 0), vi (nI 2)] h (fun r h1 => h1 = h ∧ r = some (vi ((h.1 (0, 0, 8) (if (0 : Int32) = 0 then 0 else 1 - 0) + h.1 (0, 0, 8) (2 + 0)) + (h.1 (0, 0, 8) (if (0 : Int32) = 0 then 1 else 1 - 1) + h.1 (0, 0, 8) (2 + 1))))) := by
  refine MS_of (by decide +kernel) (Nat.le_of_ble_eq_true rfl) (fun X hC hX => ?_)
  show V X G 2 0 _ [] _
  refine v_iload_n hC (pc := 0) (k := 1) 1 rfl dX6_gloves_0 ?_
  refine v_tabIn hC (pc := 1) (tgt := 66) dX6_gloves_1 (by decide) (by decide) (off := 65) (by decide) (by decide) ?_
  refine v_aload_n hC (pc := 66) (k := 0) 0 rfl dX6_gloves_66 ?_
  refine v_getR hC (pc := 67) dX6_gloves_67 fl_X6_10 rfl (by first | rfl | exact ok_c hq rfl | exact ok_w hq hw | exact ok_w (by omega) (by omega) | exact ok_s (by omega) (by omega) | exact ok_c (by omega) rfl | assumption) rfl (by decide) (by decide) rfl ?_
  refine v_iconst hC (pc := 70) (v := 0) (by decide) dX6_gloves_70 ?_
  refine v_iconst hC (pc := 71) (v := 0) (by decide) dX6_gloves_71 ?_
  refine v_callV hC (pc := 72) (As := [_, _]) dX6_gloves_72 rfl (t_glovesFor _ _ (d := d - 1) (by omega) (q := 0) (by decide) _ (g := 0) (by decide) 0) cv_X6_140 rfl (by decide) rfl (by first | rfl | exact ok_c hq rfl | exact ok_w hq hw | exact ok_w (by omega) (by omega) | exact ok_s (by omega) (by omega) | exact ok_c (by omega) rfl | assumption) (Nat.le_of_ble_eq_true rfl) (by omega) (fun r h' hr => ?_)
  obtain ⟨he9, rfl⟩ := hr
  rw [he9]
  clear he9 h'
  show V _ _ _ (72 + 3) _ (_ :: _) _
  refine v_aload_n hC (pc := 75) (k := 0) 0 rfl dX6_gloves_75 ?_
  refine v_getR hC (pc := 76) dX6_gloves_76 fl_X6_10 rfl (by first | rfl | exact ok_c hq rfl | exact ok_w hq hw | exact ok_w (by omega) (by omega) | exact ok_s (by omega) (by omega) | exact ok_c (by omega) rfl | assumption) rfl (by decide) (by decide) rfl ?_
  refine v_iconst hC (pc := 79) (v := 1) (by decide) dX6_gloves_79 ?_
  refine v_iconst hC (pc := 80) (v := 0) (by decide) dX6_gloves_80 ?_
  refine v_callV hC (pc := 81) (As := [_, _]) dX6_gloves_81 rfl (t_glovesFor _ _ (d := d - 1) (by omega) (q := 0) (by decide) _ (g := 1) (by decide) 0) cv_X6_140 rfl (by decide) rfl (by first | rfl | exact ok_c hq rfl | exact ok_w hq hw | exact ok_w (by omega) (by omega) | exact ok_s (by omega) (by omega) | exact ok_c (by omega) rfl | assumption) (Nat.le_of_ble_eq_true rfl) (by omega) (fun r h' hr => ?_)
  obtain ⟨he9, rfl⟩ := hr
  rw [he9]
  clear he9 h'
  show V _ _ _ (81 + 3) _ (_ :: _) _
  refine v_iadd hC (pc := 84) dX6_gloves_84 ?_
  refine v_iret hC hX (pc := 85) dX6_gloves_85 ?_
  exact ⟨rfl, rfl⟩

set_option maxRecDepth 20000 in
set_option maxHeartbeats 2000000 in
theorem k_gloves_n (l9 : Launch) (G : WT) {d : Nat} (hd : 3 ≤ d) (h : HP) (x : Int32) (hx : x.toInt < 0 ∨ (2 : Int) < x.toInt) : MS l9 G yX6_gloves cX6_gloves 2 (some .int) d [vr (1, 0, 0), vi x] h (fun r h1 => h1 = h ∧ r = some (vi (-1))) := by
  refine MS_of (by decide +kernel) (Nat.le_of_ble_eq_true rfl) (fun X hC hX => ?_)
  show V X G 2 0 _ [] _
  refine v_iload_n hC (pc := 0) (k := 1) 1 rfl dX6_gloves_0 ?_
  refine v_tabOut hC (pc := 1) (tgt := 86) dX6_gloves_1 hx (by decide) ?_
  refine v_iconst hC (pc := 86) (v := (-1)) (by decide) dX6_gloves_86 ?_
  refine v_iret hC hX (pc := 87) dX6_gloves_87 ?_
  exact ⟨rfl, rfl⟩

set_option maxRecDepth 20000 in
set_option maxHeartbeats 2000000 in
theorem k_leads_ok (l9 : Launch) (G : WT) {d : Nat} (hd : 4 ≤ d) (h : HP) {nC : Nat} (hn8 : nC ≤ 8) (hnc : h.1 (0, 0, 0) 0 = nI nC) {c s t : Nat} (hc : c < nC) (hs : s < 2) (ht : t < 24) : MS l9 G yX6_leads cX6_leads 4 (some .int) d [vr (1, 0, 0), vi (nI c), vi (nI s), vi (nI t)] h (fun r h1 => h1 = h ∧ r = some (vi (ledF (h.1 (0, 0, 6)) (h.1 (0, 0, 0) 1) (nI c) (nI s) (nI t) 0))) := by
  refine MS_of (by decide +kernel) (Nat.le_of_ble_eq_true rfl) (fun X hC hX => ?_)
  show V X G 4 0 _ [] _
  refine v_aload_n hC (pc := 0) (k := 0) 0 rfl dX6_leads_0 ?_
  refine v_getR hC (pc := 1) dX6_leads_1 fl_X6_10 rfl (by first | rfl | exact ok_c hq rfl | exact ok_w hq hw | exact ok_w (by omega) (by omega) | exact ok_s (by omega) (by omega) | exact ok_c (by omega) rfl | assumption) rfl (by decide) (by decide) rfl ?_
  refine v_iload_n hC (pc := 4) (k := 1) 1 rfl dX6_leads_4 ?_
  refine v_callV hC (pc := 5) (As := [_]) dX6_leads_5 rfl (t_hasCorner_t _ _ (d := d - 1) (by omega) (q := 0) (by decide) _ (c := c) (by assumption) (by omega) hnc) cv_X6_105 rfl (by decide) rfl (by first | rfl | exact ok_c hq rfl | exact ok_w hq hw | exact ok_w (by omega) (by omega) | exact ok_s (by omega) (by omega) | exact ok_c (by omega) rfl | assumption) (Nat.le_of_ble_eq_true rfl) (by omega) (fun r h' hr => ?_)
  obtain ⟨he9, rfl⟩ := hr
  rw [he9]
  clear he9 h'
  show V _ _ _ (5 + 3) _ (_ :: _) _
  refine v_if_eq hC (pc := 8) (tgt := 25) dX6_leads_8 (by decide) (fun c_8 => ?_) (fun c_8 => ?_)
  · exact absurd c_8 (by decide)
  · skip
    refine v_iload_n hC (pc := 11) (k := 2) 2 rfl dX6_leads_11 ?_
    refine v_callS hC (pc := 12) (As := [_]) dX6_leads_12 rfl (t_isZeroOrOne_t _ _ (d := d - 1) (by omega) _ (s := s) (by assumption)) cs_X6_108 (Nat.le_of_ble_eq_true rfl) (by omega) (fun r h' hr => ?_)
    obtain ⟨he9, rfl⟩ := hr
    rw [he9]
    clear he9 h'
    show V _ _ _ (12 + 3) _ (_ :: _) _
    refine v_if_eq hC (pc := 15) (tgt := 25) dX6_leads_15 (by decide) (fun c_15 => ?_) (fun c_15 => ?_)
    · exact absurd c_15 (by decide)
    · skip
      refine v_iload_n hC (pc := 18) (k := 3) 3 rfl dX6_leads_18 ?_
      refine v_callS hC (pc := 19) (As := [_]) dX6_leads_19 rfl (t_isHour_t _ _ (d := d - 1) (by omega) _ (s := t) (by assumption)) cs_X6_144 (Nat.le_of_ble_eq_true rfl) (by omega) (fun r h' hr => ?_)
      obtain ⟨he9, rfl⟩ := hr
      rw [he9]
      clear he9 h'
      show V _ _ _ (19 + 3) _ (_ :: _) _
      refine v_if_ne hC (pc := 22) (tgt := 27) dX6_leads_22 (by decide) (fun c_22 => ?_) (fun c_22 => ?_)
      · skip
        refine v_aload_n hC (pc := 27) (k := 0) 0 rfl dX6_leads_27 ?_
        refine v_getR hC (pc := 28) dX6_leads_28 fl_X6_10 rfl (by first | rfl | exact ok_c hq rfl | exact ok_w hq hw | exact ok_w (by omega) (by omega) | exact ok_s (by omega) (by omega) | exact ok_c (by omega) rfl | assumption) rfl (by decide) (by decide) rfl ?_
        refine v_iload_n hC (pc := 31) (k := 1) 1 rfl dX6_leads_31 ?_
        refine v_iload_n hC (pc := 32) (k := 2) 2 rfl dX6_leads_32 ?_
        refine v_iload_n hC (pc := 33) (k := 3) 3 rfl dX6_leads_33 ?_
        refine v_iconst hC (pc := 34) (v := 0) (by decide) dX6_leads_34 ?_
        refine v_callV hC (pc := 35) (As := [_, _, _, _]) dX6_leads_35 rfl (t_leadsTo _ _ (d := d - 1) (by omega) (q := 0) (by decide) _ _ _ _ _) cv_X6_147 rfl (by decide) rfl (by first | rfl | exact ok_c hq rfl | exact ok_w hq hw | exact ok_w (by omega) (by omega) | exact ok_s (by omega) (by omega) | exact ok_c (by omega) rfl | assumption) (Nat.le_of_ble_eq_true rfl) (by omega) (fun r h' hr => ?_)
        obtain ⟨he9, rfl⟩ := hr
        rw [he9]
        clear he9 h'
        show V _ _ _ (35 + 3) _ (_ :: _) _
        refine v_iret hC hX (pc := 38) dX6_leads_38 ?_
        exact ⟨rfl, rfl⟩
      · exact absurd c_22 (by decide)

set_option maxRecDepth 20000 in
set_option maxHeartbeats 2000000 in
theorem k_leads_bad (l9 : Launch) (G : WT) {d : Nat} (hd : 3 ≤ d) (h : HP) {nC : Nat} (hn8 : nC ≤ 8) (hnc : h.1 (0, 0, 0) 0 = nI nC) (c s t : Int32) (hbad : ¬ ((¬ c < 0 ∧ ¬ nI nC ≤ c) ∧ (s = 0 ∨ s = 1) ∧ ¬ t < 0 ∧ ¬ 24 ≤ t)) : MS l9 G yX6_leads cX6_leads 4 (some .int) d [vr (1, 0, 0), vi c, vi s, vi t] h (fun r h1 => h1 = h ∧ r = some (vi (-1))) := by
  refine MS_of (by decide +kernel) (Nat.le_of_ble_eq_true rfl) (fun X hC hX => ?_)
  show V X G 4 0 _ [] _
  refine v_aload_n hC (pc := 0) (k := 0) 0 rfl dX6_leads_0 ?_
  refine v_getR hC (pc := 1) dX6_leads_1 fl_X6_10 rfl (by first | rfl | exact ok_c hq rfl | exact ok_w hq hw | exact ok_w (by omega) (by omega) | exact ok_s (by omega) (by omega) | exact ok_c (by omega) rfl | assumption) rfl (by decide) (by decide) rfl ?_
  refine v_iload_n hC (pc := 4) (k := 1) 1 rfl dX6_leads_4 ?_
  refine v_callV hC (pc := 5) (As := [_]) dX6_leads_5 rfl (t_hasCorner _ _ (d := d - 1) (by omega) (q := 0) (by decide) _ _) cv_X6_105 rfl (by decide) rfl (by first | rfl | exact ok_c hq rfl | exact ok_w hq hw | exact ok_w (by omega) (by omega) | exact ok_s (by omega) (by omega) | exact ok_c (by omega) rfl | assumption) (Nat.le_of_ble_eq_true rfl) (by omega) (fun r h' hr => ?_)
  obtain ⟨he9, rfl⟩ := hr
  rw [he9, hnc]
  clear he9 h'
  show V _ _ _ (5 + 3) _ (_ :: _) _
  refine v_ifb_eq hC (pc := 8) (tgt := 25) dX6_leads_8 (by decide) (fun c_8 => ?_) (fun c_8 => ?_)
  · skip
    refine v_iconst hC (pc := 25) (v := (-1)) (by decide) dX6_leads_25 ?_
    refine v_iret hC hX (pc := 26) dX6_leads_26 ?_
    exact ⟨rfl, rfl⟩
  · skip
    refine v_iload_n hC (pc := 11) (k := 2) 2 rfl dX6_leads_11 ?_
    refine v_callS hC (pc := 12) (As := [_]) dX6_leads_12 rfl (t_isZeroOrOne _ _ (d := d - 1) (by omega) _ _) cs_X6_108 (Nat.le_of_ble_eq_true rfl) (by omega) (fun r h' hr => ?_)
    obtain ⟨he9, rfl⟩ := hr
    rw [he9]
    clear he9 h'
    show V _ _ _ (12 + 3) _ (_ :: _) _
    refine v_ifb_eq hC (pc := 15) (tgt := 25) dX6_leads_15 (by decide) (fun c_15 => ?_) (fun c_15 => ?_)
    · skip
      refine v_iconst hC (pc := 25) (v := (-1)) (by decide) dX6_leads_25 ?_
      refine v_iret hC hX (pc := 26) dX6_leads_26 ?_
      exact ⟨rfl, rfl⟩
    · skip
      refine v_iload_n hC (pc := 18) (k := 3) 3 rfl dX6_leads_18 ?_
      refine v_callS hC (pc := 19) (As := [_]) dX6_leads_19 rfl (t_isHour _ _ (d := d - 1) (by omega) _ _) cs_X6_144 (Nat.le_of_ble_eq_true rfl) (by omega) (fun r h' hr => ?_)
      obtain ⟨he9, rfl⟩ := hr
      rw [he9]
      clear he9 h'
      show V _ _ _ (19 + 3) _ (_ :: _) _
      refine v_ifb_ne hC (pc := 22) (tgt := 27) dX6_leads_22 (by decide) (fun c_22 => ?_) (fun c_22 => ?_)
      · skip
        exact absurd (show _ ∧ _ ∧ _ from ⟨c_8, c_15, c_22⟩) hbad
      · skip
        refine v_iconst hC (pc := 25) (v := (-1)) (by decide) dX6_leads_25 ?_
        refine v_iret hC hX (pc := 26) dX6_leads_26 ?_
        exact ⟨rfl, rfl⟩

set_option maxRecDepth 20000 in
set_option maxHeartbeats 2000000 in
theorem k_street_ok (l9 : Launch) (G : WT) {d : Nat} (hd : 3 ≤ d) (h : HP) {nC : Nat} (hn8 : nC ≤ 8) (hnc : h.1 (0, 0, 0) 0 = nI nC) {c s : Nat} (hc : c < nC) (hs : s < 2) {to : Int32} (hto : to = -4 ∨ ∃ t, t < nC ∧ to = nI t) : MS l9 G yX6_street cX6_street 5 (some .int) d [vr (1, 0, 0), vi (nI c), vi (nI s), vi to] h (fun r h1 => r = some (vi (strF (h.1 (0, 0, 6)) (2 * nI c + nI s))) ∧ h1 = if ¬ 2 * nI c + nI s < 0 ∧ ¬ 16 ≤ 2 * nI c + nI s then upI h (0, 0, 6) (2 * nI c + nI s).toNatClampNeg to else h) := by
  refine MS_of (by decide +kernel) (Nat.le_of_ble_eq_true rfl) (fun X hC hX => ?_)
  show V X G 5 0 _ [] _
  refine v_aload_n hC (pc := 0) (k := 0) 0 rfl dX6_street_0 ?_
  refine v_getR hC (pc := 1) dX6_street_1 fl_X6_10 rfl (by first | rfl | exact ok_c hq rfl | exact ok_w hq hw | exact ok_w (by omega) (by omega) | exact ok_s (by omega) (by omega) | exact ok_c (by omega) rfl | assumption) rfl (by decide) (by decide) rfl ?_
  refine v_iload_n hC (pc := 4) (k := 1) 1 rfl dX6_street_4 ?_
  refine v_callV hC (pc := 5) (As := [_]) dX6_street_5 rfl (t_hasCorner_t _ _ (d := d - 1) (by omega) (q := 0) (by decide) _ (c := c) (by assumption) (by omega) hnc) cv_X6_105 rfl (by decide) rfl (by first | rfl | exact ok_c hq rfl | exact ok_w hq hw | exact ok_w (by omega) (by omega) | exact ok_s (by omega) (by omega) | exact ok_c (by omega) rfl | assumption) (Nat.le_of_ble_eq_true rfl) (by omega) (fun r h' hr => ?_)
  obtain ⟨he9, rfl⟩ := hr
  rw [he9]
  clear he9 h'
  show V _ _ _ (5 + 3) _ (_ :: _) _
  refine v_if_eq hC (pc := 8) (tgt := 35) dX6_street_8 (by decide) (fun c_8 => ?_) (fun c_8 => ?_)
  · exact absurd c_8 (by decide)
  · skip
    refine v_iload_n hC (pc := 11) (k := 2) 2 rfl dX6_street_11 ?_
    refine v_callS hC (pc := 12) (As := [_]) dX6_street_12 rfl (t_isZeroOrOne_t _ _ (d := d - 1) (by omega) _ (s := s) (by assumption)) cs_X6_108 (Nat.le_of_ble_eq_true rfl) (by omega) (fun r h' hr => ?_)
    obtain ⟨he9, rfl⟩ := hr
    rw [he9]
    clear he9 h'
    show V _ _ _ (12 + 3) _ (_ :: _) _
    refine v_if_eq hC (pc := 15) (tgt := 35) dX6_street_15 (by decide) (fun c_15 => ?_) (fun c_15 => ?_)
    · exact absurd c_15 (by decide)
    · skip
      refine v_iload_n hC (pc := 18) (k := 3) 3 rfl dX6_street_18 ?_
      refine v_bipush hC (pc := 19) (v := (-4)) (by decide +kernel) dX6_street_19 ?_
      refine v_icmp_eq hC (pc := 21) (tgt := 37) dX6_street_21 (by decide) (fun c_21 => ?_) (fun c_21 => ?_)
      · skip
        refine v_aload_n hC (pc := 37) (k := 0) 0 rfl dX6_street_37 ?_
        refine v_getR hC (pc := 38) dX6_street_38 fl_X6_10 rfl (by first | rfl | exact ok_c hq rfl | exact ok_w hq hw | exact ok_w (by omega) (by omega) | exact ok_s (by omega) (by omega) | exact ok_c (by omega) rfl | assumption) rfl (by decide) (by decide) rfl ?_
        refine v_iload_n hC (pc := 41) (k := 1) 1 rfl dX6_street_41 ?_
        refine v_iload_n hC (pc := 42) (k := 2) 2 rfl dX6_street_42 ?_
        refine v_callV hC (pc := 43) (As := [_, _]) dX6_street_43 rfl (t_streetOf _ _ (d := d - 1) (by omega) (q := 0) (by decide) _ _ _) cv_X6_111 rfl (by decide) rfl (by first | rfl | exact ok_c hq rfl | exact ok_w hq hw | exact ok_w (by omega) (by omega) | exact ok_s (by omega) (by omega) | exact ok_c (by omega) rfl | assumption) (Nat.le_of_ble_eq_true rfl) (by omega) (fun r h' hr => ?_)
        obtain ⟨he9, rfl⟩ := hr
        rw [he9]
        clear he9 h'
        show V _ _ _ (43 + 3) _ (_ :: _) _
        refine v_istore hC (pc := 46) (l' := [(4, _), (0, _), (1, _), (2, _), (3, _)]) dX6_street_46 (by decide) rfl ?_
        refine v_aload_n hC (pc := 48) (k := 0) 1 rfl dX6_street_48 ?_
        refine v_getR hC (pc := 49) dX6_street_49 fl_X6_10 rfl (by first | rfl | exact ok_c hq rfl | exact ok_w hq hw | exact ok_w (by omega) (by omega) | exact ok_s (by omega) (by omega) | exact ok_c (by omega) rfl | assumption) rfl (by decide) (by decide) rfl ?_
        refine v_iload_n hC (pc := 52) (k := 1) 2 rfl dX6_street_52 ?_
        refine v_iload_n hC (pc := 53) (k := 2) 3 rfl dX6_street_53 ?_
        refine v_iload_n hC (pc := 54) (k := 3) 4 rfl dX6_street_54 ?_
        refine v_callV hC (pc := 55) (As := [_, _, _]) dX6_street_55 rfl (t_setStreet _ _ (d := d - 1) (by omega) (q := 0) (by decide) _ _ _ _) cv_X6_151 rfl (by decide) rfl (by first | rfl | exact ok_c hq rfl | exact ok_w hq hw | exact ok_w (by omega) (by omega) | exact ok_s (by omega) (by omega) | exact ok_c (by omega) rfl | assumption) (Nat.le_of_ble_eq_true rfl) (by omega) (fun r h' hr => ?_)
        obtain ⟨rfl, he9⟩ := hr
        rw [he9]
        clear he9 h'
        show V _ _ _ (55 + 3) _ _ _
        refine v_iload hC (pc := 58) 0 rfl dX6_street_58 ?_
        refine v_iret hC hX (pc := 60) dX6_street_60 ?_
        exact ⟨rfl, rfl⟩
      · skip
        refine v_aload_n hC (pc := 24) (k := 0) 0 rfl dX6_street_24 ?_
        refine v_getR hC (pc := 25) dX6_street_25 fl_X6_10 rfl (by first | rfl | exact ok_c hq rfl | exact ok_w hq hw | exact ok_w (by omega) (by omega) | exact ok_s (by omega) (by omega) | exact ok_c (by omega) rfl | assumption) rfl (by decide) (by decide) rfl ?_
        refine v_iload_n hC (pc := 28) (k := 3) 3 rfl dX6_street_28 ?_
        refine v_callV hC (pc := 29) (As := [_]) dX6_street_29 rfl (t_hasCorner _ _ (d := d - 1) (by omega) (q := 0) (by decide) _ _) cv_X6_105 rfl (by decide) rfl (by first | rfl | exact ok_c hq rfl | exact ok_w hq hw | exact ok_w (by omega) (by omega) | exact ok_s (by omega) (by omega) | exact ok_c (by omega) rfl | assumption) (Nat.le_of_ble_eq_true rfl) (by omega) (fun r h' hr => ?_)
        obtain ⟨he9, rfl⟩ := hr
        rw [he9, hnc]
        clear he9 h'
        show V _ _ _ (29 + 3) _ (_ :: _) _
        refine v_ifb_ne hC (pc := 32) (tgt := 37) dX6_street_32 (by decide) (fun c_32 => ?_) (fun c_32 => ?_)
        · skip
          refine v_aload_n hC (pc := 37) (k := 0) 0 rfl dX6_street_37 ?_
          refine v_getR hC (pc := 38) dX6_street_38 fl_X6_10 rfl (by first | rfl | exact ok_c hq rfl | exact ok_w hq hw | exact ok_w (by omega) (by omega) | exact ok_s (by omega) (by omega) | exact ok_c (by omega) rfl | assumption) rfl (by decide) (by decide) rfl ?_
          refine v_iload_n hC (pc := 41) (k := 1) 1 rfl dX6_street_41 ?_
          refine v_iload_n hC (pc := 42) (k := 2) 2 rfl dX6_street_42 ?_
          refine v_callV hC (pc := 43) (As := [_, _]) dX6_street_43 rfl (t_streetOf _ _ (d := d - 1) (by omega) (q := 0) (by decide) _ _ _) cv_X6_111 rfl (by decide) rfl (by first | rfl | exact ok_c hq rfl | exact ok_w hq hw | exact ok_w (by omega) (by omega) | exact ok_s (by omega) (by omega) | exact ok_c (by omega) rfl | assumption) (Nat.le_of_ble_eq_true rfl) (by omega) (fun r h' hr => ?_)
          obtain ⟨he9, rfl⟩ := hr
          rw [he9]
          clear he9 h'
          show V _ _ _ (43 + 3) _ (_ :: _) _
          refine v_istore hC (pc := 46) (l' := [(4, _), (0, _), (1, _), (2, _), (3, _)]) dX6_street_46 (by decide) rfl ?_
          refine v_aload_n hC (pc := 48) (k := 0) 1 rfl dX6_street_48 ?_
          refine v_getR hC (pc := 49) dX6_street_49 fl_X6_10 rfl (by first | rfl | exact ok_c hq rfl | exact ok_w hq hw | exact ok_w (by omega) (by omega) | exact ok_s (by omega) (by omega) | exact ok_c (by omega) rfl | assumption) rfl (by decide) (by decide) rfl ?_
          refine v_iload_n hC (pc := 52) (k := 1) 2 rfl dX6_street_52 ?_
          refine v_iload_n hC (pc := 53) (k := 2) 3 rfl dX6_street_53 ?_
          refine v_iload_n hC (pc := 54) (k := 3) 4 rfl dX6_street_54 ?_
          refine v_callV hC (pc := 55) (As := [_, _, _]) dX6_street_55 rfl (t_setStreet _ _ (d := d - 1) (by omega) (q := 0) (by decide) _ _ _ _) cv_X6_151 rfl (by decide) rfl (by first | rfl | exact ok_c hq rfl | exact ok_w hq hw | exact ok_w (by omega) (by omega) | exact ok_s (by omega) (by omega) | exact ok_c (by omega) rfl | assumption) (Nat.le_of_ble_eq_true rfl) (by omega) (fun r h' hr => ?_)
          obtain ⟨rfl, he9⟩ := hr
          rw [he9]
          clear he9 h'
          show V _ _ _ (55 + 3) _ _ _
          refine v_iload hC (pc := 58) 0 rfl dX6_street_58 ?_
          refine v_iret hC hX (pc := 60) dX6_street_60 ?_
          exact ⟨rfl, rfl⟩
        · exact absurd (to_in hn8 hto c_21) c_32

set_option maxRecDepth 20000 in
set_option maxHeartbeats 2000000 in
theorem k_street_bad (l9 : Launch) (G : WT) {d : Nat} (hd : 3 ≤ d) (h : HP) {nC : Nat} (hn8 : nC ≤ 8) (hnc : h.1 (0, 0, 0) 0 = nI nC) (c s to : Int32) (hbad : ¬ ((¬ c < 0 ∧ ¬ nI nC ≤ c) ∧ (s = 0 ∨ s = 1) ∧ (to = -4 ∨ ¬ to < 0 ∧ ¬ nI nC ≤ to))) : MS l9 G yX6_street cX6_street 5 (some .int) d [vr (1, 0, 0), vi c, vi s, vi to] h (fun r h1 => h1 = h ∧ r = some (vi (-1))) := by
  refine MS_of (by decide +kernel) (Nat.le_of_ble_eq_true rfl) (fun X hC hX => ?_)
  show V X G 5 0 _ [] _
  refine v_aload_n hC (pc := 0) (k := 0) 0 rfl dX6_street_0 ?_
  refine v_getR hC (pc := 1) dX6_street_1 fl_X6_10 rfl (by first | rfl | exact ok_c hq rfl | exact ok_w hq hw | exact ok_w (by omega) (by omega) | exact ok_s (by omega) (by omega) | exact ok_c (by omega) rfl | assumption) rfl (by decide) (by decide) rfl ?_
  refine v_iload_n hC (pc := 4) (k := 1) 1 rfl dX6_street_4 ?_
  refine v_callV hC (pc := 5) (As := [_]) dX6_street_5 rfl (t_hasCorner _ _ (d := d - 1) (by omega) (q := 0) (by decide) _ _) cv_X6_105 rfl (by decide) rfl (by first | rfl | exact ok_c hq rfl | exact ok_w hq hw | exact ok_w (by omega) (by omega) | exact ok_s (by omega) (by omega) | exact ok_c (by omega) rfl | assumption) (Nat.le_of_ble_eq_true rfl) (by omega) (fun r h' hr => ?_)
  obtain ⟨he9, rfl⟩ := hr
  rw [he9, hnc]
  clear he9 h'
  show V _ _ _ (5 + 3) _ (_ :: _) _
  refine v_ifb_eq hC (pc := 8) (tgt := 35) dX6_street_8 (by decide) (fun c_8 => ?_) (fun c_8 => ?_)
  · skip
    refine v_iconst hC (pc := 35) (v := (-1)) (by decide) dX6_street_35 ?_
    refine v_iret hC hX (pc := 36) dX6_street_36 ?_
    exact ⟨rfl, rfl⟩
  · skip
    refine v_iload_n hC (pc := 11) (k := 2) 2 rfl dX6_street_11 ?_
    refine v_callS hC (pc := 12) (As := [_]) dX6_street_12 rfl (t_isZeroOrOne _ _ (d := d - 1) (by omega) _ _) cs_X6_108 (Nat.le_of_ble_eq_true rfl) (by omega) (fun r h' hr => ?_)
    obtain ⟨he9, rfl⟩ := hr
    rw [he9]
    clear he9 h'
    show V _ _ _ (12 + 3) _ (_ :: _) _
    refine v_ifb_eq hC (pc := 15) (tgt := 35) dX6_street_15 (by decide) (fun c_15 => ?_) (fun c_15 => ?_)
    · skip
      refine v_iconst hC (pc := 35) (v := (-1)) (by decide) dX6_street_35 ?_
      refine v_iret hC hX (pc := 36) dX6_street_36 ?_
      exact ⟨rfl, rfl⟩
    · skip
      refine v_iload_n hC (pc := 18) (k := 3) 3 rfl dX6_street_18 ?_
      refine v_bipush hC (pc := 19) (v := (-4)) (by decide +kernel) dX6_street_19 ?_
      refine v_icmp_eq hC (pc := 21) (tgt := 37) dX6_street_21 (by decide) (fun c_21 => ?_) (fun c_21 => ?_)
      · skip
        first | exact absurd (show _ ∧ _ ∧ (_ ∨ _) from ⟨c_8, c_15, Or.inl c_21⟩) hbad | exact absurd (show _ ∧ _ ∧ (_ ∨ _) from ⟨c_8, c_15, Or.inr c_32⟩) hbad
      · skip
        refine v_aload_n hC (pc := 24) (k := 0) 0 rfl dX6_street_24 ?_
        refine v_getR hC (pc := 25) dX6_street_25 fl_X6_10 rfl (by first | rfl | exact ok_c hq rfl | exact ok_w hq hw | exact ok_w (by omega) (by omega) | exact ok_s (by omega) (by omega) | exact ok_c (by omega) rfl | assumption) rfl (by decide) (by decide) rfl ?_
        refine v_iload_n hC (pc := 28) (k := 3) 3 rfl dX6_street_28 ?_
        refine v_callV hC (pc := 29) (As := [_]) dX6_street_29 rfl (t_hasCorner _ _ (d := d - 1) (by omega) (q := 0) (by decide) _ _) cv_X6_105 rfl (by decide) rfl (by first | rfl | exact ok_c hq rfl | exact ok_w hq hw | exact ok_w (by omega) (by omega) | exact ok_s (by omega) (by omega) | exact ok_c (by omega) rfl | assumption) (Nat.le_of_ble_eq_true rfl) (by omega) (fun r h' hr => ?_)
        obtain ⟨he9, rfl⟩ := hr
        rw [he9, hnc]
        clear he9 h'
        show V _ _ _ (29 + 3) _ (_ :: _) _
        refine v_ifb_ne hC (pc := 32) (tgt := 37) dX6_street_32 (by decide) (fun c_32 => ?_) (fun c_32 => ?_)
        · skip
          first | exact absurd (show _ ∧ _ ∧ (_ ∨ _) from ⟨c_8, c_15, Or.inl c_21⟩) hbad | exact absurd (show _ ∧ _ ∧ (_ ∨ _) from ⟨c_8, c_15, Or.inr c_32⟩) hbad
        · skip
          refine v_iconst hC (pc := 35) (v := (-1)) (by decide) dX6_street_35 ?_
          refine v_iret hC hX (pc := 36) dX6_street_36 ?_
          exact ⟨rfl, rfl⟩

set_option maxRecDepth 20000 in
set_option maxHeartbeats 2000000 in
theorem k_sign_on (l9 : Launch) (G : WT) {d : Nat} (hd : 3 ≤ d) (h : HP) {nC : Nat} (hn8 : nC ≤ 8) (hnc : h.1 (0, 0, 0) 0 = nI nC) {c : Nat} (hc : c < nC) : MS l9 G yX6_sign cX6_sign 4 (some .int) d [vr (1, 0, 0), vi (nI c), vi 1] h (fun r h1 => r = some (vi (oneF (bI ((h.1 (0, 0, 0) 1 >>> (nI c &&& 31)) &&& 1 = 1)))) ∧ h1 = upI h (0, 0, 0) 1 (h.1 (0, 0, 0) 1 ||| (1 <<< (nI c &&& 31)))) := by
  refine MS_of (by decide +kernel) (Nat.le_of_ble_eq_true rfl) (fun X hC hX => ?_)
  show V X G 4 0 _ [] _
  refine v_aload_n hC (pc := 0) (k := 0) 0 rfl dX6_sign_0 ?_
  refine v_getR hC (pc := 1) dX6_sign_1 fl_X6_10 rfl (by first | rfl | exact ok_c hq rfl | exact ok_w hq hw | exact ok_w (by omega) (by omega) | exact ok_s (by omega) (by omega) | exact ok_c (by omega) rfl | assumption) rfl (by decide) (by decide) rfl ?_
  refine v_iload_n hC (pc := 4) (k := 1) 1 rfl dX6_sign_4 ?_
  refine v_callV hC (pc := 5) (As := [_]) dX6_sign_5 rfl (t_hasCorner_t _ _ (d := d - 1) (by omega) (q := 0) (by decide) _ (c := c) (by assumption) (by omega) hnc) cv_X6_105 rfl (by decide) rfl (by first | rfl | exact ok_c hq rfl | exact ok_w hq hw | exact ok_w (by omega) (by omega) | exact ok_s (by omega) (by omega) | exact ok_c (by omega) rfl | assumption) (Nat.le_of_ble_eq_true rfl) (by omega) (fun r h' hr => ?_)
  obtain ⟨he9, rfl⟩ := hr
  rw [he9]
  clear he9 h'
  show V _ _ _ (5 + 3) _ (_ :: _) _
  refine v_if_ne hC (pc := 8) (tgt := 13) dX6_sign_8 (by decide) (fun c_8 => ?_) (fun c_8 => ?_)
  · skip
    refine v_aload_n hC (pc := 13) (k := 0) 0 rfl dX6_sign_13 ?_
    refine v_getR hC (pc := 14) dX6_sign_14 fl_X6_10 rfl (by first | rfl | exact ok_c hq rfl | exact ok_w hq hw | exact ok_w (by omega) (by omega) | exact ok_s (by omega) (by omega) | exact ok_c (by omega) rfl | assumption) rfl (by decide) (by decide) rfl ?_
    refine v_iload_n hC (pc := 17) (k := 1) 1 rfl dX6_sign_17 ?_
    refine v_callV hC (pc := 18) (As := [_]) dX6_sign_18 rfl (t_hasSign _ _ (d := d - 1) (by omega) (q := 0) (by decide) _ _) cv_X6_155 rfl (by decide) rfl (by first | rfl | exact ok_c hq rfl | exact ok_w hq hw | exact ok_w (by omega) (by omega) | exact ok_s (by omega) (by omega) | exact ok_c (by omega) rfl | assumption) (Nat.le_of_ble_eq_true rfl) (by omega) (fun r h' hr => ?_)
    obtain ⟨he9, rfl⟩ := hr
    rw [he9]
    clear he9 h'
    show V _ _ _ (18 + 3) _ (_ :: _) _
    refine v_callS hC (pc := 21) (As := [_]) dX6_sign_21 rfl (t_oneIf _ _ (d := d - 1) (by omega) _ _) cs_X6_101 (Nat.le_of_ble_eq_true rfl) (by omega) (fun r h' hr => ?_)
    obtain ⟨he9, rfl⟩ := hr
    rw [he9]
    clear he9 h'
    show V _ _ _ (21 + 3) _ (_ :: _) _
    refine v_istore_n hC (pc := 24) (l' := [(3, _), (0, _), (1, _), (2, _)]) dX6_sign_24 (by decide) rfl ?_
    refine v_iload_n hC (pc := 25) (k := 2) 3 rfl dX6_sign_25 ?_
    refine v_if_eq hC (pc := 26) (tgt := 47) dX6_sign_26 (by decide) (fun c_26 => ?_) (fun c_26 => ?_)
    · exact absurd c_26 (by decide)
    · skip
      refine v_aload_n hC (pc := 29) (k := 0) 1 rfl dX6_sign_29 ?_
      refine v_getR hC (pc := 30) dX6_sign_30 fl_X6_10 rfl (by first | rfl | exact ok_c hq rfl | exact ok_w hq hw | exact ok_w (by omega) (by omega) | exact ok_s (by omega) (by omega) | exact ok_c (by omega) rfl | assumption) rfl (by decide) (by decide) rfl ?_
      refine v_dup hC (pc := 33) rfl dX6_sign_33 ?_
      refine v_getI hC (pc := 34) dX6_sign_34 fl_X6_91 rfl (by first | rfl | exact ok_c hq rfl | exact ok_w hq hw | exact ok_w (by omega) (by omega) | exact ok_s (by omega) (by omega) | exact ok_c (by omega) rfl | assumption) rfl (by decide) (by decide) ?_
      refine v_iconst hC (pc := 37) (v := 1) (by decide) dX6_sign_37 ?_
      refine v_iload_n hC (pc := 38) (k := 1) 2 rfl dX6_sign_38 ?_
      refine v_ishl hC (pc := 39) dX6_sign_39 ?_
      refine v_ior hC (pc := 40) dX6_sign_40 ?_
      refine v_putI hC (pc := 41) dX6_sign_41 fs_X6_91 rfl (by first | rfl | exact ok_c hq rfl | exact ok_w hq hw | exact ok_w (by omega) (by omega) | exact ok_s (by omega) (by omega) | exact ok_c (by omega) rfl | assumption) rfl (by decide) (by decide) ?_
      refine v_goto hC (pc := 44) (tgt := 64) dX6_sign_44 (by decide) ?_
      refine v_iload_n hC (pc := 64) (k := 3) 0 rfl dX6_sign_64 ?_
      refine v_iret hC hX (pc := 65) dX6_sign_65 ?_
      exact ⟨rfl, rfl⟩
  · exact absurd c_8 (by decide)

set_option maxRecDepth 20000 in
set_option maxHeartbeats 2000000 in
theorem k_sign_off (l9 : Launch) (G : WT) {d : Nat} (hd : 3 ≤ d) (h : HP) {nC : Nat} (hn8 : nC ≤ 8) (hnc : h.1 (0, 0, 0) 0 = nI nC) {c : Nat} (hc : c < nC) : MS l9 G yX6_sign cX6_sign 4 (some .int) d [vr (1, 0, 0), vi (nI c), vi 0] h (fun r h1 => r = some (vi (oneF (bI ((h.1 (0, 0, 0) 1 >>> (nI c &&& 31)) &&& 1 = 1)))) ∧ h1 = upI h (0, 0, 0) 1 (h.1 (0, 0, 0) 1 &&& ((1 <<< (nI c &&& 31)) ^^^ (-1)))) := by
  refine MS_of (by decide +kernel) (Nat.le_of_ble_eq_true rfl) (fun X hC hX => ?_)
  show V X G 4 0 _ [] _
  refine v_aload_n hC (pc := 0) (k := 0) 0 rfl dX6_sign_0 ?_
  refine v_getR hC (pc := 1) dX6_sign_1 fl_X6_10 rfl (by first | rfl | exact ok_c hq rfl | exact ok_w hq hw | exact ok_w (by omega) (by omega) | exact ok_s (by omega) (by omega) | exact ok_c (by omega) rfl | assumption) rfl (by decide) (by decide) rfl ?_
  refine v_iload_n hC (pc := 4) (k := 1) 1 rfl dX6_sign_4 ?_
  refine v_callV hC (pc := 5) (As := [_]) dX6_sign_5 rfl (t_hasCorner_t _ _ (d := d - 1) (by omega) (q := 0) (by decide) _ (c := c) (by assumption) (by omega) hnc) cv_X6_105 rfl (by decide) rfl (by first | rfl | exact ok_c hq rfl | exact ok_w hq hw | exact ok_w (by omega) (by omega) | exact ok_s (by omega) (by omega) | exact ok_c (by omega) rfl | assumption) (Nat.le_of_ble_eq_true rfl) (by omega) (fun r h' hr => ?_)
  obtain ⟨he9, rfl⟩ := hr
  rw [he9]
  clear he9 h'
  show V _ _ _ (5 + 3) _ (_ :: _) _
  refine v_if_ne hC (pc := 8) (tgt := 13) dX6_sign_8 (by decide) (fun c_8 => ?_) (fun c_8 => ?_)
  · skip
    refine v_aload_n hC (pc := 13) (k := 0) 0 rfl dX6_sign_13 ?_
    refine v_getR hC (pc := 14) dX6_sign_14 fl_X6_10 rfl (by first | rfl | exact ok_c hq rfl | exact ok_w hq hw | exact ok_w (by omega) (by omega) | exact ok_s (by omega) (by omega) | exact ok_c (by omega) rfl | assumption) rfl (by decide) (by decide) rfl ?_
    refine v_iload_n hC (pc := 17) (k := 1) 1 rfl dX6_sign_17 ?_
    refine v_callV hC (pc := 18) (As := [_]) dX6_sign_18 rfl (t_hasSign _ _ (d := d - 1) (by omega) (q := 0) (by decide) _ _) cv_X6_155 rfl (by decide) rfl (by first | rfl | exact ok_c hq rfl | exact ok_w hq hw | exact ok_w (by omega) (by omega) | exact ok_s (by omega) (by omega) | exact ok_c (by omega) rfl | assumption) (Nat.le_of_ble_eq_true rfl) (by omega) (fun r h' hr => ?_)
    obtain ⟨he9, rfl⟩ := hr
    rw [he9]
    clear he9 h'
    show V _ _ _ (18 + 3) _ (_ :: _) _
    refine v_callS hC (pc := 21) (As := [_]) dX6_sign_21 rfl (t_oneIf _ _ (d := d - 1) (by omega) _ _) cs_X6_101 (Nat.le_of_ble_eq_true rfl) (by omega) (fun r h' hr => ?_)
    obtain ⟨he9, rfl⟩ := hr
    rw [he9]
    clear he9 h'
    show V _ _ _ (21 + 3) _ (_ :: _) _
    refine v_istore_n hC (pc := 24) (l' := [(3, _), (0, _), (1, _), (2, _)]) dX6_sign_24 (by decide) rfl ?_
    refine v_iload_n hC (pc := 25) (k := 2) 3 rfl dX6_sign_25 ?_
    refine v_if_eq hC (pc := 26) (tgt := 47) dX6_sign_26 (by decide) (fun c_26 => ?_) (fun c_26 => ?_)
    · skip
      refine v_aload_n hC (pc := 47) (k := 0) 1 rfl dX6_sign_47 ?_
      refine v_getR hC (pc := 48) dX6_sign_48 fl_X6_10 rfl (by first | rfl | exact ok_c hq rfl | exact ok_w hq hw | exact ok_w (by omega) (by omega) | exact ok_s (by omega) (by omega) | exact ok_c (by omega) rfl | assumption) rfl (by decide) (by decide) rfl ?_
      refine v_dup hC (pc := 51) rfl dX6_sign_51 ?_
      refine v_getI hC (pc := 52) dX6_sign_52 fl_X6_91 rfl (by first | rfl | exact ok_c hq rfl | exact ok_w hq hw | exact ok_w (by omega) (by omega) | exact ok_s (by omega) (by omega) | exact ok_c (by omega) rfl | assumption) rfl (by decide) (by decide) ?_
      refine v_iconst hC (pc := 55) (v := 1) (by decide) dX6_sign_55 ?_
      refine v_iload_n hC (pc := 56) (k := 1) 2 rfl dX6_sign_56 ?_
      refine v_ishl hC (pc := 57) dX6_sign_57 ?_
      refine v_iconst hC (pc := 58) (v := (-1)) (by decide) dX6_sign_58 ?_
      refine v_ixor hC (pc := 59) dX6_sign_59 ?_
      refine v_iand hC (pc := 60) dX6_sign_60 ?_
      refine v_putI hC (pc := 61) dX6_sign_61 fs_X6_91 rfl (by first | rfl | exact ok_c hq rfl | exact ok_w hq hw | exact ok_w (by omega) (by omega) | exact ok_s (by omega) (by omega) | exact ok_c (by omega) rfl | assumption) rfl (by decide) (by decide) ?_
      refine v_iload_n hC (pc := 64) (k := 3) 0 rfl dX6_sign_64 ?_
      refine v_iret hC hX (pc := 65) dX6_sign_65 ?_
      exact ⟨rfl, rfl⟩
    · exact absurd rfl c_26
  · exact absurd c_8 (by decide)

set_option maxRecDepth 20000 in
set_option maxHeartbeats 2000000 in
theorem k_sign_bad (l9 : Launch) (G : WT) {d : Nat} (hd : 3 ≤ d) (h : HP) {nC : Nat} (hn8 : nC ≤ 8) (hnc : h.1 (0, 0, 0) 0 = nI nC) (c b : Int32) (hbad : ¬ (¬ c < 0 ∧ ¬ nI nC ≤ c)) : MS l9 G yX6_sign cX6_sign 4 (some .int) d [vr (1, 0, 0), vi c, vi b] h (fun r h1 => h1 = h ∧ r = some (vi (-1))) := by
  refine MS_of (by decide +kernel) (Nat.le_of_ble_eq_true rfl) (fun X hC hX => ?_)
  show V X G 4 0 _ [] _
  refine v_aload_n hC (pc := 0) (k := 0) 0 rfl dX6_sign_0 ?_
  refine v_getR hC (pc := 1) dX6_sign_1 fl_X6_10 rfl (by first | rfl | exact ok_c hq rfl | exact ok_w hq hw | exact ok_w (by omega) (by omega) | exact ok_s (by omega) (by omega) | exact ok_c (by omega) rfl | assumption) rfl (by decide) (by decide) rfl ?_
  refine v_iload_n hC (pc := 4) (k := 1) 1 rfl dX6_sign_4 ?_
  refine v_callV hC (pc := 5) (As := [_]) dX6_sign_5 rfl (t_hasCorner _ _ (d := d - 1) (by omega) (q := 0) (by decide) _ _) cv_X6_105 rfl (by decide) rfl (by first | rfl | exact ok_c hq rfl | exact ok_w hq hw | exact ok_w (by omega) (by omega) | exact ok_s (by omega) (by omega) | exact ok_c (by omega) rfl | assumption) (Nat.le_of_ble_eq_true rfl) (by omega) (fun r h' hr => ?_)
  obtain ⟨he9, rfl⟩ := hr
  rw [he9, hnc]
  clear he9 h'
  show V _ _ _ (5 + 3) _ (_ :: _) _
  refine v_ifb_ne hC (pc := 8) (tgt := 13) dX6_sign_8 (by decide) (fun c_8 => ?_) (fun c_8 => ?_)
  · skip
    exact absurd c_8 hbad
  · skip
    refine v_iconst hC (pc := 11) (v := (-1)) (by decide) dX6_sign_11 ?_
    refine v_iret hC hX (pc := 12) dX6_sign_12 ?_
    exact ⟨rfl, rfl⟩

set_option maxRecDepth 20000 in
set_option maxHeartbeats 2000000 in
theorem k_clock_ok (l9 : Launch) (G : WT) {d : Nat} (hd : 3 ≤ d) (h : HP) {t : Nat} (ht : t < 24) : MS l9 G yX6_clock cX6_clock 3 (some .int) d [vr (1, 0, 0), vi (nI t)] h (fun r h1 => r = some (vi (h.1 (0, 0, 0) 2 - h.1 (0, 0, 0) 2 / 24 * 24)) ∧ h1 = upI h (0, 0, 0) 2 (nI t)) := by
  refine MS_of (by decide +kernel) (Nat.le_of_ble_eq_true rfl) (fun X hC hX => ?_)
  show V X G 3 0 _ [] _
  refine v_iload_n hC (pc := 0) (k := 1) 1 rfl dX6_clock_0 ?_
  refine v_callS hC (pc := 1) (As := [_]) dX6_clock_1 rfl (t_isHour_t _ _ (d := d - 1) (by omega) _ (s := t) (by assumption)) cs_X6_144 (Nat.le_of_ble_eq_true rfl) (by omega) (fun r h' hr => ?_)
  obtain ⟨he9, rfl⟩ := hr
  rw [he9]
  clear he9 h'
  show V _ _ _ (1 + 3) _ (_ :: _) _
  refine v_if_ne hC (pc := 4) (tgt := 9) dX6_clock_4 (by decide) (fun c_4 => ?_) (fun c_4 => ?_)
  · skip
    refine v_aload_n hC (pc := 9) (k := 0) 0 rfl dX6_clock_9 ?_
    refine v_getR hC (pc := 10) dX6_clock_10 fl_X6_10 rfl (by first | rfl | exact ok_c hq rfl | exact ok_w hq hw | exact ok_w (by omega) (by omega) | exact ok_s (by omega) (by omega) | exact ok_c (by omega) rfl | assumption) rfl (by decide) (by decide) rfl ?_
    refine v_getI hC (pc := 13) dX6_clock_13 fl_X6_85 rfl (by first | rfl | exact ok_c hq rfl | exact ok_w hq hw | exact ok_w (by omega) (by omega) | exact ok_s (by omega) (by omega) | exact ok_c (by omega) rfl | assumption) rfl (by decide) (by decide) ?_
    refine v_bipush hC (pc := 16) (v := 24) (by decide +kernel) dX6_clock_16 ?_
    refine v_irem hC (pc := 18) (by decide) dX6_clock_18 ?_
    refine v_istore_n hC (pc := 19) (l' := [(2, _), (0, _), (1, _)]) dX6_clock_19 (by decide) rfl ?_
    refine v_aload_n hC (pc := 20) (k := 0) 1 rfl dX6_clock_20 ?_
    refine v_getR hC (pc := 21) dX6_clock_21 fl_X6_10 rfl (by first | rfl | exact ok_c hq rfl | exact ok_w hq hw | exact ok_w (by omega) (by omega) | exact ok_s (by omega) (by omega) | exact ok_c (by omega) rfl | assumption) rfl (by decide) (by decide) rfl ?_
    refine v_iload_n hC (pc := 24) (k := 1) 2 rfl dX6_clock_24 ?_
    refine v_putI hC (pc := 25) dX6_clock_25 fs_X6_85 rfl (by first | rfl | exact ok_c hq rfl | exact ok_w hq hw | exact ok_w (by omega) (by omega) | exact ok_s (by omega) (by omega) | exact ok_c (by omega) rfl | assumption) rfl (by decide) (by decide) ?_
    refine v_iload_n hC (pc := 28) (k := 2) 0 rfl dX6_clock_28 ?_
    refine v_iret hC hX (pc := 29) dX6_clock_29 ?_
    exact ⟨rfl, rfl⟩
  · exact absurd c_4 (by decide)

set_option maxRecDepth 20000 in
set_option maxHeartbeats 2000000 in
theorem k_clock_bad (l9 : Launch) (G : WT) {d : Nat} (hd : 3 ≤ d) (h : HP) (t : Int32) (hbad : ¬ (¬ t < 0 ∧ ¬ 24 ≤ t)) : MS l9 G yX6_clock cX6_clock 3 (some .int) d [vr (1, 0, 0), vi t] h (fun r h1 => h1 = h ∧ r = some (vi (-1))) := by
  refine MS_of (by decide +kernel) (Nat.le_of_ble_eq_true rfl) (fun X hC hX => ?_)
  show V X G 3 0 _ [] _
  refine v_iload_n hC (pc := 0) (k := 1) 1 rfl dX6_clock_0 ?_
  refine v_callS hC (pc := 1) (As := [_]) dX6_clock_1 rfl (t_isHour _ _ (d := d - 1) (by omega) _ _) cs_X6_144 (Nat.le_of_ble_eq_true rfl) (by omega) (fun r h' hr => ?_)
  obtain ⟨he9, rfl⟩ := hr
  rw [he9]
  clear he9 h'
  show V _ _ _ (1 + 3) _ (_ :: _) _
  refine v_ifb_ne hC (pc := 4) (tgt := 9) dX6_clock_4 (by decide) (fun c_4 => ?_) (fun c_4 => ?_)
  · skip
    exact absurd c_4 hbad
  · skip
    refine v_iconst hC (pc := 7) (v := (-1)) (by decide) dX6_clock_7 ?_
    refine v_iret hC hX (pc := 8) dX6_clock_8 ?_
    exact ⟨rfl, rfl⟩

set_option maxRecDepth 20000 in
set_option maxHeartbeats 2000000 in
theorem k_put_ok (l9 : Launch) (G : WT) {d : Nat} (hd : 3 ≤ d) (h : HP) {nC : Nat} (hn8 : nC ≤ 8) (hnc : h.1 (0, 0, 0) 0 = nI nC) {nW : Nat} (hn4 : nW ≤ 4) (hnw : h.1 (0, 0, 0) 4 = nI nW) {w c : Nat} (hw : w < nW) (hc : c < nC) : MS l9 G yX6_put cX6_put 5 (some .int) d [vr (1, 0, 0), vi (nI w), vi (nI c)] h (fun r h1 => r = some (vi (h.1 (6, 0, w) 0)) ∧ h1 = upI h (6, 0, w) 0 (nI c)) := by
  refine MS_of (by decide +kernel) (Nat.le_of_ble_eq_true rfl) (fun X hC hX => ?_)
  show V X G 5 0 _ [] _
  refine v_aload_n hC (pc := 0) (k := 0) 0 rfl dX6_put_0 ?_
  refine v_getR hC (pc := 1) dX6_put_1 fl_X6_10 rfl (by first | rfl | exact ok_c hq rfl | exact ok_w hq hw | exact ok_w (by omega) (by omega) | exact ok_s (by omega) (by omega) | exact ok_c (by omega) rfl | assumption) rfl (by decide) (by decide) rfl ?_
  refine v_iload_n hC (pc := 4) (k := 1) 1 rfl dX6_put_4 ?_
  refine v_callV hC (pc := 5) (As := [_]) dX6_put_5 rfl (t_hasWalker_t _ _ (d := d - 1) (by omega) (q := 0) (by decide) _ (c := w) (by assumption) (by omega) hnw) cv_X6_115 rfl (by decide) rfl (by first | rfl | exact ok_c hq rfl | exact ok_w hq hw | exact ok_w (by omega) (by omega) | exact ok_s (by omega) (by omega) | exact ok_c (by omega) rfl | assumption) (Nat.le_of_ble_eq_true rfl) (by omega) (fun r h' hr => ?_)
  obtain ⟨he9, rfl⟩ := hr
  rw [he9]
  clear he9 h'
  show V _ _ _ (5 + 3) _ (_ :: _) _
  refine v_if_eq hC (pc := 8) (tgt := 22) dX6_put_8 (by decide) (fun c_8 => ?_) (fun c_8 => ?_)
  · exact absurd c_8 (by decide)
  · skip
    refine v_aload_n hC (pc := 11) (k := 0) 0 rfl dX6_put_11 ?_
    refine v_getR hC (pc := 12) dX6_put_12 fl_X6_10 rfl (by first | rfl | exact ok_c hq rfl | exact ok_w hq hw | exact ok_w (by omega) (by omega) | exact ok_s (by omega) (by omega) | exact ok_c (by omega) rfl | assumption) rfl (by decide) (by decide) rfl ?_
    refine v_iload_n hC (pc := 15) (k := 2) 2 rfl dX6_put_15 ?_
    refine v_callV hC (pc := 16) (As := [_]) dX6_put_16 rfl (t_hasCorner_t _ _ (d := d - 1) (by omega) (q := 0) (by decide) _ (c := c) (by assumption) (by omega) hnc) cv_X6_105 rfl (by decide) rfl (by first | rfl | exact ok_c hq rfl | exact ok_w hq hw | exact ok_w (by omega) (by omega) | exact ok_s (by omega) (by omega) | exact ok_c (by omega) rfl | assumption) (Nat.le_of_ble_eq_true rfl) (by omega) (fun r h' hr => ?_)
    obtain ⟨he9, rfl⟩ := hr
    rw [he9]
    clear he9 h'
    show V _ _ _ (16 + 3) _ (_ :: _) _
    refine v_if_ne hC (pc := 19) (tgt := 24) dX6_put_19 (by decide) (fun c_19 => ?_) (fun c_19 => ?_)
    · skip
      refine v_aload_n hC (pc := 24) (k := 0) 0 rfl dX6_put_24 ?_
      refine v_getR hC (pc := 25) dX6_put_25 fl_X6_10 rfl (by first | rfl | exact ok_c hq rfl | exact ok_w hq hw | exact ok_w (by omega) (by omega) | exact ok_s (by omega) (by omega) | exact ok_c (by omega) rfl | assumption) rfl (by decide) (by decide) rfl ?_
      refine v_getR hC (pc := 28) dX6_put_28 fl_X6_118 rfl (by first | rfl | exact ok_c hq rfl | exact ok_w hq hw | exact ok_w (by omega) (by omega) | exact ok_s (by omega) (by omega) | exact ok_c (by omega) rfl | assumption) rfl (by decide) (by decide) rfl ?_
      refine v_iload_n hC (pc := 31) (k := 1) 1 rfl dX6_put_31 ?_
      refine v_aald hC (pc := 32) (j := (6, 0, w)) 5 dX6_put_32 rfl (by decide) (fun _ => rfl) (by first | rfl | exact ok_c hq rfl | exact ok_w hq hw | exact ok_w (by omega) (by omega) | exact ok_s (by omega) (by omega) | exact ok_c (by omega) rfl | assumption) (vp_nat (n := w) (by omega) (by decide)) (by rw [nI_clamp (show w < 2 ^ 31 by omega)]; rfl) ?_
      refine v_astore_n hC (pc := 33) (l' := [(3, _), (0, _), (1, _), (2, _)]) dX6_put_33 (by decide) rfl ?_
      refine v_aload_n hC (pc := 34) (k := 3) 0 rfl dX6_put_34 ?_
      refine v_getI hC (pc := 35) dX6_put_35 fl_X6_122 rfl (by first | rfl | exact ok_c hq rfl | exact ok_w hq hw | exact ok_w (by omega) (by omega) | exact ok_s (by omega) (by omega) | exact ok_c (by omega) rfl | assumption) rfl (by decide) (by decide) ?_
      refine v_istore hC (pc := 38) (l' := [(4, _), (3, _), (0, _), (1, _), (2, _)]) dX6_put_38 (by decide) rfl ?_
      refine v_aload_n hC (pc := 40) (k := 3) 1 rfl dX6_put_40 ?_
      refine v_iload_n hC (pc := 41) (k := 2) 4 rfl dX6_put_41 ?_
      refine v_putI hC (pc := 42) dX6_put_42 fs_X6_122 rfl (by first | rfl | exact ok_c hq rfl | exact ok_w hq hw | exact ok_w (by omega) (by omega) | exact ok_s (by omega) (by omega) | exact ok_c (by omega) rfl | assumption) rfl (by decide) (by decide) ?_
      refine v_iload hC (pc := 45) 0 rfl dX6_put_45 ?_
      refine v_iret hC hX (pc := 47) dX6_put_47 ?_
      exact ⟨rfl, rfl⟩
    · exact absurd c_19 (by decide)

set_option maxRecDepth 20000 in
set_option maxHeartbeats 2000000 in
theorem k_put_bad (l9 : Launch) (G : WT) {d : Nat} (hd : 3 ≤ d) (h : HP) {nC : Nat} (hn8 : nC ≤ 8) (hnc : h.1 (0, 0, 0) 0 = nI nC) {nW : Nat} (hn4 : nW ≤ 4) (hnw : h.1 (0, 0, 0) 4 = nI nW) (w c : Int32) (hbad : ¬ ((¬ w < 0 ∧ ¬ nI nW ≤ w) ∧ ¬ c < 0 ∧ ¬ nI nC ≤ c)) : MS l9 G yX6_put cX6_put 5 (some .int) d [vr (1, 0, 0), vi w, vi c] h (fun r h1 => h1 = h ∧ r = some (vi (-1))) := by
  refine MS_of (by decide +kernel) (Nat.le_of_ble_eq_true rfl) (fun X hC hX => ?_)
  show V X G 5 0 _ [] _
  refine v_aload_n hC (pc := 0) (k := 0) 0 rfl dX6_put_0 ?_
  refine v_getR hC (pc := 1) dX6_put_1 fl_X6_10 rfl (by first | rfl | exact ok_c hq rfl | exact ok_w hq hw | exact ok_w (by omega) (by omega) | exact ok_s (by omega) (by omega) | exact ok_c (by omega) rfl | assumption) rfl (by decide) (by decide) rfl ?_
  refine v_iload_n hC (pc := 4) (k := 1) 1 rfl dX6_put_4 ?_
  refine v_callV hC (pc := 5) (As := [_]) dX6_put_5 rfl (t_hasWalker _ _ (d := d - 1) (by omega) (q := 0) (by decide) _ _) cv_X6_115 rfl (by decide) rfl (by first | rfl | exact ok_c hq rfl | exact ok_w hq hw | exact ok_w (by omega) (by omega) | exact ok_s (by omega) (by omega) | exact ok_c (by omega) rfl | assumption) (Nat.le_of_ble_eq_true rfl) (by omega) (fun r h' hr => ?_)
  obtain ⟨he9, rfl⟩ := hr
  rw [he9, hnw]
  clear he9 h'
  show V _ _ _ (5 + 3) _ (_ :: _) _
  refine v_ifb_eq hC (pc := 8) (tgt := 22) dX6_put_8 (by decide) (fun c_8 => ?_) (fun c_8 => ?_)
  · skip
    refine v_iconst hC (pc := 22) (v := (-1)) (by decide) dX6_put_22 ?_
    refine v_iret hC hX (pc := 23) dX6_put_23 ?_
    exact ⟨rfl, rfl⟩
  · skip
    refine v_aload_n hC (pc := 11) (k := 0) 0 rfl dX6_put_11 ?_
    refine v_getR hC (pc := 12) dX6_put_12 fl_X6_10 rfl (by first | rfl | exact ok_c hq rfl | exact ok_w hq hw | exact ok_w (by omega) (by omega) | exact ok_s (by omega) (by omega) | exact ok_c (by omega) rfl | assumption) rfl (by decide) (by decide) rfl ?_
    refine v_iload_n hC (pc := 15) (k := 2) 2 rfl dX6_put_15 ?_
    refine v_callV hC (pc := 16) (As := [_]) dX6_put_16 rfl (t_hasCorner _ _ (d := d - 1) (by omega) (q := 0) (by decide) _ _) cv_X6_105 rfl (by decide) rfl (by first | rfl | exact ok_c hq rfl | exact ok_w hq hw | exact ok_w (by omega) (by omega) | exact ok_s (by omega) (by omega) | exact ok_c (by omega) rfl | assumption) (Nat.le_of_ble_eq_true rfl) (by omega) (fun r h' hr => ?_)
    obtain ⟨he9, rfl⟩ := hr
    rw [he9, hnc]
    clear he9 h'
    show V _ _ _ (16 + 3) _ (_ :: _) _
    refine v_ifb_ne hC (pc := 19) (tgt := 24) dX6_put_19 (by decide) (fun c_19 => ?_) (fun c_19 => ?_)
    · skip
      exact absurd (show _ ∧ _ from ⟨c_8, c_19⟩) hbad
    · skip
      refine v_iconst hC (pc := 22) (v := (-1)) (by decide) dX6_put_22 ?_
      refine v_iret hC hX (pc := 23) dX6_put_23 ?_
      exact ⟨rfl, rfl⟩

set_option maxRecDepth 20000 in
set_option maxHeartbeats 2000000 in
theorem k_keeps_ok (l9 : Launch) (G : WT) {d : Nat} (hd : 3 ≤ d) (h : HP) {nW : Nat} (hn4 : nW ≤ 4) (hnw : h.1 (0, 0, 0) 4 = nI nW) {w : Nat} (hw : w < nW) (b : Int32) (hb : b = 0 ∨ b = 1) : MS l9 G yX6_keeps cX6_keeps 5 (some .int) d [vr (1, 0, 0), vi (nI w), vi b] h (fun r h1 => r = some (vi (oneF (h.1 (6, 0, w) 2))) ∧ h1 = upI h (6, 0, w) 2 b) := by
  refine MS_of (by decide +kernel) (Nat.le_of_ble_eq_true rfl) (fun X hC hX => ?_)
  show V X G 5 0 _ [] _
  refine v_aload_n hC (pc := 0) (k := 0) 0 rfl dX6_keeps_0 ?_
  refine v_getR hC (pc := 1) dX6_keeps_1 fl_X6_10 rfl (by first | rfl | exact ok_c hq rfl | exact ok_w hq hw | exact ok_w (by omega) (by omega) | exact ok_s (by omega) (by omega) | exact ok_c (by omega) rfl | assumption) rfl (by decide) (by decide) rfl ?_
  refine v_iload_n hC (pc := 4) (k := 1) 1 rfl dX6_keeps_4 ?_
  refine v_callV hC (pc := 5) (As := [_]) dX6_keeps_5 rfl (t_hasWalker_t _ _ (d := d - 1) (by omega) (q := 0) (by decide) _ (c := w) (by assumption) (by omega) hnw) cv_X6_115 rfl (by decide) rfl (by first | rfl | exact ok_c hq rfl | exact ok_w hq hw | exact ok_w (by omega) (by omega) | exact ok_s (by omega) (by omega) | exact ok_c (by omega) rfl | assumption) (Nat.le_of_ble_eq_true rfl) (by omega) (fun r h' hr => ?_)
  obtain ⟨he9, rfl⟩ := hr
  rw [he9]
  clear he9 h'
  show V _ _ _ (5 + 3) _ (_ :: _) _
  refine v_if_ne hC (pc := 8) (tgt := 13) dX6_keeps_8 (by decide) (fun c_8 => ?_) (fun c_8 => ?_)
  · skip
    refine v_aload_n hC (pc := 13) (k := 0) 0 rfl dX6_keeps_13 ?_
    refine v_getR hC (pc := 14) dX6_keeps_14 fl_X6_10 rfl (by first | rfl | exact ok_c hq rfl | exact ok_w hq hw | exact ok_w (by omega) (by omega) | exact ok_s (by omega) (by omega) | exact ok_c (by omega) rfl | assumption) rfl (by decide) (by decide) rfl ?_
    refine v_getR hC (pc := 17) dX6_keeps_17 fl_X6_118 rfl (by first | rfl | exact ok_c hq rfl | exact ok_w hq hw | exact ok_w (by omega) (by omega) | exact ok_s (by omega) (by omega) | exact ok_c (by omega) rfl | assumption) rfl (by decide) (by decide) rfl ?_
    refine v_iload_n hC (pc := 20) (k := 1) 1 rfl dX6_keeps_20 ?_
    refine v_aald hC (pc := 21) (j := (6, 0, w)) 5 dX6_keeps_21 rfl (by decide) (fun _ => rfl) (by first | rfl | exact ok_c hq rfl | exact ok_w hq hw | exact ok_w (by omega) (by omega) | exact ok_s (by omega) (by omega) | exact ok_c (by omega) rfl | assumption) (vp_nat (n := w) (by omega) (by decide)) (by rw [nI_clamp (show w < 2 ^ 31 by omega)]; rfl) ?_
    refine v_astore_n hC (pc := 22) (l' := [(3, _), (0, _), (1, _), (2, _)]) dX6_keeps_22 (by decide) rfl ?_
    refine v_aload_n hC (pc := 23) (k := 3) 0 rfl dX6_keeps_23 ?_
    refine v_getZ hC (pc := 24) dX6_keeps_24 fl_X6_129 rfl (by first | rfl | exact ok_c hq rfl | exact ok_w hq hw | exact ok_w (by omega) (by omega) | exact ok_s (by omega) (by omega) | exact ok_c (by omega) rfl | assumption) rfl (by decide) (by decide) ?_
    refine v_callS hC (pc := 27) (As := [_]) dX6_keeps_27 rfl (t_oneIf _ _ (d := d - 1) (by omega) _ _) cs_X6_101 (Nat.le_of_ble_eq_true rfl) (by omega) (fun r h' hr => ?_)
    obtain ⟨he9, rfl⟩ := hr
    rw [he9]
    clear he9 h'
    show V _ _ _ (27 + 3) _ (_ :: _) _
    refine v_istore hC (pc := 30) (l' := [(4, _), (3, _), (0, _), (1, _), (2, _)]) dX6_keeps_30 (by decide) rfl ?_
    refine v_aload_n hC (pc := 32) (k := 3) 1 rfl dX6_keeps_32 ?_
    refine v_iload_n hC (pc := 33) (k := 2) 4 rfl dX6_keeps_33 ?_
    refine v_putZ hC (pc := 34) dX6_keeps_34 fs_X6_129 rfl (by first | rfl | exact ok_c hq rfl | exact ok_w hq hw | exact ok_w (by omega) (by omega) | exact ok_s (by omega) (by omega) | exact ok_c (by omega) rfl | assumption) rfl (by decide) (by decide) hb ?_
    refine v_iload hC (pc := 37) 0 rfl dX6_keeps_37 ?_
    refine v_iret hC hX (pc := 39) dX6_keeps_39 ?_
    exact ⟨rfl, rfl⟩
  · exact absurd c_8 (by decide)

set_option maxRecDepth 20000 in
set_option maxHeartbeats 2000000 in
theorem k_keeps_bad (l9 : Launch) (G : WT) {d : Nat} (hd : 3 ≤ d) (h : HP) {nW : Nat} (hn4 : nW ≤ 4) (hnw : h.1 (0, 0, 0) 4 = nI nW) (w b : Int32) (hbad : ¬ (¬ w < 0 ∧ ¬ nI nW ≤ w)) : MS l9 G yX6_keeps cX6_keeps 5 (some .int) d [vr (1, 0, 0), vi w, vi b] h (fun r h1 => h1 = h ∧ r = some (vi (-1))) := by
  refine MS_of (by decide +kernel) (Nat.le_of_ble_eq_true rfl) (fun X hC hX => ?_)
  show V X G 5 0 _ [] _
  refine v_aload_n hC (pc := 0) (k := 0) 0 rfl dX6_keeps_0 ?_
  refine v_getR hC (pc := 1) dX6_keeps_1 fl_X6_10 rfl (by first | rfl | exact ok_c hq rfl | exact ok_w hq hw | exact ok_w (by omega) (by omega) | exact ok_s (by omega) (by omega) | exact ok_c (by omega) rfl | assumption) rfl (by decide) (by decide) rfl ?_
  refine v_iload_n hC (pc := 4) (k := 1) 1 rfl dX6_keeps_4 ?_
  refine v_callV hC (pc := 5) (As := [_]) dX6_keeps_5 rfl (t_hasWalker _ _ (d := d - 1) (by omega) (q := 0) (by decide) _ _) cv_X6_115 rfl (by decide) rfl (by first | rfl | exact ok_c hq rfl | exact ok_w hq hw | exact ok_w (by omega) (by omega) | exact ok_s (by omega) (by omega) | exact ok_c (by omega) rfl | assumption) (Nat.le_of_ble_eq_true rfl) (by omega) (fun r h' hr => ?_)
  obtain ⟨he9, rfl⟩ := hr
  rw [he9, hnw]
  clear he9 h'
  show V _ _ _ (5 + 3) _ (_ :: _) _
  refine v_ifb_ne hC (pc := 8) (tgt := 13) dX6_keeps_8 (by decide) (fun c_8 => ?_) (fun c_8 => ?_)
  · skip
    exact absurd c_8 hbad
  · skip
    refine v_iconst hC (pc := 11) (v := (-1)) (by decide) dX6_keeps_11 ?_
    refine v_iret hC hX (pc := 12) dX6_keeps_12 ?_
    exact ⟨rfl, rfl⟩

set_option maxRecDepth 20000 in
set_option maxHeartbeats 2000000 in
theorem k_adds_ok (l9 : Launch) (G : WT) {d : Nat} (hd : 3 ≤ d) (h : HP) {nW : Nat} (hn4 : nW ≤ 4) (hnw : h.1 (0, 0, 0) 4 = nI nW) {w s n : Nat} (hw : w < nW) (hs : s < 2) (hln : h.1 (6, 0, w) 4 = nI n) (hn : n < 10) : MS l9 G yX6_adds cX6_adds 4 (some .int) d [vr (1, 0, 0), vi (nI w), vi (nI s)] h (fun r h1 => r = some (vi (nI (n + 1))) ∧ h1 = upI (upI h (6, 0, w) 3 (h.1 (6, 0, w) 3 ||| (nI s <<< (nI n &&& 31)))) (6, 0, w) 4 (nI (n + 1))) := by
  refine MS_of (by decide +kernel) (Nat.le_of_ble_eq_true rfl) (fun X hC hX => ?_)
  show V X G 4 0 _ [] _
  refine v_aload_n hC (pc := 0) (k := 0) 0 rfl dX6_adds_0 ?_
  refine v_getR hC (pc := 1) dX6_adds_1 fl_X6_10 rfl (by first | rfl | exact ok_c hq rfl | exact ok_w hq hw | exact ok_w (by omega) (by omega) | exact ok_s (by omega) (by omega) | exact ok_c (by omega) rfl | assumption) rfl (by decide) (by decide) rfl ?_
  refine v_iload_n hC (pc := 4) (k := 1) 1 rfl dX6_adds_4 ?_
  refine v_callV hC (pc := 5) (As := [_]) dX6_adds_5 rfl (t_hasWalker_t _ _ (d := d - 1) (by omega) (q := 0) (by decide) _ (c := w) (by assumption) (by omega) hnw) cv_X6_115 rfl (by decide) rfl (by first | rfl | exact ok_c hq rfl | exact ok_w hq hw | exact ok_w (by omega) (by omega) | exact ok_s (by omega) (by omega) | exact ok_c (by omega) rfl | assumption) (Nat.le_of_ble_eq_true rfl) (by omega) (fun r h' hr => ?_)
  obtain ⟨he9, rfl⟩ := hr
  rw [he9]
  clear he9 h'
  show V _ _ _ (5 + 3) _ (_ :: _) _
  refine v_if_eq hC (pc := 8) (tgt := 18) dX6_adds_8 (by decide) (fun c_8 => ?_) (fun c_8 => ?_)
  · exact absurd c_8 (by decide)
  · skip
    refine v_iload_n hC (pc := 11) (k := 2) 2 rfl dX6_adds_11 ?_
    refine v_callS hC (pc := 12) (As := [_]) dX6_adds_12 rfl (t_isZeroOrOne_t _ _ (d := d - 1) (by omega) _ (s := s) (by assumption)) cs_X6_108 (Nat.le_of_ble_eq_true rfl) (by omega) (fun r h' hr => ?_)
    obtain ⟨he9, rfl⟩ := hr
    rw [he9]
    clear he9 h'
    show V _ _ _ (12 + 3) _ (_ :: _) _
    refine v_if_ne hC (pc := 15) (tgt := 20) dX6_adds_15 (by decide) (fun c_15 => ?_) (fun c_15 => ?_)
    · skip
      refine v_aload_n hC (pc := 20) (k := 0) 0 rfl dX6_adds_20 ?_
      refine v_getR hC (pc := 21) dX6_adds_21 fl_X6_10 rfl (by first | rfl | exact ok_c hq rfl | exact ok_w hq hw | exact ok_w (by omega) (by omega) | exact ok_s (by omega) (by omega) | exact ok_c (by omega) rfl | assumption) rfl (by decide) (by decide) rfl ?_
      refine v_getR hC (pc := 24) dX6_adds_24 fl_X6_118 rfl (by first | rfl | exact ok_c hq rfl | exact ok_w hq hw | exact ok_w (by omega) (by omega) | exact ok_s (by omega) (by omega) | exact ok_c (by omega) rfl | assumption) rfl (by decide) (by decide) rfl ?_
      refine v_iload_n hC (pc := 27) (k := 1) 1 rfl dX6_adds_27 ?_
      refine v_aald hC (pc := 28) (j := (6, 0, w)) 5 dX6_adds_28 rfl (by decide) (fun _ => rfl) (by first | rfl | exact ok_c hq rfl | exact ok_w hq hw | exact ok_w (by omega) (by omega) | exact ok_s (by omega) (by omega) | exact ok_c (by omega) rfl | assumption) (vp_nat (n := w) (by omega) (by decide)) (by rw [nI_clamp (show w < 2 ^ 31 by omega)]; rfl) ?_
      refine v_astore_n hC (pc := 29) (l' := [(3, _), (0, _), (1, _), (2, _)]) dX6_adds_29 (by decide) rfl ?_
      refine v_aload_n hC (pc := 30) (k := 3) 0 rfl dX6_adds_30 ?_
      refine v_getI hC (pc := 31) dX6_adds_31 fl_X6_136 rfl (by first | rfl | exact ok_c hq rfl | exact ok_w hq hw | exact ok_w (by omega) (by omega) | exact ok_s (by omega) (by omega) | exact ok_c (by omega) rfl | assumption) rfl (by decide) (by decide) ?_
      refine v_bipush hC (pc := 34) (v := 10) (by decide +kernel) dX6_adds_34 ?_
      rw [hln]
      refine v_icmp_lt hC (pc := 36) (tgt := 42) dX6_adds_36 (by decide) (fun c_36 => ?_) (fun c_36 => ?_)
      · skip
        refine v_aload_n hC (pc := 42) (k := 3) 0 rfl dX6_adds_42 ?_
        refine v_iload_n hC (pc := 43) (k := 2) 3 rfl dX6_adds_43 ?_
        refine v_callV hC (pc := 44) (As := [_]) dX6_adds_44 rfl (t_addLetter _ _ (d := d - 1) (by omega) (q := 0) (by decide) (w := w) (by omega) _ _) cv_X6_158 rfl (by decide) rfl (by first | rfl | exact ok_c hq rfl | exact ok_w hq hw | exact ok_w (by omega) (by omega) | exact ok_s (by omega) (by omega) | exact ok_c (by omega) rfl | assumption) (Nat.le_of_ble_eq_true rfl) (by omega) (fun r h' hr => ?_)
        obtain ⟨rfl, he9⟩ := hr
        rw [he9]
        clear he9 h'
        show V _ _ _ (44 + 3) _ _ _
        refine v_aload_n hC (pc := 47) (k := 3) 0 rfl dX6_adds_47 ?_
        refine v_getI hC (pc := 48) dX6_adds_48 fl_X6_136 rfl (by first | rfl | exact ok_c hq rfl | exact ok_w hq hw | exact ok_w (by omega) (by omega) | exact ok_s (by omega) (by omega) | exact ok_c (by omega) rfl | assumption) rfl (by decide) (by decide) ?_
        refine v_iret hC hX (pc := 51) dX6_adds_51 ?_
        exact ⟨by rw [upI_i, hln, nI_1], by rw [hln, nI_1]⟩
      · exact absurd (nI_lt hn (by decide)) c_36
    · exact absurd c_15 (by decide)

set_option maxRecDepth 20000 in
set_option maxHeartbeats 2000000 in
theorem k_adds_full (l9 : Launch) (G : WT) {d : Nat} (hd : 3 ≤ d) (h : HP) {nW : Nat} (hn4 : nW ≤ 4) (hnw : h.1 (0, 0, 0) 4 = nI nW) {w s : Nat} (hw : w < nW) (hs : s < 2) (hln : h.1 (6, 0, w) 4 = nI 10) : MS l9 G yX6_adds cX6_adds 4 (some .int) d [vr (1, 0, 0), vi (nI w), vi (nI s)] h (fun r h1 => h1 = h ∧ r = some (vi (-3))) := by
  refine MS_of (by decide +kernel) (Nat.le_of_ble_eq_true rfl) (fun X hC hX => ?_)
  show V X G 4 0 _ [] _
  refine v_aload_n hC (pc := 0) (k := 0) 0 rfl dX6_adds_0 ?_
  refine v_getR hC (pc := 1) dX6_adds_1 fl_X6_10 rfl (by first | rfl | exact ok_c hq rfl | exact ok_w hq hw | exact ok_w (by omega) (by omega) | exact ok_s (by omega) (by omega) | exact ok_c (by omega) rfl | assumption) rfl (by decide) (by decide) rfl ?_
  refine v_iload_n hC (pc := 4) (k := 1) 1 rfl dX6_adds_4 ?_
  refine v_callV hC (pc := 5) (As := [_]) dX6_adds_5 rfl (t_hasWalker_t _ _ (d := d - 1) (by omega) (q := 0) (by decide) _ (c := w) (by assumption) (by omega) hnw) cv_X6_115 rfl (by decide) rfl (by first | rfl | exact ok_c hq rfl | exact ok_w hq hw | exact ok_w (by omega) (by omega) | exact ok_s (by omega) (by omega) | exact ok_c (by omega) rfl | assumption) (Nat.le_of_ble_eq_true rfl) (by omega) (fun r h' hr => ?_)
  obtain ⟨he9, rfl⟩ := hr
  rw [he9]
  clear he9 h'
  show V _ _ _ (5 + 3) _ (_ :: _) _
  refine v_if_eq hC (pc := 8) (tgt := 18) dX6_adds_8 (by decide) (fun c_8 => ?_) (fun c_8 => ?_)
  · exact absurd c_8 (by decide)
  · skip
    refine v_iload_n hC (pc := 11) (k := 2) 2 rfl dX6_adds_11 ?_
    refine v_callS hC (pc := 12) (As := [_]) dX6_adds_12 rfl (t_isZeroOrOne_t _ _ (d := d - 1) (by omega) _ (s := s) (by assumption)) cs_X6_108 (Nat.le_of_ble_eq_true rfl) (by omega) (fun r h' hr => ?_)
    obtain ⟨he9, rfl⟩ := hr
    rw [he9]
    clear he9 h'
    show V _ _ _ (12 + 3) _ (_ :: _) _
    refine v_if_ne hC (pc := 15) (tgt := 20) dX6_adds_15 (by decide) (fun c_15 => ?_) (fun c_15 => ?_)
    · skip
      refine v_aload_n hC (pc := 20) (k := 0) 0 rfl dX6_adds_20 ?_
      refine v_getR hC (pc := 21) dX6_adds_21 fl_X6_10 rfl (by first | rfl | exact ok_c hq rfl | exact ok_w hq hw | exact ok_w (by omega) (by omega) | exact ok_s (by omega) (by omega) | exact ok_c (by omega) rfl | assumption) rfl (by decide) (by decide) rfl ?_
      refine v_getR hC (pc := 24) dX6_adds_24 fl_X6_118 rfl (by first | rfl | exact ok_c hq rfl | exact ok_w hq hw | exact ok_w (by omega) (by omega) | exact ok_s (by omega) (by omega) | exact ok_c (by omega) rfl | assumption) rfl (by decide) (by decide) rfl ?_
      refine v_iload_n hC (pc := 27) (k := 1) 1 rfl dX6_adds_27 ?_
      refine v_aald hC (pc := 28) (j := (6, 0, w)) 5 dX6_adds_28 rfl (by decide) (fun _ => rfl) (by first | rfl | exact ok_c hq rfl | exact ok_w hq hw | exact ok_w (by omega) (by omega) | exact ok_s (by omega) (by omega) | exact ok_c (by omega) rfl | assumption) (vp_nat (n := w) (by omega) (by decide)) (by rw [nI_clamp (show w < 2 ^ 31 by omega)]; rfl) ?_
      refine v_astore_n hC (pc := 29) (l' := [(3, _), (0, _), (1, _), (2, _)]) dX6_adds_29 (by decide) rfl ?_
      refine v_aload_n hC (pc := 30) (k := 3) 0 rfl dX6_adds_30 ?_
      refine v_getI hC (pc := 31) dX6_adds_31 fl_X6_136 rfl (by first | rfl | exact ok_c hq rfl | exact ok_w hq hw | exact ok_w (by omega) (by omega) | exact ok_s (by omega) (by omega) | exact ok_c (by omega) rfl | assumption) rfl (by decide) (by decide) ?_
      refine v_bipush hC (pc := 34) (v := 10) (by decide +kernel) dX6_adds_34 ?_
      refine v_icmp_lt hC (pc := 36) (tgt := 42) dX6_adds_36 (by decide) (fun c_36 => ?_) (fun c_36 => ?_)
      · exact absurd c_36 (by rw [hln]; decide)
      · skip
        refine v_bipush hC (pc := 39) (v := (-3)) (by decide +kernel) dX6_adds_39 ?_
        refine v_iret hC hX (pc := 41) dX6_adds_41 ?_
        exact ⟨rfl, rfl⟩
    · exact absurd c_15 (by decide)

set_option maxRecDepth 20000 in
set_option maxHeartbeats 2000000 in
theorem k_adds_bad (l9 : Launch) (G : WT) {d : Nat} (hd : 3 ≤ d) (h : HP) {nW : Nat} (hn4 : nW ≤ 4) (hnw : h.1 (0, 0, 0) 4 = nI nW) (w s : Int32) (hbad : ¬ ((¬ w < 0 ∧ ¬ nI nW ≤ w) ∧ (s = 0 ∨ s = 1))) : MS l9 G yX6_adds cX6_adds 4 (some .int) d [vr (1, 0, 0), vi w, vi s] h (fun r h1 => h1 = h ∧ r = some (vi (-1))) := by
  refine MS_of (by decide +kernel) (Nat.le_of_ble_eq_true rfl) (fun X hC hX => ?_)
  show V X G 4 0 _ [] _
  refine v_aload_n hC (pc := 0) (k := 0) 0 rfl dX6_adds_0 ?_
  refine v_getR hC (pc := 1) dX6_adds_1 fl_X6_10 rfl (by first | rfl | exact ok_c hq rfl | exact ok_w hq hw | exact ok_w (by omega) (by omega) | exact ok_s (by omega) (by omega) | exact ok_c (by omega) rfl | assumption) rfl (by decide) (by decide) rfl ?_
  refine v_iload_n hC (pc := 4) (k := 1) 1 rfl dX6_adds_4 ?_
  refine v_callV hC (pc := 5) (As := [_]) dX6_adds_5 rfl (t_hasWalker _ _ (d := d - 1) (by omega) (q := 0) (by decide) _ _) cv_X6_115 rfl (by decide) rfl (by first | rfl | exact ok_c hq rfl | exact ok_w hq hw | exact ok_w (by omega) (by omega) | exact ok_s (by omega) (by omega) | exact ok_c (by omega) rfl | assumption) (Nat.le_of_ble_eq_true rfl) (by omega) (fun r h' hr => ?_)
  obtain ⟨he9, rfl⟩ := hr
  rw [he9, hnw]
  clear he9 h'
  show V _ _ _ (5 + 3) _ (_ :: _) _
  refine v_ifb_eq hC (pc := 8) (tgt := 18) dX6_adds_8 (by decide) (fun c_8 => ?_) (fun c_8 => ?_)
  · skip
    refine v_iconst hC (pc := 18) (v := (-1)) (by decide) dX6_adds_18 ?_
    refine v_iret hC hX (pc := 19) dX6_adds_19 ?_
    exact ⟨rfl, rfl⟩
  · skip
    refine v_iload_n hC (pc := 11) (k := 2) 2 rfl dX6_adds_11 ?_
    refine v_callS hC (pc := 12) (As := [_]) dX6_adds_12 rfl (t_isZeroOrOne _ _ (d := d - 1) (by omega) _ _) cs_X6_108 (Nat.le_of_ble_eq_true rfl) (by omega) (fun r h' hr => ?_)
    obtain ⟨he9, rfl⟩ := hr
    rw [he9]
    clear he9 h'
    show V _ _ _ (12 + 3) _ (_ :: _) _
    refine v_ifb_ne hC (pc := 15) (tgt := 20) dX6_adds_15 (by decide) (fun c_15 => ?_) (fun c_15 => ?_)
    · skip
      exact absurd (show _ ∧ _ from ⟨c_8, c_15⟩) hbad
    · skip
      refine v_iconst hC (pc := 18) (v := (-1)) (by decide) dX6_adds_18 ?_
      refine v_iret hC hX (pc := 19) dX6_adds_19 ?_
      exact ⟨rfl, rfl⟩

set_option maxRecDepth 20000 in
set_option maxHeartbeats 2000000 in
theorem k_again_ok (l9 : Launch) (G : WT) {d : Nat} (hd : 3 ≤ d) (h : HP) {nW : Nat} (hn4 : nW ≤ 4) (hnw : h.1 (0, 0, 0) 4 = nI nW) {w : Nat} (hw : w < nW) : MS l9 G yX6_again cX6_again 4 (some .int) d [vr (1, 0, 0), vi (nI w)] h (fun r h1 => r = some (vi (h.1 (6, 0, w) 5)) ∧ h1 = upI h (6, 0, w) 5 0) := by
  refine MS_of (by decide +kernel) (Nat.le_of_ble_eq_true rfl) (fun X hC hX => ?_)
  show V X G 4 0 _ [] _
  refine v_aload_n hC (pc := 0) (k := 0) 0 rfl dX6_again_0 ?_
  refine v_getR hC (pc := 1) dX6_again_1 fl_X6_10 rfl (by first | rfl | exact ok_c hq rfl | exact ok_w hq hw | exact ok_w (by omega) (by omega) | exact ok_s (by omega) (by omega) | exact ok_c (by omega) rfl | assumption) rfl (by decide) (by decide) rfl ?_
  refine v_iload_n hC (pc := 4) (k := 1) 1 rfl dX6_again_4 ?_
  refine v_callV hC (pc := 5) (As := [_]) dX6_again_5 rfl (t_hasWalker_t _ _ (d := d - 1) (by omega) (q := 0) (by decide) _ (c := w) (by assumption) (by omega) hnw) cv_X6_115 rfl (by decide) rfl (by first | rfl | exact ok_c hq rfl | exact ok_w hq hw | exact ok_w (by omega) (by omega) | exact ok_s (by omega) (by omega) | exact ok_c (by omega) rfl | assumption) (Nat.le_of_ble_eq_true rfl) (by omega) (fun r h' hr => ?_)
  obtain ⟨he9, rfl⟩ := hr
  rw [he9]
  clear he9 h'
  show V _ _ _ (5 + 3) _ (_ :: _) _
  refine v_if_ne hC (pc := 8) (tgt := 13) dX6_again_8 (by decide) (fun c_8 => ?_) (fun c_8 => ?_)
  · skip
    refine v_aload_n hC (pc := 13) (k := 0) 0 rfl dX6_again_13 ?_
    refine v_getR hC (pc := 14) dX6_again_14 fl_X6_10 rfl (by first | rfl | exact ok_c hq rfl | exact ok_w hq hw | exact ok_w (by omega) (by omega) | exact ok_s (by omega) (by omega) | exact ok_c (by omega) rfl | assumption) rfl (by decide) (by decide) rfl ?_
    refine v_getR hC (pc := 17) dX6_again_17 fl_X6_118 rfl (by first | rfl | exact ok_c hq rfl | exact ok_w hq hw | exact ok_w (by omega) (by omega) | exact ok_s (by omega) (by omega) | exact ok_c (by omega) rfl | assumption) rfl (by decide) (by decide) rfl ?_
    refine v_iload_n hC (pc := 20) (k := 1) 1 rfl dX6_again_20 ?_
    refine v_aald hC (pc := 21) (j := (6, 0, w)) 5 dX6_again_21 rfl (by decide) (fun _ => rfl) (by first | rfl | exact ok_c hq rfl | exact ok_w hq hw | exact ok_w (by omega) (by omega) | exact ok_s (by omega) (by omega) | exact ok_c (by omega) rfl | assumption) (vp_nat (n := w) (by omega) (by decide)) (by rw [nI_clamp (show w < 2 ^ 31 by omega)]; rfl) ?_
    refine v_astore_n hC (pc := 22) (l' := [(2, _), (0, _), (1, _)]) dX6_again_22 (by decide) rfl ?_
    refine v_aload_n hC (pc := 23) (k := 2) 0 rfl dX6_again_23 ?_
    refine v_getI hC (pc := 24) dX6_again_24 fl_X6_162 rfl (by first | rfl | exact ok_c hq rfl | exact ok_w hq hw | exact ok_w (by omega) (by omega) | exact ok_s (by omega) (by omega) | exact ok_c (by omega) rfl | assumption) rfl (by decide) (by decide) ?_
    refine v_istore_n hC (pc := 27) (l' := [(3, _), (2, _), (0, _), (1, _)]) dX6_again_27 (by decide) rfl ?_
    refine v_aload_n hC (pc := 28) (k := 2) 1 rfl dX6_again_28 ?_
    refine v_iconst hC (pc := 29) (v := 0) (by decide) dX6_again_29 ?_
    refine v_putI hC (pc := 30) dX6_again_30 fs_X6_162 rfl (by first | rfl | exact ok_c hq rfl | exact ok_w hq hw | exact ok_w (by omega) (by omega) | exact ok_s (by omega) (by omega) | exact ok_c (by omega) rfl | assumption) rfl (by decide) (by decide) ?_
    refine v_iload_n hC (pc := 33) (k := 3) 0 rfl dX6_again_33 ?_
    refine v_iret hC hX (pc := 34) dX6_again_34 ?_
    exact ⟨rfl, rfl⟩
  · exact absurd c_8 (by decide)

set_option maxRecDepth 20000 in
set_option maxHeartbeats 2000000 in
theorem k_again_bad (l9 : Launch) (G : WT) {d : Nat} (hd : 3 ≤ d) (h : HP) {nW : Nat} (hn4 : nW ≤ 4) (hnw : h.1 (0, 0, 0) 4 = nI nW) (w : Int32) (hbad : ¬ (¬ w < 0 ∧ ¬ nI nW ≤ w)) : MS l9 G yX6_again cX6_again 4 (some .int) d [vr (1, 0, 0), vi w] h (fun r h1 => h1 = h ∧ r = some (vi (-1))) := by
  refine MS_of (by decide +kernel) (Nat.le_of_ble_eq_true rfl) (fun X hC hX => ?_)
  show V X G 4 0 _ [] _
  refine v_aload_n hC (pc := 0) (k := 0) 0 rfl dX6_again_0 ?_
  refine v_getR hC (pc := 1) dX6_again_1 fl_X6_10 rfl (by first | rfl | exact ok_c hq rfl | exact ok_w hq hw | exact ok_w (by omega) (by omega) | exact ok_s (by omega) (by omega) | exact ok_c (by omega) rfl | assumption) rfl (by decide) (by decide) rfl ?_
  refine v_iload_n hC (pc := 4) (k := 1) 1 rfl dX6_again_4 ?_
  refine v_callV hC (pc := 5) (As := [_]) dX6_again_5 rfl (t_hasWalker _ _ (d := d - 1) (by omega) (q := 0) (by decide) _ _) cv_X6_115 rfl (by decide) rfl (by first | rfl | exact ok_c hq rfl | exact ok_w hq hw | exact ok_w (by omega) (by omega) | exact ok_s (by omega) (by omega) | exact ok_c (by omega) rfl | assumption) (Nat.le_of_ble_eq_true rfl) (by omega) (fun r h' hr => ?_)
  obtain ⟨he9, rfl⟩ := hr
  rw [he9, hnw]
  clear he9 h'
  show V _ _ _ (5 + 3) _ (_ :: _) _
  refine v_ifb_ne hC (pc := 8) (tgt := 13) dX6_again_8 (by decide) (fun c_8 => ?_) (fun c_8 => ?_)
  · skip
    exact absurd c_8 hbad
  · skip
    refine v_iconst hC (pc := 11) (v := (-1)) (by decide) dX6_again_11 ?_
    refine v_iret hC hX (pc := 12) dX6_again_12 ?_
    exact ⟨rfl, rfl⟩

set_option maxRecDepth 20000 in
set_option maxHeartbeats 2000000 in
theorem k_buy_ok (l9 : Launch) (G : WT) {d : Nat} (hd : 3 ≤ d) (h : HP) {k n : Nat} (hk : k < 4) (hn : n < 10) : MS l9 G yX6_buy cX6_buy 4 (some .int) d [vr (1, 0, 0), vi (nI k), vi (nI n)] h (fun r h1 => r = some (vi (h.1 (0, 0, 8) k)) ∧ h1 = upI h (0, 0, 8) k (nI n)) := by
  refine MS_of (by decide +kernel) (Nat.le_of_ble_eq_true rfl) (fun X hC hX => ?_)
  show V X G 4 0 _ [] _
  refine v_iload_n hC (pc := 0) (k := 1) 1 rfl dX6_buy_0 ?_
  refine v_if_lt hC (pc := 1) (tgt := 26) dX6_buy_1 (by decide) (fun c_1 => ?_) (fun c_1 => ?_)
  · exact absurd c_1 (nI_pos (by omega))
  · skip
    refine v_iload_n hC (pc := 4) (k := 1) 1 rfl dX6_buy_4 ?_
    refine v_aload_n hC (pc := 5) (k := 0) 0 rfl dX6_buy_5 ?_
    refine v_getR hC (pc := 6) dX6_buy_6 fl_X6_10 rfl (by first | rfl | exact ok_c hq rfl | exact ok_w hq hw | exact ok_w (by omega) (by omega) | exact ok_s (by omega) (by omega) | exact ok_c (by omega) rfl | assumption) rfl (by decide) (by decide) rfl ?_
    refine v_getR hC (pc := 9) dX6_buy_9 fl_X6_165 rfl (by first | rfl | exact ok_c hq rfl | exact ok_w hq hw | exact ok_w (by omega) (by omega) | exact ok_s (by omega) (by omega) | exact ok_c (by omega) rfl | assumption) rfl (by decide) (by decide) rfl ?_
    refine v_alen hC (pc := 12) 0 dX6_buy_12 rfl (fun _ => rfl) (by first | exact Or.inl rfl | exact Or.inr rfl) (by first | rfl | exact ok_c hq rfl | exact ok_w hq hw | exact ok_w (by omega) (by omega) | exact ok_s (by omega) (by omega) | exact ok_c (by omega) rfl | assumption) (v := nI 4) (by decide +kernel) ?_
    refine v_icmp_ge hC (pc := 13) (tgt := 26) dX6_buy_13 (by decide) (fun c_13 => ?_) (fun c_13 => ?_)
    · exact absurd c_13 (nI_ge hk (by decide))
    · skip
      refine v_iload_n hC (pc := 16) (k := 2) 2 rfl dX6_buy_16 ?_
      refine v_if_lt hC (pc := 17) (tgt := 26) dX6_buy_17 (by decide) (fun c_17 => ?_) (fun c_17 => ?_)
      · exact absurd c_17 (nI_pos (by omega))
      · skip
        refine v_iload_n hC (pc := 20) (k := 2) 2 rfl dX6_buy_20 ?_
        refine v_bipush hC (pc := 21) (v := 9) (by decide +kernel) dX6_buy_21 ?_
        refine v_icmp_le hC (pc := 23) (tgt := 28) dX6_buy_23 (by decide) (fun c_23 => ?_) (fun c_23 => ?_)
        · skip
          refine v_aload_n hC (pc := 28) (k := 0) 0 rfl dX6_buy_28 ?_
          refine v_getR hC (pc := 29) dX6_buy_29 fl_X6_10 rfl (by first | rfl | exact ok_c hq rfl | exact ok_w hq hw | exact ok_w (by omega) (by omega) | exact ok_s (by omega) (by omega) | exact ok_c (by omega) rfl | assumption) rfl (by decide) (by decide) rfl ?_
          refine v_getR hC (pc := 32) dX6_buy_32 fl_X6_165 rfl (by first | rfl | exact ok_c hq rfl | exact ok_w hq hw | exact ok_w (by omega) (by omega) | exact ok_s (by omega) (by omega) | exact ok_c (by omega) rfl | assumption) rfl (by decide) (by decide) rfl ?_
          refine v_iload_n hC (pc := 35) (k := 1) 1 rfl dX6_buy_35 ?_
          refine v_iald hC (pc := 36) dX6_buy_36 rfl (by first | rfl | exact ok_c hq rfl | exact ok_w hq hw | exact ok_w (by omega) (by omega) | exact ok_s (by omega) (by omega) | exact ok_c (by omega) rfl | assumption) (vp_nat (n := k) (by omega) (by decide)) ?_
          refine v_istore_n hC (pc := 37) (l' := [(3, _), (0, _), (1, _), (2, _)]) dX6_buy_37 (by decide) rfl ?_
          refine v_aload_n hC (pc := 38) (k := 0) 1 rfl dX6_buy_38 ?_
          refine v_getR hC (pc := 39) dX6_buy_39 fl_X6_10 rfl (by first | rfl | exact ok_c hq rfl | exact ok_w hq hw | exact ok_w (by omega) (by omega) | exact ok_s (by omega) (by omega) | exact ok_c (by omega) rfl | assumption) rfl (by decide) (by decide) rfl ?_
          refine v_getR hC (pc := 42) dX6_buy_42 fl_X6_165 rfl (by first | rfl | exact ok_c hq rfl | exact ok_w hq hw | exact ok_w (by omega) (by omega) | exact ok_s (by omega) (by omega) | exact ok_c (by omega) rfl | assumption) rfl (by decide) (by decide) rfl ?_
          refine v_iload_n hC (pc := 45) (k := 1) 2 rfl dX6_buy_45 ?_
          refine v_iload_n hC (pc := 46) (k := 2) 3 rfl dX6_buy_46 ?_
          refine v_iast hC (pc := 47) dX6_buy_47 rfl (by first | rfl | exact ok_c hq rfl | exact ok_w hq hw | exact ok_w (by omega) (by omega) | exact ok_s (by omega) (by omega) | exact ok_c (by omega) rfl | assumption) (vp_nat (n := k) (by omega) (by decide)) ?_
          refine v_iload_n hC (pc := 48) (k := 3) 0 rfl dX6_buy_48 ?_
          refine v_iret hC hX (pc := 49) dX6_buy_49 ?_
          rw [nI_clamp (show k < 2 ^ 31 by omega)]
          exact ⟨rfl, rfl⟩
        · exact absurd (nI_le (show n ≤ 9 by omega) (by decide)) c_23

set_option maxRecDepth 20000 in
set_option maxHeartbeats 2000000 in
theorem k_buy_bad (l9 : Launch) (G : WT) {d : Nat} (hd : 3 ≤ d) (h : HP) (k n : Int32) (hbad : ¬ ((¬ k < 0 ∧ ¬ 3 < k) ∧ ¬ n < 0 ∧ ¬ 9 < n)) : MS l9 G yX6_buy cX6_buy 4 (some .int) d [vr (1, 0, 0), vi k, vi n] h (fun r h1 => h1 = h ∧ r = some (vi (-1))) := by
  refine MS_of (by decide +kernel) (Nat.le_of_ble_eq_true rfl) (fun X hC hX => ?_)
  show V X G 4 0 _ [] _
  refine v_iload_n hC (pc := 0) (k := 1) 1 rfl dX6_buy_0 ?_
  refine v_if_lt hC (pc := 1) (tgt := 26) dX6_buy_1 (by decide) (fun c_1 => ?_) (fun c_1 => ?_)
  · skip
    refine v_iconst hC (pc := 26) (v := (-1)) (by decide) dX6_buy_26 ?_
    refine v_iret hC hX (pc := 27) dX6_buy_27 ?_
    exact ⟨rfl, rfl⟩
  · skip
    refine v_iload_n hC (pc := 4) (k := 1) 1 rfl dX6_buy_4 ?_
    refine v_aload_n hC (pc := 5) (k := 0) 0 rfl dX6_buy_5 ?_
    refine v_getR hC (pc := 6) dX6_buy_6 fl_X6_10 rfl (by first | rfl | exact ok_c hq rfl | exact ok_w hq hw | exact ok_w (by omega) (by omega) | exact ok_s (by omega) (by omega) | exact ok_c (by omega) rfl | assumption) rfl (by decide) (by decide) rfl ?_
    refine v_getR hC (pc := 9) dX6_buy_9 fl_X6_165 rfl (by first | rfl | exact ok_c hq rfl | exact ok_w hq hw | exact ok_w (by omega) (by omega) | exact ok_s (by omega) (by omega) | exact ok_c (by omega) rfl | assumption) rfl (by decide) (by decide) rfl ?_
    refine v_alen hC (pc := 12) 0 dX6_buy_12 rfl (fun _ => rfl) (by first | exact Or.inl rfl | exact Or.inr rfl) (by first | rfl | exact ok_c hq rfl | exact ok_w hq hw | exact ok_w (by omega) (by omega) | exact ok_s (by omega) (by omega) | exact ok_c (by omega) rfl | assumption) (v := nI 4) (by decide +kernel) ?_
    refine v_icmp_ge hC (pc := 13) (tgt := 26) dX6_buy_13 (by decide) (fun c_13 => ?_) (fun c_13 => ?_)
    · skip
      refine v_iconst hC (pc := 26) (v := (-1)) (by decide) dX6_buy_26 ?_
      refine v_iret hC hX (pc := 27) dX6_buy_27 ?_
      exact ⟨rfl, rfl⟩
    · skip
      refine v_iload_n hC (pc := 16) (k := 2) 2 rfl dX6_buy_16 ?_
      refine v_if_lt hC (pc := 17) (tgt := 26) dX6_buy_17 (by decide) (fun c_17 => ?_) (fun c_17 => ?_)
      · skip
        refine v_iconst hC (pc := 26) (v := (-1)) (by decide) dX6_buy_26 ?_
        refine v_iret hC hX (pc := 27) dX6_buy_27 ?_
        exact ⟨rfl, rfl⟩
      · skip
        refine v_iload_n hC (pc := 20) (k := 2) 2 rfl dX6_buy_20 ?_
        refine v_bipush hC (pc := 21) (v := 9) (by decide +kernel) dX6_buy_21 ?_
        refine v_icmp_le hC (pc := 23) (tgt := 28) dX6_buy_23 (by decide) (fun c_23 => ?_) (fun c_23 => ?_)
        · skip
          exact absurd (show _ ∧ _ from ⟨⟨c_1, lt4 c_13⟩, c_17, Int32.not_lt.mpr c_23⟩) hbad
        · skip
          refine v_iconst hC (pc := 26) (v := (-1)) (by decide) dX6_buy_26 ?_
          refine v_iret hC hX (pc := 27) dX6_buy_27 ?_
          exact ⟨rfl, rfl⟩

