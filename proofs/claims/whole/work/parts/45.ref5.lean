/-! THE REFERENCE: what its calls answer, simple ones -/
def swF (l : List Int32) (x : Int32) : Int32 := if x.toInt < 0 ∨ (l.length : Int) ≤ x.toInt then -1 else l.getD x.toInt.toNat 0
theorem swF_out {l : List Int32} {x : Int32} {n : Nat} (hn : l.length = n + 1) (h : x.toInt < 0 ∨ (n : Int) < x.toInt) : swF l x = -1 := by
  unfold swF
  rw [if_pos]
  rw [hn]
  rcases h with h | h
  · exact Or.inl h
  · exact Or.inr (by omega)
def stH (h : HP) : HP := upR h (3, 0, 2) (cpR (h.1 (3, 0, 2)) (h.1 (3, 0, 1)) 80)
theorem stH_at (h : HP) {k : Nat} (hk : k < 80) : (stH h).1 (3, 0, 2) k = h.1 (3, 0, 1) k := by
  unfold stH
  rw [upR_same]
  exact if_pos hk
theorem stH_o (h : HP) {i : PId} (hi : i ≠ (3, 0, 2)) : (stH h).1 i = h.1 i := upR_ne h _ hi
theorem stH_2 (h : HP) : (stH h).2 = h.2 := rfl
set_option maxRecDepth 20000 in
set_option maxHeartbeats 2000000 in
theorem m_feed_ok (l9 : Launch) (G : WT) {d : Nat} (hd : 3 ≤ d) (h : HP) {t : Nat} (ht : h.1 (3, 0, 0) 12 = nI t) (ht2 : t < 160) (x : Int32) (hx : ¬ x < 0 ∧ ¬ 127 < x) : MS l9 G yX7_feed cX7_feed 2 (some .int) d [vr (3, 0, 0), vi x] h (fun r h1 => r = some (vi (nI (t + 1))) ∧ h1 = upI (upI h (3, 0, 12) t x) (3, 0, 0) 12 (nI (t + 1))) := by
  refine MS_of (by decide +kernel) (Nat.le_of_ble_eq_true rfl) (fun X hC hX => ?_)
  show V X G 2 0 _ [] _
  refine v_iload_n hC (pc := 0) (k := 1) 1 rfl dX7_feed_0 ?_
  refine v_i2l hC (pc := 1) dX7_feed_1 ?_
  refine v_lconst hC (pc := 2) (v := 0) (by decide) dX7_feed_2 ?_
  refine v_ldc2 hC (pc := 3) k_X7_82 dX7_feed_3 ?_
  refine v_callS hC (pc := 6) (As := [_, _, _]) dX7_feed_6 rfl (m_in_t _ _ (d := d - 1) (by omega) _ (x) (0) (127) (hx)) cs_X7_84 (Nat.le_of_ble_eq_true rfl) (by omega) (fun r h' hr => ?_)
  obtain ⟨he9, rfl⟩ := hr
  rw [he9]
  clear he9 h'
  show V _ _ _ (6 + 3) _ (_ :: _) _
  refine v_if_ne hC (pc := 9) (tgt := 14) dX7_feed_9 (by decide) (fun c_9 => ?_) (fun c_9 => ?_)
  · skip
    refine v_aload_n hC (pc := 14) (k := 0) 0 rfl dX7_feed_14 ?_
    refine v_getI hC (pc := 15) dX7_feed_15 fl_X7_88 rfl (by first | rfl | exact ok_c hq rfl | exact ok_w hq hw | exact ok_w (by omega) (by omega) | exact ok_s (by omega) (by omega) | exact ok_c (by omega) rfl | assumption) rfl (by decide) (by decide) ?_
    refine v_sipush hC (pc := 18) (v := 160) (by decide +kernel) dX7_feed_18 ?_
    refine v_icmp_ne hC (pc := 21) (tgt := 27) dX7_feed_21 (by decide) (fun c_21 => ?_) (fun c_21 => ?_)
    · skip
      skip
      refine v_aload_n hC (pc := 27) (k := 0) 0 rfl dX7_feed_27 ?_
      refine v_getR hC (pc := 28) dX7_feed_28 fl_X7_26 rfl (by first | rfl | exact ok_c hq rfl | exact ok_w hq hw | exact ok_w (by omega) (by omega) | exact ok_s (by omega) (by omega) | exact ok_c (by omega) rfl | assumption) rfl (by decide) (by decide) rfl ?_
      refine v_aload_n hC (pc := 31) (k := 0) 0 rfl dX7_feed_31 ?_
      refine v_getI hC (pc := 32) dX7_feed_32 fl_X7_88 rfl (by first | rfl | exact ok_c hq rfl | exact ok_w hq hw | exact ok_w (by omega) (by omega) | exact ok_s (by omega) (by omega) | exact ok_c (by omega) rfl | assumption) rfl (by decide) (by decide) ?_
      refine v_iload_n hC (pc := 35) (k := 1) 1 rfl dX7_feed_35 ?_
      try simp only [nL_0, nL_1, nL_2, nL_3, nL_4, nL_5, nL_6, nL_8, nL_16, nL_17, nL_18, nL_40, nL_42, nL_43, nL_47, nL_48, nL_64, nL_80, pk_mul, nI_add]
      refine v_iast hC (pc := 36) dX7_feed_36 rfl (by first | rfl | exact ok_c hq rfl | exact ok_w hq hw | exact ok_w (by omega) (by omega) | exact ok_s (by omega) (by omega) | exact ok_c (by omega) rfl | assumption) (by rw [ht]; exact vp_nat (by omega) (by decide)) ?_
      refine v_aload_n hC (pc := 37) (k := 0) 0 rfl dX7_feed_37 ?_
      refine v_dup hC (pc := 38) rfl dX7_feed_38 ?_
      refine v_getI hC (pc := 39) dX7_feed_39 fl_X7_88 rfl (by first | rfl | exact ok_c hq rfl | exact ok_w hq hw | exact ok_w (by omega) (by omega) | exact ok_s (by omega) (by omega) | exact ok_c (by omega) rfl | assumption) rfl (by decide) (by decide) ?_
      refine v_iconst hC (pc := 42) (v := 1) (by decide) dX7_feed_42 ?_
      refine v_iadd hC (pc := 43) dX7_feed_43 ?_
      refine v_putI hC (pc := 44) dX7_feed_44 fs_X7_88 rfl (by first | rfl | exact ok_c hq rfl | exact ok_w hq hw | exact ok_w (by omega) (by omega) | exact ok_s (by omega) (by omega) | exact ok_c (by omega) rfl | assumption) rfl (by decide) (by decide) ?_
      refine v_aload_n hC (pc := 47) (k := 0) 0 rfl dX7_feed_47 ?_
      refine v_getI hC (pc := 48) dX7_feed_48 fl_X7_88 rfl (by first | rfl | exact ok_c hq rfl | exact ok_w hq hw | exact ok_w (by omega) (by omega) | exact ok_s (by omega) (by omega) | exact ok_c (by omega) rfl | assumption) rfl (by decide) (by decide) ?_
      refine v_iret hC hX (pc := 51) dX7_feed_51 ?_
      have e9 : nI t + 1 = nI (t + 1) := (nI_succ t).symm
      refine ⟨?_, ?_⟩
      · simp [upI, ht, e9]
      · simp [upI, ht, e9, nI_clamp (show t < 2 ^ 31 by omega)]
    · exact absurd ((nI_eq (by omega) (by decide)).mp (show nI t = nI 160 from by rw [← ht]; exact c_21)) (by omega)
  · exact absurd c_9 (by decide)

set_option maxRecDepth 20000 in
set_option maxHeartbeats 2000000 in
theorem m_feed_full (l9 : Launch) (G : WT) {d : Nat} (hd : 3 ≤ d) (h : HP) (ht : h.1 (3, 0, 0) 12 = nI 160) (x : Int32) (hx : ¬ x < 0 ∧ ¬ 127 < x) : MS l9 G yX7_feed cX7_feed 2 (some .int) d [vr (3, 0, 0), vi x] h (fun r h1 => h1 = h ∧ r = some (vi (-3))) := by
  refine MS_of (by decide +kernel) (Nat.le_of_ble_eq_true rfl) (fun X hC hX => ?_)
  show V X G 2 0 _ [] _
  refine v_iload_n hC (pc := 0) (k := 1) 1 rfl dX7_feed_0 ?_
  refine v_i2l hC (pc := 1) dX7_feed_1 ?_
  refine v_lconst hC (pc := 2) (v := 0) (by decide) dX7_feed_2 ?_
  refine v_ldc2 hC (pc := 3) k_X7_82 dX7_feed_3 ?_
  refine v_callS hC (pc := 6) (As := [_, _, _]) dX7_feed_6 rfl (m_in_t _ _ (d := d - 1) (by omega) _ (x) (0) (127) (hx)) cs_X7_84 (Nat.le_of_ble_eq_true rfl) (by omega) (fun r h' hr => ?_)
  obtain ⟨he9, rfl⟩ := hr
  rw [he9]
  clear he9 h'
  show V _ _ _ (6 + 3) _ (_ :: _) _
  refine v_if_ne hC (pc := 9) (tgt := 14) dX7_feed_9 (by decide) (fun c_9 => ?_) (fun c_9 => ?_)
  · skip
    refine v_aload_n hC (pc := 14) (k := 0) 0 rfl dX7_feed_14 ?_
    refine v_getI hC (pc := 15) dX7_feed_15 fl_X7_88 rfl (by first | rfl | exact ok_c hq rfl | exact ok_w hq hw | exact ok_w (by omega) (by omega) | exact ok_s (by omega) (by omega) | exact ok_c (by omega) rfl | assumption) rfl (by decide) (by decide) ?_
    refine v_sipush hC (pc := 18) (v := 160) (by decide +kernel) dX7_feed_18 ?_
    refine v_icmp_ne hC (pc := 21) (tgt := 27) dX7_feed_21 (by decide) (fun c_21 => ?_) (fun c_21 => ?_)
    · exact absurd ht c_21
    · skip
      refine v_bipush hC (pc := 24) (v := (-3)) (by decide +kernel) dX7_feed_24 ?_
      refine v_iret hC hX (pc := 26) dX7_feed_26 ?_
      exact ⟨rfl, rfl⟩
  · exact absurd c_9 (by decide)

set_option maxRecDepth 20000 in
set_option maxHeartbeats 2000000 in
theorem m_feed_bad (l9 : Launch) (G : WT) {d : Nat} (hd : 3 ≤ d) (h : HP) (x : Int32) (hbad : ¬ (¬ x < 0 ∧ ¬ 127 < x)) : MS l9 G yX7_feed cX7_feed 2 (some .int) d [vr (3, 0, 0), vi x] h (fun r h1 => h1 = h ∧ r = some (vi (-1))) := by
  refine MS_of (by decide +kernel) (Nat.le_of_ble_eq_true rfl) (fun X hC hX => ?_)
  show V X G 2 0 _ [] _
  refine v_iload_n hC (pc := 0) (k := 1) 1 rfl dX7_feed_0 ?_
  refine v_i2l hC (pc := 1) dX7_feed_1 ?_
  refine v_lconst hC (pc := 2) (v := 0) (by decide) dX7_feed_2 ?_
  refine v_ldc2 hC (pc := 3) k_X7_82 dX7_feed_3 ?_
  refine v_callS hC (pc := 6) (As := [_, _, _]) dX7_feed_6 rfl (m_in _ _ (d := d - 1) (by omega) _ (x) (0) (127)) cs_X7_84 (Nat.le_of_ble_eq_true rfl) (by omega) (fun r h' hr => ?_)
  obtain ⟨he9, rfl⟩ := hr
  rw [he9]
  clear he9 h'
  show V _ _ _ (6 + 3) _ (_ :: _) _
  refine v_ifb_ne hC (pc := 9) (tgt := 14) dX7_feed_9 (by decide) (fun c_9 => ?_) (fun c_9 => ?_)
  · skip
    exact absurd c_9 hbad
  · skip
    refine v_iconst hC (pc := 12) (v := (-1)) (by decide) dX7_feed_12 ?_
    refine v_iret hC hX (pc := 13) dX7_feed_13 ?_
    exact ⟨rfl, rfl⟩

set_option maxRecDepth 20000 in
set_option maxHeartbeats 2000000 in
theorem m_end_ok (l9 : Launch) (G : WT) {d : Nat} (hd : 3 ≤ d) (h : HP) {t : Nat} (ht : h.1 (3, 0, 0) 12 = nI t) {n : Nat} (hn : n ≤ t) (ht2 : t ≤ 160) : MS l9 G yX7_end cX7_end 3 (some .int) d [vr (3, 0, 0), vi (nI n)] h (fun r h1 => r = some (vi (nI t)) ∧ h1 = upI h (3, 0, 0) 12 (nI n)) := by
  refine MS_of (by decide +kernel) (Nat.le_of_ble_eq_true rfl) (fun X hC hX => ?_)
  show V X G 3 0 _ [] _
  refine v_iload_n hC (pc := 0) (k := 1) 1 rfl dX7_end_0 ?_
  refine v_i2l hC (pc := 1) dX7_end_1 ?_
  refine v_lconst hC (pc := 2) (v := 0) (by decide) dX7_end_2 ?_
  refine v_aload_n hC (pc := 3) (k := 0) 0 rfl dX7_end_3 ?_
  refine v_getI hC (pc := 4) dX7_end_4 fl_X7_88 rfl (by first | rfl | exact ok_c hq rfl | exact ok_w hq hw | exact ok_w (by omega) (by omega) | exact ok_s (by omega) (by omega) | exact ok_c (by omega) rfl | assumption) rfl (by decide) (by decide) ?_
  rw [ht]
  refine v_i2l hC (pc := 7) dX7_end_7 ?_
  refine v_callS hC (pc := 8) (As := [_, _, _]) dX7_end_8 rfl (m_in_t _ _ (d := d - 1) (by omega) _ (nI n) (0) (nI t) (⟨nI_pos (by omega), nI_nlt hn (by omega)⟩)) cs_X7_84 (Nat.le_of_ble_eq_true rfl) (by omega) (fun r h' hr => ?_)
  obtain ⟨he9, rfl⟩ := hr
  rw [he9]
  clear he9 h'
  show V _ _ _ (8 + 3) _ (_ :: _) _
  refine v_if_ne hC (pc := 11) (tgt := 16) dX7_end_11 (by decide) (fun c_11 => ?_) (fun c_11 => ?_)
  · skip
    refine v_aload_n hC (pc := 16) (k := 0) 0 rfl dX7_end_16 ?_
    refine v_getI hC (pc := 17) dX7_end_17 fl_X7_88 rfl (by first | rfl | exact ok_c hq rfl | exact ok_w hq hw | exact ok_w (by omega) (by omega) | exact ok_s (by omega) (by omega) | exact ok_c (by omega) rfl | assumption) rfl (by decide) (by decide) ?_
    rw [ht]
    refine v_istore_n hC (pc := 20) (l' := [(2, _), (0, _), (1, _)]) dX7_end_20 (by decide) rfl ?_
    refine v_aload_n hC (pc := 21) (k := 0) 1 rfl dX7_end_21 ?_
    refine v_iload_n hC (pc := 22) (k := 1) 2 rfl dX7_end_22 ?_
    refine v_putI hC (pc := 23) dX7_end_23 fs_X7_88 rfl (by first | rfl | exact ok_c hq rfl | exact ok_w hq hw | exact ok_w (by omega) (by omega) | exact ok_s (by omega) (by omega) | exact ok_c (by omega) rfl | assumption) rfl (by decide) (by decide) ?_
    refine v_iload_n hC (pc := 26) (k := 2) 0 rfl dX7_end_26 ?_
    refine v_iret hC hX (pc := 27) dX7_end_27 ?_
    exact ⟨rfl, rfl⟩
  · exact absurd c_11 (by decide)

set_option maxRecDepth 20000 in
set_option maxHeartbeats 2000000 in
theorem m_end_bad (l9 : Launch) (G : WT) {d : Nat} (hd : 3 ≤ d) (h : HP) {t : Nat} (ht : h.1 (3, 0, 0) 12 = nI t) (n : Int32) (hbad : ¬ (¬ n < 0 ∧ ¬ nI t < n)) : MS l9 G yX7_end cX7_end 3 (some .int) d [vr (3, 0, 0), vi n] h (fun r h1 => h1 = h ∧ r = some (vi (-1))) := by
  refine MS_of (by decide +kernel) (Nat.le_of_ble_eq_true rfl) (fun X hC hX => ?_)
  show V X G 3 0 _ [] _
  refine v_iload_n hC (pc := 0) (k := 1) 1 rfl dX7_end_0 ?_
  refine v_i2l hC (pc := 1) dX7_end_1 ?_
  refine v_lconst hC (pc := 2) (v := 0) (by decide) dX7_end_2 ?_
  refine v_aload_n hC (pc := 3) (k := 0) 0 rfl dX7_end_3 ?_
  refine v_getI hC (pc := 4) dX7_end_4 fl_X7_88 rfl (by first | rfl | exact ok_c hq rfl | exact ok_w hq hw | exact ok_w (by omega) (by omega) | exact ok_s (by omega) (by omega) | exact ok_c (by omega) rfl | assumption) rfl (by decide) (by decide) ?_
  rw [ht]
  refine v_i2l hC (pc := 7) dX7_end_7 ?_
  refine v_callS hC (pc := 8) (As := [_, _, _]) dX7_end_8 rfl (m_in _ _ (d := d - 1) (by omega) _ (n) (0) (nI t)) cs_X7_84 (Nat.le_of_ble_eq_true rfl) (by omega) (fun r h' hr => ?_)
  obtain ⟨he9, rfl⟩ := hr
  rw [he9]
  clear he9 h'
  show V _ _ _ (8 + 3) _ (_ :: _) _
  refine v_ifb_ne hC (pc := 11) (tgt := 16) dX7_end_11 (by decide) (fun c_11 => ?_) (fun c_11 => ?_)
  · skip
    exact absurd c_11 hbad
  · skip
    refine v_iconst hC (pc := 14) (v := (-1)) (by decide) dX7_end_14 ?_
    refine v_iret hC hX (pc := 15) dX7_end_15 ?_
    exact ⟨rfl, rfl⟩

set_option maxRecDepth 20000 in
set_option maxHeartbeats 2000000 in
theorem m_fault (l9 : Launch) (G : WT) {d : Nat} (hd : 3 ≤ d) (h : HP)  : MS l9 G yX7_fault cX7_fault 1 (some .int) d [vr (3, 0, 0)] h (fun r h1 => h1 = h ∧ r = some (vi (h.1 (3, 0, 0) 17))) := by
  refine MS_of (by decide +kernel) (Nat.le_of_ble_eq_true rfl) (fun X hC hX => ?_)
  show V X G 1 0 _ [] _
  refine v_aload_n hC (pc := 0) (k := 0) 0 rfl dX7_fault_0 ?_
  refine v_getI hC (pc := 1) dX7_fault_1 fl_X7_91 rfl (by first | rfl | exact ok_c hq rfl | exact ok_w hq hw | exact ok_w (by omega) (by omega) | exact ok_s (by omega) (by omega) | exact ok_c (by omega) rfl | assumption) rfl (by decide) (by decide) ?_
  refine v_iret hC hX (pc := 4) dX7_fault_4 ?_
  exact ⟨rfl, rfl⟩

set_option maxRecDepth 20000 in
set_option maxHeartbeats 2000000 in
theorem m_torn (l9 : Launch) (G : WT) {d : Nat} (hd : 3 ≤ d) (h : HP)  : MS l9 G yX7_torn cX7_torn 1 (some .int) d [vr (3, 0, 0)] h (fun r h1 => h1 = h ∧ r = some (vi (h.1 (3, 0, 0) 27))) := by
  refine MS_of (by decide +kernel) (Nat.le_of_ble_eq_true rfl) (fun X hC hX => ?_)
  show V X G 1 0 _ [] _
  refine v_aload_n hC (pc := 0) (k := 0) 0 rfl dX7_torn_0 ?_
  refine v_getI hC (pc := 1) dX7_torn_1 fl_X7_309 rfl (by first | rfl | exact ok_c hq rfl | exact ok_w hq hw | exact ok_w (by omega) (by omega) | exact ok_s (by omega) (by omega) | exact ok_c (by omega) rfl | assumption) rfl (by decide) (by decide) ?_
  refine v_iret hC hX (pc := 4) dX7_torn_4 ?_
  exact ⟨rfl, rfl⟩

set_option maxRecDepth 20000 in
set_option maxHeartbeats 2000000 in
theorem m_rule (l9 : Launch) (G : WT) {d : Nat} (hd : 3 ≤ d) (h : HP) (x : Int32) : MS l9 G yX7_rule cX7_rule 2 (some .int) d [vr (3, 0, 0), vi x] h (fun r h1 => h1 = h ∧ r = some (vi (swF [h.1 (3, 0, 0) 3, h.1 (3, 0, 1) 17, h.1 (3, 0, 0) 4, h.1 (3, 0, 1) 16, h.1 (3, 0, 1) 42, flgF (bI (¬ h.1 (3, 0, 1) 17 - h.1 (3, 0, 1) 17 / 24 * 24 < 12))] x))) := by
  refine MS_of (by decide +kernel) (Nat.le_of_ble_eq_true rfl) (fun X hC hX => ?_)
  show V X G 2 0 _ [] _
  refine v_iload_n hC (pc := 0) (k := 1) 1 rfl dX7_rule_0 ?_
  rcases sw_cases (x) 5 (by decide) with ⟨k9, hk9, hsw⟩ | hsw
  · rcases (show k9 = 0 ∨ k9 = 1 ∨ k9 = 2 ∨ k9 = 3 ∨ k9 = 4 ∨ k9 = 5 by omega) with rfl | rfl | rfl | rfl | rfl | rfl
    · rw [hsw]
      refine v_tabIn hC (pc := 1) (tgt := 40) dX7_rule_1 (by decide) (by decide) (off := 39) (by decide) (by decide) ?_
      refine v_aload_n hC (pc := 40) (k := 0) 0 rfl dX7_rule_40 ?_
      refine v_getI hC (pc := 41) dX7_rule_41 fl_X7_76 rfl (by first | rfl | exact ok_c hq rfl | exact ok_w hq hw | exact ok_w (by omega) (by omega) | exact ok_s (by omega) (by omega) | exact ok_c (by omega) rfl | assumption) rfl (by decide) (by decide) ?_
      refine v_iret hC hX (pc := 44) dX7_rule_44 ?_
      exact ⟨rfl, by rw [hsw]; rfl⟩
    · rw [hsw]
      refine v_tabIn hC (pc := 1) (tgt := 45) dX7_rule_1 (by decide) (by decide) (off := 44) (by decide) (by decide) ?_
      refine v_aload_n hC (pc := 45) (k := 0) 0 rfl dX7_rule_45 ?_
      refine v_getR hC (pc := 46) dX7_rule_46 fl_X7_7 rfl (by first | rfl | exact ok_c hq rfl | exact ok_w hq hw | exact ok_w (by omega) (by omega) | exact ok_s (by omega) (by omega) | exact ok_c (by omega) rfl | assumption) rfl (by decide) (by decide) rfl ?_
      refine v_bipush hC (pc := 49) (v := 17) (by decide +kernel) dX7_rule_49 ?_
      try simp only [nL_0, nL_1, nL_2, nL_3, nL_4, nL_5, nL_6, nL_8, nL_16, nL_17, nL_18, nL_40, nL_42, nL_43, nL_47, nL_48, nL_64, nL_80, pk_mul, nI_add]
      refine v_iald hC (pc := 51) dX7_rule_51 rfl (by first | rfl | exact ok_c hq rfl | exact ok_w hq hw | exact ok_w (by omega) (by omega) | exact ok_s (by omega) (by omega) | exact ok_c (by omega) rfl | assumption) (vp_nat (n := 17) (by omega) (by decide)) ?_
      refine v_iret hC hX (pc := 52) dX7_rule_52 ?_
      exact ⟨rfl, by rw [hsw]; rfl⟩
    · rw [hsw]
      refine v_tabIn hC (pc := 1) (tgt := 53) dX7_rule_1 (by decide) (by decide) (off := 52) (by decide) (by decide) ?_
      refine v_aload_n hC (pc := 53) (k := 0) 0 rfl dX7_rule_53 ?_
      refine v_getI hC (pc := 54) dX7_rule_54 fl_X7_79 rfl (by first | rfl | exact ok_c hq rfl | exact ok_w hq hw | exact ok_w (by omega) (by omega) | exact ok_s (by omega) (by omega) | exact ok_c (by omega) rfl | assumption) rfl (by decide) (by decide) ?_
      refine v_iret hC hX (pc := 57) dX7_rule_57 ?_
      exact ⟨rfl, by rw [hsw]; rfl⟩
    · rw [hsw]
      refine v_tabIn hC (pc := 1) (tgt := 58) dX7_rule_1 (by decide) (by decide) (off := 57) (by decide) (by decide) ?_
      refine v_aload_n hC (pc := 58) (k := 0) 0 rfl dX7_rule_58 ?_
      refine v_getR hC (pc := 59) dX7_rule_59 fl_X7_7 rfl (by first | rfl | exact ok_c hq rfl | exact ok_w hq hw | exact ok_w (by omega) (by omega) | exact ok_s (by omega) (by omega) | exact ok_c (by omega) rfl | assumption) rfl (by decide) (by decide) rfl ?_
      refine v_bipush hC (pc := 62) (v := 16) (by decide +kernel) dX7_rule_62 ?_
      try simp only [nL_0, nL_1, nL_2, nL_3, nL_4, nL_5, nL_6, nL_8, nL_16, nL_17, nL_18, nL_40, nL_42, nL_43, nL_47, nL_48, nL_64, nL_80, pk_mul, nI_add]
      refine v_iald hC (pc := 64) dX7_rule_64 rfl (by first | rfl | exact ok_c hq rfl | exact ok_w hq hw | exact ok_w (by omega) (by omega) | exact ok_s (by omega) (by omega) | exact ok_c (by omega) rfl | assumption) (vp_nat (n := 16) (by omega) (by decide)) ?_
      refine v_iret hC hX (pc := 65) dX7_rule_65 ?_
      exact ⟨rfl, by rw [hsw]; rfl⟩
    · rw [hsw]
      refine v_tabIn hC (pc := 1) (tgt := 66) dX7_rule_1 (by decide) (by decide) (off := 65) (by decide) (by decide) ?_
      refine v_aload_n hC (pc := 66) (k := 0) 0 rfl dX7_rule_66 ?_
      refine v_getR hC (pc := 67) dX7_rule_67 fl_X7_7 rfl (by first | rfl | exact ok_c hq rfl | exact ok_w hq hw | exact ok_w (by omega) (by omega) | exact ok_s (by omega) (by omega) | exact ok_c (by omega) rfl | assumption) rfl (by decide) (by decide) rfl ?_
      refine v_bipush hC (pc := 70) (v := 42) (by decide +kernel) dX7_rule_70 ?_
      try simp only [nL_0, nL_1, nL_2, nL_3, nL_4, nL_5, nL_6, nL_8, nL_16, nL_17, nL_18, nL_40, nL_42, nL_43, nL_47, nL_48, nL_64, nL_80, pk_mul, nI_add]
      refine v_iald hC (pc := 72) dX7_rule_72 rfl (by first | rfl | exact ok_c hq rfl | exact ok_w hq hw | exact ok_w (by omega) (by omega) | exact ok_s (by omega) (by omega) | exact ok_c (by omega) rfl | assumption) (vp_nat (n := 42) (by omega) (by decide)) ?_
      refine v_iret hC hX (pc := 73) dX7_rule_73 ?_
      exact ⟨rfl, by rw [hsw]; rfl⟩
    · rw [hsw]
      refine v_tabIn hC (pc := 1) (tgt := 74) dX7_rule_1 (by decide) (by decide) (off := 73) (by decide) (by decide) ?_
      refine v_aload_n hC (pc := 74) (k := 0) 0 rfl dX7_rule_74 ?_
      refine v_getR hC (pc := 75) dX7_rule_75 fl_X7_7 rfl (by first | rfl | exact ok_c hq rfl | exact ok_w hq hw | exact ok_w (by omega) (by omega) | exact ok_s (by omega) (by omega) | exact ok_c (by omega) rfl | assumption) rfl (by decide) (by decide) rfl ?_
      refine v_bipush hC (pc := 78) (v := 17) (by decide +kernel) dX7_rule_78 ?_
      try simp only [nL_0, nL_1, nL_2, nL_3, nL_4, nL_5, nL_6, nL_8, nL_16, nL_17, nL_18, nL_40, nL_42, nL_43, nL_47, nL_48, nL_64, nL_80, pk_mul, nI_add]
      refine v_iald hC (pc := 80) dX7_rule_80 rfl (by first | rfl | exact ok_c hq rfl | exact ok_w hq hw | exact ok_w (by omega) (by omega) | exact ok_s (by omega) (by omega) | exact ok_c (by omega) rfl | assumption) (vp_nat (n := 17) (by omega) (by decide)) ?_
      refine v_callS hC (pc := 81) (As := [_]) dX7_rule_81 rfl (m_isTurned _ _ (d := d - 1) (by omega) _ _) cs_X7_179 (Nat.le_of_ble_eq_true rfl) (by omega) (fun r h' hr => ?_)
      obtain ⟨he9, rfl⟩ := hr
      rw [he9]
      clear he9 h'
      show V _ _ _ (81 + 3) _ (_ :: _) _
      refine v_callS hC (pc := 84) (As := [_]) dX7_rule_84 rfl (m_flag _ _ (d := d - 1) (by omega) _ _) cs_X7_147 (Nat.le_of_ble_eq_true rfl) (by omega) (fun r h' hr => ?_)
      obtain ⟨he9, rfl⟩ := hr
      rw [he9]
      clear he9 h'
      show V _ _ _ (84 + 3) _ (_ :: _) _
      refine v_iret hC hX (pc := 87) dX7_rule_87 ?_
      exact ⟨rfl, by rw [hsw]; rfl⟩
  · refine v_tabOut hC (pc := 1) (tgt := 88) dX7_rule_1 hsw (by decide) ?_
    refine v_iconst hC (pc := 88) (v := (-1)) (by decide) dX7_rule_88 ?_
    refine v_iret hC hX (pc := 89) dX7_rule_89 ?_
    exact ⟨rfl, by rw [swF_out rfl hsw]⟩

set_option maxRecDepth 20000 in
set_option maxHeartbeats 2000000 in
theorem m_corner_ok (l9 : Launch) (G : WT) {d : Nat} (hd : 3 ≤ d) (h : HP) {nC : Nat} (hn8 : nC ≤ 8) (hnc : h.1 (3, 0, 0) 3 = nI nC) {c s : Nat} (hc : c < nC) (hs : s < 2) : MS l9 G yX7_corner cX7_corner 3 (some .int) d [vr (3, 0, 0), vi (nI c), vi (nI s)] h (fun r h1 => h1 = h ∧ r = some (vi (h.1 (3, 0, 1) (0 + 8 * s + c)))) := by
  refine MS_of (by decide +kernel) (Nat.le_of_ble_eq_true rfl) (fun X hC hX => ?_)
  show V X G 3 0 _ [] _
  refine v_aload_n hC (pc := 0) (k := 0) 0 rfl dX7_corner_0 ?_
  refine v_iload_n hC (pc := 1) (k := 1) 1 rfl dX7_corner_1 ?_
  refine v_callV hC (pc := 2) (As := [_]) dX7_corner_2 rfl (m_isCorner_t _ _ (d := d - 1) (by omega) _ (c := c) (by assumption) hn8 hnc) cv_X7_210 rfl (by decide) rfl (by first | rfl | exact ok_c hq rfl | exact ok_w hq hw | exact ok_w (by omega) (by omega) | exact ok_s (by omega) (by omega) | exact ok_c (by omega) rfl | assumption) (Nat.le_of_ble_eq_true rfl) (by omega) (fun r h' hr => ?_)
  obtain ⟨he9, rfl⟩ := hr
  rw [he9]
  clear he9 h'
  show V _ _ _ (2 + 3) _ (_ :: _) _
  refine v_if_eq hC (pc := 5) (tgt := 31) dX7_corner_5 (by decide) (fun c_5 => ?_) (fun c_5 => ?_)
  · exact absurd c_5 (by decide)
  · skip
    refine v_iload_n hC (pc := 8) (k := 2) 2 rfl dX7_corner_8 ?_
    refine v_callS hC (pc := 9) (As := [_]) dX7_corner_9 rfl (m_isPart_t _ _ (d := d - 1) (by omega) _ (s := s) (by assumption)) cs_X7_213 (Nat.le_of_ble_eq_true rfl) (by omega) (fun r h' hr => ?_)
    obtain ⟨he9, rfl⟩ := hr
    rw [he9]
    clear he9 h'
    show V _ _ _ (9 + 3) _ (_ :: _) _
    refine v_if_eq hC (pc := 12) (tgt := 31) dX7_corner_12 (by decide) (fun c_12 => ?_) (fun c_12 => ?_)
    · exact absurd c_12 (by decide)
    · skip
      refine v_aload_n hC (pc := 15) (k := 0) 0 rfl dX7_corner_15 ?_
      refine v_getR hC (pc := 16) dX7_corner_16 fl_X7_7 rfl (by first | rfl | exact ok_c hq rfl | exact ok_w hq hw | exact ok_w (by omega) (by omega) | exact ok_s (by omega) (by omega) | exact ok_c (by omega) rfl | assumption) rfl (by decide) (by decide) rfl ?_
      refine v_iconst hC (pc := 19) (v := 0) (by decide) dX7_corner_19 ?_
      refine v_bipush hC (pc := 20) (v := 8) (by decide +kernel) dX7_corner_20 ?_
      refine v_iload_n hC (pc := 22) (k := 2) 2 rfl dX7_corner_22 ?_
      refine v_imul hC (pc := 23) dX7_corner_23 ?_
      refine v_iadd hC (pc := 24) dX7_corner_24 ?_
      refine v_iload_n hC (pc := 25) (k := 1) 1 rfl dX7_corner_25 ?_
      refine v_iadd hC (pc := 26) dX7_corner_26 ?_
      try simp only [nL_0, nL_1, nL_2, nL_3, nL_4, nL_5, nL_6, nL_8, nL_16, nL_17, nL_18, nL_40, nL_42, nL_43, nL_47, nL_48, nL_64, nL_80, pk_mul, nI_add]
      refine v_iald hC (pc := 27) dX7_corner_27 rfl (by first | rfl | exact ok_c hq rfl | exact ok_w hq hw | exact ok_w (by omega) (by omega) | exact ok_s (by omega) (by omega) | exact ok_c (by omega) rfl | assumption) (vp_nat (by omega) (by decide)) ?_
      refine v_goto hC (pc := 28) (tgt := 32) dX7_corner_28 (by decide) ?_
      refine v_iret hC hX (pc := 32) dX7_corner_32 ?_
      exact ⟨rfl, by rw [nI_clamp (show 0 + 8 * s + c < 2 ^ 31 by omega)]⟩

set_option maxRecDepth 20000 in
set_option maxHeartbeats 2000000 in
theorem m_corner_bad (l9 : Launch) (G : WT) {d : Nat} (hd : 3 ≤ d) (h : HP) {nC : Nat} (hn8 : nC ≤ 8) (hnc : h.1 (3, 0, 0) 3 = nI nC) (c s : Int32) (hbad : ¬ ((¬ c < 0 ∧ ¬ nI nC ≤ c) ∧ (s = 0 ∨ s = 1))) : MS l9 G yX7_corner cX7_corner 3 (some .int) d [vr (3, 0, 0), vi c, vi s] h (fun r h1 => h1 = h ∧ r = some (vi (-1))) := by
  refine MS_of (by decide +kernel) (Nat.le_of_ble_eq_true rfl) (fun X hC hX => ?_)
  show V X G 3 0 _ [] _
  refine v_aload_n hC (pc := 0) (k := 0) 0 rfl dX7_corner_0 ?_
  refine v_iload_n hC (pc := 1) (k := 1) 1 rfl dX7_corner_1 ?_
  refine v_callV hC (pc := 2) (As := [_]) dX7_corner_2 rfl (m_isCorner _ _ (d := d - 1) (by omega) _ hn8 hnc _) cv_X7_210 rfl (by decide) rfl (by first | rfl | exact ok_c hq rfl | exact ok_w hq hw | exact ok_w (by omega) (by omega) | exact ok_s (by omega) (by omega) | exact ok_c (by omega) rfl | assumption) (Nat.le_of_ble_eq_true rfl) (by omega) (fun r h' hr => ?_)
  obtain ⟨he9, rfl⟩ := hr
  rw [he9]
  clear he9 h'
  show V _ _ _ (2 + 3) _ (_ :: _) _
  refine v_ifb_eq hC (pc := 5) (tgt := 31) dX7_corner_5 (by decide) (fun c_5 => ?_) (fun c_5 => ?_)
  · skip
    refine v_iconst hC (pc := 31) (v := (-1)) (by decide) dX7_corner_31 ?_
    refine v_iret hC hX (pc := 32) dX7_corner_32 ?_
    exact ⟨rfl, rfl⟩
  · skip
    refine v_iload_n hC (pc := 8) (k := 2) 2 rfl dX7_corner_8 ?_
    refine v_callS hC (pc := 9) (As := [_]) dX7_corner_9 rfl (m_isPart _ _ (d := d - 1) (by omega) _ _) cs_X7_213 (Nat.le_of_ble_eq_true rfl) (by omega) (fun r h' hr => ?_)
    obtain ⟨he9, rfl⟩ := hr
    rw [he9]
    clear he9 h'
    show V _ _ _ (9 + 3) _ (_ :: _) _
    refine v_ifb_eq hC (pc := 12) (tgt := 31) dX7_corner_12 (by decide) (fun c_12 => ?_) (fun c_12 => ?_)
    · skip
      refine v_iconst hC (pc := 31) (v := (-1)) (by decide) dX7_corner_31 ?_
      refine v_iret hC hX (pc := 32) dX7_corner_32 ?_
      exact ⟨rfl, rfl⟩
    · skip
      exact absurd ⟨c_5, c_12⟩ hbad

set_option maxRecDepth 20000 in
set_option maxHeartbeats 2000000 in
theorem m_letter_ok (l9 : Launch) (G : WT) {d : Nat} (hd : 3 ≤ d) (h : HP) {nW : Nat} (hn4 : nW ≤ 4) (hnw : h.1 (3, 0, 0) 4 = nI nW) {w i n : Nat} (hw : w < nW) (hln : h.1 (3, 0, 1) (18 + 6 * w + 3) = nI n) (hn : n < 1000) (hi : i < n) : MS l9 G yX7_letter cX7_letter 4 (some .int) d [vr (3, 0, 0), vi (nI w), vi (nI i)] h (fun r h1 => h1 = h ∧ r = some (vi ((h.1 (3, 0, 1) (18 + 6 * w + 4) >>> (nI i &&& 31)) &&& 1))) := by
  refine MS_of (by decide +kernel) (Nat.le_of_ble_eq_true rfl) (fun X hC hX => ?_)
  show V X G 4 0 _ [] _
  refine v_bipush hC (pc := 0) (v := 18) (by decide +kernel) dX7_letter_0 ?_
  refine v_bipush hC (pc := 2) (v := 6) (by decide +kernel) dX7_letter_2 ?_
  refine v_iload_n hC (pc := 4) (k := 1) 1 rfl dX7_letter_4 ?_
  refine v_imul hC (pc := 5) dX7_letter_5 ?_
  refine v_iadd hC (pc := 6) dX7_letter_6 ?_
  rw [show (18 : Int32) + 6 * nI w = nI (18 + 6 * w) from by rw [show (18 : Int32) = nI 18 from rfl, show (6 : Int32) = nI 6 from rfl, pk_mul, nI_add]]
  refine v_istore_n hC (pc := 7) (l' := [(3, _), (0, _), (1, _), (2, _)]) dX7_letter_7 (by decide) rfl ?_
  refine v_aload_n hC (pc := 8) (k := 0) 1 rfl dX7_letter_8 ?_
  refine v_iload_n hC (pc := 9) (k := 1) 2 rfl dX7_letter_9 ?_
  refine v_callV hC (pc := 10) (As := [_]) dX7_letter_10 rfl (m_isWalker_t _ _ (d := d - 1) (by omega) _ (c := w) (by assumption) hn4 hnw) cv_X7_216 rfl (by decide) rfl (by first | rfl | exact ok_c hq rfl | exact ok_w hq hw | exact ok_w (by omega) (by omega) | exact ok_s (by omega) (by omega) | exact ok_c (by omega) rfl | assumption) (Nat.le_of_ble_eq_true rfl) (by omega) (fun r h' hr => ?_)
  obtain ⟨he9, rfl⟩ := hr
  rw [he9]
  clear he9 h'
  show V _ _ _ (10 + 3) _ (_ :: _) _
  refine v_if_eq hC (pc := 13) (tgt := 51) dX7_letter_13 (by decide) (fun c_13 => ?_) (fun c_13 => ?_)
  · exact absurd c_13 (by decide)
  · skip
    refine v_iload_n hC (pc := 16) (k := 2) 3 rfl dX7_letter_16 ?_
    refine v_i2l hC (pc := 17) dX7_letter_17 ?_
    refine v_lconst hC (pc := 18) (v := 0) (by decide) dX7_letter_18 ?_
    refine v_aload_n hC (pc := 19) (k := 0) 1 rfl dX7_letter_19 ?_
    refine v_getR hC (pc := 20) dX7_letter_20 fl_X7_7 rfl (by first | rfl | exact ok_c hq rfl | exact ok_w hq hw | exact ok_w (by omega) (by omega) | exact ok_s (by omega) (by omega) | exact ok_c (by omega) rfl | assumption) rfl (by decide) (by decide) rfl ?_
    refine v_iload_n hC (pc := 23) (k := 3) 0 rfl dX7_letter_23 ?_
    refine v_iconst hC (pc := 24) (v := 3) (by decide) dX7_letter_24 ?_
    refine v_iadd hC (pc := 25) dX7_letter_25 ?_
    try simp only [nL_0, nL_1, nL_2, nL_3, nL_4, nL_5, nL_6, nL_8, nL_16, nL_17, nL_18, nL_40, nL_42, nL_43, nL_47, nL_48, nL_64, nL_80, pk_mul, nI_add]
    refine v_iald hC (pc := 26) dX7_letter_26 rfl (by first | rfl | exact ok_c hq rfl | exact ok_w hq hw | exact ok_w (by omega) (by omega) | exact ok_s (by omega) (by omega) | exact ok_c (by omega) rfl | assumption) (vp_nat (by omega) (by decide)) ?_
    rw [nI_clamp (show 18 + 6 * w + 3 < 2 ^ 31 by omega), hln]
    refine v_iconst hC (pc := 27) (v := 1) (by decide) dX7_letter_27 ?_
    refine v_isub hC (pc := 28) dX7_letter_28 ?_
    refine v_i2l hC (pc := 29) dX7_letter_29 ?_
    refine v_callS hC (pc := 30) (As := [_, _, _]) dX7_letter_30 rfl (m_in_t _ _ (d := d - 1) (by omega) _ (nI i) (0) (nI n - 1) (⟨nI_pos (by omega), fun z => absurd ((le_pred hn).mp z) (nI_ge hi (by omega))⟩)) cs_X7_84 (Nat.le_of_ble_eq_true rfl) (by omega) (fun r h' hr => ?_)
    obtain ⟨he9, rfl⟩ := hr
    rw [he9]
    clear he9 h'
    show V _ _ _ (30 + 3) _ (_ :: _) _
    refine v_if_eq hC (pc := 33) (tgt := 51) dX7_letter_33 (by decide) (fun c_33 => ?_) (fun c_33 => ?_)
    · exact absurd c_33 (by decide)
    · skip
      refine v_aload_n hC (pc := 36) (k := 0) 1 rfl dX7_letter_36 ?_
      refine v_getR hC (pc := 37) dX7_letter_37 fl_X7_7 rfl (by first | rfl | exact ok_c hq rfl | exact ok_w hq hw | exact ok_w (by omega) (by omega) | exact ok_s (by omega) (by omega) | exact ok_c (by omega) rfl | assumption) rfl (by decide) (by decide) rfl ?_
      refine v_iload_n hC (pc := 40) (k := 3) 0 rfl dX7_letter_40 ?_
      refine v_iconst hC (pc := 41) (v := 4) (by decide) dX7_letter_41 ?_
      refine v_iadd hC (pc := 42) dX7_letter_42 ?_
      try simp only [nL_0, nL_1, nL_2, nL_3, nL_4, nL_5, nL_6, nL_8, nL_16, nL_17, nL_18, nL_40, nL_42, nL_43, nL_47, nL_48, nL_64, nL_80, pk_mul, nI_add]
      refine v_iald hC (pc := 43) dX7_letter_43 rfl (by first | rfl | exact ok_c hq rfl | exact ok_w hq hw | exact ok_w (by omega) (by omega) | exact ok_s (by omega) (by omega) | exact ok_c (by omega) rfl | assumption) (vp_nat (by omega) (by decide)) ?_
      rw [nI_clamp (show 18 + 6 * w + 4 < 2 ^ 31 by omega)]
      refine v_iload_n hC (pc := 44) (k := 2) 3 rfl dX7_letter_44 ?_
      refine v_ishr hC (pc := 45) dX7_letter_45 ?_
      refine v_iconst hC (pc := 46) (v := 1) (by decide) dX7_letter_46 ?_
      refine v_iand hC (pc := 47) dX7_letter_47 ?_
      refine v_goto hC (pc := 48) (tgt := 52) dX7_letter_48 (by decide) ?_
      refine v_iret hC hX (pc := 52) dX7_letter_52 ?_
      exact ⟨rfl, rfl⟩

set_option maxRecDepth 20000 in
set_option maxHeartbeats 2000000 in
theorem m_letter_bad (l9 : Launch) (G : WT) {d : Nat} (hd : 3 ≤ d) (h : HP) {nW : Nat} (hn4 : nW ≤ 4) (hnw : h.1 (3, 0, 0) 4 = nI nW) (w : Int32) (i : Int32) (hlen : ∀ w, w < nW → ∃ n, n < 1000 ∧ h.1 (3, 0, 1) (18 + 6 * w + 3) = nI n) (hbad : ¬ ((¬ w < 0 ∧ ¬ nI nW ≤ w) ∧ ∃ n, n < 1000 ∧ h.1 (3, 0, 1) (18 + 6 * w.toNatClampNeg + 3) = nI n ∧ ¬ i < 0 ∧ ¬ nI n ≤ i)) : MS l9 G yX7_letter cX7_letter 4 (some .int) d [vr (3, 0, 0), vi w, vi i] h (fun r h1 => h1 = h ∧ r = some (vi (-1))) := by
  refine MS_of (by decide +kernel) (Nat.le_of_ble_eq_true rfl) (fun X hC hX => ?_)
  show V X G 4 0 _ [] _
  refine v_bipush hC (pc := 0) (v := 18) (by decide +kernel) dX7_letter_0 ?_
  refine v_bipush hC (pc := 2) (v := 6) (by decide +kernel) dX7_letter_2 ?_
  refine v_iload_n hC (pc := 4) (k := 1) 1 rfl dX7_letter_4 ?_
  refine v_imul hC (pc := 5) dX7_letter_5 ?_
  refine v_iadd hC (pc := 6) dX7_letter_6 ?_
  refine v_istore_n hC (pc := 7) (l' := [(3, _), (0, _), (1, _), (2, _)]) dX7_letter_7 (by decide) rfl ?_
  refine v_aload_n hC (pc := 8) (k := 0) 1 rfl dX7_letter_8 ?_
  refine v_iload_n hC (pc := 9) (k := 1) 2 rfl dX7_letter_9 ?_
  refine v_callV hC (pc := 10) (As := [_]) dX7_letter_10 rfl (m_isWalker _ _ (d := d - 1) (by omega) _ hn4 hnw _) cv_X7_216 rfl (by decide) rfl (by first | rfl | exact ok_c hq rfl | exact ok_w hq hw | exact ok_w (by omega) (by omega) | exact ok_s (by omega) (by omega) | exact ok_c (by omega) rfl | assumption) (Nat.le_of_ble_eq_true rfl) (by omega) (fun r h' hr => ?_)
  obtain ⟨he9, rfl⟩ := hr
  rw [he9]
  clear he9 h'
  show V _ _ _ (10 + 3) _ (_ :: _) _
  refine v_ifb_eq hC (pc := 13) (tgt := 51) dX7_letter_13 (by decide) (fun c_13 => ?_) (fun c_13 => ?_)
  · skip
    refine v_iconst hC (pc := 51) (v := (-1)) (by decide) dX7_letter_51 ?_
    refine v_iret hC hX (pc := 52) dX7_letter_52 ?_
    exact ⟨rfl, rfl⟩
  · skip
    obtain ⟨j, hj, rfl⟩ := nat_of c_13 (by omega)
    obtain ⟨n, hn, hln⟩ := hlen j hj
    rw [show (18 : Int32) + 6 * nI j = nI (18 + 6 * j) from by rw [show (18 : Int32) = nI 18 from rfl, show (6 : Int32) = nI 6 from rfl, pk_mul, nI_add]]
    refine v_iload_n hC (pc := 16) (k := 2) 3 rfl dX7_letter_16 ?_
    refine v_i2l hC (pc := 17) dX7_letter_17 ?_
    refine v_lconst hC (pc := 18) (v := 0) (by decide) dX7_letter_18 ?_
    refine v_aload_n hC (pc := 19) (k := 0) 1 rfl dX7_letter_19 ?_
    refine v_getR hC (pc := 20) dX7_letter_20 fl_X7_7 rfl (by first | rfl | exact ok_c hq rfl | exact ok_w hq hw | exact ok_w (by omega) (by omega) | exact ok_s (by omega) (by omega) | exact ok_c (by omega) rfl | assumption) rfl (by decide) (by decide) rfl ?_
    refine v_iload_n hC (pc := 23) (k := 3) 0 rfl dX7_letter_23 ?_
    refine v_iconst hC (pc := 24) (v := 3) (by decide) dX7_letter_24 ?_
    refine v_iadd hC (pc := 25) dX7_letter_25 ?_
    try simp only [nL_0, nL_1, nL_2, nL_3, nL_4, nL_5, nL_6, nL_8, nL_16, nL_17, nL_18, nL_40, nL_42, nL_43, nL_47, nL_48, nL_64, nL_80, pk_mul, nI_add]
    refine v_iald hC (pc := 26) dX7_letter_26 rfl (by first | rfl | exact ok_c hq rfl | exact ok_w hq hw | exact ok_w (by omega) (by omega) | exact ok_s (by omega) (by omega) | exact ok_c (by omega) rfl | assumption) (vp_nat (by omega) (by decide)) ?_
    rw [nI_clamp (show 18 + 6 * j + 3 < 2 ^ 31 by omega), hln]
    refine v_iconst hC (pc := 27) (v := 1) (by decide) dX7_letter_27 ?_
    refine v_isub hC (pc := 28) dX7_letter_28 ?_
    refine v_i2l hC (pc := 29) dX7_letter_29 ?_
    refine v_callS hC (pc := 30) (As := [_, _, _]) dX7_letter_30 rfl (m_in _ _ (d := d - 1) (by omega) _ (i) (0) (nI n - 1)) cs_X7_84 (Nat.le_of_ble_eq_true rfl) (by omega) (fun r h' hr => ?_)
    obtain ⟨he9, rfl⟩ := hr
    rw [he9]
    clear he9 h'
    show V _ _ _ (30 + 3) _ (_ :: _) _
    refine v_ifb_eq hC (pc := 33) (tgt := 51) dX7_letter_33 (by decide) (fun c_33 => ?_) (fun c_33 => ?_)
    · skip
      refine v_iconst hC (pc := 51) (v := (-1)) (by decide) dX7_letter_51 ?_
      refine v_iret hC hX (pc := 52) dX7_letter_52 ?_
      exact ⟨rfl, rfl⟩
    · skip
      exact absurd ⟨c_13, n, hn, by rw [nI_clamp (show j < 2 ^ 31 by omega)]; exact hln, c_33.1, fun z => c_33.2 ((le_pred hn).mpr z)⟩ hbad

set_option maxRecDepth 20000 in
set_option maxHeartbeats 2000000 in
theorem m_leads_ok (l9 : Launch) (G : WT) {d : Nat} (hd : 3 ≤ d) (h : HP) {nC : Nat} (hn8 : nC ≤ 8) (hnc : h.1 (3, 0, 0) 3 = nI nC) {c s t : Nat} (hc : c < nC) (hs : s < 2) (ht : t < 24) : MS l9 G yX7_leads cX7_leads 4 (some .int) d [vr (3, 0, 0), vi (nI c), vi (nI s), vi (nI t)] h (fun r h1 => r = some (vi (ldM (h.1 (3, 0, 1)) c s (nI t) 0 (h.1 (3, 0, 1) 16))) ∧ h1 = stH h) := by
  refine MS_of (by decide +kernel) (Nat.le_of_ble_eq_true rfl) (fun X hC hX => ?_)
  show V X G 4 0 _ [] _
  refine v_aload_n hC (pc := 0) (k := 0) 0 rfl dX7_leads_0 ?_
  refine v_iload_n hC (pc := 1) (k := 1) 1 rfl dX7_leads_1 ?_
  refine v_callV hC (pc := 2) (As := [_]) dX7_leads_2 rfl (m_isCorner_t _ _ (d := d - 1) (by omega) _ (c := c) (by assumption) hn8 hnc) cv_X7_210 rfl (by decide) rfl (by first | rfl | exact ok_c hq rfl | exact ok_w hq hw | exact ok_w (by omega) (by omega) | exact ok_s (by omega) (by omega) | exact ok_c (by omega) rfl | assumption) (Nat.le_of_ble_eq_true rfl) (by omega) (fun r h' hr => ?_)
  obtain ⟨he9, rfl⟩ := hr
  rw [he9]
  clear he9 h'
  show V _ _ _ (2 + 3) _ (_ :: _) _
  refine v_if_eq hC (pc := 5) (tgt := 22) dX7_leads_5 (by decide) (fun c_5 => ?_) (fun c_5 => ?_)
  · exact absurd c_5 (by decide)
  · skip
    refine v_iload_n hC (pc := 8) (k := 2) 2 rfl dX7_leads_8 ?_
    refine v_callS hC (pc := 9) (As := [_]) dX7_leads_9 rfl (m_isPart_t _ _ (d := d - 1) (by omega) _ (s := s) (by assumption)) cs_X7_213 (Nat.le_of_ble_eq_true rfl) (by omega) (fun r h' hr => ?_)
    obtain ⟨he9, rfl⟩ := hr
    rw [he9]
    clear he9 h'
    show V _ _ _ (9 + 3) _ (_ :: _) _
    refine v_if_eq hC (pc := 12) (tgt := 22) dX7_leads_12 (by decide) (fun c_12 => ?_) (fun c_12 => ?_)
    · exact absurd c_12 (by decide)
    · skip
      refine v_iload_n hC (pc := 15) (k := 3) 3 rfl dX7_leads_15 ?_
      refine v_callS hC (pc := 16) (As := [_]) dX7_leads_16 rfl (m_isHour_t _ _ (d := d - 1) (by omega) _ (s := t) (by assumption)) cs_X7_225 (Nat.le_of_ble_eq_true rfl) (by omega) (fun r h' hr => ?_)
      obtain ⟨he9, rfl⟩ := hr
      rw [he9]
      clear he9 h'
      show V _ _ _ (16 + 3) _ (_ :: _) _
      refine v_if_ne hC (pc := 19) (tgt := 24) dX7_leads_19 (by decide) (fun c_19 => ?_) (fun c_19 => ?_)
      · skip
        refine v_aload_n hC (pc := 24) (k := 0) 0 rfl dX7_leads_24 ?_
        refine v_callV hC (pc := 25) (As := []) dX7_leads_25 rfl (m_starts _ _ (d := d - 1) (by omega) _) cv_X7_219 rfl (by decide) rfl (by first | rfl | exact ok_c hq rfl | exact ok_w hq hw | exact ok_w (by omega) (by omega) | exact ok_s (by omega) (by omega) | exact ok_c (by omega) rfl | assumption) (Nat.le_of_ble_eq_true rfl) (by omega) (fun r h' hr => ?_)
        obtain ⟨rfl, rfl⟩ := hr
        show V _ _ _ (25 + 3) _ _ _
        refine v_aload_n hC (pc := 28) (k := 0) 0 rfl dX7_leads_28 ?_
        refine v_iload_n hC (pc := 29) (k := 1) 1 rfl dX7_leads_29 ?_
        refine v_iload_n hC (pc := 30) (k := 2) 2 rfl dX7_leads_30 ?_
        refine v_iload_n hC (pc := 31) (k := 3) 3 rfl dX7_leads_31 ?_
        refine v_iconst hC (pc := 32) (v := 0) (by decide) dX7_leads_32 ?_
        refine v_aload_n hC (pc := 33) (k := 0) 0 rfl dX7_leads_33 ?_
        refine v_getR hC (pc := 34) dX7_leads_34 fl_X7_7 rfl (by first | rfl | exact ok_c hq rfl | exact ok_w hq hw | exact ok_w (by omega) (by omega) | exact ok_s (by omega) (by omega) | exact ok_c (by omega) rfl | assumption) rfl (by decide) (by decide) rfl ?_
        refine v_bipush hC (pc := 37) (v := 16) (by decide +kernel) dX7_leads_37 ?_
        try simp only [nL_0, nL_1, nL_2, nL_3, nL_4, nL_5, nL_6, nL_8, nL_16, nL_17, nL_18, nL_40, nL_42, nL_43, nL_47, nL_48, nL_64, nL_80, pk_mul, nI_add]
        refine v_iald hC (pc := 39) dX7_leads_39 rfl (by first | rfl | exact ok_c hq rfl | exact ok_w hq hw | exact ok_w (by omega) (by omega) | exact ok_s (by omega) (by omega) | exact ok_c (by omega) rfl | assumption) (vp_nat (n := 16) (by omega) (by decide)) ?_
        refine v_callV hC (pc := 40) (As := [_, _, _, _, _]) dX7_leads_40 rfl (m_leadsBy _ _ (d := d - 1) (by omega) _ (show c < 8 by omega) hs _ _ _) cv_X7_183 rfl (by decide) rfl (by first | rfl | exact ok_c hq rfl | exact ok_w hq hw | exact ok_w (by omega) (by omega) | exact ok_s (by omega) (by omega) | exact ok_c (by omega) rfl | assumption) (Nat.le_of_ble_eq_true rfl) (by omega) (fun r h' hr => ?_)
        obtain ⟨he9, rfl⟩ := hr
        rw [he9]
        clear he9 h'
        show V _ _ _ (40 + 3) _ (_ :: _) _
        refine v_iret hC hX (pc := 43) dX7_leads_43 ?_
        refine ⟨?_, rfl⟩
        show some (vi (ldM ((stH h).1 (3, 0, 2)) c s (nI t) 0 ((stH h).1 (3, 0, 1) 16))) = _
        rw [stH_o h (show ((3, 0, 1) : PId) ≠ (3, 0, 2) by decide)]
        unfold ldM
        by_cases z : (¬ nI t - nI t / 24 * 24 < 12) ∧ (0 : Int32) = 0 ∧ (h.1 (3, 0, 1) 16 >>> (nI c &&& 31)) &&& 1 = 0
        · rw [if_pos z, stH_at h (by omega)]
        · rw [if_neg z, stH_at h (by omega)]
      · exact absurd c_19 (by decide)

set_option maxRecDepth 20000 in
set_option maxHeartbeats 2000000 in
theorem m_leads_bad (l9 : Launch) (G : WT) {d : Nat} (hd : 3 ≤ d) (h : HP) {nC : Nat} (hn8 : nC ≤ 8) (hnc : h.1 (3, 0, 0) 3 = nI nC) (c s t : Int32) (hbad : ¬ ((¬ c < 0 ∧ ¬ nI nC ≤ c) ∧ (s = 0 ∨ s = 1) ∧ ¬ t < 0 ∧ ¬ 24 ≤ t)) : MS l9 G yX7_leads cX7_leads 4 (some .int) d [vr (3, 0, 0), vi c, vi s, vi t] h (fun r h1 => h1 = h ∧ r = some (vi (-1))) := by
  refine MS_of (by decide +kernel) (Nat.le_of_ble_eq_true rfl) (fun X hC hX => ?_)
  show V X G 4 0 _ [] _
  refine v_aload_n hC (pc := 0) (k := 0) 0 rfl dX7_leads_0 ?_
  refine v_iload_n hC (pc := 1) (k := 1) 1 rfl dX7_leads_1 ?_
  refine v_callV hC (pc := 2) (As := [_]) dX7_leads_2 rfl (m_isCorner _ _ (d := d - 1) (by omega) _ hn8 hnc _) cv_X7_210 rfl (by decide) rfl (by first | rfl | exact ok_c hq rfl | exact ok_w hq hw | exact ok_w (by omega) (by omega) | exact ok_s (by omega) (by omega) | exact ok_c (by omega) rfl | assumption) (Nat.le_of_ble_eq_true rfl) (by omega) (fun r h' hr => ?_)
  obtain ⟨he9, rfl⟩ := hr
  rw [he9]
  clear he9 h'
  show V _ _ _ (2 + 3) _ (_ :: _) _
  refine v_ifb_eq hC (pc := 5) (tgt := 22) dX7_leads_5 (by decide) (fun c_5 => ?_) (fun c_5 => ?_)
  · skip
    refine v_iconst hC (pc := 22) (v := (-1)) (by decide) dX7_leads_22 ?_
    refine v_iret hC hX (pc := 23) dX7_leads_23 ?_
    exact ⟨rfl, rfl⟩
  · skip
    refine v_iload_n hC (pc := 8) (k := 2) 2 rfl dX7_leads_8 ?_
    refine v_callS hC (pc := 9) (As := [_]) dX7_leads_9 rfl (m_isPart _ _ (d := d - 1) (by omega) _ _) cs_X7_213 (Nat.le_of_ble_eq_true rfl) (by omega) (fun r h' hr => ?_)
    obtain ⟨he9, rfl⟩ := hr
    rw [he9]
    clear he9 h'
    show V _ _ _ (9 + 3) _ (_ :: _) _
    refine v_ifb_eq hC (pc := 12) (tgt := 22) dX7_leads_12 (by decide) (fun c_12 => ?_) (fun c_12 => ?_)
    · skip
      refine v_iconst hC (pc := 22) (v := (-1)) (by decide) dX7_leads_22 ?_
      refine v_iret hC hX (pc := 23) dX7_leads_23 ?_
      exact ⟨rfl, rfl⟩
    · skip
      refine v_iload_n hC (pc := 15) (k := 3) 3 rfl dX7_leads_15 ?_
      refine v_callS hC (pc := 16) (As := [_]) dX7_leads_16 rfl (m_isHour _ _ (d := d - 1) (by omega) _ _) cs_X7_225 (Nat.le_of_ble_eq_true rfl) (by omega) (fun r h' hr => ?_)
      obtain ⟨he9, rfl⟩ := hr
      rw [he9]
      clear he9 h'
      show V _ _ _ (16 + 3) _ (_ :: _) _
      refine v_ifb_ne hC (pc := 19) (tgt := 24) dX7_leads_19 (by decide) (fun c_19 => ?_) (fun c_19 => ?_)
      · skip
        exact absurd ⟨c_5, c_12, c_19⟩ hbad
      · skip
        refine v_iconst hC (pc := 22) (v := (-1)) (by decide) dX7_leads_22 ?_
        refine v_iret hC hX (pc := 23) dX7_leads_23 ?_
        exact ⟨rfl, rfl⟩

