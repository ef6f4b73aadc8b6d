/-! THE REFERENCE: what its calls change -/
set_option maxRecDepth 20000 in
set_option maxHeartbeats 2000000 in
theorem m_street_ok (l9 : Launch) (G : WT) {d : Nat} (hd : 3 ≤ d) (h : HP) {nC : Nat} (hn8 : nC ≤ 8) (hnc : h.1 (3, 0, 0) 3 = nI nC) {c s : Nat} (hc : c < nC) (hs : s < 2) {to : Int32} (hto : to = -4 ∨ ∃ t, t < nC ∧ to = nI t) : MS l9 G yX7_street cX7_street 4 (some .int) d [vr (3, 0, 0), vi (nI c), vi (nI s), vi to] h (fun r h1 => r = some (vi (h.1 (3, 0, 1) (0 + 8 * s + c))) ∧ h1 = upI h (3, 0, 1) (0 + 8 * s + c) (to)) := by
  refine MS_of (by decide +kernel) (Nat.le_of_ble_eq_true rfl) (fun X hC hX => ?_)
  show V X G 4 0 _ [] _
  refine v_aload_n hC (pc := 0) (k := 0) 0 rfl dX7_street_0 ?_
  refine v_iload_n hC (pc := 1) (k := 1) 1 rfl dX7_street_1 ?_
  refine v_callV hC (pc := 2) (As := [_]) dX7_street_2 rfl (m_isCorner_t _ _ (d := d - 1) (by omega) _ (c := c) (by assumption) hn8 hnc) cv_X7_210 rfl (by decide) rfl (by first | rfl | exact ok_c hq rfl | exact ok_w hq hw | exact ok_w (by omega) (by omega) | exact ok_s (by omega) (by omega) | exact ok_c (by omega) rfl | assumption) (Nat.le_of_ble_eq_true rfl) (by omega) (fun r h' hr => ?_)
  obtain ⟨he9, rfl⟩ := hr
  rw [he9]
  clear he9 h'
  show V _ _ _ (2 + 3) _ (_ :: _) _
  refine v_if_eq hC (pc := 5) (tgt := 45) dX7_street_5 (by decide) (fun c_5 => ?_) (fun c_5 => ?_)
  · exact absurd c_5 (by decide)
  · skip
    refine v_iload_n hC (pc := 8) (k := 2) 2 rfl dX7_street_8 ?_
    refine v_callS hC (pc := 9) (As := [_]) dX7_street_9 rfl (m_isPart_t _ _ (d := d - 1) (by omega) _ (s := s) (by assumption)) cs_X7_213 (Nat.le_of_ble_eq_true rfl) (by omega) (fun r h' hr => ?_)
    obtain ⟨he9, rfl⟩ := hr
    rw [he9]
    clear he9 h'
    show V _ _ _ (9 + 3) _ (_ :: _) _
    refine v_if_eq hC (pc := 12) (tgt := 45) dX7_street_12 (by decide) (fun c_12 => ?_) (fun c_12 => ?_)
    · exact absurd c_12 (by decide)
    · skip
      refine v_iload_n hC (pc := 15) (k := 3) 3 rfl dX7_street_15 ?_
      refine v_bipush hC (pc := 16) (v := (-4)) (by decide +kernel) dX7_street_16 ?_
      refine v_icmp_eq hC (pc := 18) (tgt := 29) dX7_street_18 (by decide) (fun c_18 => ?_) (fun c_18 => ?_)
      · skip
        refine v_aload_n hC (pc := 29) (k := 0) 0 rfl dX7_street_29 ?_
        refine v_iconst hC (pc := 30) (v := 0) (by decide) dX7_street_30 ?_
        refine v_bipush hC (pc := 31) (v := 8) (by decide +kernel) dX7_street_31 ?_
        refine v_iload_n hC (pc := 33) (k := 2) 2 rfl dX7_street_33 ?_
        refine v_imul hC (pc := 34) dX7_street_34 ?_
        refine v_iadd hC (pc := 35) dX7_street_35 ?_
        refine v_iload_n hC (pc := 36) (k := 1) 1 rfl dX7_street_36 ?_
        refine v_iadd hC (pc := 37) dX7_street_37 ?_
        rw [show (0 : Int32) + 8 * nI s + nI c = nI (0 + 8 * s + c) from by rw [show (0 : Int32) = nI 0 from rfl, show (8 : Int32) = nI 8 from rfl, pk_mul, nI_add, nI_add]]
        refine v_iload_n hC (pc := 38) (k := 3) 3 rfl dX7_street_38 ?_
        refine v_callV hC (pc := 39) (As := [_, _]) dX7_street_39 rfl (m_becomes _ _ (d := d - 1) (by omega) _ (k := 0 + 8 * s + c) (by omega) _) cv_X7_228 rfl (by decide) rfl (by first | rfl | exact ok_c hq rfl | exact ok_w hq hw | exact ok_w (by omega) (by omega) | exact ok_s (by omega) (by omega) | exact ok_c (by omega) rfl | assumption) (Nat.le_of_ble_eq_true rfl) (by omega) (fun r h' hr => ?_)
        obtain ⟨rfl, rfl⟩ := hr
        show V _ _ _ (39 + 3) _ (_ :: _) _
        refine v_goto hC (pc := 42) (tgt := 46) dX7_street_42 (by decide) ?_
        refine v_iret hC hX (pc := 46) dX7_street_46 ?_
        exact ⟨rfl, rfl⟩
      · skip
        refine v_aload_n hC (pc := 21) (k := 0) 0 rfl dX7_street_21 ?_
        refine v_iload_n hC (pc := 22) (k := 3) 3 rfl dX7_street_22 ?_
        refine v_callV hC (pc := 23) (As := [_]) dX7_street_23 rfl (m_isCorner _ _ (d := d - 1) (by omega) _ hn8 hnc _) cv_X7_210 rfl (by decide) rfl (by first | rfl | exact ok_c hq rfl | exact ok_w hq hw | exact ok_w (by omega) (by omega) | exact ok_s (by omega) (by omega) | exact ok_c (by omega) rfl | assumption) (Nat.le_of_ble_eq_true rfl) (by omega) (fun r h' hr => ?_)
        obtain ⟨he9, rfl⟩ := hr
        rw [he9]
        clear he9 h'
        show V _ _ _ (23 + 3) _ (_ :: _) _
        refine v_ifb_eq hC (pc := 26) (tgt := 45) dX7_street_26 (by decide) (fun c_26 => ?_) (fun c_26 => ?_)
        · exact absurd (by rcases hto with z | ⟨t, ht, rfl⟩; exact absurd z c_18; exact in_of ht (by omega)) c_26
        · skip
          refine v_aload_n hC (pc := 29) (k := 0) 0 rfl dX7_street_29 ?_
          refine v_iconst hC (pc := 30) (v := 0) (by decide) dX7_street_30 ?_
          refine v_bipush hC (pc := 31) (v := 8) (by decide +kernel) dX7_street_31 ?_
          refine v_iload_n hC (pc := 33) (k := 2) 2 rfl dX7_street_33 ?_
          refine v_imul hC (pc := 34) dX7_street_34 ?_
          refine v_iadd hC (pc := 35) dX7_street_35 ?_
          refine v_iload_n hC (pc := 36) (k := 1) 1 rfl dX7_street_36 ?_
          refine v_iadd hC (pc := 37) dX7_street_37 ?_
          rw [show (0 : Int32) + 8 * nI s + nI c = nI (0 + 8 * s + c) from by rw [show (0 : Int32) = nI 0 from rfl, show (8 : Int32) = nI 8 from rfl, pk_mul, nI_add, nI_add]]
          refine v_iload_n hC (pc := 38) (k := 3) 3 rfl dX7_street_38 ?_
          refine v_callV hC (pc := 39) (As := [_, _]) dX7_street_39 rfl (m_becomes _ _ (d := d - 1) (by omega) _ (k := 0 + 8 * s + c) (by omega) _) cv_X7_228 rfl (by decide) rfl (by first | rfl | exact ok_c hq rfl | exact ok_w hq hw | exact ok_w (by omega) (by omega) | exact ok_s (by omega) (by omega) | exact ok_c (by omega) rfl | assumption) (Nat.le_of_ble_eq_true rfl) (by omega) (fun r h' hr => ?_)
          obtain ⟨rfl, rfl⟩ := hr
          show V _ _ _ (39 + 3) _ (_ :: _) _
          refine v_goto hC (pc := 42) (tgt := 46) dX7_street_42 (by decide) ?_
          refine v_iret hC hX (pc := 46) dX7_street_46 ?_
          exact ⟨rfl, rfl⟩

set_option maxRecDepth 20000 in
set_option maxHeartbeats 2000000 in
theorem m_street_bad (l9 : Launch) (G : WT) {d : Nat} (hd : 3 ≤ d) (h : HP) {nC : Nat} (hn8 : nC ≤ 8) (hnc : h.1 (3, 0, 0) 3 = nI nC) (c s to : Int32) (hbad : ¬ ((¬ c < 0 ∧ ¬ nI nC ≤ c) ∧ (s = 0 ∨ s = 1) ∧ (to = -4 ∨ ¬ to < 0 ∧ ¬ nI nC ≤ to))) : MS l9 G yX7_street cX7_street 4 (some .int) d [vr (3, 0, 0), vi c, vi s, vi to] h (fun r h1 => h1 = h ∧ r = some (vi (-1))) := by
  refine MS_of (by decide +kernel) (Nat.le_of_ble_eq_true rfl) (fun X hC hX => ?_)
  show V X G 4 0 _ [] _
  refine v_aload_n hC (pc := 0) (k := 0) 0 rfl dX7_street_0 ?_
  refine v_iload_n hC (pc := 1) (k := 1) 1 rfl dX7_street_1 ?_
  refine v_callV hC (pc := 2) (As := [_]) dX7_street_2 rfl (m_isCorner _ _ (d := d - 1) (by omega) _ hn8 hnc _) cv_X7_210 rfl (by decide) rfl (by first | rfl | exact ok_c hq rfl | exact ok_w hq hw | exact ok_w (by omega) (by omega) | exact ok_s (by omega) (by omega) | exact ok_c (by omega) rfl | assumption) (Nat.le_of_ble_eq_true rfl) (by omega) (fun r h' hr => ?_)
  obtain ⟨he9, rfl⟩ := hr
  rw [he9]
  clear he9 h'
  show V _ _ _ (2 + 3) _ (_ :: _) _
  refine v_ifb_eq hC (pc := 5) (tgt := 45) dX7_street_5 (by decide) (fun c_5 => ?_) (fun c_5 => ?_)
  · skip
    refine v_iconst hC (pc := 45) (v := (-1)) (by decide) dX7_street_45 ?_
    refine v_iret hC hX (pc := 46) dX7_street_46 ?_
    exact ⟨rfl, rfl⟩
  · skip
    refine v_iload_n hC (pc := 8) (k := 2) 2 rfl dX7_street_8 ?_
    refine v_callS hC (pc := 9) (As := [_]) dX7_street_9 rfl (m_isPart _ _ (d := d - 1) (by omega) _ _) cs_X7_213 (Nat.le_of_ble_eq_true rfl) (by omega) (fun r h' hr => ?_)
    obtain ⟨he9, rfl⟩ := hr
    rw [he9]
    clear he9 h'
    show V _ _ _ (9 + 3) _ (_ :: _) _
    refine v_ifb_eq hC (pc := 12) (tgt := 45) dX7_street_12 (by decide) (fun c_12 => ?_) (fun c_12 => ?_)
    · skip
      refine v_iconst hC (pc := 45) (v := (-1)) (by decide) dX7_street_45 ?_
      refine v_iret hC hX (pc := 46) dX7_street_46 ?_
      exact ⟨rfl, rfl⟩
    · skip
      refine v_iload_n hC (pc := 15) (k := 3) 3 rfl dX7_street_15 ?_
      refine v_bipush hC (pc := 16) (v := (-4)) (by decide +kernel) dX7_street_16 ?_
      refine v_icmp_eq hC (pc := 18) (tgt := 29) dX7_street_18 (by decide) (fun c_18 => ?_) (fun c_18 => ?_)
      · skip
        exact absurd ⟨c_5, c_12, by first | exact Or.inl c_18 | exact Or.inr c_26⟩ hbad
      · skip
        refine v_aload_n hC (pc := 21) (k := 0) 0 rfl dX7_street_21 ?_
        refine v_iload_n hC (pc := 22) (k := 3) 3 rfl dX7_street_22 ?_
        refine v_callV hC (pc := 23) (As := [_]) dX7_street_23 rfl (m_isCorner _ _ (d := d - 1) (by omega) _ hn8 hnc _) cv_X7_210 rfl (by decide) rfl (by first | rfl | exact ok_c hq rfl | exact ok_w hq hw | exact ok_w (by omega) (by omega) | exact ok_s (by omega) (by omega) | exact ok_c (by omega) rfl | assumption) (Nat.le_of_ble_eq_true rfl) (by omega) (fun r h' hr => ?_)
        obtain ⟨he9, rfl⟩ := hr
        rw [he9]
        clear he9 h'
        show V _ _ _ (23 + 3) _ (_ :: _) _
        refine v_ifb_eq hC (pc := 26) (tgt := 45) dX7_street_26 (by decide) (fun c_26 => ?_) (fun c_26 => ?_)
        · skip
          refine v_iconst hC (pc := 45) (v := (-1)) (by decide) dX7_street_45 ?_
          refine v_iret hC hX (pc := 46) dX7_street_46 ?_
          exact ⟨rfl, rfl⟩
        · skip
          exact absurd ⟨c_5, c_12, by first | exact Or.inl c_18 | exact Or.inr c_26⟩ hbad

set_option maxRecDepth 20000 in
set_option maxHeartbeats 2000000 in
theorem m_sign_off (l9 : Launch) (G : WT) {d : Nat} (hd : 3 ≤ d) (h : HP) {nC : Nat} (hn8 : nC ≤ 8) (hnc : h.1 (3, 0, 0) 3 = nI nC) {c : Nat} (hc : c < nC) : MS l9 G yX7_sign cX7_sign 4 (some .int) d [vr (3, 0, 0), vi (nI c), vi 0] h (fun r h1 => r = some (vi ((h.1 (3, 0, 1) 16 >>> (nI c &&& 31)) &&& 1)) ∧ h1 = upI h (3, 0, 1) 16 (h.1 (3, 0, 1) 16 &&& ((1 <<< (nI c &&& 31)) ^^^ (-1)))) := by
  refine MS_of (by decide +kernel) (Nat.le_of_ble_eq_true rfl) (fun X hC hX => ?_)
  show V X G 4 0 _ [] _
  refine v_aload_n hC (pc := 0) (k := 0) 0 rfl dX7_sign_0 ?_
  refine v_iload_n hC (pc := 1) (k := 1) 1 rfl dX7_sign_1 ?_
  refine v_callV hC (pc := 2) (As := [_]) dX7_sign_2 rfl (m_isCorner_t _ _ (d := d - 1) (by omega) _ (c := c) (by assumption) hn8 hnc) cv_X7_210 rfl (by decide) rfl (by first | rfl | exact ok_c hq rfl | exact ok_w hq hw | exact ok_w (by omega) (by omega) | exact ok_s (by omega) (by omega) | exact ok_c (by omega) rfl | assumption) (Nat.le_of_ble_eq_true rfl) (by omega) (fun r h' hr => ?_)
  obtain ⟨he9, rfl⟩ := hr
  rw [he9]
  clear he9 h'
  show V _ _ _ (2 + 3) _ (_ :: _) _
  refine v_if_ne hC (pc := 5) (tgt := 10) dX7_sign_5 (by decide) (fun c_5 => ?_) (fun c_5 => ?_)
  · skip
    refine v_aload_n hC (pc := 10) (k := 0) 0 rfl dX7_sign_10 ?_
    refine v_getR hC (pc := 11) dX7_sign_11 fl_X7_7 rfl (by first | rfl | exact ok_c hq rfl | exact ok_w hq hw | exact ok_w (by omega) (by omega) | exact ok_s (by omega) (by omega) | exact ok_c (by omega) rfl | assumption) rfl (by decide) (by decide) rfl ?_
    refine v_bipush hC (pc := 14) (v := 16) (by decide +kernel) dX7_sign_14 ?_
    try simp only [nL_0, nL_1, nL_2, nL_3, nL_4, nL_5, nL_6, nL_8, nL_16, nL_17, nL_18, nL_40, nL_42, nL_43, nL_47, nL_48, nL_64, nL_80, pk_mul, nI_add]
    refine v_iald hC (pc := 16) dX7_sign_16 rfl (by first | rfl | exact ok_c hq rfl | exact ok_w hq hw | exact ok_w (by omega) (by omega) | exact ok_s (by omega) (by omega) | exact ok_c (by omega) rfl | assumption) (vp_nat (n := 16) (by omega) (by decide)) ?_
    refine v_iload_n hC (pc := 17) (k := 1) 1 rfl dX7_sign_17 ?_
    refine v_ishr hC (pc := 18) dX7_sign_18 ?_
    refine v_iconst hC (pc := 19) (v := 1) (by decide) dX7_sign_19 ?_
    refine v_iand hC (pc := 20) dX7_sign_20 ?_
    refine v_istore_n hC (pc := 21) (l' := [(3, _), (0, _), (1, _), (2, _)]) dX7_sign_21 (by decide) rfl ?_
    refine v_aload_n hC (pc := 22) (k := 0) 1 rfl dX7_sign_22 ?_
    refine v_getR hC (pc := 23) dX7_sign_23 fl_X7_7 rfl (by first | rfl | exact ok_c hq rfl | exact ok_w hq hw | exact ok_w (by omega) (by omega) | exact ok_s (by omega) (by omega) | exact ok_c (by omega) rfl | assumption) rfl (by decide) (by decide) rfl ?_
    refine v_bipush hC (pc := 26) (v := 16) (by decide +kernel) dX7_sign_26 ?_
    refine v_iload_n hC (pc := 28) (k := 2) 3 rfl dX7_sign_28 ?_
    refine v_if_eq hC (pc := 29) (tgt := 46) dX7_sign_29 (by decide) (fun c_29 => ?_) (fun c_29 => ?_)
    · skip
      skip
      refine v_aload_n hC (pc := 46) (k := 0) 1 rfl dX7_sign_46 ?_
      refine v_getR hC (pc := 47) dX7_sign_47 fl_X7_7 rfl (by first | rfl | exact ok_c hq rfl | exact ok_w hq hw | exact ok_w (by omega) (by omega) | exact ok_s (by omega) (by omega) | exact ok_c (by omega) rfl | assumption) rfl (by decide) (by decide) rfl ?_
      refine v_bipush hC (pc := 50) (v := 16) (by decide +kernel) dX7_sign_50 ?_
      try simp only [nL_0, nL_1, nL_2, nL_3, nL_4, nL_5, nL_6, nL_8, nL_16, nL_17, nL_18, nL_40, nL_42, nL_43, nL_47, nL_48, nL_64, nL_80, pk_mul, nI_add]
      refine v_iald hC (pc := 52) dX7_sign_52 rfl (by first | rfl | exact ok_c hq rfl | exact ok_w hq hw | exact ok_w (by omega) (by omega) | exact ok_s (by omega) (by omega) | exact ok_c (by omega) rfl | assumption) (vp_nat (n := 16) (by omega) (by decide)) ?_
      refine v_iconst hC (pc := 53) (v := 1) (by decide) dX7_sign_53 ?_
      refine v_iload_n hC (pc := 54) (k := 1) 2 rfl dX7_sign_54 ?_
      refine v_ishl hC (pc := 55) dX7_sign_55 ?_
      refine v_iconst hC (pc := 56) (v := (-1)) (by decide) dX7_sign_56 ?_
      refine v_ixor hC (pc := 57) dX7_sign_57 ?_
      refine v_iand hC (pc := 58) dX7_sign_58 ?_
      try simp only [nL_0, nL_1, nL_2, nL_3, nL_4, nL_5, nL_6, nL_8, nL_16, nL_17, nL_18, nL_40, nL_42, nL_43, nL_47, nL_48, nL_64, nL_80, pk_mul, nI_add]
      refine v_iast hC (pc := 59) dX7_sign_59 rfl (by first | rfl | exact ok_c hq rfl | exact ok_w hq hw | exact ok_w (by omega) (by omega) | exact ok_s (by omega) (by omega) | exact ok_c (by omega) rfl | assumption) (vp_nat (n := 16) (by omega) (by decide)) ?_
      refine v_iload_n hC (pc := 60) (k := 3) 0 rfl dX7_sign_60 ?_
      refine v_iret hC hX (pc := 61) dX7_sign_61 ?_
      exact ⟨rfl, rfl⟩
    · exact absurd rfl c_29
  · exact absurd c_5 (by decide)

set_option maxRecDepth 20000 in
set_option maxHeartbeats 2000000 in
theorem m_sign_on (l9 : Launch) (G : WT) {d : Nat} (hd : 3 ≤ d) (h : HP) {nC : Nat} (hn8 : nC ≤ 8) (hnc : h.1 (3, 0, 0) 3 = nI nC) {c : Nat} (hc : c < nC) : MS l9 G yX7_sign cX7_sign 4 (some .int) d [vr (3, 0, 0), vi (nI c), vi 1] h (fun r h1 => r = some (vi ((h.1 (3, 0, 1) 16 >>> (nI c &&& 31)) &&& 1)) ∧ h1 = upI h (3, 0, 1) 16 (h.1 (3, 0, 1) 16 ||| (1 <<< (nI c &&& 31)))) := by
  refine MS_of (by decide +kernel) (Nat.le_of_ble_eq_true rfl) (fun X hC hX => ?_)
  show V X G 4 0 _ [] _
  refine v_aload_n hC (pc := 0) (k := 0) 0 rfl dX7_sign_0 ?_
  refine v_iload_n hC (pc := 1) (k := 1) 1 rfl dX7_sign_1 ?_
  refine v_callV hC (pc := 2) (As := [_]) dX7_sign_2 rfl (m_isCorner_t _ _ (d := d - 1) (by omega) _ (c := c) (by assumption) hn8 hnc) cv_X7_210 rfl (by decide) rfl (by first | rfl | exact ok_c hq rfl | exact ok_w hq hw | exact ok_w (by omega) (by omega) | exact ok_s (by omega) (by omega) | exact ok_c (by omega) rfl | assumption) (Nat.le_of_ble_eq_true rfl) (by omega) (fun r h' hr => ?_)
  obtain ⟨he9, rfl⟩ := hr
  rw [he9]
  clear he9 h'
  show V _ _ _ (2 + 3) _ (_ :: _) _
  refine v_if_ne hC (pc := 5) (tgt := 10) dX7_sign_5 (by decide) (fun c_5 => ?_) (fun c_5 => ?_)
  · skip
    refine v_aload_n hC (pc := 10) (k := 0) 0 rfl dX7_sign_10 ?_
    refine v_getR hC (pc := 11) dX7_sign_11 fl_X7_7 rfl (by first | rfl | exact ok_c hq rfl | exact ok_w hq hw | exact ok_w (by omega) (by omega) | exact ok_s (by omega) (by omega) | exact ok_c (by omega) rfl | assumption) rfl (by decide) (by decide) rfl ?_
    refine v_bipush hC (pc := 14) (v := 16) (by decide +kernel) dX7_sign_14 ?_
    try simp only [nL_0, nL_1, nL_2, nL_3, nL_4, nL_5, nL_6, nL_8, nL_16, nL_17, nL_18, nL_40, nL_42, nL_43, nL_47, nL_48, nL_64, nL_80, pk_mul, nI_add]
    refine v_iald hC (pc := 16) dX7_sign_16 rfl (by first | rfl | exact ok_c hq rfl | exact ok_w hq hw | exact ok_w (by omega) (by omega) | exact ok_s (by omega) (by omega) | exact ok_c (by omega) rfl | assumption) (vp_nat (n := 16) (by omega) (by decide)) ?_
    refine v_iload_n hC (pc := 17) (k := 1) 1 rfl dX7_sign_17 ?_
    refine v_ishr hC (pc := 18) dX7_sign_18 ?_
    refine v_iconst hC (pc := 19) (v := 1) (by decide) dX7_sign_19 ?_
    refine v_iand hC (pc := 20) dX7_sign_20 ?_
    refine v_istore_n hC (pc := 21) (l' := [(3, _), (0, _), (1, _), (2, _)]) dX7_sign_21 (by decide) rfl ?_
    refine v_aload_n hC (pc := 22) (k := 0) 1 rfl dX7_sign_22 ?_
    refine v_getR hC (pc := 23) dX7_sign_23 fl_X7_7 rfl (by first | rfl | exact ok_c hq rfl | exact ok_w hq hw | exact ok_w (by omega) (by omega) | exact ok_s (by omega) (by omega) | exact ok_c (by omega) rfl | assumption) rfl (by decide) (by decide) rfl ?_
    refine v_bipush hC (pc := 26) (v := 16) (by decide +kernel) dX7_sign_26 ?_
    refine v_iload_n hC (pc := 28) (k := 2) 3 rfl dX7_sign_28 ?_
    refine v_if_eq hC (pc := 29) (tgt := 46) dX7_sign_29 (by decide) (fun c_29 => ?_) (fun c_29 => ?_)
    · exact absurd c_29 (by decide)
    · skip
      skip
      refine v_aload_n hC (pc := 32) (k := 0) 1 rfl dX7_sign_32 ?_
      refine v_getR hC (pc := 33) dX7_sign_33 fl_X7_7 rfl (by first | rfl | exact ok_c hq rfl | exact ok_w hq hw | exact ok_w (by omega) (by omega) | exact ok_s (by omega) (by omega) | exact ok_c (by omega) rfl | assumption) rfl (by decide) (by decide) rfl ?_
      refine v_bipush hC (pc := 36) (v := 16) (by decide +kernel) dX7_sign_36 ?_
      try simp only [nL_0, nL_1, nL_2, nL_3, nL_4, nL_5, nL_6, nL_8, nL_16, nL_17, nL_18, nL_40, nL_42, nL_43, nL_47, nL_48, nL_64, nL_80, pk_mul, nI_add]
      refine v_iald hC (pc := 38) dX7_sign_38 rfl (by first | rfl | exact ok_c hq rfl | exact ok_w hq hw | exact ok_w (by omega) (by omega) | exact ok_s (by omega) (by omega) | exact ok_c (by omega) rfl | assumption) (vp_nat (n := 16) (by omega) (by decide)) ?_
      refine v_iconst hC (pc := 39) (v := 1) (by decide) dX7_sign_39 ?_
      refine v_iload_n hC (pc := 40) (k := 1) 2 rfl dX7_sign_40 ?_
      refine v_ishl hC (pc := 41) dX7_sign_41 ?_
      refine v_ior hC (pc := 42) dX7_sign_42 ?_
      refine v_goto hC (pc := 43) (tgt := 59) dX7_sign_43 (by decide) ?_
      try simp only [nL_0, nL_1, nL_2, nL_3, nL_4, nL_5, nL_6, nL_8, nL_16, nL_17, nL_18, nL_40, nL_42, nL_43, nL_47, nL_48, nL_64, nL_80, pk_mul, nI_add]
      refine v_iast hC (pc := 59) dX7_sign_59 rfl (by first | rfl | exact ok_c hq rfl | exact ok_w hq hw | exact ok_w (by omega) (by omega) | exact ok_s (by omega) (by omega) | exact ok_c (by omega) rfl | assumption) (vp_nat (n := 16) (by omega) (by decide)) ?_
      refine v_iload_n hC (pc := 60) (k := 3) 0 rfl dX7_sign_60 ?_
      refine v_iret hC hX (pc := 61) dX7_sign_61 ?_
      exact ⟨rfl, rfl⟩
  · exact absurd c_5 (by decide)

set_option maxRecDepth 20000 in
set_option maxHeartbeats 2000000 in
theorem m_sign_bad (l9 : Launch) (G : WT) {d : Nat} (hd : 3 ≤ d) (h : HP) {nC : Nat} (hn8 : nC ≤ 8) (hnc : h.1 (3, 0, 0) 3 = nI nC) (c b : Int32) (hbad : ¬ (¬ c < 0 ∧ ¬ nI nC ≤ c)) : MS l9 G yX7_sign cX7_sign 4 (some .int) d [vr (3, 0, 0), vi c, vi b] h (fun r h1 => h1 = h ∧ r = some (vi (-1))) := by
  refine MS_of (by decide +kernel) (Nat.le_of_ble_eq_true rfl) (fun X hC hX => ?_)
  show V X G 4 0 _ [] _
  refine v_aload_n hC (pc := 0) (k := 0) 0 rfl dX7_sign_0 ?_
  refine v_iload_n hC (pc := 1) (k := 1) 1 rfl dX7_sign_1 ?_
  refine v_callV hC (pc := 2) (As := [_]) dX7_sign_2 rfl (m_isCorner _ _ (d := d - 1) (by omega) _ hn8 hnc _) cv_X7_210 rfl (by decide) rfl (by first | rfl | exact ok_c hq rfl | exact ok_w hq hw | exact ok_w (by omega) (by omega) | exact ok_s (by omega) (by omega) | exact ok_c (by omega) rfl | assumption) (Nat.le_of_ble_eq_true rfl) (by omega) (fun r h' hr => ?_)
  obtain ⟨he9, rfl⟩ := hr
  rw [he9]
  clear he9 h'
  show V _ _ _ (2 + 3) _ (_ :: _) _
  refine v_ifb_ne hC (pc := 5) (tgt := 10) dX7_sign_5 (by decide) (fun c_5 => ?_) (fun c_5 => ?_)
  · skip
    exact absurd c_5 hbad
  · skip
    refine v_iconst hC (pc := 8) (v := (-1)) (by decide) dX7_sign_8 ?_
    refine v_iret hC hX (pc := 9) dX7_sign_9 ?_
    exact ⟨rfl, rfl⟩

set_option maxRecDepth 20000 in
set_option maxHeartbeats 2000000 in
theorem m_clock_ok (l9 : Launch) (G : WT) {d : Nat} (hd : 3 ≤ d) (h : HP) {t : Nat} (ht : t < 24) : MS l9 G yX7_clock cX7_clock 2 (some .int) d [vr (3, 0, 0), vi (nI t)] h (fun r h1 => r = some (vi (h.1 (3, 0, 1) 17 - h.1 (3, 0, 1) 17 / 24 * 24)) ∧ h1 = upI h (3, 0, 1) 17 (nI t)) := by
  refine MS_of (by decide +kernel) (Nat.le_of_ble_eq_true rfl) (fun X hC hX => ?_)
  show V X G 2 0 _ [] _
  refine v_iload_n hC (pc := 0) (k := 1) 1 rfl dX7_clock_0 ?_
  refine v_callS hC (pc := 1) (As := [_]) dX7_clock_1 rfl (m_isHour_t _ _ (d := d - 1) (by omega) _ (s := t) (by assumption)) cs_X7_225 (Nat.le_of_ble_eq_true rfl) (by omega) (fun r h' hr => ?_)
  obtain ⟨he9, rfl⟩ := hr
  rw [he9]
  clear he9 h'
  show V _ _ _ (1 + 3) _ (_ :: _) _
  refine v_if_eq hC (pc := 4) (tgt := 20) dX7_clock_4 (by decide) (fun c_4 => ?_) (fun c_4 => ?_)
  · exact absurd c_4 (by decide)
  · skip
    refine v_aload_n hC (pc := 7) (k := 0) 0 rfl dX7_clock_7 ?_
    refine v_bipush hC (pc := 8) (v := 17) (by decide +kernel) dX7_clock_8 ?_
    rw [nL_17]
    refine v_iload_n hC (pc := 10) (k := 1) 1 rfl dX7_clock_10 ?_
    refine v_callV hC (pc := 11) (As := [_, _]) dX7_clock_11 rfl (m_becomes _ _ (d := d - 1) (by omega) _ (k := 17) (by omega) _) cv_X7_228 rfl (by decide) rfl (by first | rfl | exact ok_c hq rfl | exact ok_w hq hw | exact ok_w (by omega) (by omega) | exact ok_s (by omega) (by omega) | exact ok_c (by omega) rfl | assumption) (Nat.le_of_ble_eq_true rfl) (by omega) (fun r h' hr => ?_)
    obtain ⟨rfl, rfl⟩ := hr
    show V _ _ _ (11 + 3) _ (_ :: _) _
    refine v_bipush hC (pc := 14) (v := 24) (by decide +kernel) dX7_clock_14 ?_
    refine v_irem hC (pc := 16) (by decide) dX7_clock_16 ?_
    refine v_goto hC (pc := 17) (tgt := 21) dX7_clock_17 (by decide) ?_
    refine v_iret hC hX (pc := 21) dX7_clock_21 ?_
    exact ⟨rfl, rfl⟩

set_option maxRecDepth 20000 in
set_option maxHeartbeats 2000000 in
theorem m_clock_bad (l9 : Launch) (G : WT) {d : Nat} (hd : 3 ≤ d) (h : HP) (t : Int32) (hbad : ¬ (¬ t < 0 ∧ ¬ 24 ≤ t)) : MS l9 G yX7_clock cX7_clock 2 (some .int) d [vr (3, 0, 0), vi t] h (fun r h1 => h1 = h ∧ r = some (vi (-1))) := by
  refine MS_of (by decide +kernel) (Nat.le_of_ble_eq_true rfl) (fun X hC hX => ?_)
  show V X G 2 0 _ [] _
  refine v_iload_n hC (pc := 0) (k := 1) 1 rfl dX7_clock_0 ?_
  refine v_callS hC (pc := 1) (As := [_]) dX7_clock_1 rfl (m_isHour _ _ (d := d - 1) (by omega) _ _) cs_X7_225 (Nat.le_of_ble_eq_true rfl) (by omega) (fun r h' hr => ?_)
  obtain ⟨he9, rfl⟩ := hr
  rw [he9]
  clear he9 h'
  show V _ _ _ (1 + 3) _ (_ :: _) _
  refine v_ifb_eq hC (pc := 4) (tgt := 20) dX7_clock_4 (by decide) (fun c_4 => ?_) (fun c_4 => ?_)
  · skip
    refine v_iconst hC (pc := 20) (v := (-1)) (by decide) dX7_clock_20 ?_
    refine v_iret hC hX (pc := 21) dX7_clock_21 ?_
    exact ⟨rfl, rfl⟩
  · skip
    exact absurd c_4 hbad

set_option maxRecDepth 20000 in
set_option maxHeartbeats 2000000 in
theorem m_put_ok (l9 : Launch) (G : WT) {d : Nat} (hd : 3 ≤ d) (h : HP) {nC : Nat} (hn8 : nC ≤ 8) (hnc : h.1 (3, 0, 0) 3 = nI nC) {nW : Nat} (hn4 : nW ≤ 4) (hnw : h.1 (3, 0, 0) 4 = nI nW) {w c : Nat} (hw : w < nW) (hc : c < nC) : MS l9 G yX7_put cX7_put 3 (some .int) d [vr (3, 0, 0), vi (nI w), vi (nI c)] h (fun r h1 => r = some (vi (h.1 (3, 0, 1) (18 + 6 * w + 0))) ∧ h1 = upI h (3, 0, 1) (18 + 6 * w + 0) (nI c)) := by
  refine MS_of (by decide +kernel) (Nat.le_of_ble_eq_true rfl) (fun X hC hX => ?_)
  show V X G 3 0 _ [] _
  refine v_aload_n hC (pc := 0) (k := 0) 0 rfl dX7_put_0 ?_
  refine v_iload_n hC (pc := 1) (k := 1) 1 rfl dX7_put_1 ?_
  refine v_callV hC (pc := 2) (As := [_]) dX7_put_2 rfl (m_isWalker_t _ _ (d := d - 1) (by omega) _ (c := w) (by assumption) hn4 hnw) cv_X7_216 rfl (by decide) rfl (by first | rfl | exact ok_c hq rfl | exact ok_w hq hw | exact ok_w (by omega) (by omega) | exact ok_s (by omega) (by omega) | exact ok_c (by omega) rfl | assumption) (Nat.le_of_ble_eq_true rfl) (by omega) (fun r h' hr => ?_)
  obtain ⟨he9, rfl⟩ := hr
  rw [he9]
  clear he9 h'
  show V _ _ _ (2 + 3) _ (_ :: _) _
  refine v_if_eq hC (pc := 5) (tgt := 33) dX7_put_5 (by decide) (fun c_5 => ?_) (fun c_5 => ?_)
  · exact absurd c_5 (by decide)
  · skip
    refine v_aload_n hC (pc := 8) (k := 0) 0 rfl dX7_put_8 ?_
    refine v_iload_n hC (pc := 9) (k := 2) 2 rfl dX7_put_9 ?_
    refine v_callV hC (pc := 10) (As := [_]) dX7_put_10 rfl (m_isCorner_t _ _ (d := d - 1) (by omega) _ (c := c) (by assumption) hn8 hnc) cv_X7_210 rfl (by decide) rfl (by first | rfl | exact ok_c hq rfl | exact ok_w hq hw | exact ok_w (by omega) (by omega) | exact ok_s (by omega) (by omega) | exact ok_c (by omega) rfl | assumption) (Nat.le_of_ble_eq_true rfl) (by omega) (fun r h' hr => ?_)
    obtain ⟨he9, rfl⟩ := hr
    rw [he9]
    clear he9 h'
    show V _ _ _ (10 + 3) _ (_ :: _) _
    refine v_if_eq hC (pc := 13) (tgt := 33) dX7_put_13 (by decide) (fun c_13 => ?_) (fun c_13 => ?_)
    · exact absurd c_13 (by decide)
    · skip
      refine v_aload_n hC (pc := 16) (k := 0) 0 rfl dX7_put_16 ?_
      refine v_bipush hC (pc := 17) (v := 18) (by decide +kernel) dX7_put_17 ?_
      refine v_bipush hC (pc := 19) (v := 6) (by decide +kernel) dX7_put_19 ?_
      refine v_iload_n hC (pc := 21) (k := 1) 1 rfl dX7_put_21 ?_
      refine v_imul hC (pc := 22) dX7_put_22 ?_
      refine v_iadd hC (pc := 23) dX7_put_23 ?_
      refine v_iconst hC (pc := 24) (v := 0) (by decide) dX7_put_24 ?_
      refine v_iadd hC (pc := 25) dX7_put_25 ?_
      rw [show (18 : Int32) + 6 * nI w + 0 = nI (18 + 6 * w + 0) from by rw [show (18 : Int32) = nI 18 from rfl, show (6 : Int32) = nI 6 from rfl, show (0 : Int32) = nI 0 from rfl, pk_mul, nI_add, nI_add]]
      refine v_iload_n hC (pc := 26) (k := 2) 2 rfl dX7_put_26 ?_
      refine v_callV hC (pc := 27) (As := [_, _]) dX7_put_27 rfl (m_becomes _ _ (d := d - 1) (by omega) _ (k := 18 + 6 * w + 0) (by omega) _) cv_X7_228 rfl (by decide) rfl (by first | rfl | exact ok_c hq rfl | exact ok_w hq hw | exact ok_w (by omega) (by omega) | exact ok_s (by omega) (by omega) | exact ok_c (by omega) rfl | assumption) (Nat.le_of_ble_eq_true rfl) (by omega) (fun r h' hr => ?_)
      obtain ⟨rfl, rfl⟩ := hr
      show V _ _ _ (27 + 3) _ (_ :: _) _
      refine v_goto hC (pc := 30) (tgt := 34) dX7_put_30 (by decide) ?_
      refine v_iret hC hX (pc := 34) dX7_put_34 ?_
      exact ⟨rfl, rfl⟩

set_option maxRecDepth 20000 in
set_option maxHeartbeats 2000000 in
theorem m_put_bad (l9 : Launch) (G : WT) {d : Nat} (hd : 3 ≤ d) (h : HP) {nC : Nat} (hn8 : nC ≤ 8) (hnc : h.1 (3, 0, 0) 3 = nI nC) {nW : Nat} (hn4 : nW ≤ 4) (hnw : h.1 (3, 0, 0) 4 = nI nW) (w c : Int32) (hbad : ¬ ((¬ w < 0 ∧ ¬ nI nW ≤ w) ∧ ¬ c < 0 ∧ ¬ nI nC ≤ c)) : MS l9 G yX7_put cX7_put 3 (some .int) d [vr (3, 0, 0), vi w, vi c] h (fun r h1 => h1 = h ∧ r = some (vi (-1))) := by
  refine MS_of (by decide +kernel) (Nat.le_of_ble_eq_true rfl) (fun X hC hX => ?_)
  show V X G 3 0 _ [] _
  refine v_aload_n hC (pc := 0) (k := 0) 0 rfl dX7_put_0 ?_
  refine v_iload_n hC (pc := 1) (k := 1) 1 rfl dX7_put_1 ?_
  refine v_callV hC (pc := 2) (As := [_]) dX7_put_2 rfl (m_isWalker _ _ (d := d - 1) (by omega) _ hn4 hnw _) cv_X7_216 rfl (by decide) rfl (by first | rfl | exact ok_c hq rfl | exact ok_w hq hw | exact ok_w (by omega) (by omega) | exact ok_s (by omega) (by omega) | exact ok_c (by omega) rfl | assumption) (Nat.le_of_ble_eq_true rfl) (by omega) (fun r h' hr => ?_)
  obtain ⟨he9, rfl⟩ := hr
  rw [he9]
  clear he9 h'
  show V _ _ _ (2 + 3) _ (_ :: _) _
  refine v_ifb_eq hC (pc := 5) (tgt := 33) dX7_put_5 (by decide) (fun c_5 => ?_) (fun c_5 => ?_)
  · skip
    refine v_iconst hC (pc := 33) (v := (-1)) (by decide) dX7_put_33 ?_
    refine v_iret hC hX (pc := 34) dX7_put_34 ?_
    exact ⟨rfl, rfl⟩
  · skip
    refine v_aload_n hC (pc := 8) (k := 0) 0 rfl dX7_put_8 ?_
    refine v_iload_n hC (pc := 9) (k := 2) 2 rfl dX7_put_9 ?_
    refine v_callV hC (pc := 10) (As := [_]) dX7_put_10 rfl (m_isCorner _ _ (d := d - 1) (by omega) _ hn8 hnc _) cv_X7_210 rfl (by decide) rfl (by first | rfl | exact ok_c hq rfl | exact ok_w hq hw | exact ok_w (by omega) (by omega) | exact ok_s (by omega) (by omega) | exact ok_c (by omega) rfl | assumption) (Nat.le_of_ble_eq_true rfl) (by omega) (fun r h' hr => ?_)
    obtain ⟨he9, rfl⟩ := hr
    rw [he9]
    clear he9 h'
    show V _ _ _ (10 + 3) _ (_ :: _) _
    refine v_ifb_eq hC (pc := 13) (tgt := 33) dX7_put_13 (by decide) (fun c_13 => ?_) (fun c_13 => ?_)
    · skip
      refine v_iconst hC (pc := 33) (v := (-1)) (by decide) dX7_put_33 ?_
      refine v_iret hC hX (pc := 34) dX7_put_34 ?_
      exact ⟨rfl, rfl⟩
    · skip
      exact absurd ⟨c_5, c_13⟩ hbad

set_option maxRecDepth 20000 in
set_option maxHeartbeats 2000000 in
theorem m_keeps_ok (l9 : Launch) (G : WT) {d : Nat} (hd : 3 ≤ d) (h : HP) {nW : Nat} (hn4 : nW ≤ 4) (hnw : h.1 (3, 0, 0) 4 = nI nW) {w : Nat} (hw : w < nW) (b : Int32) : MS l9 G yX7_keeps cX7_keeps 3 (some .int) d [vr (3, 0, 0), vi (nI w), vi b] h (fun r h1 => r = some (vi (h.1 (3, 0, 1) (18 + 6 * w + 2))) ∧ h1 = upI h (3, 0, 1) (18 + 6 * w + 2) (flgF b)) := by
  refine MS_of (by decide +kernel) (Nat.le_of_ble_eq_true rfl) (fun X hC hX => ?_)
  show V X G 3 0 _ [] _
  refine v_aload_n hC (pc := 0) (k := 0) 0 rfl dX7_keeps_0 ?_
  refine v_iload_n hC (pc := 1) (k := 1) 1 rfl dX7_keeps_1 ?_
  refine v_callV hC (pc := 2) (As := [_]) dX7_keeps_2 rfl (m_isWalker_t _ _ (d := d - 1) (by omega) _ (c := w) (by assumption) hn4 hnw) cv_X7_216 rfl (by decide) rfl (by first | rfl | exact ok_c hq rfl | exact ok_w hq hw | exact ok_w (by omega) (by omega) | exact ok_s (by omega) (by omega) | exact ok_c (by omega) rfl | assumption) (Nat.le_of_ble_eq_true rfl) (by omega) (fun r h' hr => ?_)
  obtain ⟨he9, rfl⟩ := hr
  rw [he9]
  clear he9 h'
  show V _ _ _ (2 + 3) _ (_ :: _) _
  refine v_if_eq hC (pc := 5) (tgt := 28) dX7_keeps_5 (by decide) (fun c_5 => ?_) (fun c_5 => ?_)
  · exact absurd c_5 (by decide)
  · skip
    refine v_aload_n hC (pc := 8) (k := 0) 0 rfl dX7_keeps_8 ?_
    refine v_bipush hC (pc := 9) (v := 18) (by decide +kernel) dX7_keeps_9 ?_
    refine v_bipush hC (pc := 11) (v := 6) (by decide +kernel) dX7_keeps_11 ?_
    refine v_iload_n hC (pc := 13) (k := 1) 1 rfl dX7_keeps_13 ?_
    refine v_imul hC (pc := 14) dX7_keeps_14 ?_
    refine v_iadd hC (pc := 15) dX7_keeps_15 ?_
    refine v_iconst hC (pc := 16) (v := 2) (by decide) dX7_keeps_16 ?_
    refine v_iadd hC (pc := 17) dX7_keeps_17 ?_
    rw [show (18 : Int32) + 6 * nI w + 2 = nI (18 + 6 * w + 2) from by rw [show (18 : Int32) = nI 18 from rfl, show (6 : Int32) = nI 6 from rfl, show (2 : Int32) = nI 2 from rfl, pk_mul, nI_add, nI_add]]
    refine v_iload_n hC (pc := 18) (k := 2) 2 rfl dX7_keeps_18 ?_
    refine v_callS hC (pc := 19) (As := [_]) dX7_keeps_19 rfl (m_flag _ _ (d := d - 1) (by omega) _ _) cs_X7_147 (Nat.le_of_ble_eq_true rfl) (by omega) (fun r h' hr => ?_)
    obtain ⟨he9, rfl⟩ := hr
    rw [he9]
    clear he9 h'
    show V _ _ _ (19 + 3) _ (_ :: _) _
    refine v_callV hC (pc := 22) (As := [_, _]) dX7_keeps_22 rfl (m_becomes _ _ (d := d - 1) (by omega) _ (k := 18 + 6 * w + 2) (by omega) _) cv_X7_228 rfl (by decide) rfl (by first | rfl | exact ok_c hq rfl | exact ok_w hq hw | exact ok_w (by omega) (by omega) | exact ok_s (by omega) (by omega) | exact ok_c (by omega) rfl | assumption) (Nat.le_of_ble_eq_true rfl) (by omega) (fun r h' hr => ?_)
    obtain ⟨rfl, rfl⟩ := hr
    show V _ _ _ (22 + 3) _ (_ :: _) _
    refine v_goto hC (pc := 25) (tgt := 29) dX7_keeps_25 (by decide) ?_
    refine v_iret hC hX (pc := 29) dX7_keeps_29 ?_
    exact ⟨rfl, rfl⟩

set_option maxRecDepth 20000 in
set_option maxHeartbeats 2000000 in
theorem m_keeps_bad (l9 : Launch) (G : WT) {d : Nat} (hd : 3 ≤ d) (h : HP) {nW : Nat} (hn4 : nW ≤ 4) (hnw : h.1 (3, 0, 0) 4 = nI nW) (w b : Int32) (hbad : ¬ (¬ w < 0 ∧ ¬ nI nW ≤ w)) : MS l9 G yX7_keeps cX7_keeps 3 (some .int) d [vr (3, 0, 0), vi w, vi b] h (fun r h1 => h1 = h ∧ r = some (vi (-1))) := by
  refine MS_of (by decide +kernel) (Nat.le_of_ble_eq_true rfl) (fun X hC hX => ?_)
  show V X G 3 0 _ [] _
  refine v_aload_n hC (pc := 0) (k := 0) 0 rfl dX7_keeps_0 ?_
  refine v_iload_n hC (pc := 1) (k := 1) 1 rfl dX7_keeps_1 ?_
  refine v_callV hC (pc := 2) (As := [_]) dX7_keeps_2 rfl (m_isWalker _ _ (d := d - 1) (by omega) _ hn4 hnw _) cv_X7_216 rfl (by decide) rfl (by first | rfl | exact ok_c hq rfl | exact ok_w hq hw | exact ok_w (by omega) (by omega) | exact ok_s (by omega) (by omega) | exact ok_c (by omega) rfl | assumption) (Nat.le_of_ble_eq_true rfl) (by omega) (fun r h' hr => ?_)
  obtain ⟨he9, rfl⟩ := hr
  rw [he9]
  clear he9 h'
  show V _ _ _ (2 + 3) _ (_ :: _) _
  refine v_ifb_eq hC (pc := 5) (tgt := 28) dX7_keeps_5 (by decide) (fun c_5 => ?_) (fun c_5 => ?_)
  · skip
    refine v_iconst hC (pc := 28) (v := (-1)) (by decide) dX7_keeps_28 ?_
    refine v_iret hC hX (pc := 29) dX7_keeps_29 ?_
    exact ⟨rfl, rfl⟩
  · skip
    exact absurd c_5 hbad

set_option maxRecDepth 20000 in
set_option maxHeartbeats 2000000 in
theorem m_again_ok (l9 : Launch) (G : WT) {d : Nat} (hd : 3 ≤ d) (h : HP) {nW : Nat} (hn4 : nW ≤ 4) (hnw : h.1 (3, 0, 0) 4 = nI nW) {w : Nat} (hw : w < nW) : MS l9 G yX7_again cX7_again 2 (some .int) d [vr (3, 0, 0), vi (nI w)] h (fun r h1 => r = some (vi (h.1 (3, 0, 1) (18 + 6 * w + 5))) ∧ h1 = upI h (3, 0, 1) (18 + 6 * w + 5) (0)) := by
  refine MS_of (by decide +kernel) (Nat.le_of_ble_eq_true rfl) (fun X hC hX => ?_)
  show V X G 2 0 _ [] _
  refine v_aload_n hC (pc := 0) (k := 0) 0 rfl dX7_again_0 ?_
  refine v_iload_n hC (pc := 1) (k := 1) 1 rfl dX7_again_1 ?_
  refine v_callV hC (pc := 2) (As := [_]) dX7_again_2 rfl (m_isWalker_t _ _ (d := d - 1) (by omega) _ (c := w) (by assumption) hn4 hnw) cv_X7_216 rfl (by decide) rfl (by first | rfl | exact ok_c hq rfl | exact ok_w hq hw | exact ok_w (by omega) (by omega) | exact ok_s (by omega) (by omega) | exact ok_c (by omega) rfl | assumption) (Nat.le_of_ble_eq_true rfl) (by omega) (fun r h' hr => ?_)
  obtain ⟨he9, rfl⟩ := hr
  rw [he9]
  clear he9 h'
  show V _ _ _ (2 + 3) _ (_ :: _) _
  refine v_if_eq hC (pc := 5) (tgt := 25) dX7_again_5 (by decide) (fun c_5 => ?_) (fun c_5 => ?_)
  · exact absurd c_5 (by decide)
  · skip
    refine v_aload_n hC (pc := 8) (k := 0) 0 rfl dX7_again_8 ?_
    refine v_bipush hC (pc := 9) (v := 18) (by decide +kernel) dX7_again_9 ?_
    refine v_bipush hC (pc := 11) (v := 6) (by decide +kernel) dX7_again_11 ?_
    refine v_iload_n hC (pc := 13) (k := 1) 1 rfl dX7_again_13 ?_
    refine v_imul hC (pc := 14) dX7_again_14 ?_
    refine v_iadd hC (pc := 15) dX7_again_15 ?_
    refine v_iconst hC (pc := 16) (v := 5) (by decide) dX7_again_16 ?_
    refine v_iadd hC (pc := 17) dX7_again_17 ?_
    rw [show (18 : Int32) + 6 * nI w + 5 = nI (18 + 6 * w + 5) from by rw [show (18 : Int32) = nI 18 from rfl, show (6 : Int32) = nI 6 from rfl, show (5 : Int32) = nI 5 from rfl, pk_mul, nI_add, nI_add]]
    refine v_iconst hC (pc := 18) (v := 0) (by decide) dX7_again_18 ?_
    refine v_callV hC (pc := 19) (As := [_, _]) dX7_again_19 rfl (m_becomes _ _ (d := d - 1) (by omega) _ (k := 18 + 6 * w + 5) (by omega) _) cv_X7_228 rfl (by decide) rfl (by first | rfl | exact ok_c hq rfl | exact ok_w hq hw | exact ok_w (by omega) (by omega) | exact ok_s (by omega) (by omega) | exact ok_c (by omega) rfl | assumption) (Nat.le_of_ble_eq_true rfl) (by omega) (fun r h' hr => ?_)
    obtain ⟨rfl, rfl⟩ := hr
    show V _ _ _ (19 + 3) _ (_ :: _) _
    refine v_goto hC (pc := 22) (tgt := 26) dX7_again_22 (by decide) ?_
    refine v_iret hC hX (pc := 26) dX7_again_26 ?_
    exact ⟨rfl, rfl⟩

set_option maxRecDepth 20000 in
set_option maxHeartbeats 2000000 in
theorem m_again_bad (l9 : Launch) (G : WT) {d : Nat} (hd : 3 ≤ d) (h : HP) {nW : Nat} (hn4 : nW ≤ 4) (hnw : h.1 (3, 0, 0) 4 = nI nW) (w : Int32) (hbad : ¬ (¬ w < 0 ∧ ¬ nI nW ≤ w)) : MS l9 G yX7_again cX7_again 2 (some .int) d [vr (3, 0, 0), vi w] h (fun r h1 => h1 = h ∧ r = some (vi (-1))) := by
  refine MS_of (by decide +kernel) (Nat.le_of_ble_eq_true rfl) (fun X hC hX => ?_)
  show V X G 2 0 _ [] _
  refine v_aload_n hC (pc := 0) (k := 0) 0 rfl dX7_again_0 ?_
  refine v_iload_n hC (pc := 1) (k := 1) 1 rfl dX7_again_1 ?_
  refine v_callV hC (pc := 2) (As := [_]) dX7_again_2 rfl (m_isWalker _ _ (d := d - 1) (by omega) _ hn4 hnw _) cv_X7_216 rfl (by decide) rfl (by first | rfl | exact ok_c hq rfl | exact ok_w hq hw | exact ok_w (by omega) (by omega) | exact ok_s (by omega) (by omega) | exact ok_c (by omega) rfl | assumption) (Nat.le_of_ble_eq_true rfl) (by omega) (fun r h' hr => ?_)
  obtain ⟨he9, rfl⟩ := hr
  rw [he9]
  clear he9 h'
  show V _ _ _ (2 + 3) _ (_ :: _) _
  refine v_ifb_eq hC (pc := 5) (tgt := 25) dX7_again_5 (by decide) (fun c_5 => ?_) (fun c_5 => ?_)
  · skip
    refine v_iconst hC (pc := 25) (v := (-1)) (by decide) dX7_again_25 ?_
    refine v_iret hC hX (pc := 26) dX7_again_26 ?_
    exact ⟨rfl, rfl⟩
  · skip
    exact absurd c_5 hbad

set_option maxRecDepth 20000 in
set_option maxHeartbeats 2000000 in
theorem m_buy_ok (l9 : Launch) (G : WT) {d : Nat} (hd : 3 ≤ d) (h : HP) {k n : Nat} (hk : k < 4) (hn : n < 10) : MS l9 G yX7_buy cX7_buy 3 (some .int) d [vr (3, 0, 0), vi (nI k), vi (nI n)] h (fun r h1 => r = some (vi (h.1 (3, 0, 1) (43 + k))) ∧ h1 = upI h (3, 0, 1) (43 + k) (nI n)) := by
  refine MS_of (by decide +kernel) (Nat.le_of_ble_eq_true rfl) (fun X hC hX => ?_)
  show V X G 3 0 _ [] _
  refine v_iload_n hC (pc := 0) (k := 1) 1 rfl dX7_buy_0 ?_
  refine v_i2l hC (pc := 1) dX7_buy_1 ?_
  refine v_lconst hC (pc := 2) (v := 0) (by decide) dX7_buy_2 ?_
  refine v_ldc2 hC (pc := 3) k_X7_231 dX7_buy_3 ?_
  refine v_callS hC (pc := 6) (As := [_, _, _]) dX7_buy_6 rfl (m_in_t _ _ (d := d - 1) (by omega) _ (nI k) (0) (3) (⟨nI_pos (by omega), nI_nlt (show k ≤ 3 by omega) (by decide)⟩)) cs_X7_84 (Nat.le_of_ble_eq_true rfl) (by omega) (fun r h' hr => ?_)
  obtain ⟨he9, rfl⟩ := hr
  rw [he9]
  clear he9 h'
  show V _ _ _ (6 + 3) _ (_ :: _) _
  refine v_if_eq hC (pc := 9) (tgt := 36) dX7_buy_9 (by decide) (fun c_9 => ?_) (fun c_9 => ?_)
  · exact absurd c_9 (by decide)
  · skip
    refine v_iload_n hC (pc := 12) (k := 2) 2 rfl dX7_buy_12 ?_
    refine v_i2l hC (pc := 13) dX7_buy_13 ?_
    refine v_lconst hC (pc := 14) (v := 0) (by decide) dX7_buy_14 ?_
    refine v_ldc2 hC (pc := 15) k_X7_233 dX7_buy_15 ?_
    refine v_callS hC (pc := 18) (As := [_, _, _]) dX7_buy_18 rfl (m_in_t _ _ (d := d - 1) (by omega) _ (nI n) (0) (9) (⟨nI_pos (by omega), nI_nlt (show n ≤ 9 by omega) (by decide)⟩)) cs_X7_84 (Nat.le_of_ble_eq_true rfl) (by omega) (fun r h' hr => ?_)
    obtain ⟨he9, rfl⟩ := hr
    rw [he9]
    clear he9 h'
    show V _ _ _ (18 + 3) _ (_ :: _) _
    refine v_if_eq hC (pc := 21) (tgt := 36) dX7_buy_21 (by decide) (fun c_21 => ?_) (fun c_21 => ?_)
    · exact absurd c_21 (by decide)
    · skip
      refine v_aload_n hC (pc := 24) (k := 0) 0 rfl dX7_buy_24 ?_
      refine v_bipush hC (pc := 25) (v := 43) (by decide +kernel) dX7_buy_25 ?_
      refine v_iload_n hC (pc := 27) (k := 1) 1 rfl dX7_buy_27 ?_
      refine v_iadd hC (pc := 28) dX7_buy_28 ?_
      rw [nL_43, nI_add]
      refine v_iload_n hC (pc := 29) (k := 2) 2 rfl dX7_buy_29 ?_
      refine v_callV hC (pc := 30) (As := [_, _]) dX7_buy_30 rfl (m_becomes _ _ (d := d - 1) (by omega) _ (k := 43 + k) (by omega) _) cv_X7_228 rfl (by decide) rfl (by first | rfl | exact ok_c hq rfl | exact ok_w hq hw | exact ok_w (by omega) (by omega) | exact ok_s (by omega) (by omega) | exact ok_c (by omega) rfl | assumption) (Nat.le_of_ble_eq_true rfl) (by omega) (fun r h' hr => ?_)
      obtain ⟨rfl, rfl⟩ := hr
      show V _ _ _ (30 + 3) _ (_ :: _) _
      refine v_goto hC (pc := 33) (tgt := 37) dX7_buy_33 (by decide) ?_
      refine v_iret hC hX (pc := 37) dX7_buy_37 ?_
      exact ⟨rfl, rfl⟩

set_option maxRecDepth 20000 in
set_option maxHeartbeats 2000000 in
theorem m_buy_bad (l9 : Launch) (G : WT) {d : Nat} (hd : 3 ≤ d) (h : HP) (k n : Int32) (hbad : ¬ ((¬ k < 0 ∧ ¬ 3 < k) ∧ ¬ n < 0 ∧ ¬ 9 < n)) : MS l9 G yX7_buy cX7_buy 3 (some .int) d [vr (3, 0, 0), vi k, vi n] h (fun r h1 => h1 = h ∧ r = some (vi (-1))) := by
  refine MS_of (by decide +kernel) (Nat.le_of_ble_eq_true rfl) (fun X hC hX => ?_)
  show V X G 3 0 _ [] _
  refine v_iload_n hC (pc := 0) (k := 1) 1 rfl dX7_buy_0 ?_
  refine v_i2l hC (pc := 1) dX7_buy_1 ?_
  refine v_lconst hC (pc := 2) (v := 0) (by decide) dX7_buy_2 ?_
  refine v_ldc2 hC (pc := 3) k_X7_231 dX7_buy_3 ?_
  refine v_callS hC (pc := 6) (As := [_, _, _]) dX7_buy_6 rfl (m_in _ _ (d := d - 1) (by omega) _ (k) (0) (3)) cs_X7_84 (Nat.le_of_ble_eq_true rfl) (by omega) (fun r h' hr => ?_)
  obtain ⟨he9, rfl⟩ := hr
  rw [he9]
  clear he9 h'
  show V _ _ _ (6 + 3) _ (_ :: _) _
  refine v_ifb_eq hC (pc := 9) (tgt := 36) dX7_buy_9 (by decide) (fun c_9 => ?_) (fun c_9 => ?_)
  · skip
    refine v_iconst hC (pc := 36) (v := (-1)) (by decide) dX7_buy_36 ?_
    refine v_iret hC hX (pc := 37) dX7_buy_37 ?_
    exact ⟨rfl, rfl⟩
  · skip
    refine v_iload_n hC (pc := 12) (k := 2) 2 rfl dX7_buy_12 ?_
    refine v_i2l hC (pc := 13) dX7_buy_13 ?_
    refine v_lconst hC (pc := 14) (v := 0) (by decide) dX7_buy_14 ?_
    refine v_ldc2 hC (pc := 15) k_X7_233 dX7_buy_15 ?_
    refine v_callS hC (pc := 18) (As := [_, _, _]) dX7_buy_18 rfl (m_in _ _ (d := d - 1) (by omega) _ (n) (0) (9)) cs_X7_84 (Nat.le_of_ble_eq_true rfl) (by omega) (fun r h' hr => ?_)
    obtain ⟨he9, rfl⟩ := hr
    rw [he9]
    clear he9 h'
    show V _ _ _ (18 + 3) _ (_ :: _) _
    refine v_ifb_eq hC (pc := 21) (tgt := 36) dX7_buy_21 (by decide) (fun c_21 => ?_) (fun c_21 => ?_)
    · skip
      refine v_iconst hC (pc := 36) (v := (-1)) (by decide) dX7_buy_36 ?_
      refine v_iret hC hX (pc := 37) dX7_buy_37 ?_
      exact ⟨rfl, rfl⟩
    · skip
      exact absurd ⟨c_9, c_21⟩ hbad

set_option maxRecDepth 20000 in
set_option maxHeartbeats 2000000 in
theorem m_adds_ok (l9 : Launch) (G : WT) {d : Nat} (hd : 3 ≤ d) (h : HP) {nW : Nat} (hn4 : nW ≤ 4) (hnw : h.1 (3, 0, 0) 4 = nI nW) {w s n : Nat} (hw : w < nW) (hs : s < 2) (hln : h.1 (3, 0, 1) (18 + 6 * w + 3) = nI n) (hn : n < 10) : MS l9 G yX7_adds cX7_adds 4 (some .int) d [vr (3, 0, 0), vi (nI w), vi (nI s)] h (fun r h1 => r = some (vi (nI (n + 1))) ∧ h1 = upI (upI h (3, 0, 1) (18 + 6 * w + 4) (h.1 (3, 0, 1) (18 + 6 * w + 4) ||| (nI s <<< (nI n &&& 31)))) (3, 0, 1) (18 + 6 * w + 3) (nI (n + 1))) := by
  refine MS_of (by decide +kernel) (Nat.le_of_ble_eq_true rfl) (fun X hC hX => ?_)
  show V X G 4 0 _ [] _
  refine v_aload_n hC (pc := 0) (k := 0) 0 rfl dX7_adds_0 ?_
  refine v_iload_n hC (pc := 1) (k := 1) 1 rfl dX7_adds_1 ?_
  refine v_callV hC (pc := 2) (As := [_]) dX7_adds_2 rfl (m_isWalker_t _ _ (d := d - 1) (by omega) _ (c := w) (by assumption) hn4 hnw) cv_X7_216 rfl (by decide) rfl (by first | rfl | exact ok_c hq rfl | exact ok_w hq hw | exact ok_w (by omega) (by omega) | exact ok_s (by omega) (by omega) | exact ok_c (by omega) rfl | assumption) (Nat.le_of_ble_eq_true rfl) (by omega) (fun r h' hr => ?_)
  obtain ⟨he9, rfl⟩ := hr
  rw [he9]
  clear he9 h'
  show V _ _ _ (2 + 3) _ (_ :: _) _
  refine v_if_eq hC (pc := 5) (tgt := 15) dX7_adds_5 (by decide) (fun c_5 => ?_) (fun c_5 => ?_)
  · exact absurd c_5 (by decide)
  · skip
    refine v_iload_n hC (pc := 8) (k := 2) 2 rfl dX7_adds_8 ?_
    refine v_callS hC (pc := 9) (As := [_]) dX7_adds_9 rfl (m_isPart_t _ _ (d := d - 1) (by omega) _ (s := s) (by assumption)) cs_X7_213 (Nat.le_of_ble_eq_true rfl) (by omega) (fun r h' hr => ?_)
    obtain ⟨he9, rfl⟩ := hr
    rw [he9]
    clear he9 h'
    show V _ _ _ (9 + 3) _ (_ :: _) _
    refine v_if_ne hC (pc := 12) (tgt := 17) dX7_adds_12 (by decide) (fun c_12 => ?_) (fun c_12 => ?_)
    · skip
      refine v_bipush hC (pc := 17) (v := 18) (by decide +kernel) dX7_adds_17 ?_
      refine v_bipush hC (pc := 19) (v := 6) (by decide +kernel) dX7_adds_19 ?_
      refine v_iload_n hC (pc := 21) (k := 1) 1 rfl dX7_adds_21 ?_
      refine v_imul hC (pc := 22) dX7_adds_22 ?_
      refine v_iadd hC (pc := 23) dX7_adds_23 ?_
      rw [show (18 : Int32) + 6 * nI w = nI (18 + 6 * w) from by rw [nL_18, nL_6, pk_mul, nI_add]]
      refine v_istore_n hC (pc := 24) (l' := [(3, _), (0, _), (1, _), (2, _)]) dX7_adds_24 (by decide) rfl ?_
      refine v_aload_n hC (pc := 25) (k := 0) 1 rfl dX7_adds_25 ?_
      refine v_getR hC (pc := 26) dX7_adds_26 fl_X7_7 rfl (by first | rfl | exact ok_c hq rfl | exact ok_w hq hw | exact ok_w (by omega) (by omega) | exact ok_s (by omega) (by omega) | exact ok_c (by omega) rfl | assumption) rfl (by decide) (by decide) rfl ?_
      refine v_iload_n hC (pc := 29) (k := 3) 0 rfl dX7_adds_29 ?_
      refine v_iconst hC (pc := 30) (v := 3) (by decide) dX7_adds_30 ?_
      refine v_iadd hC (pc := 31) dX7_adds_31 ?_
      try simp only [nL_0, nL_1, nL_2, nL_3, nL_4, nL_5, nL_6, nL_8, nL_16, nL_17, nL_18, nL_40, nL_42, nL_43, nL_47, nL_48, nL_64, nL_80, pk_mul, nI_add]
      refine v_iald hC (pc := 32) dX7_adds_32 rfl (by first | rfl | exact ok_c hq rfl | exact ok_w hq hw | exact ok_w (by omega) (by omega) | exact ok_s (by omega) (by omega) | exact ok_c (by omega) rfl | assumption) (vp_nat (by omega) (by decide)) ?_
      rw [nI_clamp (show 18 + 6 * w + 3 < 2 ^ 31 by omega), hln]
      refine v_bipush hC (pc := 33) (v := 10) (by decide +kernel) dX7_adds_33 ?_
      refine v_icmp_ne hC (pc := 35) (tgt := 41) dX7_adds_35 (by decide) (fun c_35 => ?_) (fun c_35 => ?_)
      · skip
        refine v_aload_n hC (pc := 41) (k := 0) 1 rfl dX7_adds_41 ?_
        refine v_getR hC (pc := 42) dX7_adds_42 fl_X7_7 rfl (by first | rfl | exact ok_c hq rfl | exact ok_w hq hw | exact ok_w (by omega) (by omega) | exact ok_s (by omega) (by omega) | exact ok_c (by omega) rfl | assumption) rfl (by decide) (by decide) rfl ?_
        refine v_iload_n hC (pc := 45) (k := 3) 0 rfl dX7_adds_45 ?_
        refine v_iconst hC (pc := 46) (v := 4) (by decide) dX7_adds_46 ?_
        refine v_iadd hC (pc := 47) dX7_adds_47 ?_
        refine v_dup2 hC (pc := 48) dX7_adds_48 ?_
        try simp only [nL_0, nL_1, nL_2, nL_3, nL_4, nL_5, nL_6, nL_8, nL_16, nL_17, nL_18, nL_40, nL_42, nL_43, nL_47, nL_48, nL_64, nL_80, pk_mul, nI_add]
        refine v_iald hC (pc := 49) dX7_adds_49 rfl (by first | rfl | exact ok_c hq rfl | exact ok_w hq hw | exact ok_w (by omega) (by omega) | exact ok_s (by omega) (by omega) | exact ok_c (by omega) rfl | assumption) (vp_nat (by omega) (by decide)) ?_
        rw [nI_clamp (show 18 + 6 * w + 4 < 2 ^ 31 by omega)]
        refine v_iload_n hC (pc := 50) (k := 2) 3 rfl dX7_adds_50 ?_
        refine v_aload_n hC (pc := 51) (k := 0) 1 rfl dX7_adds_51 ?_
        refine v_getR hC (pc := 52) dX7_adds_52 fl_X7_7 rfl (by first | rfl | exact ok_c hq rfl | exact ok_w hq hw | exact ok_w (by omega) (by omega) | exact ok_s (by omega) (by omega) | exact ok_c (by omega) rfl | assumption) rfl (by decide) (by decide) rfl ?_
        refine v_iload_n hC (pc := 55) (k := 3) 0 rfl dX7_adds_55 ?_
        refine v_iconst hC (pc := 56) (v := 3) (by decide) dX7_adds_56 ?_
        refine v_iadd hC (pc := 57) dX7_adds_57 ?_
        try simp only [nL_0, nL_1, nL_2, nL_3, nL_4, nL_5, nL_6, nL_8, nL_16, nL_17, nL_18, nL_40, nL_42, nL_43, nL_47, nL_48, nL_64, nL_80, pk_mul, nI_add]
        refine v_iald hC (pc := 58) dX7_adds_58 rfl (by first | rfl | exact ok_c hq rfl | exact ok_w hq hw | exact ok_w (by omega) (by omega) | exact ok_s (by omega) (by omega) | exact ok_c (by omega) rfl | assumption) (vp_nat (by omega) (by decide)) ?_
        rw [nI_clamp (show 18 + 6 * w + 3 < 2 ^ 31 by omega)]
        refine v_ishl hC (pc := 59) dX7_adds_59 ?_
        refine v_ior hC (pc := 60) dX7_adds_60 ?_
        try simp only [nL_0, nL_1, nL_2, nL_3, nL_4, nL_5, nL_6, nL_8, nL_16, nL_17, nL_18, nL_40, nL_42, nL_43, nL_47, nL_48, nL_64, nL_80, pk_mul, nI_add]
        refine v_iast hC (pc := 61) dX7_adds_61 rfl (by first | rfl | exact ok_c hq rfl | exact ok_w hq hw | exact ok_w (by omega) (by omega) | exact ok_s (by omega) (by omega) | exact ok_c (by omega) rfl | assumption) (vp_nat (by omega) (by decide)) ?_
        refine v_aload_n hC (pc := 62) (k := 0) 1 rfl dX7_adds_62 ?_
        refine v_getR hC (pc := 63) dX7_adds_63 fl_X7_7 rfl (by first | rfl | exact ok_c hq rfl | exact ok_w hq hw | exact ok_w (by omega) (by omega) | exact ok_s (by omega) (by omega) | exact ok_c (by omega) rfl | assumption) rfl (by decide) (by decide) rfl ?_
        refine v_iload_n hC (pc := 66) (k := 3) 0 rfl dX7_adds_66 ?_
        refine v_iconst hC (pc := 67) (v := 3) (by decide) dX7_adds_67 ?_
        refine v_iadd hC (pc := 68) dX7_adds_68 ?_
        refine v_dup2 hC (pc := 69) dX7_adds_69 ?_
        try simp only [nL_0, nL_1, nL_2, nL_3, nL_4, nL_5, nL_6, nL_8, nL_16, nL_17, nL_18, nL_40, nL_42, nL_43, nL_47, nL_48, nL_64, nL_80, pk_mul, nI_add]
        refine v_iald hC (pc := 70) dX7_adds_70 rfl (by first | rfl | exact ok_c hq rfl | exact ok_w hq hw | exact ok_w (by omega) (by omega) | exact ok_s (by omega) (by omega) | exact ok_c (by omega) rfl | assumption) (vp_nat (by omega) (by decide)) ?_
        refine v_iconst hC (pc := 71) (v := 1) (by decide) dX7_adds_71 ?_
        refine v_iadd hC (pc := 72) dX7_adds_72 ?_
        try simp only [nL_0, nL_1, nL_2, nL_3, nL_4, nL_5, nL_6, nL_8, nL_16, nL_17, nL_18, nL_40, nL_42, nL_43, nL_47, nL_48, nL_64, nL_80, pk_mul, nI_add]
        refine v_iast hC (pc := 73) dX7_adds_73 rfl (by first | rfl | exact ok_c hq rfl | exact ok_w hq hw | exact ok_w (by omega) (by omega) | exact ok_s (by omega) (by omega) | exact ok_c (by omega) rfl | assumption) (vp_nat (by omega) (by decide)) ?_
        refine v_aload_n hC (pc := 74) (k := 0) 1 rfl dX7_adds_74 ?_
        refine v_getR hC (pc := 75) dX7_adds_75 fl_X7_7 rfl (by first | rfl | exact ok_c hq rfl | exact ok_w hq hw | exact ok_w (by omega) (by omega) | exact ok_s (by omega) (by omega) | exact ok_c (by omega) rfl | assumption) rfl (by decide) (by decide) rfl ?_
        refine v_iload_n hC (pc := 78) (k := 3) 0 rfl dX7_adds_78 ?_
        refine v_iconst hC (pc := 79) (v := 3) (by decide) dX7_adds_79 ?_
        refine v_iadd hC (pc := 80) dX7_adds_80 ?_
        try simp only [nL_0, nL_1, nL_2, nL_3, nL_4, nL_5, nL_6, nL_8, nL_16, nL_17, nL_18, nL_40, nL_42, nL_43, nL_47, nL_48, nL_64, nL_80, pk_mul, nI_add]
        refine v_iald hC (pc := 81) dX7_adds_81 rfl (by first | rfl | exact ok_c hq rfl | exact ok_w hq hw | exact ok_w (by omega) (by omega) | exact ok_s (by omega) (by omega) | exact ok_c (by omega) rfl | assumption) (vp_nat (by omega) (by decide)) ?_
        refine v_iret hC hX (pc := 82) dX7_adds_82 ?_
        have e9 : nI n + 1 = nI (n + 1) := (nI_succ n).symm
        have e8 : (nI (18 + 6 * w + 3)).toNatClampNeg = 18 + 6 * w + 3 := nI_clamp (by omega)
        have e7 : (nI (18 + 6 * w + 4)).toNatClampNeg = 18 + 6 * w + 4 := nI_clamp (by omega)
        have e6 : ¬ 18 + 6 * w + 3 = 18 + 6 * w + 4 := by omega
        refine ⟨?_, ?_⟩
        · simp [upI, e8, e7, e9, hln, nI_add]
        · simp [upI, e8, e7, e9, hln, nI_add]
      · exact absurd ((nI_eq (by omega) (by decide)).mp (show nI n = nI 10 from c_35)) (by omega)
    · exact absurd c_12 (by decide)

set_option maxRecDepth 20000 in
set_option maxHeartbeats 2000000 in
theorem m_adds_full (l9 : Launch) (G : WT) {d : Nat} (hd : 3 ≤ d) (h : HP) {nW : Nat} (hn4 : nW ≤ 4) (hnw : h.1 (3, 0, 0) 4 = nI nW) {w s : Nat} (hw : w < nW) (hs : s < 2) (hln : h.1 (3, 0, 1) (18 + 6 * w + 3) = nI 10) : MS l9 G yX7_adds cX7_adds 4 (some .int) d [vr (3, 0, 0), vi (nI w), vi (nI s)] h (fun r h1 => h1 = h ∧ r = some (vi (-3))) := by
  refine MS_of (by decide +kernel) (Nat.le_of_ble_eq_true rfl) (fun X hC hX => ?_)
  show V X G 4 0 _ [] _
  refine v_aload_n hC (pc := 0) (k := 0) 0 rfl dX7_adds_0 ?_
  refine v_iload_n hC (pc := 1) (k := 1) 1 rfl dX7_adds_1 ?_
  refine v_callV hC (pc := 2) (As := [_]) dX7_adds_2 rfl (m_isWalker_t _ _ (d := d - 1) (by omega) _ (c := w) (by assumption) hn4 hnw) cv_X7_216 rfl (by decide) rfl (by first | rfl | exact ok_c hq rfl | exact ok_w hq hw | exact ok_w (by omega) (by omega) | exact ok_s (by omega) (by omega) | exact ok_c (by omega) rfl | assumption) (Nat.le_of_ble_eq_true rfl) (by omega) (fun r h' hr => ?_)
  obtain ⟨he9, rfl⟩ := hr
  rw [he9]
  clear he9 h'
  show V _ _ _ (2 + 3) _ (_ :: _) _
  refine v_if_eq hC (pc := 5) (tgt := 15) dX7_adds_5 (by decide) (fun c_5 => ?_) (fun c_5 => ?_)
  · exact absurd c_5 (by decide)
  · skip
    refine v_iload_n hC (pc := 8) (k := 2) 2 rfl dX7_adds_8 ?_
    refine v_callS hC (pc := 9) (As := [_]) dX7_adds_9 rfl (m_isPart_t _ _ (d := d - 1) (by omega) _ (s := s) (by assumption)) cs_X7_213 (Nat.le_of_ble_eq_true rfl) (by omega) (fun r h' hr => ?_)
    obtain ⟨he9, rfl⟩ := hr
    rw [he9]
    clear he9 h'
    show V _ _ _ (9 + 3) _ (_ :: _) _
    refine v_if_ne hC (pc := 12) (tgt := 17) dX7_adds_12 (by decide) (fun c_12 => ?_) (fun c_12 => ?_)
    · skip
      refine v_bipush hC (pc := 17) (v := 18) (by decide +kernel) dX7_adds_17 ?_
      refine v_bipush hC (pc := 19) (v := 6) (by decide +kernel) dX7_adds_19 ?_
      refine v_iload_n hC (pc := 21) (k := 1) 1 rfl dX7_adds_21 ?_
      refine v_imul hC (pc := 22) dX7_adds_22 ?_
      refine v_iadd hC (pc := 23) dX7_adds_23 ?_
      rw [show (18 : Int32) + 6 * nI w = nI (18 + 6 * w) from by rw [nL_18, nL_6, pk_mul, nI_add]]
      refine v_istore_n hC (pc := 24) (l' := [(3, _), (0, _), (1, _), (2, _)]) dX7_adds_24 (by decide) rfl ?_
      refine v_aload_n hC (pc := 25) (k := 0) 1 rfl dX7_adds_25 ?_
      refine v_getR hC (pc := 26) dX7_adds_26 fl_X7_7 rfl (by first | rfl | exact ok_c hq rfl | exact ok_w hq hw | exact ok_w (by omega) (by omega) | exact ok_s (by omega) (by omega) | exact ok_c (by omega) rfl | assumption) rfl (by decide) (by decide) rfl ?_
      refine v_iload_n hC (pc := 29) (k := 3) 0 rfl dX7_adds_29 ?_
      refine v_iconst hC (pc := 30) (v := 3) (by decide) dX7_adds_30 ?_
      refine v_iadd hC (pc := 31) dX7_adds_31 ?_
      try simp only [nL_0, nL_1, nL_2, nL_3, nL_4, nL_5, nL_6, nL_8, nL_16, nL_17, nL_18, nL_40, nL_42, nL_43, nL_47, nL_48, nL_64, nL_80, pk_mul, nI_add]
      refine v_iald hC (pc := 32) dX7_adds_32 rfl (by first | rfl | exact ok_c hq rfl | exact ok_w hq hw | exact ok_w (by omega) (by omega) | exact ok_s (by omega) (by omega) | exact ok_c (by omega) rfl | assumption) (vp_nat (by omega) (by decide)) ?_
      rw [nI_clamp (show 18 + 6 * w + 3 < 2 ^ 31 by omega), hln]
      refine v_bipush hC (pc := 33) (v := 10) (by decide +kernel) dX7_adds_33 ?_
      refine v_icmp_ne hC (pc := 35) (tgt := 41) dX7_adds_35 (by decide) (fun c_35 => ?_) (fun c_35 => ?_)
      · exact absurd rfl c_35
      · skip
        refine v_bipush hC (pc := 38) (v := (-3)) (by decide +kernel) dX7_adds_38 ?_
        refine v_iret hC hX (pc := 40) dX7_adds_40 ?_
        exact ⟨rfl, rfl⟩
    · exact absurd c_12 (by decide)

set_option maxRecDepth 20000 in
set_option maxHeartbeats 2000000 in
theorem m_adds_bad (l9 : Launch) (G : WT) {d : Nat} (hd : 3 ≤ d) (h : HP) {nW : Nat} (hn4 : nW ≤ 4) (hnw : h.1 (3, 0, 0) 4 = nI nW) (w s : Int32) (hbad : ¬ ((¬ w < 0 ∧ ¬ nI nW ≤ w) ∧ (s = 0 ∨ s = 1))) : MS l9 G yX7_adds cX7_adds 4 (some .int) d [vr (3, 0, 0), vi w, vi s] h (fun r h1 => h1 = h ∧ r = some (vi (-1))) := by
  refine MS_of (by decide +kernel) (Nat.le_of_ble_eq_true rfl) (fun X hC hX => ?_)
  show V X G 4 0 _ [] _
  refine v_aload_n hC (pc := 0) (k := 0) 0 rfl dX7_adds_0 ?_
  refine v_iload_n hC (pc := 1) (k := 1) 1 rfl dX7_adds_1 ?_
  refine v_callV hC (pc := 2) (As := [_]) dX7_adds_2 rfl (m_isWalker _ _ (d := d - 1) (by omega) _ hn4 hnw _) cv_X7_216 rfl (by decide) rfl (by first | rfl | exact ok_c hq rfl | exact ok_w hq hw | exact ok_w (by omega) (by omega) | exact ok_s (by omega) (by omega) | exact ok_c (by omega) rfl | assumption) (Nat.le_of_ble_eq_true rfl) (by omega) (fun r h' hr => ?_)
  obtain ⟨he9, rfl⟩ := hr
  rw [he9]
  clear he9 h'
  show V _ _ _ (2 + 3) _ (_ :: _) _
  refine v_ifb_eq hC (pc := 5) (tgt := 15) dX7_adds_5 (by decide) (fun c_5 => ?_) (fun c_5 => ?_)
  · skip
    refine v_iconst hC (pc := 15) (v := (-1)) (by decide) dX7_adds_15 ?_
    refine v_iret hC hX (pc := 16) dX7_adds_16 ?_
    exact ⟨rfl, rfl⟩
  · skip
    refine v_iload_n hC (pc := 8) (k := 2) 2 rfl dX7_adds_8 ?_
    refine v_callS hC (pc := 9) (As := [_]) dX7_adds_9 rfl (m_isPart _ _ (d := d - 1) (by omega) _ _) cs_X7_213 (Nat.le_of_ble_eq_true rfl) (by omega) (fun r h' hr => ?_)
    obtain ⟨he9, rfl⟩ := hr
    rw [he9]
    clear he9 h'
    show V _ _ _ (9 + 3) _ (_ :: _) _
    refine v_ifb_ne hC (pc := 12) (tgt := 17) dX7_adds_12 (by decide) (fun c_12 => ?_) (fun c_12 => ?_)
    · skip
      exact absurd ⟨c_5, c_12⟩ hbad
    · skip
      refine v_iconst hC (pc := 15) (v := (-1)) (by decide) dX7_adds_15 ?_
      refine v_iret hC hX (pc := 16) dX7_adds_16 ?_
      exact ⟨rfl, rfl⟩

set_option maxRecDepth 20000 in
set_option maxHeartbeats 2000000 in
theorem m_keep_ok (l9 : Launch) (G : WT) {d : Nat} (hd : 3 ≤ d) (h : HP) {k : Nat} (hk : k < 2) : MS l9 G yX7_keep cX7_keep 3 (some .int) d [vr (3, 0, 0), vi (nI k)] h (fun r h1 => r = some (vi (flgF (h.1 (3, 0, 3) k))) ∧ h1 = upR (upI h (3, 0, 3) k 1) (3, 0, 1) (mvR (h.1 (3, 0, 1)) (80 * (k + 1)) 0 80)) := by
  refine MS_of (by decide +kernel) (Nat.le_of_ble_eq_true rfl) (fun X hC hX => ?_)
  show V X G 3 0 _ [] _
  refine v_iload_n hC (pc := 0) (k := 1) 1 rfl dX7_keep_0 ?_
  refine v_i2l hC (pc := 1) dX7_keep_1 ?_
  refine v_lconst hC (pc := 2) (v := 0) (by decide) dX7_keep_2 ?_
  refine v_lconst hC (pc := 3) (v := 1) (by decide) dX7_keep_3 ?_
  refine v_callS hC (pc := 4) (As := [_, _, _]) dX7_keep_4 rfl (m_in_t _ _ (d := d - 1) (by omega) _ (nI k) (0) (1) (⟨nI_pos (by omega), nI_nlt (show k ≤ 1 by omega) (by decide)⟩)) cs_X7_84 (Nat.le_of_ble_eq_true rfl) (by omega) (fun r h' hr => ?_)
  obtain ⟨he9, rfl⟩ := hr
  rw [he9]
  clear he9 h'
  show V _ _ _ (4 + 3) _ (_ :: _) _
  refine v_if_ne hC (pc := 7) (tgt := 12) dX7_keep_7 (by decide) (fun c_7 => ?_) (fun c_7 => ?_)
  · skip
    refine v_aload_n hC (pc := 12) (k := 0) 0 rfl dX7_keep_12 ?_
    refine v_getR hC (pc := 13) dX7_keep_13 fl_X7_16 rfl (by first | rfl | exact ok_c hq rfl | exact ok_w hq hw | exact ok_w (by omega) (by omega) | exact ok_s (by omega) (by omega) | exact ok_c (by omega) rfl | assumption) rfl (by decide) (by decide) rfl ?_
    refine v_iload_n hC (pc := 16) (k := 1) 1 rfl dX7_keep_16 ?_
    try simp only [nL_0, nL_1, nL_2, nL_3, nL_4, nL_5, nL_6, nL_8, nL_16, nL_17, nL_18, nL_40, nL_42, nL_43, nL_47, nL_48, nL_64, nL_80, pk_mul, nI_add]
    refine v_zald hC (pc := 17) dX7_keep_17 rfl (by first | rfl | exact ok_c hq rfl | exact ok_w hq hw | exact ok_w (by omega) (by omega) | exact ok_s (by omega) (by omega) | exact ok_c (by omega) rfl | assumption) (vp_nat (by omega) (by decide)) ?_
    refine v_callS hC (pc := 18) (As := [_]) dX7_keep_18 rfl (m_flag _ _ (d := d - 1) (by omega) _ _) cs_X7_147 (Nat.le_of_ble_eq_true rfl) (by omega) (fun r h' hr => ?_)
    obtain ⟨he9, rfl⟩ := hr
    rw [he9]
    clear he9 h'
    show V _ _ _ (18 + 3) _ (_ :: _) _
    refine v_istore_n hC (pc := 21) (l' := [(2, _), (0, _), (1, _)]) dX7_keep_21 (by decide) rfl ?_
    refine v_aload_n hC (pc := 22) (k := 0) 1 rfl dX7_keep_22 ?_
    refine v_getR hC (pc := 23) dX7_keep_23 fl_X7_16 rfl (by first | rfl | exact ok_c hq rfl | exact ok_w hq hw | exact ok_w (by omega) (by omega) | exact ok_s (by omega) (by omega) | exact ok_c (by omega) rfl | assumption) rfl (by decide) (by decide) rfl ?_
    refine v_iload_n hC (pc := 26) (k := 1) 2 rfl dX7_keep_26 ?_
    refine v_iconst hC (pc := 27) (v := 1) (by decide) dX7_keep_27 ?_
    try simp only [nL_0, nL_1, nL_2, nL_3, nL_4, nL_5, nL_6, nL_8, nL_16, nL_17, nL_18, nL_40, nL_42, nL_43, nL_47, nL_48, nL_64, nL_80, pk_mul, nI_add]
    refine v_zast hC (pc := 28) dX7_keep_28 rfl (by first | rfl | exact ok_c hq rfl | exact ok_w hq hw | exact ok_w (by omega) (by omega) | exact ok_s (by omega) (by omega) | exact ok_c (by omega) rfl | assumption) (vp_nat (by omega) (by decide)) ?_
    refine v_aload_n hC (pc := 29) (k := 0) 1 rfl dX7_keep_29 ?_
    refine v_bipush hC (pc := 30) (v := 80) (by decide +kernel) dX7_keep_30 ?_
    refine v_iload_n hC (pc := 32) (k := 1) 2 rfl dX7_keep_32 ?_
    refine v_iconst hC (pc := 33) (v := 1) (by decide) dX7_keep_33 ?_
    refine v_iadd hC (pc := 34) dX7_keep_34 ?_
    refine v_imul hC (pc := 35) dX7_keep_35 ?_
    rw [show (80 : Int32) * (nI k + 1) = nI (80 * (k + 1)) from by rw [nL_80, nL_1, nI_add, pk_mul]]
    refine v_iconst hC (pc := 36) (v := 0) (by decide) dX7_keep_36 ?_
    rw [show (0 : Int32) = nI 0 from rfl]
    refine v_callV hC (pc := 37) (As := [_, _]) dX7_keep_37 rfl (m_copies _ _ (d := d - 1) (by omega) _ (to := 80 * (k + 1)) (fr := 0) (by omega) (by omega) (by omega)) cv_X7_297 rfl (by decide) rfl (by first | rfl | exact ok_c hq rfl | exact ok_w hq hw | exact ok_w (by omega) (by omega) | exact ok_s (by omega) (by omega) | exact ok_c (by omega) rfl | assumption) (Nat.le_of_ble_eq_true rfl) (by omega) (fun r h' hr => ?_)
    obtain ⟨rfl, rfl⟩ := hr
    show V _ _ _ (37 + 3) _ _ _
    refine v_iload_n hC (pc := 40) (k := 2) 0 rfl dX7_keep_40 ?_
    refine v_iret hC hX (pc := 41) dX7_keep_41 ?_
    refine ⟨by rw [nI_clamp (show k < 2 ^ 31 by omega)], ?_⟩
    rw [upI_ne h _ _ (show ((3, 0, 1) : PId) ≠ (3, 0, 3) by decide), nI_clamp (show k < 2 ^ 31 by omega)]
    rfl
  · exact absurd c_7 (by decide)

set_option maxRecDepth 20000 in
set_option maxHeartbeats 2000000 in
theorem m_keep_bad (l9 : Launch) (G : WT) {d : Nat} (hd : 3 ≤ d) (h : HP) (k : Int32) (hbad : ¬ (¬ k < 0 ∧ ¬ 1 < k)) : MS l9 G yX7_keep cX7_keep 3 (some .int) d [vr (3, 0, 0), vi k] h (fun r h1 => h1 = h ∧ r = some (vi (-1))) := by
  refine MS_of (by decide +kernel) (Nat.le_of_ble_eq_true rfl) (fun X hC hX => ?_)
  show V X G 3 0 _ [] _
  refine v_iload_n hC (pc := 0) (k := 1) 1 rfl dX7_keep_0 ?_
  refine v_i2l hC (pc := 1) dX7_keep_1 ?_
  refine v_lconst hC (pc := 2) (v := 0) (by decide) dX7_keep_2 ?_
  refine v_lconst hC (pc := 3) (v := 1) (by decide) dX7_keep_3 ?_
  refine v_callS hC (pc := 4) (As := [_, _, _]) dX7_keep_4 rfl (m_in _ _ (d := d - 1) (by omega) _ (k) (0) (1)) cs_X7_84 (Nat.le_of_ble_eq_true rfl) (by omega) (fun r h' hr => ?_)
  obtain ⟨he9, rfl⟩ := hr
  rw [he9]
  clear he9 h'
  show V _ _ _ (4 + 3) _ (_ :: _) _
  refine v_ifb_ne hC (pc := 7) (tgt := 12) dX7_keep_7 (by decide) (fun c_7 => ?_) (fun c_7 => ?_)
  · skip
    exact absurd c_7 hbad
  · skip
    refine v_iconst hC (pc := 10) (v := (-1)) (by decide) dX7_keep_10 ?_
    refine v_iret hC hX (pc := 11) dX7_keep_11 ?_
    exact ⟨rfl, rfl⟩

set_option maxRecDepth 20000 in
set_option maxHeartbeats 2000000 in
theorem m_back_ok (l9 : Launch) (G : WT) {d : Nat} (hd : 3 ≤ d) (h : HP) {k : Nat} (hk : k < 2) (hkp : ¬ h.1 (3, 0, 3) k = 0) : MS l9 G yX7_back cX7_back 2 (some .int) d [vr (3, 0, 0), vi (nI k)] h (fun r h1 => r = some (vi (h.1 (3, 0, 1) (80 * (k + 1) + 17))) ∧ h1 = upR h (3, 0, 1) (mvR (h.1 (3, 0, 1)) 0 (80 * (k + 1)) 80)) := by
  refine MS_of (by decide +kernel) (Nat.le_of_ble_eq_true rfl) (fun X hC hX => ?_)
  show V X G 2 0 _ [] _
  refine v_iload_n hC (pc := 0) (k := 1) 1 rfl dX7_back_0 ?_
  refine v_i2l hC (pc := 1) dX7_back_1 ?_
  refine v_lconst hC (pc := 2) (v := 0) (by decide) dX7_back_2 ?_
  refine v_lconst hC (pc := 3) (v := 1) (by decide) dX7_back_3 ?_
  refine v_callS hC (pc := 4) (As := [_, _, _]) dX7_back_4 rfl (m_in_t _ _ (d := d - 1) (by omega) _ (nI k) (0) (1) (⟨nI_pos (by omega), nI_nlt (show k ≤ 1 by omega) (by decide)⟩)) cs_X7_84 (Nat.le_of_ble_eq_true rfl) (by omega) (fun r h' hr => ?_)
  obtain ⟨he9, rfl⟩ := hr
  rw [he9]
  clear he9 h'
  show V _ _ _ (4 + 3) _ (_ :: _) _
  refine v_if_ne hC (pc := 7) (tgt := 12) dX7_back_7 (by decide) (fun c_7 => ?_) (fun c_7 => ?_)
  · skip
    refine v_aload_n hC (pc := 12) (k := 0) 0 rfl dX7_back_12 ?_
    refine v_getR hC (pc := 13) dX7_back_13 fl_X7_16 rfl (by first | rfl | exact ok_c hq rfl | exact ok_w hq hw | exact ok_w (by omega) (by omega) | exact ok_s (by omega) (by omega) | exact ok_c (by omega) rfl | assumption) rfl (by decide) (by decide) rfl ?_
    refine v_iload_n hC (pc := 16) (k := 1) 1 rfl dX7_back_16 ?_
    try simp only [nL_0, nL_1, nL_2, nL_3, nL_4, nL_5, nL_6, nL_8, nL_16, nL_17, nL_18, nL_40, nL_42, nL_43, nL_47, nL_48, nL_64, nL_80, pk_mul, nI_add]
    refine v_zald hC (pc := 17) dX7_back_17 rfl (by first | rfl | exact ok_c hq rfl | exact ok_w hq hw | exact ok_w (by omega) (by omega) | exact ok_s (by omega) (by omega) | exact ok_c (by omega) rfl | assumption) (vp_nat (by omega) (by decide)) ?_
    rw [nI_clamp (show k < 2 ^ 31 by omega)]
    refine v_if_ne hC (pc := 18) (tgt := 24) dX7_back_18 (by decide) (fun c_18 => ?_) (fun c_18 => ?_)
    · skip
      refine v_aload_n hC (pc := 24) (k := 0) 0 rfl dX7_back_24 ?_
      refine v_iconst hC (pc := 25) (v := 0) (by decide) dX7_back_25 ?_
      refine v_bipush hC (pc := 26) (v := 80) (by decide +kernel) dX7_back_26 ?_
      refine v_iload_n hC (pc := 28) (k := 1) 1 rfl dX7_back_28 ?_
      refine v_iconst hC (pc := 29) (v := 1) (by decide) dX7_back_29 ?_
      refine v_iadd hC (pc := 30) dX7_back_30 ?_
      refine v_imul hC (pc := 31) dX7_back_31 ?_
      rw [show (80 : Int32) * (nI k + 1) = nI (80 * (k + 1)) from by rw [nL_80, nL_1, nI_add, pk_mul]]
      rw [show (0 : Int32) = nI 0 from rfl]
      refine v_callV hC (pc := 32) (As := [_, _]) dX7_back_32 rfl (m_copies _ _ (d := d - 1) (by omega) _ (to := 0) (fr := 80 * (k + 1)) (by omega) (by omega) (by omega)) cv_X7_297 rfl (by decide) rfl (by first | rfl | exact ok_c hq rfl | exact ok_w hq hw | exact ok_w (by omega) (by omega) | exact ok_s (by omega) (by omega) | exact ok_c (by omega) rfl | assumption) (Nat.le_of_ble_eq_true rfl) (by omega) (fun r h' hr => ?_)
      obtain ⟨rfl, rfl⟩ := hr
      show V _ _ _ (32 + 3) _ _ _
      refine v_aload_n hC (pc := 35) (k := 0) 0 rfl dX7_back_35 ?_
      refine v_getR hC (pc := 36) dX7_back_36 fl_X7_7 rfl (by first | rfl | exact ok_c hq rfl | exact ok_w hq hw | exact ok_w (by omega) (by omega) | exact ok_s (by omega) (by omega) | exact ok_c (by omega) rfl | assumption) rfl (by decide) (by decide) rfl ?_
      refine v_bipush hC (pc := 39) (v := 17) (by decide +kernel) dX7_back_39 ?_
      try simp only [nL_0, nL_1, nL_2, nL_3, nL_4, nL_5, nL_6, nL_8, nL_16, nL_17, nL_18, nL_40, nL_42, nL_43, nL_47, nL_48, nL_64, nL_80, pk_mul, nI_add]
      refine v_iald hC (pc := 41) dX7_back_41 rfl (by first | rfl | exact ok_c hq rfl | exact ok_w hq hw | exact ok_w (by omega) (by omega) | exact ok_s (by omega) (by omega) | exact ok_c (by omega) rfl | assumption) (vp_nat (n := 17) (by omega) (by decide)) ?_
      refine v_iret hC hX (pc := 42) dX7_back_42 ?_
      refine ⟨?_, rfl⟩
      rw [upR_same]
      show some (vi (mvR (h.1 (3, 0, 1)) 0 (80 * (k + 1)) 80 17)) = _
      unfold mvR
      rw [if_pos ⟨Nat.zero_le _, by omega⟩]
    · exact absurd c_18 hkp
  · exact absurd c_7 (by decide)

set_option maxRecDepth 20000 in
set_option maxHeartbeats 2000000 in
theorem m_back_none (l9 : Launch) (G : WT) {d : Nat} (hd : 3 ≤ d) (h : HP) {k : Nat} (hk : k < 2) (hkp : h.1 (3, 0, 3) k = 0) : MS l9 G yX7_back cX7_back 2 (some .int) d [vr (3, 0, 0), vi (nI k)] h (fun r h1 => h1 = h ∧ r = some (vi (-2))) := by
  refine MS_of (by decide +kernel) (Nat.le_of_ble_eq_true rfl) (fun X hC hX => ?_)
  show V X G 2 0 _ [] _
  refine v_iload_n hC (pc := 0) (k := 1) 1 rfl dX7_back_0 ?_
  refine v_i2l hC (pc := 1) dX7_back_1 ?_
  refine v_lconst hC (pc := 2) (v := 0) (by decide) dX7_back_2 ?_
  refine v_lconst hC (pc := 3) (v := 1) (by decide) dX7_back_3 ?_
  refine v_callS hC (pc := 4) (As := [_, _, _]) dX7_back_4 rfl (m_in_t _ _ (d := d - 1) (by omega) _ (nI k) (0) (1) (⟨nI_pos (by omega), nI_nlt (show k ≤ 1 by omega) (by decide)⟩)) cs_X7_84 (Nat.le_of_ble_eq_true rfl) (by omega) (fun r h' hr => ?_)
  obtain ⟨he9, rfl⟩ := hr
  rw [he9]
  clear he9 h'
  show V _ _ _ (4 + 3) _ (_ :: _) _
  refine v_if_ne hC (pc := 7) (tgt := 12) dX7_back_7 (by decide) (fun c_7 => ?_) (fun c_7 => ?_)
  · skip
    refine v_aload_n hC (pc := 12) (k := 0) 0 rfl dX7_back_12 ?_
    refine v_getR hC (pc := 13) dX7_back_13 fl_X7_16 rfl (by first | rfl | exact ok_c hq rfl | exact ok_w hq hw | exact ok_w (by omega) (by omega) | exact ok_s (by omega) (by omega) | exact ok_c (by omega) rfl | assumption) rfl (by decide) (by decide) rfl ?_
    refine v_iload_n hC (pc := 16) (k := 1) 1 rfl dX7_back_16 ?_
    try simp only [nL_0, nL_1, nL_2, nL_3, nL_4, nL_5, nL_6, nL_8, nL_16, nL_17, nL_18, nL_40, nL_42, nL_43, nL_47, nL_48, nL_64, nL_80, pk_mul, nI_add]
    refine v_zald hC (pc := 17) dX7_back_17 rfl (by first | rfl | exact ok_c hq rfl | exact ok_w hq hw | exact ok_w (by omega) (by omega) | exact ok_s (by omega) (by omega) | exact ok_c (by omega) rfl | assumption) (vp_nat (by omega) (by decide)) ?_
    rw [nI_clamp (show k < 2 ^ 31 by omega)]
    refine v_if_ne hC (pc := 18) (tgt := 24) dX7_back_18 (by decide) (fun c_18 => ?_) (fun c_18 => ?_)
    · exact absurd hkp c_18
    · skip
      refine v_bipush hC (pc := 21) (v := (-2)) (by decide +kernel) dX7_back_21 ?_
      refine v_iret hC hX (pc := 23) dX7_back_23 ?_
      exact ⟨rfl, rfl⟩
  · exact absurd c_7 (by decide)

set_option maxRecDepth 20000 in
set_option maxHeartbeats 2000000 in
theorem m_back_bad (l9 : Launch) (G : WT) {d : Nat} (hd : 3 ≤ d) (h : HP) (k : Int32) (hbad : ¬ (¬ k < 0 ∧ ¬ 1 < k)) : MS l9 G yX7_back cX7_back 2 (some .int) d [vr (3, 0, 0), vi k] h (fun r h1 => h1 = h ∧ r = some (vi (-1))) := by
  refine MS_of (by decide +kernel) (Nat.le_of_ble_eq_true rfl) (fun X hC hX => ?_)
  show V X G 2 0 _ [] _
  refine v_iload_n hC (pc := 0) (k := 1) 1 rfl dX7_back_0 ?_
  refine v_i2l hC (pc := 1) dX7_back_1 ?_
  refine v_lconst hC (pc := 2) (v := 0) (by decide) dX7_back_2 ?_
  refine v_lconst hC (pc := 3) (v := 1) (by decide) dX7_back_3 ?_
  refine v_callS hC (pc := 4) (As := [_, _, _]) dX7_back_4 rfl (m_in _ _ (d := d - 1) (by omega) _ (k) (0) (1)) cs_X7_84 (Nat.le_of_ble_eq_true rfl) (by omega) (fun r h' hr => ?_)
  obtain ⟨he9, rfl⟩ := hr
  rw [he9]
  clear he9 h'
  show V _ _ _ (4 + 3) _ (_ :: _) _
  refine v_ifb_ne hC (pc := 7) (tgt := 12) dX7_back_7 (by decide) (fun c_7 => ?_) (fun c_7 => ?_)
  · skip
    exact absurd c_7 hbad
  · skip
    refine v_iconst hC (pc := 10) (v := (-1)) (by decide) dX7_back_10 ?_
    refine v_iret hC hX (pc := 11) dX7_back_11 ?_
    exact ⟨rfl, rfl⟩

set_option maxRecDepth 20000 in
set_option maxHeartbeats 2000000 in
theorem m_forget_ok (l9 : Launch) (G : WT) {d : Nat} (hd : 3 ≤ d) (h : HP) {nS : Nat} (hs8 : nS ≤ 8) (hns : h.1 (3, 0, 1) 47 = nI nS) {n : Nat} (hn : n ≤ nS) : MS l9 G yX7_forget cX7_forget 2 (some .int) d [vr (3, 0, 0), vi (nI n)] h (fun r h1 => r = some (vi (h.1 (3, 0, 1) (47))) ∧ h1 = upI h (3, 0, 1) (47) (nI n)) := by
  refine MS_of (by decide +kernel) (Nat.le_of_ble_eq_true rfl) (fun X hC hX => ?_)
  show V X G 2 0 _ [] _
  refine v_iload_n hC (pc := 0) (k := 1) 1 rfl dX7_forget_0 ?_
  refine v_i2l hC (pc := 1) dX7_forget_1 ?_
  refine v_lconst hC (pc := 2) (v := 0) (by decide) dX7_forget_2 ?_
  refine v_aload_n hC (pc := 3) (k := 0) 0 rfl dX7_forget_3 ?_
  refine v_getR hC (pc := 4) dX7_forget_4 fl_X7_7 rfl (by first | rfl | exact ok_c hq rfl | exact ok_w hq hw | exact ok_w (by omega) (by omega) | exact ok_s (by omega) (by omega) | exact ok_c (by omega) rfl | assumption) rfl (by decide) (by decide) rfl ?_
  refine v_bipush hC (pc := 7) (v := 47) (by decide +kernel) dX7_forget_7 ?_
  try simp only [nL_0, nL_1, nL_2, nL_3, nL_4, nL_5, nL_6, nL_8, nL_16, nL_17, nL_18, nL_40, nL_42, nL_43, nL_47, nL_48, nL_64, nL_80, pk_mul, nI_add]
  refine v_iald hC (pc := 9) dX7_forget_9 rfl (by first | rfl | exact ok_c hq rfl | exact ok_w hq hw | exact ok_w (by omega) (by omega) | exact ok_s (by omega) (by omega) | exact ok_c (by omega) rfl | assumption) (vp_nat (n := 47) (by omega) (by decide)) ?_
  show V X G 2 10 _ (vi (h.1 (3, 0, 1) 47) :: _) _
  rw [hns]
  refine v_i2l hC (pc := 10) dX7_forget_10 ?_
  refine v_callS hC (pc := 11) (As := [_, _, _]) dX7_forget_11 rfl (m_in_t _ _ (d := d - 1) (by omega) _ (nI n) (0) (nI nS) (⟨nI_pos (by omega), nI_nlt hn (by omega)⟩)) cs_X7_84 (Nat.le_of_ble_eq_true rfl) (by omega) (fun r h' hr => ?_)
  obtain ⟨he9, rfl⟩ := hr
  rw [he9]
  clear he9 h'
  show V _ _ _ (11 + 3) _ (_ :: _) _
  refine v_if_eq hC (pc := 14) (tgt := 27) dX7_forget_14 (by decide) (fun c_14 => ?_) (fun c_14 => ?_)
  · exact absurd c_14 (by decide)
  · skip
    refine v_aload_n hC (pc := 17) (k := 0) 0 rfl dX7_forget_17 ?_
    refine v_bipush hC (pc := 18) (v := 47) (by decide +kernel) dX7_forget_18 ?_
    rw [nL_47]
    refine v_iload_n hC (pc := 20) (k := 1) 1 rfl dX7_forget_20 ?_
    refine v_callV hC (pc := 21) (As := [_, _]) dX7_forget_21 rfl (m_becomes _ _ (d := d - 1) (by omega) _ (k := 47) (by omega) _) cv_X7_228 rfl (by decide) rfl (by first | rfl | exact ok_c hq rfl | exact ok_w hq hw | exact ok_w (by omega) (by omega) | exact ok_s (by omega) (by omega) | exact ok_c (by omega) rfl | assumption) (Nat.le_of_ble_eq_true rfl) (by omega) (fun r h' hr => ?_)
    obtain ⟨rfl, rfl⟩ := hr
    show V _ _ _ (21 + 3) _ (_ :: _) _
    refine v_goto hC (pc := 24) (tgt := 28) dX7_forget_24 (by decide) ?_
    refine v_iret hC hX (pc := 28) dX7_forget_28 ?_
    exact ⟨rfl, rfl⟩

set_option maxRecDepth 20000 in
set_option maxHeartbeats 2000000 in
theorem m_forget_bad (l9 : Launch) (G : WT) {d : Nat} (hd : 3 ≤ d) (h : HP) {nS : Nat} (hs8 : nS ≤ 8) (hns : h.1 (3, 0, 1) 47 = nI nS) (n : Int32) (hbad : ¬ (¬ n < 0 ∧ ¬ nI nS < n)) : MS l9 G yX7_forget cX7_forget 2 (some .int) d [vr (3, 0, 0), vi n] h (fun r h1 => h1 = h ∧ r = some (vi (-1))) := by
  refine MS_of (by decide +kernel) (Nat.le_of_ble_eq_true rfl) (fun X hC hX => ?_)
  show V X G 2 0 _ [] _
  refine v_iload_n hC (pc := 0) (k := 1) 1 rfl dX7_forget_0 ?_
  refine v_i2l hC (pc := 1) dX7_forget_1 ?_
  refine v_lconst hC (pc := 2) (v := 0) (by decide) dX7_forget_2 ?_
  refine v_aload_n hC (pc := 3) (k := 0) 0 rfl dX7_forget_3 ?_
  refine v_getR hC (pc := 4) dX7_forget_4 fl_X7_7 rfl (by first | rfl | exact ok_c hq rfl | exact ok_w hq hw | exact ok_w (by omega) (by omega) | exact ok_s (by omega) (by omega) | exact ok_c (by omega) rfl | assumption) rfl (by decide) (by decide) rfl ?_
  refine v_bipush hC (pc := 7) (v := 47) (by decide +kernel) dX7_forget_7 ?_
  try simp only [nL_0, nL_1, nL_2, nL_3, nL_4, nL_5, nL_6, nL_8, nL_16, nL_17, nL_18, nL_40, nL_42, nL_43, nL_47, nL_48, nL_64, nL_80, pk_mul, nI_add]
  refine v_iald hC (pc := 9) dX7_forget_9 rfl (by first | rfl | exact ok_c hq rfl | exact ok_w hq hw | exact ok_w (by omega) (by omega) | exact ok_s (by omega) (by omega) | exact ok_c (by omega) rfl | assumption) (vp_nat (n := 47) (by omega) (by decide)) ?_
  show V X G 2 10 _ (vi (h.1 (3, 0, 1) 47) :: _) _
  rw [hns]
  refine v_i2l hC (pc := 10) dX7_forget_10 ?_
  refine v_callS hC (pc := 11) (As := [_, _, _]) dX7_forget_11 rfl (m_in _ _ (d := d - 1) (by omega) _ (n) (0) (nI nS)) cs_X7_84 (Nat.le_of_ble_eq_true rfl) (by omega) (fun r h' hr => ?_)
  obtain ⟨he9, rfl⟩ := hr
  rw [he9]
  clear he9 h'
  show V _ _ _ (11 + 3) _ (_ :: _) _
  refine v_ifb_eq hC (pc := 14) (tgt := 27) dX7_forget_14 (by decide) (fun c_14 => ?_) (fun c_14 => ?_)
  · skip
    refine v_iconst hC (pc := 27) (v := (-1)) (by decide) dX7_forget_27 ?_
    refine v_iret hC hX (pc := 28) dX7_forget_28 ?_
    exact ⟨rfl, rfl⟩
  · skip
    exact absurd c_14 hbad

