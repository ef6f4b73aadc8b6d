/-! THE REFERENCE: more of what its calls change and answer -/
set_option maxRecDepth 20000 in
set_option maxHeartbeats 2000000 in
theorem m_see_ok (l9 : Launch) (G : WT) {d : Nat} (hd : 3 ≤ d) (h : HP) {nC : Nat} (hn8 : nC ≤ 8) (hnc : h.1 (3, 0, 0) 3 = nI nC) {nW : Nat} (hn4 : nW ≤ 4) (hnw : h.1 (3, 0, 0) 4 = nI nW) {nS : Nat} (hns : h.1 (3, 0, 1) 47 = nI nS) (hs8 : nS < 8) {w n c : Nat} (hw : w < nW) (hn : n ≤ 10) (hc : c < nC) (b : Int32) : MS l9 G yX7_see cX7_see 6 (some .int) d [vr (3, 0, 0), vi (nI w), vi (nI n), vi (nI c), vi b] h (fun r h1 => r = some (vi (nI (nS + 1))) ∧ h1 = upI (upI (upI (upI (upI h (3, 0, 1) (48 + 4 * nS) (nI w)) (3, 0, 1) (48 + 4 * nS + 1) (nI n)) (3, 0, 1) (48 + 4 * nS + 2) (nI c)) (3, 0, 1) (48 + 4 * nS + 3) (flgF b)) (3, 0, 1) 47 (nI (nS + 1))) := by
  refine MS_of (by decide +kernel) (Nat.le_of_ble_eq_true rfl) (fun X hC hX => ?_)
  show V X G 6 0 _ [] _
  refine v_aload_n hC (pc := 0) (k := 0) 0 rfl dX7_see_0 ?_
  refine v_iload_n hC (pc := 1) (k := 1) 1 rfl dX7_see_1 ?_
  refine v_callV hC (pc := 2) (As := [_]) dX7_see_2 rfl (m_isWalker_t _ _ (d := d - 1) (by omega) _ (c := w) (by assumption) hn4 hnw) cv_X7_216 rfl (by decide) rfl (by first | rfl | exact ok_c hq rfl | exact ok_w hq hw | exact ok_w (by omega) (by omega) | exact ok_s (by omega) (by omega) | exact ok_c (by omega) rfl | assumption) (Nat.le_of_ble_eq_true rfl) (by omega) (fun r h' hr => ?_)
  obtain ⟨he9, rfl⟩ := hr
  rw [he9]
  clear he9 h'
  show V _ _ _ (2 + 3) _ (_ :: _) _
  refine v_if_eq hC (pc := 5) (tgt := 28) dX7_see_5 (by decide) (fun c_5 => ?_) (fun c_5 => ?_)
  · exact absurd c_5 (by decide)
  · skip
    refine v_iload_n hC (pc := 8) (k := 2) 2 rfl dX7_see_8 ?_
    refine v_i2l hC (pc := 9) dX7_see_9 ?_
    refine v_lconst hC (pc := 10) (v := 0) (by decide) dX7_see_10 ?_
    refine v_ldc2 hC (pc := 11) k_X7_248 dX7_see_11 ?_
    refine v_callS hC (pc := 14) (As := [_, _, _]) dX7_see_14 rfl (m_in_t _ _ (d := d - 1) (by omega) _ (nI n) (0) (10) (⟨nI_pos (by omega), nI_nlt (show n ≤ 10 by omega) (by decide)⟩)) cs_X7_84 (Nat.le_of_ble_eq_true rfl) (by omega) (fun r h' hr => ?_)
    obtain ⟨he9, rfl⟩ := hr
    rw [he9]
    clear he9 h'
    show V _ _ _ (14 + 3) _ (_ :: _) _
    refine v_if_eq hC (pc := 17) (tgt := 28) dX7_see_17 (by decide) (fun c_17 => ?_) (fun c_17 => ?_)
    · exact absurd c_17 (by decide)
    · skip
      refine v_aload_n hC (pc := 20) (k := 0) 0 rfl dX7_see_20 ?_
      refine v_iload_n hC (pc := 21) (k := 3) 3 rfl dX7_see_21 ?_
      refine v_callV hC (pc := 22) (As := [_]) dX7_see_22 rfl (m_isCorner_t _ _ (d := d - 1) (by omega) _ (c := c) (by assumption) hn8 hnc) cv_X7_210 rfl (by decide) rfl (by first | rfl | exact ok_c hq rfl | exact ok_w hq hw | exact ok_w (by omega) (by omega) | exact ok_s (by omega) (by omega) | exact ok_c (by omega) rfl | assumption) (Nat.le_of_ble_eq_true rfl) (by omega) (fun r h' hr => ?_)
      obtain ⟨he9, rfl⟩ := hr
      rw [he9]
      clear he9 h'
      show V _ _ _ (22 + 3) _ (_ :: _) _
      refine v_if_ne hC (pc := 25) (tgt := 30) dX7_see_25 (by decide) (fun c_25 => ?_) (fun c_25 => ?_)
      · skip
        refine v_aload_n hC (pc := 30) (k := 0) 0 rfl dX7_see_30 ?_
        refine v_getR hC (pc := 31) dX7_see_31 fl_X7_7 rfl (by first | rfl | exact ok_c hq rfl | exact ok_w hq hw | exact ok_w (by omega) (by omega) | exact ok_s (by omega) (by omega) | exact ok_c (by omega) rfl | assumption) rfl (by decide) (by decide) rfl ?_
        refine v_bipush hC (pc := 34) (v := 47) (by decide +kernel) dX7_see_34 ?_
        try simp only [nL_0, nL_1, nL_2, nL_3, nL_4, nL_5, nL_6, nL_8, nL_16, nL_17, nL_18, nL_40, nL_42, nL_43, nL_47, nL_48, nL_64, nL_80, pk_mul, nI_add]
        refine v_iald hC (pc := 36) dX7_see_36 rfl (by first | rfl | exact ok_c hq rfl | exact ok_w hq hw | exact ok_w (by omega) (by omega) | exact ok_s (by omega) (by omega) | exact ok_c (by omega) rfl | assumption) (vp_nat (n := 47) (by omega) (by decide)) ?_
        show V X G 6 37 _ (vi (h.1 (3, 0, 1) 47) :: _) _
        rw [hns]
        refine v_bipush hC (pc := 37) (v := 8) (by decide +kernel) dX7_see_37 ?_
        refine v_icmp_ne hC (pc := 39) (tgt := 45) dX7_see_39 (by decide) (fun c_39 => ?_) (fun c_39 => ?_)
        · skip
          refine v_bipush hC (pc := 45) (v := 48) (by decide +kernel) dX7_see_45 ?_
          refine v_iconst hC (pc := 47) (v := 4) (by decide) dX7_see_47 ?_
          refine v_aload_n hC (pc := 48) (k := 0) 0 rfl dX7_see_48 ?_
          refine v_getR hC (pc := 49) dX7_see_49 fl_X7_7 rfl (by first | rfl | exact ok_c hq rfl | exact ok_w hq hw | exact ok_w (by omega) (by omega) | exact ok_s (by omega) (by omega) | exact ok_c (by omega) rfl | assumption) rfl (by decide) (by decide) rfl ?_
          refine v_bipush hC (pc := 52) (v := 47) (by decide +kernel) dX7_see_52 ?_
          try simp only [nL_0, nL_1, nL_2, nL_3, nL_4, nL_5, nL_6, nL_8, nL_16, nL_17, nL_18, nL_40, nL_42, nL_43, nL_47, nL_48, nL_64, nL_80, pk_mul, nI_add]
          refine v_iald hC (pc := 54) dX7_see_54 rfl (by first | rfl | exact ok_c hq rfl | exact ok_w hq hw | exact ok_w (by omega) (by omega) | exact ok_s (by omega) (by omega) | exact ok_c (by omega) rfl | assumption) (vp_nat (n := 47) (by omega) (by decide)) ?_
          show V X G 6 55 _ (vi (h.1 (3, 0, 1) 47) :: _) _
          rw [hns]
          refine v_imul hC (pc := 55) dX7_see_55 ?_
          refine v_iadd hC (pc := 56) dX7_see_56 ?_
          rw [show nI 48 + nI 4 * nI nS = nI (48 + 4 * nS) from by rw [pk_mul, nI_add]]
          refine v_istore hC (pc := 57) (l' := [(5, _), (0, _), (1, _), (2, _), (3, _), (4, _)]) dX7_see_57 (by decide) rfl ?_
          refine v_aload_n hC (pc := 59) (k := 0) 1 rfl dX7_see_59 ?_
          refine v_getR hC (pc := 60) dX7_see_60 fl_X7_7 rfl (by first | rfl | exact ok_c hq rfl | exact ok_w hq hw | exact ok_w (by omega) (by omega) | exact ok_s (by omega) (by omega) | exact ok_c (by omega) rfl | assumption) rfl (by decide) (by decide) rfl ?_
          refine v_iload hC (pc := 63) 0 rfl dX7_see_63 ?_
          refine v_iload_n hC (pc := 65) (k := 1) 2 rfl dX7_see_65 ?_
          try simp only [nL_0, nL_1, nL_2, nL_3, nL_4, nL_5, nL_6, nL_8, nL_16, nL_17, nL_18, nL_40, nL_42, nL_43, nL_47, nL_48, nL_64, nL_80, pk_mul, nI_add]
          refine v_iast hC (pc := 66) dX7_see_66 rfl (by first | rfl | exact ok_c hq rfl | exact ok_w hq hw | exact ok_w (by omega) (by omega) | exact ok_s (by omega) (by omega) | exact ok_c (by omega) rfl | assumption) (vp_nat (by omega) (by decide)) ?_
          refine v_aload_n hC (pc := 67) (k := 0) 1 rfl dX7_see_67 ?_
          refine v_getR hC (pc := 68) dX7_see_68 fl_X7_7 rfl (by first | rfl | exact ok_c hq rfl | exact ok_w hq hw | exact ok_w (by omega) (by omega) | exact ok_s (by omega) (by omega) | exact ok_c (by omega) rfl | assumption) rfl (by decide) (by decide) rfl ?_
          refine v_iload hC (pc := 71) 0 rfl dX7_see_71 ?_
          refine v_iconst hC (pc := 73) (v := 1) (by decide) dX7_see_73 ?_
          refine v_iadd hC (pc := 74) dX7_see_74 ?_
          refine v_iload_n hC (pc := 75) (k := 2) 3 rfl dX7_see_75 ?_
          try simp only [nL_0, nL_1, nL_2, nL_3, nL_4, nL_5, nL_6, nL_8, nL_16, nL_17, nL_18, nL_40, nL_42, nL_43, nL_47, nL_48, nL_64, nL_80, pk_mul, nI_add]
          refine v_iast hC (pc := 76) dX7_see_76 rfl (by first | rfl | exact ok_c hq rfl | exact ok_w hq hw | exact ok_w (by omega) (by omega) | exact ok_s (by omega) (by omega) | exact ok_c (by omega) rfl | assumption) (vp_nat (by omega) (by decide)) ?_
          refine v_aload_n hC (pc := 77) (k := 0) 1 rfl dX7_see_77 ?_
          refine v_getR hC (pc := 78) dX7_see_78 fl_X7_7 rfl (by first | rfl | exact ok_c hq rfl | exact ok_w hq hw | exact ok_w (by omega) (by omega) | exact ok_s (by omega) (by omega) | exact ok_c (by omega) rfl | assumption) rfl (by decide) (by decide) rfl ?_
          refine v_iload hC (pc := 81) 0 rfl dX7_see_81 ?_
          refine v_iconst hC (pc := 83) (v := 2) (by decide) dX7_see_83 ?_
          refine v_iadd hC (pc := 84) dX7_see_84 ?_
          refine v_iload_n hC (pc := 85) (k := 3) 4 rfl dX7_see_85 ?_
          try simp only [nL_0, nL_1, nL_2, nL_3, nL_4, nL_5, nL_6, nL_8, nL_16, nL_17, nL_18, nL_40, nL_42, nL_43, nL_47, nL_48, nL_64, nL_80, pk_mul, nI_add]
          refine v_iast hC (pc := 86) dX7_see_86 rfl (by first | rfl | exact ok_c hq rfl | exact ok_w hq hw | exact ok_w (by omega) (by omega) | exact ok_s (by omega) (by omega) | exact ok_c (by omega) rfl | assumption) (vp_nat (by omega) (by decide)) ?_
          refine v_aload_n hC (pc := 87) (k := 0) 1 rfl dX7_see_87 ?_
          refine v_getR hC (pc := 88) dX7_see_88 fl_X7_7 rfl (by first | rfl | exact ok_c hq rfl | exact ok_w hq hw | exact ok_w (by omega) (by omega) | exact ok_s (by omega) (by omega) | exact ok_c (by omega) rfl | assumption) rfl (by decide) (by decide) rfl ?_
          refine v_iload hC (pc := 91) 0 rfl dX7_see_91 ?_
          refine v_iconst hC (pc := 93) (v := 3) (by decide) dX7_see_93 ?_
          refine v_iadd hC (pc := 94) dX7_see_94 ?_
          refine v_iload hC (pc := 95) 5 rfl dX7_see_95 ?_
          refine v_callS hC (pc := 97) (As := [_]) dX7_see_97 rfl (m_flag _ _ (d := d - 1) (by omega) _ _) cs_X7_147 (Nat.le_of_ble_eq_true rfl) (by omega) (fun r h' hr => ?_)
          obtain ⟨he9, rfl⟩ := hr
          rw [he9]
          clear he9 h'
          show V _ _ _ (97 + 3) _ (_ :: _) _
          try simp only [nL_0, nL_1, nL_2, nL_3, nL_4, nL_5, nL_6, nL_8, nL_16, nL_17, nL_18, nL_40, nL_42, nL_43, nL_47, nL_48, nL_64, nL_80, pk_mul, nI_add]
          refine v_iast hC (pc := 100) dX7_see_100 rfl (by first | rfl | exact ok_c hq rfl | exact ok_w hq hw | exact ok_w (by omega) (by omega) | exact ok_s (by omega) (by omega) | exact ok_c (by omega) rfl | assumption) (vp_nat (by omega) (by decide)) ?_
          refine v_aload_n hC (pc := 101) (k := 0) 1 rfl dX7_see_101 ?_
          refine v_getR hC (pc := 102) dX7_see_102 fl_X7_7 rfl (by first | rfl | exact ok_c hq rfl | exact ok_w hq hw | exact ok_w (by omega) (by omega) | exact ok_s (by omega) (by omega) | exact ok_c (by omega) rfl | assumption) rfl (by decide) (by decide) rfl ?_
          refine v_bipush hC (pc := 105) (v := 47) (by decide +kernel) dX7_see_105 ?_
          refine v_dup2 hC (pc := 107) dX7_see_107 ?_
          try simp only [nL_0, nL_1, nL_2, nL_3, nL_4, nL_5, nL_6, nL_8, nL_16, nL_17, nL_18, nL_40, nL_42, nL_43, nL_47, nL_48, nL_64, nL_80, pk_mul, nI_add]
          refine v_iald hC (pc := 108) dX7_see_108 rfl (by first | rfl | exact ok_c hq rfl | exact ok_w hq hw | exact ok_w (by omega) (by omega) | exact ok_s (by omega) (by omega) | exact ok_c (by omega) rfl | assumption) (vp_nat (n := 47) (by omega) (by decide)) ?_
          refine v_iconst hC (pc := 109) (v := 1) (by decide) dX7_see_109 ?_
          refine v_iadd hC (pc := 110) dX7_see_110 ?_
          try simp only [nL_0, nL_1, nL_2, nL_3, nL_4, nL_5, nL_6, nL_8, nL_16, nL_17, nL_18, nL_40, nL_42, nL_43, nL_47, nL_48, nL_64, nL_80, pk_mul, nI_add]
          refine v_iast hC (pc := 111) dX7_see_111 rfl (by first | rfl | exact ok_c hq rfl | exact ok_w hq hw | exact ok_w (by omega) (by omega) | exact ok_s (by omega) (by omega) | exact ok_c (by omega) rfl | assumption) (vp_nat (n := 47) (by omega) (by decide)) ?_
          refine v_aload_n hC (pc := 112) (k := 0) 1 rfl dX7_see_112 ?_
          refine v_getR hC (pc := 113) dX7_see_113 fl_X7_7 rfl (by first | rfl | exact ok_c hq rfl | exact ok_w hq hw | exact ok_w (by omega) (by omega) | exact ok_s (by omega) (by omega) | exact ok_c (by omega) rfl | assumption) rfl (by decide) (by decide) rfl ?_
          refine v_bipush hC (pc := 116) (v := 47) (by decide +kernel) dX7_see_116 ?_
          try simp only [nL_0, nL_1, nL_2, nL_3, nL_4, nL_5, nL_6, nL_8, nL_16, nL_17, nL_18, nL_40, nL_42, nL_43, nL_47, nL_48, nL_64, nL_80, pk_mul, nI_add]
          refine v_iald hC (pc := 118) dX7_see_118 rfl (by first | rfl | exact ok_c hq rfl | exact ok_w hq hw | exact ok_w (by omega) (by omega) | exact ok_s (by omega) (by omega) | exact ok_c (by omega) rfl | assumption) (vp_nat (n := 47) (by omega) (by decide)) ?_
          refine v_iret hC hX (pc := 119) dX7_see_119 ?_
          have e1 : ∀ j, j < 4 → (nI (48 + 4 * nS + j)).toNatClampNeg = 48 + 4 * nS + j := fun j hj => nI_clamp (by omega)
          have e10 : (nI (48 + 4 * nS)).toNatClampNeg = 48 + 4 * nS := nI_clamp (by omega)
          have e11 := e1 1 (by omega)
          have e12 := e1 2 (by omega)
          have e13 := e1 3 (by omega)
          have e47 : (nI 47).toNatClampNeg = 47 := rfl
          have e2 : ¬ 47 = 48 + 4 * nS := by omega
          have e3 : ¬ 47 = 48 + 4 * nS + 1 := by omega
          have e4 : ¬ 47 = 48 + 4 * nS + 2 := by omega
          have e5 : ¬ 47 = 48 + 4 * nS + 3 := by omega
          refine ⟨?_, ?_⟩
          · simp [upI, hns, nI_add, nL_1, e10, e11, e12, e13, e2, e3, e4, e5, e47]
          · simp [upI, hns, nI_add, nL_1, e10, e11, e12, e13, e2, e3, e4, e5, e47]
        · exact absurd ((nI_eq (by omega) (by decide)).mp (show nI nS = nI 8 from c_39)) (by omega)
      · exact absurd c_25 (by decide)

set_option maxRecDepth 20000 in
set_option maxHeartbeats 2000000 in
theorem m_see_full (l9 : Launch) (G : WT) {d : Nat} (hd : 3 ≤ d) (h : HP) {nC : Nat} (hn8 : nC ≤ 8) (hnc : h.1 (3, 0, 0) 3 = nI nC) {nW : Nat} (hn4 : nW ≤ 4) (hnw : h.1 (3, 0, 0) 4 = nI nW) (hns : h.1 (3, 0, 1) 47 = nI 8) {w n c : Nat} (hw : w < nW) (hn : n ≤ 10) (hc : c < nC) (b : Int32) : MS l9 G yX7_see cX7_see 6 (some .int) d [vr (3, 0, 0), vi (nI w), vi (nI n), vi (nI c), vi b] h (fun r h1 => h1 = h ∧ r = some (vi (-3))) := by
  refine MS_of (by decide +kernel) (Nat.le_of_ble_eq_true rfl) (fun X hC hX => ?_)
  show V X G 6 0 _ [] _
  refine v_aload_n hC (pc := 0) (k := 0) 0 rfl dX7_see_0 ?_
  refine v_iload_n hC (pc := 1) (k := 1) 1 rfl dX7_see_1 ?_
  refine v_callV hC (pc := 2) (As := [_]) dX7_see_2 rfl (m_isWalker_t _ _ (d := d - 1) (by omega) _ (c := w) (by assumption) hn4 hnw) cv_X7_216 rfl (by decide) rfl (by first | rfl | exact ok_c hq rfl | exact ok_w hq hw | exact ok_w (by omega) (by omega) | exact ok_s (by omega) (by omega) | exact ok_c (by omega) rfl | assumption) (Nat.le_of_ble_eq_true rfl) (by omega) (fun r h' hr => ?_)
  obtain ⟨he9, rfl⟩ := hr
  rw [he9]
  clear he9 h'
  show V _ _ _ (2 + 3) _ (_ :: _) _
  refine v_if_eq hC (pc := 5) (tgt := 28) dX7_see_5 (by decide) (fun c_5 => ?_) (fun c_5 => ?_)
  · exact absurd c_5 (by decide)
  · skip
    refine v_iload_n hC (pc := 8) (k := 2) 2 rfl dX7_see_8 ?_
    refine v_i2l hC (pc := 9) dX7_see_9 ?_
    refine v_lconst hC (pc := 10) (v := 0) (by decide) dX7_see_10 ?_
    refine v_ldc2 hC (pc := 11) k_X7_248 dX7_see_11 ?_
    refine v_callS hC (pc := 14) (As := [_, _, _]) dX7_see_14 rfl (m_in_t _ _ (d := d - 1) (by omega) _ (nI n) (0) (10) (⟨nI_pos (by omega), nI_nlt (show n ≤ 10 by omega) (by decide)⟩)) cs_X7_84 (Nat.le_of_ble_eq_true rfl) (by omega) (fun r h' hr => ?_)
    obtain ⟨he9, rfl⟩ := hr
    rw [he9]
    clear he9 h'
    show V _ _ _ (14 + 3) _ (_ :: _) _
    refine v_if_eq hC (pc := 17) (tgt := 28) dX7_see_17 (by decide) (fun c_17 => ?_) (fun c_17 => ?_)
    · exact absurd c_17 (by decide)
    · skip
      refine v_aload_n hC (pc := 20) (k := 0) 0 rfl dX7_see_20 ?_
      refine v_iload_n hC (pc := 21) (k := 3) 3 rfl dX7_see_21 ?_
      refine v_callV hC (pc := 22) (As := [_]) dX7_see_22 rfl (m_isCorner_t _ _ (d := d - 1) (by omega) _ (c := c) (by assumption) hn8 hnc) cv_X7_210 rfl (by decide) rfl (by first | rfl | exact ok_c hq rfl | exact ok_w hq hw | exact ok_w (by omega) (by omega) | exact ok_s (by omega) (by omega) | exact ok_c (by omega) rfl | assumption) (Nat.le_of_ble_eq_true rfl) (by omega) (fun r h' hr => ?_)
      obtain ⟨he9, rfl⟩ := hr
      rw [he9]
      clear he9 h'
      show V _ _ _ (22 + 3) _ (_ :: _) _
      refine v_if_ne hC (pc := 25) (tgt := 30) dX7_see_25 (by decide) (fun c_25 => ?_) (fun c_25 => ?_)
      · skip
        refine v_aload_n hC (pc := 30) (k := 0) 0 rfl dX7_see_30 ?_
        refine v_getR hC (pc := 31) dX7_see_31 fl_X7_7 rfl (by first | rfl | exact ok_c hq rfl | exact ok_w hq hw | exact ok_w (by omega) (by omega) | exact ok_s (by omega) (by omega) | exact ok_c (by omega) rfl | assumption) rfl (by decide) (by decide) rfl ?_
        refine v_bipush hC (pc := 34) (v := 47) (by decide +kernel) dX7_see_34 ?_
        try simp only [nL_0, nL_1, nL_2, nL_3, nL_4, nL_5, nL_6, nL_8, nL_16, nL_17, nL_18, nL_40, nL_42, nL_43, nL_47, nL_48, nL_64, nL_80, pk_mul, nI_add]
        refine v_iald hC (pc := 36) dX7_see_36 rfl (by first | rfl | exact ok_c hq rfl | exact ok_w hq hw | exact ok_w (by omega) (by omega) | exact ok_s (by omega) (by omega) | exact ok_c (by omega) rfl | assumption) (vp_nat (n := 47) (by omega) (by decide)) ?_
        show V X G 6 37 _ (vi (h.1 (3, 0, 1) 47) :: _) _
        rw [hns]
        refine v_bipush hC (pc := 37) (v := 8) (by decide +kernel) dX7_see_37 ?_
        refine v_icmp_ne hC (pc := 39) (tgt := 45) dX7_see_39 (by decide) (fun c_39 => ?_) (fun c_39 => ?_)
        · exact absurd rfl c_39
        · skip
          refine v_bipush hC (pc := 42) (v := (-3)) (by decide +kernel) dX7_see_42 ?_
          refine v_iret hC hX (pc := 44) dX7_see_44 ?_
          exact ⟨rfl, rfl⟩
      · exact absurd c_25 (by decide)

set_option maxRecDepth 20000 in
set_option maxHeartbeats 2000000 in
theorem m_see_bad (l9 : Launch) (G : WT) {d : Nat} (hd : 3 ≤ d) (h : HP) {nC : Nat} (hn8 : nC ≤ 8) (hnc : h.1 (3, 0, 0) 3 = nI nC) {nW : Nat} (hn4 : nW ≤ 4) (hnw : h.1 (3, 0, 0) 4 = nI nW) (w n c b : Int32) (hbad : ¬ ((¬ w < 0 ∧ ¬ nI nW ≤ w) ∧ (¬ n < 0 ∧ ¬ 10 < n) ∧ ¬ c < 0 ∧ ¬ nI nC ≤ c)) : MS l9 G yX7_see cX7_see 6 (some .int) d [vr (3, 0, 0), vi w, vi n, vi c, vi b] h (fun r h1 => h1 = h ∧ r = some (vi (-1))) := by
  refine MS_of (by decide +kernel) (Nat.le_of_ble_eq_true rfl) (fun X hC hX => ?_)
  show V X G 6 0 _ [] _
  refine v_aload_n hC (pc := 0) (k := 0) 0 rfl dX7_see_0 ?_
  refine v_iload_n hC (pc := 1) (k := 1) 1 rfl dX7_see_1 ?_
  refine v_callV hC (pc := 2) (As := [_]) dX7_see_2 rfl (m_isWalker _ _ (d := d - 1) (by omega) _ hn4 hnw _) cv_X7_216 rfl (by decide) rfl (by first | rfl | exact ok_c hq rfl | exact ok_w hq hw | exact ok_w (by omega) (by omega) | exact ok_s (by omega) (by omega) | exact ok_c (by omega) rfl | assumption) (Nat.le_of_ble_eq_true rfl) (by omega) (fun r h' hr => ?_)
  obtain ⟨he9, rfl⟩ := hr
  rw [he9]
  clear he9 h'
  show V _ _ _ (2 + 3) _ (_ :: _) _
  refine v_ifb_eq hC (pc := 5) (tgt := 28) dX7_see_5 (by decide) (fun c_5 => ?_) (fun c_5 => ?_)
  · skip
    refine v_iconst hC (pc := 28) (v := (-1)) (by decide) dX7_see_28 ?_
    refine v_iret hC hX (pc := 29) dX7_see_29 ?_
    exact ⟨rfl, rfl⟩
  · skip
    refine v_iload_n hC (pc := 8) (k := 2) 2 rfl dX7_see_8 ?_
    refine v_i2l hC (pc := 9) dX7_see_9 ?_
    refine v_lconst hC (pc := 10) (v := 0) (by decide) dX7_see_10 ?_
    refine v_ldc2 hC (pc := 11) k_X7_248 dX7_see_11 ?_
    refine v_callS hC (pc := 14) (As := [_, _, _]) dX7_see_14 rfl (m_in _ _ (d := d - 1) (by omega) _ (n) (0) (10)) cs_X7_84 (Nat.le_of_ble_eq_true rfl) (by omega) (fun r h' hr => ?_)
    obtain ⟨he9, rfl⟩ := hr
    rw [he9]
    clear he9 h'
    show V _ _ _ (14 + 3) _ (_ :: _) _
    refine v_ifb_eq hC (pc := 17) (tgt := 28) dX7_see_17 (by decide) (fun c_17 => ?_) (fun c_17 => ?_)
    · skip
      refine v_iconst hC (pc := 28) (v := (-1)) (by decide) dX7_see_28 ?_
      refine v_iret hC hX (pc := 29) dX7_see_29 ?_
      exact ⟨rfl, rfl⟩
    · skip
      refine v_aload_n hC (pc := 20) (k := 0) 0 rfl dX7_see_20 ?_
      refine v_iload_n hC (pc := 21) (k := 3) 3 rfl dX7_see_21 ?_
      refine v_callV hC (pc := 22) (As := [_]) dX7_see_22 rfl (m_isCorner _ _ (d := d - 1) (by omega) _ hn8 hnc _) cv_X7_210 rfl (by decide) rfl (by first | rfl | exact ok_c hq rfl | exact ok_w hq hw | exact ok_w (by omega) (by omega) | exact ok_s (by omega) (by omega) | exact ok_c (by omega) rfl | assumption) (Nat.le_of_ble_eq_true rfl) (by omega) (fun r h' hr => ?_)
      obtain ⟨he9, rfl⟩ := hr
      rw [he9]
      clear he9 h'
      show V _ _ _ (22 + 3) _ (_ :: _) _
      refine v_ifb_ne hC (pc := 25) (tgt := 30) dX7_see_25 (by decide) (fun c_25 => ?_) (fun c_25 => ?_)
      · skip
        exact absurd ⟨c_5, c_17, c_25⟩ hbad
      · skip
        refine v_iconst hC (pc := 28) (v := (-1)) (by decide) dX7_see_28 ?_
        refine v_iret hC hX (pc := 29) dX7_see_29 ?_
        exact ⟨rfl, rfl⟩

def zrR (f : Nat → Int32) (k n : Nat) : Nat → Int32 := fun j => if 40 * k ≤ j ∧ j < 40 * k + n then 0 else f j
theorem zrR_0 (f : Nat → Int32) (k : Nat) : zrR f k 0 = f := by
  funext j
  unfold zrR
  rw [if_neg (by omega)]
theorem zrR_s (f : Nat → Int32) (k n : Nat) : upd (zrR f k n) (40 * k + n) 0 = zrR f k (n + 1) := by
  funext j
  unfold upd zrR
  by_cases e : j = 40 * k + n
  · subst e
    rw [if_pos rfl, if_pos (by omega)]
  · rw [if_neg e]
    by_cases e2 : 40 * k ≤ j ∧ j < 40 * k + n
    · rw [if_pos e2, if_pos (by omega)]
    · rw [if_neg e2, if_neg (by omega)]
set_option maxRecDepth 20000 in
set_option maxHeartbeats 2000000 in
theorem m_sheet_ok (l9 : Launch) (G : WT) {d : Nat} (hd : 3 ≤ d) (h : HP) {k l n0 : Nat} (hk : k < 4) (hl : l < 3) (hn : n0 ≤ 40) : MS l9 G yX7_sheet cX7_sheet 5 (some .int) d [vr (3, 0, 0), vi (nI k), vi (nI l), vi (nI n0)] h (fun r h1 => r = some (vi 1) ∧ h1 = upR (upI (upI h (3, 0, 25) k (nI l)) (3, 0, 26) k (nI n0)) (3, 0, 27) (zrR (h.1 (3, 0, 27)) k 40)) := by
  refine MS_of (by decide +kernel) (Nat.le_of_ble_eq_true rfl) (fun X hC hX => ?_)
  show V X G 5 0 _ [] _
  have loop : ∀ u : HP, u = upI (upI h (3, 0, 25) k (nI l)) (3, 0, 26) k (nI n0) → ∀ (n i : Nat) , i ≤ 40 → 40 + 1 ≤ i + n → V X G 5 40 [(4, vi (nI i)), (0, vr (3, 0, 0)), (1, vi (nI k)), (2, vi (nI l)), (3, vi (nI n0))] [] (upR u (3, 0, 27) (zrR (u.1 (3, 0, 27)) k i)) := by
    intro u hu n
    induction n with
    | zero => intro i  h1 h2; exact absurd h2 (by omega)
    | succ n ih =>
      intro i  h1 h2
      refine v_iload hC (pc := 40) 0 rfl dX7_sheet_40 ?_
      refine v_bipush hC (pc := 42) (v := 40) (by decide +kernel) dX7_sheet_42 ?_
      refine v_icmp_ge hC (pc := 44) (tgt := 66) dX7_sheet_44 (by decide) (fun c_44 => ?_) (fun c_44 => ?_)
      · skip
        have hj : i = 40 := lp_ex (N := 40) (c_44) h1 (by omega)
        refine v_iconst hC (pc := 66) (v := 1) (by decide) dX7_sheet_66 ?_
        refine v_iret hC hX (pc := 67) dX7_sheet_67 ?_
        subst hj
        exact ⟨rfl, by rw [hu, upI_ne _ _ _ (show ((3, 0, 27) : PId) ≠ (3, 0, 26) by decide), upI_ne _ _ _ (show ((3, 0, 27) : PId) ≠ (3, 0, 25) by decide)]⟩
      · skip
        have hj : i < 40 := lp_in (N := 40) (c_44) h1 (by omega)
        refine v_aload_n hC (pc := 47) (k := 0) 1 rfl dX7_sheet_47 ?_
        refine v_getR hC (pc := 48) dX7_sheet_48 fl_X7_51 rfl (by first | rfl | exact ok_c hq rfl | exact ok_w hq hw | exact ok_w (by omega) (by omega) | exact ok_s (by omega) (by omega) | exact ok_c (by omega) rfl | assumption) rfl (by decide) (by decide) rfl ?_
        refine v_bipush hC (pc := 51) (v := 40) (by decide +kernel) dX7_sheet_51 ?_
        refine v_iload_n hC (pc := 53) (k := 1) 2 rfl dX7_sheet_53 ?_
        refine v_imul hC (pc := 54) dX7_sheet_54 ?_
        refine v_iload hC (pc := 55) 0 rfl dX7_sheet_55 ?_
        refine v_iadd hC (pc := 57) dX7_sheet_57 ?_
        refine v_iconst hC (pc := 58) (v := 0) (by decide) dX7_sheet_58 ?_
        try simp only [nL_0, nL_1, nL_2, nL_3, nL_4, nL_5, nL_6, nL_8, nL_16, nL_17, nL_18, nL_40, nL_42, nL_43, nL_47, nL_48, nL_64, nL_80, pk_mul, nI_add]
        refine v_iast hC (pc := 59) dX7_sheet_59 rfl (by first | rfl | exact ok_c hq rfl | exact ok_w hq hw | exact ok_w (by omega) (by omega) | exact ok_s (by omega) (by omega) | exact ok_c (by omega) rfl | assumption) (vp_nat (by omega) (by decide)) ?_
        refine v_heap (show _ = upR u (3, 0, 27) (zrR (u.1 (3, 0, 27)) k (i + 1)) from ?_) ?_
        · rw [nI_clamp (show 40 * k + i < 2 ^ 31 by omega), upI_upR]
          show upR u (3, 0, 27) (upd _ (40 * k + i) 0) = _
          rw [zrR_s]
        refine v_iinc hC (pc := 60) (l' := [(4, _), (0, _), (1, _), (2, _), (3, _)]) 0 (v := nI (i + 1)) dX7_sheet_60 rfl (nI_inc i) (by decide) rfl ?_
        refine v_goto hC (pc := 63) (tgt := 40) dX7_sheet_63 (by decide) ?_
        exact ih (i + 1) (by omega) (by omega)
  refine v_iload_n hC (pc := 0) (k := 1) 1 rfl dX7_sheet_0 ?_
  refine v_iload_n hC (pc := 1) (k := 2) 2 rfl dX7_sheet_1 ?_
  refine v_callS hC (pc := 2) (As := [_, _]) dX7_sheet_2 rfl (m_isSheet_t _ _ (d := d - 1) (by omega) _ (k := k) (l := l) (by assumption) (by assumption)) cs_X7_301 (Nat.le_of_ble_eq_true rfl) (by omega) (fun r h' hr => ?_)
  obtain ⟨he9, rfl⟩ := hr
  rw [he9]
  clear he9 h'
  show V _ _ _ (2 + 3) _ (_ :: _) _
  refine v_if_eq hC (pc := 5) (tgt := 14) dX7_sheet_5 (by decide) (fun c_5 => ?_) (fun c_5 => ?_)
  · exact absurd c_5 (by decide)
  · skip
    refine v_iload_n hC (pc := 8) (k := 3) 3 rfl dX7_sheet_8 ?_
    refine v_bipush hC (pc := 9) (v := 40) (by decide +kernel) dX7_sheet_9 ?_
    refine v_icmp_le hC (pc := 11) (tgt := 16) dX7_sheet_11 (by decide) (fun c_11 => ?_) (fun c_11 => ?_)
    · skip
      refine v_iload_n hC (pc := 16) (k := 3) 3 rfl dX7_sheet_16 ?_
      refine v_if_ge hC (pc := 17) (tgt := 23) dX7_sheet_17 (by decide) (fun c_17 => ?_) (fun c_17 => ?_)
      · skip
        refine v_aload_n hC (pc := 23) (k := 0) 0 rfl dX7_sheet_23 ?_
        refine v_getR hC (pc := 24) dX7_sheet_24 fl_X7_45 rfl (by first | rfl | exact ok_c hq rfl | exact ok_w hq hw | exact ok_w (by omega) (by omega) | exact ok_s (by omega) (by omega) | exact ok_c (by omega) rfl | assumption) rfl (by decide) (by decide) rfl ?_
        refine v_iload_n hC (pc := 27) (k := 1) 1 rfl dX7_sheet_27 ?_
        refine v_iload_n hC (pc := 28) (k := 2) 2 rfl dX7_sheet_28 ?_
        try simp only [nL_0, nL_1, nL_2, nL_3, nL_4, nL_5, nL_6, nL_8, nL_16, nL_17, nL_18, nL_40, nL_42, nL_43, nL_47, nL_48, nL_64, nL_80, pk_mul, nI_add]
        refine v_iast hC (pc := 29) dX7_sheet_29 rfl (by first | rfl | exact ok_c hq rfl | exact ok_w hq hw | exact ok_w (by omega) (by omega) | exact ok_s (by omega) (by omega) | exact ok_c (by omega) rfl | assumption) (vp_nat (by omega) (by decide)) ?_
        refine v_aload_n hC (pc := 30) (k := 0) 0 rfl dX7_sheet_30 ?_
        refine v_getR hC (pc := 31) dX7_sheet_31 fl_X7_48 rfl (by first | rfl | exact ok_c hq rfl | exact ok_w hq hw | exact ok_w (by omega) (by omega) | exact ok_s (by omega) (by omega) | exact ok_c (by omega) rfl | assumption) rfl (by decide) (by decide) rfl ?_
        refine v_iload_n hC (pc := 34) (k := 1) 1 rfl dX7_sheet_34 ?_
        refine v_iload_n hC (pc := 35) (k := 3) 3 rfl dX7_sheet_35 ?_
        try simp only [nL_0, nL_1, nL_2, nL_3, nL_4, nL_5, nL_6, nL_8, nL_16, nL_17, nL_18, nL_40, nL_42, nL_43, nL_47, nL_48, nL_64, nL_80, pk_mul, nI_add]
        refine v_iast hC (pc := 36) dX7_sheet_36 rfl (by first | rfl | exact ok_c hq rfl | exact ok_w hq hw | exact ok_w (by omega) (by omega) | exact ok_s (by omega) (by omega) | exact ok_c (by omega) rfl | assumption) (vp_nat (by omega) (by decide)) ?_
        refine v_iconst hC (pc := 37) (v := 0) (by decide) dX7_sheet_37 ?_
        refine v_istore hC (pc := 38) (l' := [(4, _), (0, _), (1, _), (2, _), (3, _)]) dX7_sheet_38 (by decide) rfl ?_
        refine v_heap (show _ = upR (upI (upI h (3, 0, 25) k (nI l)) (3, 0, 26) k (nI n0)) (3, 0, 27) (zrR ((upI (upI h (3, 0, 25) k (nI l)) (3, 0, 26) k (nI n0)).1 (3, 0, 27)) k 0) from ?_) ?_
        · rw [zrR_0, upR_id, nI_clamp (show k < 2 ^ 31 by omega)]
        · exact loop _ rfl 41 0 (by omega) (by omega)
      · exact absurd (nI_pos' (show n0 < 2 ^ 31 by omega)) c_17
    · exact absurd (show ¬ nI 40 < nI n0 from nI_nlt hn (by decide)) (fun z => c_11 (Int32.not_lt.mp z))

set_option maxRecDepth 20000 in
set_option maxHeartbeats 2000000 in
theorem m_sheet_size (l9 : Launch) (G : WT) {d : Nat} (hd : 3 ≤ d) (h : HP) {k l : Nat} (hk : k < 4) (hl : l < 3) (n : Int32) (hn : n < 0) : MS l9 G yX7_sheet cX7_sheet 5 (some .int) d [vr (3, 0, 0), vi (nI k), vi (nI l), vi n] h (fun r h1 => h1 = h ∧ r = some (vi (-14))) := by
  refine MS_of (by decide +kernel) (Nat.le_of_ble_eq_true rfl) (fun X hC hX => ?_)
  show V X G 5 0 _ [] _
  refine v_iload_n hC (pc := 0) (k := 1) 1 rfl dX7_sheet_0 ?_
  refine v_iload_n hC (pc := 1) (k := 2) 2 rfl dX7_sheet_1 ?_
  refine v_callS hC (pc := 2) (As := [_, _]) dX7_sheet_2 rfl (m_isSheet_t _ _ (d := d - 1) (by omega) _ (k := k) (l := l) (by assumption) (by assumption)) cs_X7_301 (Nat.le_of_ble_eq_true rfl) (by omega) (fun r h' hr => ?_)
  obtain ⟨he9, rfl⟩ := hr
  rw [he9]
  clear he9 h'
  show V _ _ _ (2 + 3) _ (_ :: _) _
  refine v_if_eq hC (pc := 5) (tgt := 14) dX7_sheet_5 (by decide) (fun c_5 => ?_) (fun c_5 => ?_)
  · exact absurd c_5 (by decide)
  · skip
    refine v_iload_n hC (pc := 8) (k := 3) 3 rfl dX7_sheet_8 ?_
    refine v_bipush hC (pc := 9) (v := 40) (by decide +kernel) dX7_sheet_9 ?_
    refine v_icmp_le hC (pc := 11) (tgt := 16) dX7_sheet_11 (by decide) (fun c_11 => ?_) (fun c_11 => ?_)
    · skip
      refine v_iload_n hC (pc := 16) (k := 3) 3 rfl dX7_sheet_16 ?_
      refine v_if_ge hC (pc := 17) (tgt := 23) dX7_sheet_17 (by decide) (fun c_17 => ?_) (fun c_17 => ?_)
      · exact absurd hn (Int32.not_lt.mpr c_17)
      · skip
        refine v_bipush hC (pc := 20) (v := (-14)) (by decide +kernel) dX7_sheet_20 ?_
        refine v_iret hC hX (pc := 22) dX7_sheet_22 ?_
        exact ⟨rfl, rfl⟩
    · exact absurd (Int32.lt_of_lt_of_le (b := 0) hn (by decide) : n < 40) (fun z => c_11 (Int32.le_of_lt z))

set_option maxRecDepth 20000 in
set_option maxHeartbeats 2000000 in
theorem m_sheet_bad (l9 : Launch) (G : WT) {d : Nat} (hd : 3 ≤ d) (h : HP) (k l n : Int32) (hbad : ¬ (((¬ k < 0 ∧ ¬ 3 < k) ∧ ¬ l < 0 ∧ ¬ 2 < l) ∧ n ≤ 40)) : MS l9 G yX7_sheet cX7_sheet 5 (some .int) d [vr (3, 0, 0), vi k, vi l, vi n] h (fun r h1 => h1 = h ∧ r = some (vi (-1))) := by
  refine MS_of (by decide +kernel) (Nat.le_of_ble_eq_true rfl) (fun X hC hX => ?_)
  show V X G 5 0 _ [] _
  refine v_iload_n hC (pc := 0) (k := 1) 1 rfl dX7_sheet_0 ?_
  refine v_iload_n hC (pc := 1) (k := 2) 2 rfl dX7_sheet_1 ?_
  refine v_callS hC (pc := 2) (As := [_, _]) dX7_sheet_2 rfl (m_isSheet _ _ (d := d - 1) (by omega) _ _ _) cs_X7_301 (Nat.le_of_ble_eq_true rfl) (by omega) (fun r h' hr => ?_)
  obtain ⟨he9, rfl⟩ := hr
  rw [he9]
  clear he9 h'
  show V _ _ _ (2 + 3) _ (_ :: _) _
  refine v_ifb_eq hC (pc := 5) (tgt := 14) dX7_sheet_5 (by decide) (fun c_5 => ?_) (fun c_5 => ?_)
  · skip
    refine v_iconst hC (pc := 14) (v := (-1)) (by decide) dX7_sheet_14 ?_
    refine v_iret hC hX (pc := 15) dX7_sheet_15 ?_
    exact ⟨rfl, rfl⟩
  · skip
    refine v_iload_n hC (pc := 8) (k := 3) 3 rfl dX7_sheet_8 ?_
    refine v_bipush hC (pc := 9) (v := 40) (by decide +kernel) dX7_sheet_9 ?_
    refine v_icmp_le hC (pc := 11) (tgt := 16) dX7_sheet_11 (by decide) (fun c_11 => ?_) (fun c_11 => ?_)
    · skip
      exact absurd ⟨c_5, c_11⟩ hbad
    · skip
      refine v_iconst hC (pc := 14) (v := (-1)) (by decide) dX7_sheet_14 ?_
      refine v_iret hC hX (pc := 15) dX7_sheet_15 ?_
      exact ⟨rfl, rfl⟩


set_option maxRecDepth 20000 in
set_option maxHeartbeats 2000000 in
theorem m_lay_null (l9 : Launch) (G : WT) {d : Nat} (hd : 3 ≤ d) (h : HP) {k : Nat} (hk : k < 4) (hl : h.1 (3, 0, 25) k = -4) (i v : Int32) : MS l9 G yX7_lay cX7_lay 4 (some .int) d [vr (3, 0, 0), vi (nI k), vi i, vi v] h (fun r h1 => h1 = h ∧ r = some (vi (-11))) := by
  refine MS_of (by decide +kernel) (Nat.le_of_ble_eq_true rfl) (fun X hC hX => ?_)
  show V X G 4 0 _ [] _
  refine v_iload_n hC (pc := 0) (k := 1) 1 rfl dX7_lay_0 ?_
  refine v_iconst hC (pc := 1) (v := 0) (by decide) dX7_lay_1 ?_
  rw [show (0 : Int32) = nI 0 from rfl]
  refine v_callS hC (pc := 2) (As := [_, _]) dX7_lay_2 rfl (m_isSheet_t _ _ (d := d - 1) (by omega) _ (k := k) (l := 0) (by assumption) (by decide)) cs_X7_301 (Nat.le_of_ble_eq_true rfl) (by omega) (fun r h' hr => ?_)
  obtain ⟨he9, rfl⟩ := hr
  rw [he9]
  clear he9 h'
  show V _ _ _ (2 + 3) _ (_ :: _) _
  refine v_if_ne hC (pc := 5) (tgt := 10) dX7_lay_5 (by decide) (fun c_5 => ?_) (fun c_5 => ?_)
  · skip
    refine v_aload_n hC (pc := 10) (k := 0) 0 rfl dX7_lay_10 ?_
    refine v_getR hC (pc := 11) dX7_lay_11 fl_X7_45 rfl (by first | rfl | exact ok_c hq rfl | exact ok_w hq hw | exact ok_w (by omega) (by omega) | exact ok_s (by omega) (by omega) | exact ok_c (by omega) rfl | assumption) rfl (by decide) (by decide) rfl ?_
    refine v_iload_n hC (pc := 14) (k := 1) 1 rfl dX7_lay_14 ?_
    try simp only [nL_0, nL_1, nL_2, nL_3, nL_4, nL_5, nL_6, nL_8, nL_16, nL_17, nL_18, nL_40, nL_42, nL_43, nL_47, nL_48, nL_64, nL_80, pk_mul, nI_add]
    refine v_iald hC (pc := 15) dX7_lay_15 rfl (by first | rfl | exact ok_c hq rfl | exact ok_w hq hw | exact ok_w (by omega) (by omega) | exact ok_s (by omega) (by omega) | exact ok_c (by omega) rfl | assumption) (vp_nat (by omega) (by decide)) ?_
    rw [nI_clamp (show k < 2 ^ 31 by omega)]
    refine v_bipush hC (pc := 16) (v := (-4)) (by decide +kernel) dX7_lay_16 ?_
    refine v_icmp_ne hC (pc := 18) (tgt := 24) dX7_lay_18 (by decide) (fun c_18 => ?_) (fun c_18 => ?_)
    · exact absurd hl c_18
    · skip
      refine v_bipush hC (pc := 21) (v := (-11)) (by decide +kernel) dX7_lay_21 ?_
      refine v_iret hC hX (pc := 23) dX7_lay_23 ?_
      exact ⟨rfl, rfl⟩
  · exact absurd c_5 (by decide)

set_option maxRecDepth 20000 in
set_option maxHeartbeats 2000000 in
theorem m_lay_ok (l9 : Launch) (G : WT) {d : Nat} (hd : 3 ≤ d) (h : HP) {k : Nat} (hk : k < 4) (hl : ¬ h.1 (3, 0, 25) k = -4) {i n : Nat} (hsz : h.1 (3, 0, 26) k = nI n) (hn : n ≤ 40) (hi : i < n) (v : Int32) : MS l9 G yX7_lay cX7_lay 4 (some .int) d [vr (3, 0, 0), vi (nI k), vi (nI i), vi v] h (fun r h1 => r = some (vi 1) ∧ h1 = upI h (3, 0, 27) (40 * k + i) (cutF (h.1 (3, 0, 25) k) v)) := by
  refine MS_of (by decide +kernel) (Nat.le_of_ble_eq_true rfl) (fun X hC hX => ?_)
  show V X G 4 0 _ [] _
  refine v_iload_n hC (pc := 0) (k := 1) 1 rfl dX7_lay_0 ?_
  refine v_iconst hC (pc := 1) (v := 0) (by decide) dX7_lay_1 ?_
  rw [show (0 : Int32) = nI 0 from rfl]
  refine v_callS hC (pc := 2) (As := [_, _]) dX7_lay_2 rfl (m_isSheet_t _ _ (d := d - 1) (by omega) _ (k := k) (l := 0) (by assumption) (by decide)) cs_X7_301 (Nat.le_of_ble_eq_true rfl) (by omega) (fun r h' hr => ?_)
  obtain ⟨he9, rfl⟩ := hr
  rw [he9]
  clear he9 h'
  show V _ _ _ (2 + 3) _ (_ :: _) _
  refine v_if_ne hC (pc := 5) (tgt := 10) dX7_lay_5 (by decide) (fun c_5 => ?_) (fun c_5 => ?_)
  · skip
    refine v_aload_n hC (pc := 10) (k := 0) 0 rfl dX7_lay_10 ?_
    refine v_getR hC (pc := 11) dX7_lay_11 fl_X7_45 rfl (by first | rfl | exact ok_c hq rfl | exact ok_w hq hw | exact ok_w (by omega) (by omega) | exact ok_s (by omega) (by omega) | exact ok_c (by omega) rfl | assumption) rfl (by decide) (by decide) rfl ?_
    refine v_iload_n hC (pc := 14) (k := 1) 1 rfl dX7_lay_14 ?_
    try simp only [nL_0, nL_1, nL_2, nL_3, nL_4, nL_5, nL_6, nL_8, nL_16, nL_17, nL_18, nL_40, nL_42, nL_43, nL_47, nL_48, nL_64, nL_80, pk_mul, nI_add]
    refine v_iald hC (pc := 15) dX7_lay_15 rfl (by first | rfl | exact ok_c hq rfl | exact ok_w hq hw | exact ok_w (by omega) (by omega) | exact ok_s (by omega) (by omega) | exact ok_c (by omega) rfl | assumption) (vp_nat (by omega) (by decide)) ?_
    rw [nI_clamp (show k < 2 ^ 31 by omega)]
    refine v_bipush hC (pc := 16) (v := (-4)) (by decide +kernel) dX7_lay_16 ?_
    refine v_icmp_ne hC (pc := 18) (tgt := 24) dX7_lay_18 (by decide) (fun c_18 => ?_) (fun c_18 => ?_)
    · skip
      refine v_iload_n hC (pc := 24) (k := 2) 2 rfl dX7_lay_24 ?_
      refine v_i2l hC (pc := 25) dX7_lay_25 ?_
      refine v_lconst hC (pc := 26) (v := 0) (by decide) dX7_lay_26 ?_
      refine v_aload_n hC (pc := 27) (k := 0) 0 rfl dX7_lay_27 ?_
      refine v_getR hC (pc := 28) dX7_lay_28 fl_X7_48 rfl (by first | rfl | exact ok_c hq rfl | exact ok_w hq hw | exact ok_w (by omega) (by omega) | exact ok_s (by omega) (by omega) | exact ok_c (by omega) rfl | assumption) rfl (by decide) (by decide) rfl ?_
      refine v_iload_n hC (pc := 31) (k := 1) 1 rfl dX7_lay_31 ?_
      try simp only [nL_0, nL_1, nL_2, nL_3, nL_4, nL_5, nL_6, nL_8, nL_16, nL_17, nL_18, nL_40, nL_42, nL_43, nL_47, nL_48, nL_64, nL_80, pk_mul, nI_add]
      refine v_iald hC (pc := 32) dX7_lay_32 rfl (by first | rfl | exact ok_c hq rfl | exact ok_w hq hw | exact ok_w (by omega) (by omega) | exact ok_s (by omega) (by omega) | exact ok_c (by omega) rfl | assumption) (vp_nat (by omega) (by decide)) ?_
      rw [nI_clamp (show k < 2 ^ 31 by omega), hsz]
      refine v_iconst hC (pc := 33) (v := 1) (by decide) dX7_lay_33 ?_
      refine v_isub hC (pc := 34) dX7_lay_34 ?_
      refine v_i2l hC (pc := 35) dX7_lay_35 ?_
      refine v_callS hC (pc := 36) (As := [_, _, _]) dX7_lay_36 rfl (m_in_t _ _ (d := d - 1) (by omega) _ (nI i) (0) (nI n - 1) (⟨nI_pos (by omega), fun z => absurd ((le_pred (show n < 1000 by omega)).mp z) (nI_ge hi (by omega))⟩)) cs_X7_84 (Nat.le_of_ble_eq_true rfl) (by omega) (fun r h' hr => ?_)
      obtain ⟨he9, rfl⟩ := hr
      rw [he9]
      clear he9 h'
      show V _ _ _ (36 + 3) _ (_ :: _) _
      refine v_if_ne hC (pc := 39) (tgt := 45) dX7_lay_39 (by decide) (fun c_39 => ?_) (fun c_39 => ?_)
      · skip
        refine v_aload_n hC (pc := 45) (k := 0) 0 rfl dX7_lay_45 ?_
        refine v_getR hC (pc := 46) dX7_lay_46 fl_X7_51 rfl (by first | rfl | exact ok_c hq rfl | exact ok_w hq hw | exact ok_w (by omega) (by omega) | exact ok_s (by omega) (by omega) | exact ok_c (by omega) rfl | assumption) rfl (by decide) (by decide) rfl ?_
        refine v_bipush hC (pc := 49) (v := 40) (by decide +kernel) dX7_lay_49 ?_
        refine v_iload_n hC (pc := 51) (k := 1) 1 rfl dX7_lay_51 ?_
        refine v_imul hC (pc := 52) dX7_lay_52 ?_
        refine v_iload_n hC (pc := 53) (k := 2) 2 rfl dX7_lay_53 ?_
        refine v_iadd hC (pc := 54) dX7_lay_54 ?_
        refine v_aload_n hC (pc := 55) (k := 0) 0 rfl dX7_lay_55 ?_
        refine v_getR hC (pc := 56) dX7_lay_56 fl_X7_45 rfl (by first | rfl | exact ok_c hq rfl | exact ok_w hq hw | exact ok_w (by omega) (by omega) | exact ok_s (by omega) (by omega) | exact ok_c (by omega) rfl | assumption) rfl (by decide) (by decide) rfl ?_
        refine v_iload_n hC (pc := 59) (k := 1) 1 rfl dX7_lay_59 ?_
        try simp only [nL_0, nL_1, nL_2, nL_3, nL_4, nL_5, nL_6, nL_8, nL_16, nL_17, nL_18, nL_40, nL_42, nL_43, nL_47, nL_48, nL_64, nL_80, pk_mul, nI_add]
        refine v_iald hC (pc := 60) dX7_lay_60 rfl (by first | rfl | exact ok_c hq rfl | exact ok_w hq hw | exact ok_w (by omega) (by omega) | exact ok_s (by omega) (by omega) | exact ok_c (by omega) rfl | assumption) (vp_nat (by omega) (by decide)) ?_
        rw [nI_clamp (show k < 2 ^ 31 by omega)]
        refine v_if_ne hC (pc := 61) (tgt := 69) dX7_lay_61 (by decide) (fun c_61 => ?_) (fun c_61 => ?_)
        · skip
          refine v_aload_n hC (pc := 69) (k := 0) 0 rfl dX7_lay_69 ?_
          refine v_getR hC (pc := 70) dX7_lay_70 fl_X7_45 rfl (by first | rfl | exact ok_c hq rfl | exact ok_w hq hw | exact ok_w (by omega) (by omega) | exact ok_s (by omega) (by omega) | exact ok_c (by omega) rfl | assumption) rfl (by decide) (by decide) rfl ?_
          refine v_iload_n hC (pc := 73) (k := 1) 1 rfl dX7_lay_73 ?_
          try simp only [nL_0, nL_1, nL_2, nL_3, nL_4, nL_5, nL_6, nL_8, nL_16, nL_17, nL_18, nL_40, nL_42, nL_43, nL_47, nL_48, nL_64, nL_80, pk_mul, nI_add]
          refine v_iald hC (pc := 74) dX7_lay_74 rfl (by first | rfl | exact ok_c hq rfl | exact ok_w hq hw | exact ok_w (by omega) (by omega) | exact ok_s (by omega) (by omega) | exact ok_c (by omega) rfl | assumption) (vp_nat (by omega) (by decide)) ?_
          rw [nI_clamp (show k < 2 ^ 31 by omega)]
          refine v_iconst hC (pc := 75) (v := 1) (by decide) dX7_lay_75 ?_
          refine v_icmp_ne hC (pc := 76) (tgt := 84) dX7_lay_76 (by decide) (fun c_76 => ?_) (fun c_76 => ?_)
          · skip
            refine v_iload_n hC (pc := 84) (k := 3) 3 rfl dX7_lay_84 ?_
            try simp only [nL_0, nL_1, nL_2, nL_3, nL_4, nL_5, nL_6, nL_8, nL_16, nL_17, nL_18, nL_40, nL_42, nL_43, nL_47, nL_48, nL_64, nL_80, pk_mul, nI_add]
            refine v_iast hC (pc := 85) dX7_lay_85 rfl (by first | rfl | exact ok_c hq rfl | exact ok_w hq hw | exact ok_w (by omega) (by omega) | exact ok_s (by omega) (by omega) | exact ok_c (by omega) rfl | assumption) (vp_nat (by omega) (by decide)) ?_
            refine v_iconst hC (pc := 86) (v := 1) (by decide) dX7_lay_86 ?_
            refine v_iret hC hX (pc := 87) dX7_lay_87 ?_
            refine ⟨rfl, ?_⟩
            rw [nI_clamp (show 40 * k + i < 2 ^ 31 by omega)]
            unfold cutF
            first | (rw [if_pos c_61]; done) | (rw [if_neg c_61, if_pos c_76]; done) | (rw [if_neg c_61, if_neg c_76]; done)
          · skip
            refine v_iload_n hC (pc := 79) (k := 3) 3 rfl dX7_lay_79 ?_
            refine v_i2s hC (pc := 80) dX7_lay_80 ?_
            refine v_goto hC (pc := 81) (tgt := 85) dX7_lay_81 (by decide) ?_
            try simp only [nL_0, nL_1, nL_2, nL_3, nL_4, nL_5, nL_6, nL_8, nL_16, nL_17, nL_18, nL_40, nL_42, nL_43, nL_47, nL_48, nL_64, nL_80, pk_mul, nI_add]
            refine v_iast hC (pc := 85) dX7_lay_85 rfl (by first | rfl | exact ok_c hq rfl | exact ok_w hq hw | exact ok_w (by omega) (by omega) | exact ok_s (by omega) (by omega) | exact ok_c (by omega) rfl | assumption) (vp_nat (by omega) (by decide)) ?_
            refine v_iconst hC (pc := 86) (v := 1) (by decide) dX7_lay_86 ?_
            refine v_iret hC hX (pc := 87) dX7_lay_87 ?_
            refine ⟨rfl, ?_⟩
            rw [nI_clamp (show 40 * k + i < 2 ^ 31 by omega)]
            unfold cutF
            first | (rw [if_pos c_61]; done) | (rw [if_neg c_61, if_pos c_76]; done) | (rw [if_neg c_61, if_neg c_76]; done)
        · skip
          refine v_iload_n hC (pc := 64) (k := 3) 3 rfl dX7_lay_64 ?_
          refine v_i2b hC (pc := 65) dX7_lay_65 ?_
          refine v_goto hC (pc := 66) (tgt := 85) dX7_lay_66 (by decide) ?_
          try simp only [nL_0, nL_1, nL_2, nL_3, nL_4, nL_5, nL_6, nL_8, nL_16, nL_17, nL_18, nL_40, nL_42, nL_43, nL_47, nL_48, nL_64, nL_80, pk_mul, nI_add]
          refine v_iast hC (pc := 85) dX7_lay_85 rfl (by first | rfl | exact ok_c hq rfl | exact ok_w hq hw | exact ok_w (by omega) (by omega) | exact ok_s (by omega) (by omega) | exact ok_c (by omega) rfl | assumption) (vp_nat (by omega) (by decide)) ?_
          refine v_iconst hC (pc := 86) (v := 1) (by decide) dX7_lay_86 ?_
          refine v_iret hC hX (pc := 87) dX7_lay_87 ?_
          refine ⟨rfl, ?_⟩
          rw [nI_clamp (show 40 * k + i < 2 ^ 31 by omega)]
          unfold cutF
          first | (rw [if_pos c_61]; done) | (rw [if_neg c_61, if_pos c_76]; done) | (rw [if_neg c_61, if_neg c_76]; done)
      · exact absurd c_39 (by decide)
    · exact absurd c_18 hl
  · exact absurd c_5 (by decide)

set_option maxRecDepth 20000 in
set_option maxHeartbeats 2000000 in
theorem m_lay_index (l9 : Launch) (G : WT) {d : Nat} (hd : 3 ≤ d) (h : HP) {k : Nat} (hk : k < 4) (hl : ¬ h.1 (3, 0, 25) k = -4) {n : Nat} (hsz : h.1 (3, 0, 26) k = nI n) (hn : n ≤ 40) (i v : Int32) (hi : ¬ (¬ i < 0 ∧ ¬ nI n ≤ i)) : MS l9 G yX7_lay cX7_lay 4 (some .int) d [vr (3, 0, 0), vi (nI k), vi i, vi v] h (fun r h1 => h1 = h ∧ r = some (vi (-12))) := by
  refine MS_of (by decide +kernel) (Nat.le_of_ble_eq_true rfl) (fun X hC hX => ?_)
  show V X G 4 0 _ [] _
  refine v_iload_n hC (pc := 0) (k := 1) 1 rfl dX7_lay_0 ?_
  refine v_iconst hC (pc := 1) (v := 0) (by decide) dX7_lay_1 ?_
  rw [show (0 : Int32) = nI 0 from rfl]
  refine v_callS hC (pc := 2) (As := [_, _]) dX7_lay_2 rfl (m_isSheet_t _ _ (d := d - 1) (by omega) _ (k := k) (l := 0) (by assumption) (by decide)) cs_X7_301 (Nat.le_of_ble_eq_true rfl) (by omega) (fun r h' hr => ?_)
  obtain ⟨he9, rfl⟩ := hr
  rw [he9]
  clear he9 h'
  show V _ _ _ (2 + 3) _ (_ :: _) _
  refine v_if_ne hC (pc := 5) (tgt := 10) dX7_lay_5 (by decide) (fun c_5 => ?_) (fun c_5 => ?_)
  · skip
    refine v_aload_n hC (pc := 10) (k := 0) 0 rfl dX7_lay_10 ?_
    refine v_getR hC (pc := 11) dX7_lay_11 fl_X7_45 rfl (by first | rfl | exact ok_c hq rfl | exact ok_w hq hw | exact ok_w (by omega) (by omega) | exact ok_s (by omega) (by omega) | exact ok_c (by omega) rfl | assumption) rfl (by decide) (by decide) rfl ?_
    refine v_iload_n hC (pc := 14) (k := 1) 1 rfl dX7_lay_14 ?_
    try simp only [nL_0, nL_1, nL_2, nL_3, nL_4, nL_5, nL_6, nL_8, nL_16, nL_17, nL_18, nL_40, nL_42, nL_43, nL_47, nL_48, nL_64, nL_80, pk_mul, nI_add]
    refine v_iald hC (pc := 15) dX7_lay_15 rfl (by first | rfl | exact ok_c hq rfl | exact ok_w hq hw | exact ok_w (by omega) (by omega) | exact ok_s (by omega) (by omega) | exact ok_c (by omega) rfl | assumption) (vp_nat (by omega) (by decide)) ?_
    rw [nI_clamp (show k < 2 ^ 31 by omega)]
    refine v_bipush hC (pc := 16) (v := (-4)) (by decide +kernel) dX7_lay_16 ?_
    refine v_icmp_ne hC (pc := 18) (tgt := 24) dX7_lay_18 (by decide) (fun c_18 => ?_) (fun c_18 => ?_)
    · skip
      refine v_iload_n hC (pc := 24) (k := 2) 2 rfl dX7_lay_24 ?_
      refine v_i2l hC (pc := 25) dX7_lay_25 ?_
      refine v_lconst hC (pc := 26) (v := 0) (by decide) dX7_lay_26 ?_
      refine v_aload_n hC (pc := 27) (k := 0) 0 rfl dX7_lay_27 ?_
      refine v_getR hC (pc := 28) dX7_lay_28 fl_X7_48 rfl (by first | rfl | exact ok_c hq rfl | exact ok_w hq hw | exact ok_w (by omega) (by omega) | exact ok_s (by omega) (by omega) | exact ok_c (by omega) rfl | assumption) rfl (by decide) (by decide) rfl ?_
      refine v_iload_n hC (pc := 31) (k := 1) 1 rfl dX7_lay_31 ?_
      try simp only [nL_0, nL_1, nL_2, nL_3, nL_4, nL_5, nL_6, nL_8, nL_16, nL_17, nL_18, nL_40, nL_42, nL_43, nL_47, nL_48, nL_64, nL_80, pk_mul, nI_add]
      refine v_iald hC (pc := 32) dX7_lay_32 rfl (by first | rfl | exact ok_c hq rfl | exact ok_w hq hw | exact ok_w (by omega) (by omega) | exact ok_s (by omega) (by omega) | exact ok_c (by omega) rfl | assumption) (vp_nat (by omega) (by decide)) ?_
      rw [nI_clamp (show k < 2 ^ 31 by omega), hsz]
      refine v_iconst hC (pc := 33) (v := 1) (by decide) dX7_lay_33 ?_
      refine v_isub hC (pc := 34) dX7_lay_34 ?_
      refine v_i2l hC (pc := 35) dX7_lay_35 ?_
      refine v_callS hC (pc := 36) (As := [_, _, _]) dX7_lay_36 rfl (m_in _ _ (d := d - 1) (by omega) _ (i) (0) (nI n - 1)) cs_X7_84 (Nat.le_of_ble_eq_true rfl) (by omega) (fun r h' hr => ?_)
      obtain ⟨he9, rfl⟩ := hr
      rw [he9]
      clear he9 h'
      show V _ _ _ (36 + 3) _ (_ :: _) _
      refine v_ifb_ne hC (pc := 39) (tgt := 45) dX7_lay_39 (by decide) (fun c_39 => ?_) (fun c_39 => ?_)
      · exact absurd ⟨c_39.1, fun z => c_39.2 ((le_pred (show n < 1000 by omega)).mpr z)⟩ hi
      · skip
        refine v_bipush hC (pc := 42) (v := (-12)) (by decide +kernel) dX7_lay_42 ?_
        refine v_iret hC hX (pc := 44) dX7_lay_44 ?_
        exact ⟨rfl, rfl⟩
    · exact absurd c_18 hl
  · exact absurd c_5 (by decide)

set_option maxRecDepth 20000 in
set_option maxHeartbeats 2000000 in
theorem m_lay_bad (l9 : Launch) (G : WT) {d : Nat} (hd : 3 ≤ d) (h : HP) (k i v : Int32) (hbad : ¬ (¬ k < 0 ∧ ¬ 3 < k)) : MS l9 G yX7_lay cX7_lay 4 (some .int) d [vr (3, 0, 0), vi k, vi i, vi v] h (fun r h1 => h1 = h ∧ r = some (vi (-1))) := by
  refine MS_of (by decide +kernel) (Nat.le_of_ble_eq_true rfl) (fun X hC hX => ?_)
  show V X G 4 0 _ [] _
  refine v_iload_n hC (pc := 0) (k := 1) 1 rfl dX7_lay_0 ?_
  refine v_iconst hC (pc := 1) (v := 0) (by decide) dX7_lay_1 ?_
  refine v_callS hC (pc := 2) (As := [_, _]) dX7_lay_2 rfl (m_isSheet _ _ (d := d - 1) (by omega) _ _ _) cs_X7_301 (Nat.le_of_ble_eq_true rfl) (by omega) (fun r h' hr => ?_)
  obtain ⟨he9, rfl⟩ := hr
  rw [he9]
  clear he9 h'
  show V _ _ _ (2 + 3) _ (_ :: _) _
  refine v_ifb_ne hC (pc := 5) (tgt := 10) dX7_lay_5 (by decide) (fun c_5 => ?_) (fun c_5 => ?_)
  · skip
    exact absurd c_5.1 hbad
  · skip
    refine v_iconst hC (pc := 8) (v := (-1)) (by decide) dX7_lay_8 ?_
    refine v_iret hC hX (pc := 9) dX7_lay_9 ?_
    exact ⟨rfl, rfl⟩

set_option maxRecDepth 20000 in
set_option maxHeartbeats 2000000 in
theorem m_walker_ok (l9 : Launch) (G : WT) {d : Nat} (hd : 4 ≤ d) (h : HP) {nW : Nat} (hn4 : nW ≤ 4) (hnw : h.1 (3, 0, 0) 4 = nI nW) {w : Nat} (hw : w < nW) (x : Int32) : MS l9 G yX7_walker cX7_walker 3 (some .int) d [vr (3, 0, 0), vi (nI w), vi x] h (fun r h1 => r = some (vi (swF [h.1 (3, 0, 1) (18 + 6 * w + 0), hndF (h.1 (3, 0, 1) (18 + 6 * w + 1)) (h.1 (3, 0, 1) (18 + 6 * w + 2)) (h.1 (3, 0, 1) 17), h.1 (3, 0, 1) (18 + 6 * w + 2), h.1 (3, 0, 1) (18 + 6 * w + 3) - h.1 (3, 0, 1) (18 + 6 * w + 5)] x)) ∧ h1 = stH h) := by
  refine MS_of (by decide +kernel) (Nat.le_of_ble_eq_true rfl) (fun X hC hX => ?_)
  show V X G 3 0 _ [] _
  refine v_aload_n hC (pc := 0) (k := 0) 0 rfl dX7_walker_0 ?_
  refine v_iload_n hC (pc := 1) (k := 1) 1 rfl dX7_walker_1 ?_
  refine v_callV hC (pc := 2) (As := [_]) dX7_walker_2 rfl (m_isWalker_t _ _ (d := d - 1) (by omega) _ (c := w) (by assumption) hn4 hnw) cv_X7_216 rfl (by decide) rfl (by first | rfl | exact ok_c hq rfl | exact ok_w hq hw | exact ok_w (by omega) (by omega) | exact ok_s (by omega) (by omega) | exact ok_c (by omega) rfl | assumption) (Nat.le_of_ble_eq_true rfl) (by omega) (fun r h' hr => ?_)
  obtain ⟨he9, rfl⟩ := hr
  rw [he9]
  clear he9 h'
  show V _ _ _ (2 + 3) _ (_ :: _) _
  refine v_if_ne hC (pc := 5) (tgt := 10) dX7_walker_5 (by decide) (fun c_5 => ?_) (fun c_5 => ?_)
  · skip
    refine v_aload_n hC (pc := 10) (k := 0) 0 rfl dX7_walker_10 ?_
    refine v_callV hC (pc := 11) (As := []) dX7_walker_11 rfl (m_starts _ _ (d := d - 1) (by omega) _) cv_X7_219 rfl (by decide) rfl (by first | rfl | exact ok_c hq rfl | exact ok_w hq hw | exact ok_w (by omega) (by omega) | exact ok_s (by omega) (by omega) | exact ok_c (by omega) rfl | assumption) (Nat.le_of_ble_eq_true rfl) (by omega) (fun r h' hr => ?_)
    obtain ⟨rfl, rfl⟩ := hr
    show V _ _ _ (11 + 3) _ _ _
    refine v_iload_n hC (pc := 14) (k := 2) 2 rfl dX7_walker_14 ?_
    rcases sw_cases (x) 3 (by decide) with ⟨k9, hk9, hsw⟩ | hsw
    · rcases (show k9 = 0 ∨ k9 = 1 ∨ k9 = 2 ∨ k9 = 3 by omega) with rfl | rfl | rfl | rfl
      · rw [hsw]
        refine v_tabIn hC (pc := 15) (tgt := 44) dX7_walker_15 (by decide) (by decide) (off := 29) (by decide) (by decide) ?_
        refine v_aload_n hC (pc := 44) (k := 0) 0 rfl dX7_walker_44 ?_
        refine v_iload_n hC (pc := 45) (k := 1) 1 rfl dX7_walker_45 ?_
        refine v_iconst hC (pc := 46) (v := 0) (by decide) dX7_walker_46 ?_
        refine v_callV hC (pc := 47) (As := [_, _]) dX7_walker_47 rfl (m_of _ _ (d := d - 1) (by omega) _ (w := w) (by omega) (k := 0) (by decide)) cv_X7_187 rfl (by decide) rfl (by first | rfl | exact ok_c hq rfl | exact ok_w hq hw | exact ok_w (by omega) (by omega) | exact ok_s (by omega) (by omega) | exact ok_c (by omega) rfl | assumption) (Nat.le_of_ble_eq_true rfl) (by omega) (fun r h' hr => ?_)
        obtain ⟨he9, rfl⟩ := hr
        rw [he9]
        clear he9 h'
        show V _ _ _ (47 + 3) _ (_ :: _) _
        refine v_iret hC hX (pc := 50) dX7_walker_50 ?_
        have e0 : ∀ k, k < 6 → (upR h (3, 0, 2) (cpR (h.1 (3, 0, 2)) (h.1 (3, 0, 1)) 80)).1 (3, 0, 2) (18 + 6 * w + k) = h.1 (3, 0, 1) (18 + 6 * w + k) := fun k hk => stH_at h (by omega)
        have e1 : (upR h (3, 0, 2) (cpR (h.1 (3, 0, 2)) (h.1 (3, 0, 1)) 80)).1 (3, 0, 1) = h.1 (3, 0, 1) := stH_o h (by decide)
        exact ⟨by rw [hsw, e0 0 (by decide)]; rfl, rfl⟩
      · rw [hsw]
        refine v_tabIn hC (pc := 15) (tgt := 51) dX7_walker_15 (by decide) (by decide) (off := 36) (by decide) (by decide) ?_
        refine v_aload_n hC (pc := 51) (k := 0) 0 rfl dX7_walker_51 ?_
        refine v_iload_n hC (pc := 52) (k := 1) 1 rfl dX7_walker_52 ?_
        refine v_aload_n hC (pc := 53) (k := 0) 0 rfl dX7_walker_53 ?_
        refine v_getR hC (pc := 54) dX7_walker_54 fl_X7_7 rfl (by first | rfl | exact ok_c hq rfl | exact ok_w hq hw | exact ok_w (by omega) (by omega) | exact ok_s (by omega) (by omega) | exact ok_c (by omega) rfl | assumption) rfl (by decide) (by decide) rfl ?_
        refine v_bipush hC (pc := 57) (v := 17) (by decide +kernel) dX7_walker_57 ?_
        try simp only [nL_0, nL_1, nL_2, nL_3, nL_4, nL_5, nL_6, nL_8, nL_16, nL_17, nL_18, nL_40, nL_42, nL_43, nL_47, nL_48, nL_64, nL_80, pk_mul, nI_add]
        refine v_iald hC (pc := 59) dX7_walker_59 rfl (by first | rfl | exact ok_c hq rfl | exact ok_w hq hw | exact ok_w (by omega) (by omega) | exact ok_s (by omega) (by omega) | exact ok_c (by omega) rfl | assumption) (vp_nat (n := 17) (by omega) (by decide)) ?_
        refine v_callV hC (pc := 60) (As := [_, _]) dX7_walker_60 rfl (m_handIn _ _ (d := d - 1) (by omega) _ (w := w) (by omega) _) cv_X7_222 rfl (by decide) rfl (by first | rfl | exact ok_c hq rfl | exact ok_w hq hw | exact ok_w (by omega) (by omega) | exact ok_s (by omega) (by omega) | exact ok_c (by omega) rfl | assumption) (Nat.le_of_ble_eq_true rfl) (by omega) (fun r h' hr => ?_)
        obtain ⟨he9, rfl⟩ := hr
        rw [he9]
        clear he9 h'
        show V _ _ _ (60 + 3) _ (_ :: _) _
        refine v_iret hC hX (pc := 63) dX7_walker_63 ?_
        have e0 : ∀ k, k < 6 → (upR h (3, 0, 2) (cpR (h.1 (3, 0, 2)) (h.1 (3, 0, 1)) 80)).1 (3, 0, 2) (18 + 6 * w + k) = h.1 (3, 0, 1) (18 + 6 * w + k) := fun k hk => stH_at h (by omega)
        have e1 : (upR h (3, 0, 2) (cpR (h.1 (3, 0, 2)) (h.1 (3, 0, 1)) 80)).1 (3, 0, 1) = h.1 (3, 0, 1) := stH_o h (by decide)
        exact ⟨by rw [hsw, e1]; rfl, rfl⟩
      · rw [hsw]
        refine v_tabIn hC (pc := 15) (tgt := 64) dX7_walker_15 (by decide) (by decide) (off := 49) (by decide) (by decide) ?_
        refine v_aload_n hC (pc := 64) (k := 0) 0 rfl dX7_walker_64 ?_
        refine v_iload_n hC (pc := 65) (k := 1) 1 rfl dX7_walker_65 ?_
        refine v_iconst hC (pc := 66) (v := 2) (by decide) dX7_walker_66 ?_
        refine v_callV hC (pc := 67) (As := [_, _]) dX7_walker_67 rfl (m_of _ _ (d := d - 1) (by omega) _ (w := w) (by omega) (k := 2) (by decide)) cv_X7_187 rfl (by decide) rfl (by first | rfl | exact ok_c hq rfl | exact ok_w hq hw | exact ok_w (by omega) (by omega) | exact ok_s (by omega) (by omega) | exact ok_c (by omega) rfl | assumption) (Nat.le_of_ble_eq_true rfl) (by omega) (fun r h' hr => ?_)
        obtain ⟨he9, rfl⟩ := hr
        rw [he9]
        clear he9 h'
        show V _ _ _ (67 + 3) _ (_ :: _) _
        refine v_iret hC hX (pc := 70) dX7_walker_70 ?_
        have e0 : ∀ k, k < 6 → (upR h (3, 0, 2) (cpR (h.1 (3, 0, 2)) (h.1 (3, 0, 1)) 80)).1 (3, 0, 2) (18 + 6 * w + k) = h.1 (3, 0, 1) (18 + 6 * w + k) := fun k hk => stH_at h (by omega)
        have e1 : (upR h (3, 0, 2) (cpR (h.1 (3, 0, 2)) (h.1 (3, 0, 1)) 80)).1 (3, 0, 1) = h.1 (3, 0, 1) := stH_o h (by decide)
        exact ⟨by rw [hsw, e0 2 (by decide)]; rfl, rfl⟩
      · rw [hsw]
        refine v_tabIn hC (pc := 15) (tgt := 71) dX7_walker_15 (by decide) (by decide) (off := 56) (by decide) (by decide) ?_
        refine v_aload_n hC (pc := 71) (k := 0) 0 rfl dX7_walker_71 ?_
        refine v_iload_n hC (pc := 72) (k := 1) 1 rfl dX7_walker_72 ?_
        refine v_callV hC (pc := 73) (As := [_]) dX7_walker_73 rfl (m_leftOf _ _ (d := d - 1) (by omega) _ (w := w) (by omega)) cv_X7_197 rfl (by decide) rfl (by first | rfl | exact ok_c hq rfl | exact ok_w hq hw | exact ok_w (by omega) (by omega) | exact ok_s (by omega) (by omega) | exact ok_c (by omega) rfl | assumption) (Nat.le_of_ble_eq_true rfl) (by omega) (fun r h' hr => ?_)
        obtain ⟨he9, rfl⟩ := hr
        rw [he9]
        clear he9 h'
        show V _ _ _ (73 + 3) _ (_ :: _) _
        refine v_iret hC hX (pc := 76) dX7_walker_76 ?_
        have e0 : ∀ k, k < 6 → (upR h (3, 0, 2) (cpR (h.1 (3, 0, 2)) (h.1 (3, 0, 1)) 80)).1 (3, 0, 2) (18 + 6 * w + k) = h.1 (3, 0, 1) (18 + 6 * w + k) := fun k hk => stH_at h (by omega)
        have e1 : (upR h (3, 0, 2) (cpR (h.1 (3, 0, 2)) (h.1 (3, 0, 1)) 80)).1 (3, 0, 1) = h.1 (3, 0, 1) := stH_o h (by decide)
        exact ⟨by rw [hsw, e0 3 (by decide), e0 5 (by decide)]; rfl, rfl⟩
    · refine v_tabOut hC (pc := 15) (tgt := 77) dX7_walker_15 hsw (by decide) ?_
      refine v_iconst hC (pc := 77) (v := (-1)) (by decide) dX7_walker_77 ?_
      refine v_iret hC hX (pc := 78) dX7_walker_78 ?_
      exact ⟨by rw [swF_out rfl hsw], rfl⟩
  · exact absurd c_5 (by decide)

set_option maxRecDepth 20000 in
set_option maxHeartbeats 2000000 in
theorem m_walker_bad (l9 : Launch) (G : WT) {d : Nat} (hd : 3 ≤ d) (h : HP) {nW : Nat} (hn4 : nW ≤ 4) (hnw : h.1 (3, 0, 0) 4 = nI nW) (w x : Int32) (hbad : ¬ (¬ w < 0 ∧ ¬ nI nW ≤ w)) : MS l9 G yX7_walker cX7_walker 3 (some .int) d [vr (3, 0, 0), vi w, vi x] h (fun r h1 => h1 = h ∧ r = some (vi (-1))) := by
  refine MS_of (by decide +kernel) (Nat.le_of_ble_eq_true rfl) (fun X hC hX => ?_)
  show V X G 3 0 _ [] _
  refine v_aload_n hC (pc := 0) (k := 0) 0 rfl dX7_walker_0 ?_
  refine v_iload_n hC (pc := 1) (k := 1) 1 rfl dX7_walker_1 ?_
  refine v_callV hC (pc := 2) (As := [_]) dX7_walker_2 rfl (m_isWalker _ _ (d := d - 1) (by omega) _ hn4 hnw _) cv_X7_216 rfl (by decide) rfl (by first | rfl | exact ok_c hq rfl | exact ok_w hq hw | exact ok_w (by omega) (by omega) | exact ok_s (by omega) (by omega) | exact ok_c (by omega) rfl | assumption) (Nat.le_of_ble_eq_true rfl) (by omega) (fun r h' hr => ?_)
  obtain ⟨he9, rfl⟩ := hr
  rw [he9]
  clear he9 h'
  show V _ _ _ (2 + 3) _ (_ :: _) _
  refine v_ifb_ne hC (pc := 5) (tgt := 10) dX7_walker_5 (by decide) (fun c_5 => ?_) (fun c_5 => ?_)
  · skip
    exact absurd c_5 hbad
  · skip
    refine v_iconst hC (pc := 8) (v := (-1)) (by decide) dX7_walker_8 ?_
    refine v_iret hC hX (pc := 9) dX7_walker_9 ?_
    exact ⟨rfl, rfl⟩

