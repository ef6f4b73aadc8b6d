/-! THE REFERENCE: gloves, hours to come -/
theorem flg_le (p : Prop) [Decidable p] : flgF (bI p) = nI (if p then 1 else 0) := by
  rw [flg_b]
  unfold bI
  split <;> rfl
def glvF (g : Nat → Int32) (p : Prop) [Decidable p] (what : Int32) : Int32 := if what = 0 then g (43 + (if p then 1 else 0)) + g 45 else if what = 1 then g (43 + (if p then 0 else 1)) + g 46 else (g (43 + (if p then 1 else 0)) + g 45) + (g (43 + (if p then 0 else 1)) + g 46)
set_option maxRecDepth 20000 in
set_option maxHeartbeats 2000000 in
theorem m_gloves_ok (l9 : Launch) (G : WT) {d : Nat} (hd : 3 ≤ d) (h : HP) (x : Int32) (hx : ¬ x < 0 ∧ ¬ 2 < x) : MS l9 G yX7_gloves cX7_gloves 5 (some .int) d [vr (3, 0, 0), vi x] h (fun r h1 => h1 = h ∧ r = some (vi (glvF (h.1 (3, 0, 1)) (¬ h.1 (3, 0, 1) 17 - h.1 (3, 0, 1) 17 / 24 * 24 < 12) x))) := by
  refine MS_of (by decide +kernel) (Nat.le_of_ble_eq_true rfl) (fun X hC hX => ?_)
  show V X G 5 0 _ [] _
  by_cases ht : (¬ h.1 (3, 0, 1) 17 - h.1 (3, 0, 1) 17 / 24 * 24 < 12)
  · skip
    refine v_aload_n hC (pc := 0) (k := 0) 0 rfl dX7_gloves_0 ?_
    refine v_getR hC (pc := 1) dX7_gloves_1 fl_X7_7 rfl (by first | rfl | exact ok_c hq rfl | exact ok_w hq hw | exact ok_w (by omega) (by omega) | exact ok_s (by omega) (by omega) | exact ok_c (by omega) rfl | assumption) rfl (by decide) (by decide) rfl ?_
    refine v_bipush hC (pc := 4) (v := 17) (by decide +kernel) dX7_gloves_4 ?_
    refine v_iald hC (pc := 6) dX7_gloves_6 rfl (by first | rfl | exact ok_c hq rfl | exact ok_w hq hw | exact ok_w (by omega) (by omega) | exact ok_s (by omega) (by omega) | exact ok_c (by omega) rfl | assumption) (vp_nat (n := 17) (by omega) (by decide)) ?_
    refine v_callS hC (pc := 7) (As := [_]) dX7_gloves_7 rfl (m_isTurned _ _ (d := d - 1) (by omega) _ _) cs_X7_179 (Nat.le_of_ble_eq_true rfl) (by omega) (fun r h' hr => ?_)
    obtain ⟨he9, rfl⟩ := hr
    rw [he9]
    clear he9 h'
    show V X G 5 10 _ [vi (bI ((¬ h.1 (3, 0, 1) 17 - h.1 (3, 0, 1) 17 / 24 * 24 < 12)))] _
    rw [bI_t ht]
    show V _ _ _ (7 + 3) _ (_ :: _) _
    refine v_istore_n hC (pc := 10) (l' := [(2, _), (0, _), (1, _)]) dX7_gloves_10 (by decide) rfl ?_
    refine v_aload_n hC (pc := 11) (k := 0) 1 rfl dX7_gloves_11 ?_
    refine v_getR hC (pc := 12) dX7_gloves_12 fl_X7_7 rfl (by first | rfl | exact ok_c hq rfl | exact ok_w hq hw | exact ok_w (by omega) (by omega) | exact ok_s (by omega) (by omega) | exact ok_c (by omega) rfl | assumption) rfl (by decide) (by decide) rfl ?_
    refine v_bipush hC (pc := 15) (v := 43) (by decide +kernel) dX7_gloves_15 ?_
    refine v_iload_n hC (pc := 17) (k := 2) 0 rfl dX7_gloves_17 ?_
    refine v_callS hC (pc := 18) (As := [_]) dX7_gloves_18 rfl (m_flag _ _ (d := d - 1) (by omega) _ _) cs_X7_147 (Nat.le_of_ble_eq_true rfl) (by omega) (fun r h' hr => ?_)
    obtain ⟨he9, rfl⟩ := hr
    rw [he9]
    clear he9 h'
    show V _ _ _ (18 + 3) _ (_ :: _) _
    refine v_iadd hC (pc := 21) dX7_gloves_21 ?_
    refine v_iald hC (pc := 22) dX7_gloves_22 rfl (by first | rfl | exact ok_c hq rfl | exact ok_w hq hw | exact ok_w (by omega) (by omega) | exact ok_s (by omega) (by omega) | exact ok_c (by omega) rfl | assumption) (vp_nat (n := 44) (by omega) (by decide)) ?_
    refine v_aload_n hC (pc := 23) (k := 0) 1 rfl dX7_gloves_23 ?_
    refine v_getR hC (pc := 24) dX7_gloves_24 fl_X7_7 rfl (by first | rfl | exact ok_c hq rfl | exact ok_w hq hw | exact ok_w (by omega) (by omega) | exact ok_s (by omega) (by omega) | exact ok_c (by omega) rfl | assumption) rfl (by decide) (by decide) rfl ?_
    refine v_bipush hC (pc := 27) (v := 45) (by decide +kernel) dX7_gloves_27 ?_
    refine v_iald hC (pc := 29) dX7_gloves_29 rfl (by first | rfl | exact ok_c hq rfl | exact ok_w hq hw | exact ok_w (by omega) (by omega) | exact ok_s (by omega) (by omega) | exact ok_c (by omega) rfl | assumption) (vp_nat (n := 45) (by omega) (by decide)) ?_
    refine v_iadd hC (pc := 30) dX7_gloves_30 ?_
    refine v_istore_n hC (pc := 31) (l' := [(3, _), (2, _), (0, _), (1, _)]) dX7_gloves_31 (by decide) rfl ?_
    refine v_aload_n hC (pc := 32) (k := 0) 2 rfl dX7_gloves_32 ?_
    refine v_getR hC (pc := 33) dX7_gloves_33 fl_X7_7 rfl (by first | rfl | exact ok_c hq rfl | exact ok_w hq hw | exact ok_w (by omega) (by omega) | exact ok_s (by omega) (by omega) | exact ok_c (by omega) rfl | assumption) rfl (by decide) (by decide) rfl ?_
    refine v_bipush hC (pc := 36) (v := 43) (by decide +kernel) dX7_gloves_36 ?_
    refine v_iload_n hC (pc := 38) (k := 2) 1 rfl dX7_gloves_38 ?_
    refine v_if_ne hC (pc := 39) (tgt := 46) dX7_gloves_39 (by decide) (fun c_39 => ?_) (fun c_39 => ?_)
    · skip
      refine v_iconst hC (pc := 46) (v := 0) (by decide) dX7_gloves_46 ?_
      refine v_callS hC (pc := 47) (As := [_]) dX7_gloves_47 rfl (m_flag _ _ (d := d - 1) (by omega) _ _) cs_X7_147 (Nat.le_of_ble_eq_true rfl) (by omega) (fun r h' hr => ?_)
      obtain ⟨he9, rfl⟩ := hr
      rw [he9]
      clear he9 h'
      show V _ _ _ (47 + 3) _ (_ :: _) _
      refine v_iadd hC (pc := 50) dX7_gloves_50 ?_
      refine v_iald hC (pc := 51) dX7_gloves_51 rfl (by first | rfl | exact ok_c hq rfl | exact ok_w hq hw | exact ok_w (by omega) (by omega) | exact ok_s (by omega) (by omega) | exact ok_c (by omega) rfl | assumption) (vp_nat (n := 43) (by omega) (by decide)) ?_
      refine v_aload_n hC (pc := 52) (k := 0) 2 rfl dX7_gloves_52 ?_
      refine v_getR hC (pc := 53) dX7_gloves_53 fl_X7_7 rfl (by first | rfl | exact ok_c hq rfl | exact ok_w hq hw | exact ok_w (by omega) (by omega) | exact ok_s (by omega) (by omega) | exact ok_c (by omega) rfl | assumption) rfl (by decide) (by decide) rfl ?_
      refine v_bipush hC (pc := 56) (v := 46) (by decide +kernel) dX7_gloves_56 ?_
      refine v_iald hC (pc := 58) dX7_gloves_58 rfl (by first | rfl | exact ok_c hq rfl | exact ok_w hq hw | exact ok_w (by omega) (by omega) | exact ok_s (by omega) (by omega) | exact ok_c (by omega) rfl | assumption) (vp_nat (n := 46) (by omega) (by decide)) ?_
      refine v_iadd hC (pc := 59) dX7_gloves_59 ?_
      refine v_istore hC (pc := 60) (l' := [(4, _), (3, _), (2, _), (0, _), (1, _)]) dX7_gloves_60 (by decide) rfl ?_
      refine v_iload_n hC (pc := 62) (k := 1) 4 rfl dX7_gloves_62 ?_
      refine v_i2l hC (pc := 63) dX7_gloves_63 ?_
      refine v_lconst hC (pc := 64) (v := 0) (by decide) dX7_gloves_64 ?_
      refine v_ldc2 hC (pc := 65) k_X7_167 dX7_gloves_65 ?_
      refine v_callS hC (pc := 68) (As := [_, _, _]) dX7_gloves_68 rfl (m_in_t _ _ (d := d - 1) (by omega) _ x 0 2 hx) cs_X7_84 (Nat.le_of_ble_eq_true rfl) (by omega) (fun r h' hr => ?_)
      obtain ⟨he9, rfl⟩ := hr
      rw [he9]
      clear he9 h'
      show V _ _ _ (68 + 3) _ (_ :: _) _
      refine v_if_ne hC (pc := 71) (tgt := 78) dX7_gloves_71 (by decide) (fun c_71 => ?_) (fun c_71 => ?_)
      · skip
        refine v_iload_n hC (pc := 78) (k := 1) 4 rfl dX7_gloves_78 ?_
        refine v_if_ne hC (pc := 79) (tgt := 86) dX7_gloves_79 (by decide) (fun c_79 => ?_) (fun c_79 => ?_)
        · skip
          refine v_iload_n hC (pc := 86) (k := 1) 4 rfl dX7_gloves_86 ?_
          refine v_iconst hC (pc := 87) (v := 1) (by decide) dX7_gloves_87 ?_
          refine v_icmp_ne hC (pc := 88) (tgt := 96) dX7_gloves_88 (by decide) (fun c_88 => ?_) (fun c_88 => ?_)
          · skip
            refine v_iload_n hC (pc := 96) (k := 3) 1 rfl dX7_gloves_96 ?_
            refine v_iload hC (pc := 97) 0 rfl dX7_gloves_97 ?_
            refine v_iadd hC (pc := 99) dX7_gloves_99 ?_
            refine v_iret hC hX (pc := 100) dX7_gloves_100 ?_
            refine ⟨rfl, ?_⟩
            unfold glvF
            first | (rw [if_pos c_79, if_pos ht]; rfl) | (rw [if_neg c_79, if_pos c_88, if_pos ht]; rfl) | (rw [if_neg c_79, if_neg c_88, if_pos ht, if_pos ht]; rfl)
          · skip
            refine v_iload hC (pc := 91) 0 rfl dX7_gloves_91 ?_
            refine v_goto hC (pc := 93) (tgt := 100) dX7_gloves_93 (by decide) ?_
            refine v_iret hC hX (pc := 100) dX7_gloves_100 ?_
            refine ⟨rfl, ?_⟩
            unfold glvF
            first | (rw [if_pos c_79, if_pos ht]; rfl) | (rw [if_neg c_79, if_pos c_88, if_pos ht]; rfl) | (rw [if_neg c_79, if_neg c_88, if_pos ht, if_pos ht]; rfl)
        · skip
          refine v_iload_n hC (pc := 82) (k := 3) 1 rfl dX7_gloves_82 ?_
          refine v_goto hC (pc := 83) (tgt := 100) dX7_gloves_83 (by decide) ?_
          refine v_iret hC hX (pc := 100) dX7_gloves_100 ?_
          refine ⟨rfl, ?_⟩
          unfold glvF
          first | (rw [if_pos c_79, if_pos ht]; rfl) | (rw [if_neg c_79, if_pos c_88, if_pos ht]; rfl) | (rw [if_neg c_79, if_neg c_88, if_pos ht, if_pos ht]; rfl)
      · exact absurd c_71 (by decide)
    · exact absurd c_39 (by decide)
  · skip
    refine v_aload_n hC (pc := 0) (k := 0) 0 rfl dX7_gloves_0 ?_
    refine v_getR hC (pc := 1) dX7_gloves_1 fl_X7_7 rfl (by first | rfl | exact ok_c hq rfl | exact ok_w hq hw | exact ok_w (by omega) (by omega) | exact ok_s (by omega) (by omega) | exact ok_c (by omega) rfl | assumption) rfl (by decide) (by decide) rfl ?_
    refine v_bipush hC (pc := 4) (v := 17) (by decide +kernel) dX7_gloves_4 ?_
    refine v_iald hC (pc := 6) dX7_gloves_6 rfl (by first | rfl | exact ok_c hq rfl | exact ok_w hq hw | exact ok_w (by omega) (by omega) | exact ok_s (by omega) (by omega) | exact ok_c (by omega) rfl | assumption) (vp_nat (n := 17) (by omega) (by decide)) ?_
    refine v_callS hC (pc := 7) (As := [_]) dX7_gloves_7 rfl (m_isTurned _ _ (d := d - 1) (by omega) _ _) cs_X7_179 (Nat.le_of_ble_eq_true rfl) (by omega) (fun r h' hr => ?_)
    obtain ⟨he9, rfl⟩ := hr
    rw [he9]
    clear he9 h'
    show V X G 5 10 _ [vi (bI ((¬ h.1 (3, 0, 1) 17 - h.1 (3, 0, 1) 17 / 24 * 24 < 12)))] _
    rw [bI_f ht]
    show V _ _ _ (7 + 3) _ (_ :: _) _
    refine v_istore_n hC (pc := 10) (l' := [(2, _), (0, _), (1, _)]) dX7_gloves_10 (by decide) rfl ?_
    refine v_aload_n hC (pc := 11) (k := 0) 1 rfl dX7_gloves_11 ?_
    refine v_getR hC (pc := 12) dX7_gloves_12 fl_X7_7 rfl (by first | rfl | exact ok_c hq rfl | exact ok_w hq hw | exact ok_w (by omega) (by omega) | exact ok_s (by omega) (by omega) | exact ok_c (by omega) rfl | assumption) rfl (by decide) (by decide) rfl ?_
    refine v_bipush hC (pc := 15) (v := 43) (by decide +kernel) dX7_gloves_15 ?_
    refine v_iload_n hC (pc := 17) (k := 2) 0 rfl dX7_gloves_17 ?_
    refine v_callS hC (pc := 18) (As := [_]) dX7_gloves_18 rfl (m_flag _ _ (d := d - 1) (by omega) _ _) cs_X7_147 (Nat.le_of_ble_eq_true rfl) (by omega) (fun r h' hr => ?_)
    obtain ⟨he9, rfl⟩ := hr
    rw [he9]
    clear he9 h'
    show V _ _ _ (18 + 3) _ (_ :: _) _
    refine v_iadd hC (pc := 21) dX7_gloves_21 ?_
    refine v_iald hC (pc := 22) dX7_gloves_22 rfl (by first | rfl | exact ok_c hq rfl | exact ok_w hq hw | exact ok_w (by omega) (by omega) | exact ok_s (by omega) (by omega) | exact ok_c (by omega) rfl | assumption) (vp_nat (n := 43) (by omega) (by decide)) ?_
    refine v_aload_n hC (pc := 23) (k := 0) 1 rfl dX7_gloves_23 ?_
    refine v_getR hC (pc := 24) dX7_gloves_24 fl_X7_7 rfl (by first | rfl | exact ok_c hq rfl | exact ok_w hq hw | exact ok_w (by omega) (by omega) | exact ok_s (by omega) (by omega) | exact ok_c (by omega) rfl | assumption) rfl (by decide) (by decide) rfl ?_
    refine v_bipush hC (pc := 27) (v := 45) (by decide +kernel) dX7_gloves_27 ?_
    refine v_iald hC (pc := 29) dX7_gloves_29 rfl (by first | rfl | exact ok_c hq rfl | exact ok_w hq hw | exact ok_w (by omega) (by omega) | exact ok_s (by omega) (by omega) | exact ok_c (by omega) rfl | assumption) (vp_nat (n := 45) (by omega) (by decide)) ?_
    refine v_iadd hC (pc := 30) dX7_gloves_30 ?_
    refine v_istore_n hC (pc := 31) (l' := [(3, _), (2, _), (0, _), (1, _)]) dX7_gloves_31 (by decide) rfl ?_
    refine v_aload_n hC (pc := 32) (k := 0) 2 rfl dX7_gloves_32 ?_
    refine v_getR hC (pc := 33) dX7_gloves_33 fl_X7_7 rfl (by first | rfl | exact ok_c hq rfl | exact ok_w hq hw | exact ok_w (by omega) (by omega) | exact ok_s (by omega) (by omega) | exact ok_c (by omega) rfl | assumption) rfl (by decide) (by decide) rfl ?_
    refine v_bipush hC (pc := 36) (v := 43) (by decide +kernel) dX7_gloves_36 ?_
    refine v_iload_n hC (pc := 38) (k := 2) 1 rfl dX7_gloves_38 ?_
    refine v_if_ne hC (pc := 39) (tgt := 46) dX7_gloves_39 (by decide) (fun c_39 => ?_) (fun c_39 => ?_)
    · exact absurd c_39 (by decide)
    · skip
      refine v_iconst hC (pc := 42) (v := 1) (by decide) dX7_gloves_42 ?_
      refine v_goto hC (pc := 43) (tgt := 47) dX7_gloves_43 (by decide) ?_
      refine v_callS hC (pc := 47) (As := [_]) dX7_gloves_47 rfl (m_flag _ _ (d := d - 1) (by omega) _ _) cs_X7_147 (Nat.le_of_ble_eq_true rfl) (by omega) (fun r h' hr => ?_)
      obtain ⟨he9, rfl⟩ := hr
      rw [he9]
      clear he9 h'
      show V _ _ _ (47 + 3) _ (_ :: _) _
      refine v_iadd hC (pc := 50) dX7_gloves_50 ?_
      refine v_iald hC (pc := 51) dX7_gloves_51 rfl (by first | rfl | exact ok_c hq rfl | exact ok_w hq hw | exact ok_w (by omega) (by omega) | exact ok_s (by omega) (by omega) | exact ok_c (by omega) rfl | assumption) (vp_nat (n := 44) (by omega) (by decide)) ?_
      refine v_aload_n hC (pc := 52) (k := 0) 2 rfl dX7_gloves_52 ?_
      refine v_getR hC (pc := 53) dX7_gloves_53 fl_X7_7 rfl (by first | rfl | exact ok_c hq rfl | exact ok_w hq hw | exact ok_w (by omega) (by omega) | exact ok_s (by omega) (by omega) | exact ok_c (by omega) rfl | assumption) rfl (by decide) (by decide) rfl ?_
      refine v_bipush hC (pc := 56) (v := 46) (by decide +kernel) dX7_gloves_56 ?_
      refine v_iald hC (pc := 58) dX7_gloves_58 rfl (by first | rfl | exact ok_c hq rfl | exact ok_w hq hw | exact ok_w (by omega) (by omega) | exact ok_s (by omega) (by omega) | exact ok_c (by omega) rfl | assumption) (vp_nat (n := 46) (by omega) (by decide)) ?_
      refine v_iadd hC (pc := 59) dX7_gloves_59 ?_
      refine v_istore hC (pc := 60) (l' := [(4, _), (3, _), (2, _), (0, _), (1, _)]) dX7_gloves_60 (by decide) rfl ?_
      refine v_iload_n hC (pc := 62) (k := 1) 4 rfl dX7_gloves_62 ?_
      refine v_i2l hC (pc := 63) dX7_gloves_63 ?_
      refine v_lconst hC (pc := 64) (v := 0) (by decide) dX7_gloves_64 ?_
      refine v_ldc2 hC (pc := 65) k_X7_167 dX7_gloves_65 ?_
      refine v_callS hC (pc := 68) (As := [_, _, _]) dX7_gloves_68 rfl (m_in_t _ _ (d := d - 1) (by omega) _ x 0 2 hx) cs_X7_84 (Nat.le_of_ble_eq_true rfl) (by omega) (fun r h' hr => ?_)
      obtain ⟨he9, rfl⟩ := hr
      rw [he9]
      clear he9 h'
      show V _ _ _ (68 + 3) _ (_ :: _) _
      refine v_if_ne hC (pc := 71) (tgt := 78) dX7_gloves_71 (by decide) (fun c_71 => ?_) (fun c_71 => ?_)
      · skip
        refine v_iload_n hC (pc := 78) (k := 1) 4 rfl dX7_gloves_78 ?_
        refine v_if_ne hC (pc := 79) (tgt := 86) dX7_gloves_79 (by decide) (fun c_79 => ?_) (fun c_79 => ?_)
        · skip
          refine v_iload_n hC (pc := 86) (k := 1) 4 rfl dX7_gloves_86 ?_
          refine v_iconst hC (pc := 87) (v := 1) (by decide) dX7_gloves_87 ?_
          refine v_icmp_ne hC (pc := 88) (tgt := 96) dX7_gloves_88 (by decide) (fun c_88 => ?_) (fun c_88 => ?_)
          · skip
            refine v_iload_n hC (pc := 96) (k := 3) 1 rfl dX7_gloves_96 ?_
            refine v_iload hC (pc := 97) 0 rfl dX7_gloves_97 ?_
            refine v_iadd hC (pc := 99) dX7_gloves_99 ?_
            refine v_iret hC hX (pc := 100) dX7_gloves_100 ?_
            refine ⟨rfl, ?_⟩
            unfold glvF
            first | (rw [if_pos c_79, if_neg ht]; rfl) | (rw [if_neg c_79, if_pos c_88, if_neg ht]; rfl) | (rw [if_neg c_79, if_neg c_88, if_neg ht, if_neg ht]; rfl)
          · skip
            refine v_iload hC (pc := 91) 0 rfl dX7_gloves_91 ?_
            refine v_goto hC (pc := 93) (tgt := 100) dX7_gloves_93 (by decide) ?_
            refine v_iret hC hX (pc := 100) dX7_gloves_100 ?_
            refine ⟨rfl, ?_⟩
            unfold glvF
            first | (rw [if_pos c_79, if_neg ht]; rfl) | (rw [if_neg c_79, if_pos c_88, if_neg ht]; rfl) | (rw [if_neg c_79, if_neg c_88, if_neg ht, if_neg ht]; rfl)
        · skip
          refine v_iload_n hC (pc := 82) (k := 3) 1 rfl dX7_gloves_82 ?_
          refine v_goto hC (pc := 83) (tgt := 100) dX7_gloves_83 (by decide) ?_
          refine v_iret hC hX (pc := 100) dX7_gloves_100 ?_
          refine ⟨rfl, ?_⟩
          unfold glvF
          first | (rw [if_pos c_79, if_neg ht]; rfl) | (rw [if_neg c_79, if_pos c_88, if_neg ht]; rfl) | (rw [if_neg c_79, if_neg c_88, if_neg ht, if_neg ht]; rfl)
      · exact absurd c_71 (by decide)

set_option maxRecDepth 20000 in
set_option maxHeartbeats 2000000 in
theorem m_gloves_bad (l9 : Launch) (G : WT) {d : Nat} (hd : 3 ≤ d) (h : HP) (x : Int32) (hbad : ¬ (¬ x < 0 ∧ ¬ 2 < x)) : MS l9 G yX7_gloves cX7_gloves 5 (some .int) d [vr (3, 0, 0), vi x] h (fun r h1 => h1 = h ∧ r = some (vi (-1))) := by
  refine MS_of (by decide +kernel) (Nat.le_of_ble_eq_true rfl) (fun X hC hX => ?_)
  show V X G 5 0 _ [] _
  by_cases ht : (¬ h.1 (3, 0, 1) 17 - h.1 (3, 0, 1) 17 / 24 * 24 < 12)
  · skip
    refine v_aload_n hC (pc := 0) (k := 0) 0 rfl dX7_gloves_0 ?_
    refine v_getR hC (pc := 1) dX7_gloves_1 fl_X7_7 rfl (by first | rfl | exact ok_c hq rfl | exact ok_w hq hw | exact ok_w (by omega) (by omega) | exact ok_s (by omega) (by omega) | exact ok_c (by omega) rfl | assumption) rfl (by decide) (by decide) rfl ?_
    refine v_bipush hC (pc := 4) (v := 17) (by decide +kernel) dX7_gloves_4 ?_
    refine v_iald hC (pc := 6) dX7_gloves_6 rfl (by first | rfl | exact ok_c hq rfl | exact ok_w hq hw | exact ok_w (by omega) (by omega) | exact ok_s (by omega) (by omega) | exact ok_c (by omega) rfl | assumption) (vp_nat (n := 17) (by omega) (by decide)) ?_
    refine v_callS hC (pc := 7) (As := [_]) dX7_gloves_7 rfl (m_isTurned _ _ (d := d - 1) (by omega) _ _) cs_X7_179 (Nat.le_of_ble_eq_true rfl) (by omega) (fun r h' hr => ?_)
    obtain ⟨he9, rfl⟩ := hr
    rw [he9]
    clear he9 h'
    show V X G 5 10 _ [vi (bI ((¬ h.1 (3, 0, 1) 17 - h.1 (3, 0, 1) 17 / 24 * 24 < 12)))] _
    rw [bI_t ht]
    show V _ _ _ (7 + 3) _ (_ :: _) _
    refine v_istore_n hC (pc := 10) (l' := [(2, _), (0, _), (1, _)]) dX7_gloves_10 (by decide) rfl ?_
    refine v_aload_n hC (pc := 11) (k := 0) 1 rfl dX7_gloves_11 ?_
    refine v_getR hC (pc := 12) dX7_gloves_12 fl_X7_7 rfl (by first | rfl | exact ok_c hq rfl | exact ok_w hq hw | exact ok_w (by omega) (by omega) | exact ok_s (by omega) (by omega) | exact ok_c (by omega) rfl | assumption) rfl (by decide) (by decide) rfl ?_
    refine v_bipush hC (pc := 15) (v := 43) (by decide +kernel) dX7_gloves_15 ?_
    refine v_iload_n hC (pc := 17) (k := 2) 0 rfl dX7_gloves_17 ?_
    refine v_callS hC (pc := 18) (As := [_]) dX7_gloves_18 rfl (m_flag _ _ (d := d - 1) (by omega) _ _) cs_X7_147 (Nat.le_of_ble_eq_true rfl) (by omega) (fun r h' hr => ?_)
    obtain ⟨he9, rfl⟩ := hr
    rw [he9]
    clear he9 h'
    show V _ _ _ (18 + 3) _ (_ :: _) _
    refine v_iadd hC (pc := 21) dX7_gloves_21 ?_
    refine v_iald hC (pc := 22) dX7_gloves_22 rfl (by first | rfl | exact ok_c hq rfl | exact ok_w hq hw | exact ok_w (by omega) (by omega) | exact ok_s (by omega) (by omega) | exact ok_c (by omega) rfl | assumption) (vp_nat (n := 44) (by omega) (by decide)) ?_
    refine v_aload_n hC (pc := 23) (k := 0) 1 rfl dX7_gloves_23 ?_
    refine v_getR hC (pc := 24) dX7_gloves_24 fl_X7_7 rfl (by first | rfl | exact ok_c hq rfl | exact ok_w hq hw | exact ok_w (by omega) (by omega) | exact ok_s (by omega) (by omega) | exact ok_c (by omega) rfl | assumption) rfl (by decide) (by decide) rfl ?_
    refine v_bipush hC (pc := 27) (v := 45) (by decide +kernel) dX7_gloves_27 ?_
    refine v_iald hC (pc := 29) dX7_gloves_29 rfl (by first | rfl | exact ok_c hq rfl | exact ok_w hq hw | exact ok_w (by omega) (by omega) | exact ok_s (by omega) (by omega) | exact ok_c (by omega) rfl | assumption) (vp_nat (n := 45) (by omega) (by decide)) ?_
    refine v_iadd hC (pc := 30) dX7_gloves_30 ?_
    refine v_istore_n hC (pc := 31) (l' := [(3, _), (2, _), (0, _), (1, _)]) dX7_gloves_31 (by decide) rfl ?_
    refine v_aload_n hC (pc := 32) (k := 0) 2 rfl dX7_gloves_32 ?_
    refine v_getR hC (pc := 33) dX7_gloves_33 fl_X7_7 rfl (by first | rfl | exact ok_c hq rfl | exact ok_w hq hw | exact ok_w (by omega) (by omega) | exact ok_s (by omega) (by omega) | exact ok_c (by omega) rfl | assumption) rfl (by decide) (by decide) rfl ?_
    refine v_bipush hC (pc := 36) (v := 43) (by decide +kernel) dX7_gloves_36 ?_
    refine v_iload_n hC (pc := 38) (k := 2) 1 rfl dX7_gloves_38 ?_
    refine v_if_ne hC (pc := 39) (tgt := 46) dX7_gloves_39 (by decide) (fun c_39 => ?_) (fun c_39 => ?_)
    · skip
      refine v_iconst hC (pc := 46) (v := 0) (by decide) dX7_gloves_46 ?_
      refine v_callS hC (pc := 47) (As := [_]) dX7_gloves_47 rfl (m_flag _ _ (d := d - 1) (by omega) _ _) cs_X7_147 (Nat.le_of_ble_eq_true rfl) (by omega) (fun r h' hr => ?_)
      obtain ⟨he9, rfl⟩ := hr
      rw [he9]
      clear he9 h'
      show V _ _ _ (47 + 3) _ (_ :: _) _
      refine v_iadd hC (pc := 50) dX7_gloves_50 ?_
      refine v_iald hC (pc := 51) dX7_gloves_51 rfl (by first | rfl | exact ok_c hq rfl | exact ok_w hq hw | exact ok_w (by omega) (by omega) | exact ok_s (by omega) (by omega) | exact ok_c (by omega) rfl | assumption) (vp_nat (n := 43) (by omega) (by decide)) ?_
      refine v_aload_n hC (pc := 52) (k := 0) 2 rfl dX7_gloves_52 ?_
      refine v_getR hC (pc := 53) dX7_gloves_53 fl_X7_7 rfl (by first | rfl | exact ok_c hq rfl | exact ok_w hq hw | exact ok_w (by omega) (by omega) | exact ok_s (by omega) (by omega) | exact ok_c (by omega) rfl | assumption) rfl (by decide) (by decide) rfl ?_
      refine v_bipush hC (pc := 56) (v := 46) (by decide +kernel) dX7_gloves_56 ?_
      refine v_iald hC (pc := 58) dX7_gloves_58 rfl (by first | rfl | exact ok_c hq rfl | exact ok_w hq hw | exact ok_w (by omega) (by omega) | exact ok_s (by omega) (by omega) | exact ok_c (by omega) rfl | assumption) (vp_nat (n := 46) (by omega) (by decide)) ?_
      refine v_iadd hC (pc := 59) dX7_gloves_59 ?_
      refine v_istore hC (pc := 60) (l' := [(4, _), (3, _), (2, _), (0, _), (1, _)]) dX7_gloves_60 (by decide) rfl ?_
      refine v_iload_n hC (pc := 62) (k := 1) 4 rfl dX7_gloves_62 ?_
      refine v_i2l hC (pc := 63) dX7_gloves_63 ?_
      refine v_lconst hC (pc := 64) (v := 0) (by decide) dX7_gloves_64 ?_
      refine v_ldc2 hC (pc := 65) k_X7_167 dX7_gloves_65 ?_
      refine v_callS hC (pc := 68) (As := [_, _, _]) dX7_gloves_68 rfl (m_in _ _ (d := d - 1) (by omega) _ x 0 2) cs_X7_84 (Nat.le_of_ble_eq_true rfl) (by omega) (fun r h' hr => ?_)
      obtain ⟨he9, rfl⟩ := hr
      rw [he9]
      clear he9 h'
      rw [bI_f hbad]
      show V _ _ _ (68 + 3) _ (_ :: _) _
      refine v_if_ne hC (pc := 71) (tgt := 78) dX7_gloves_71 (by decide) (fun c_71 => ?_) (fun c_71 => ?_)
      · exact absurd c_71 (by decide)
      · skip
        refine v_iconst hC (pc := 74) (v := (-1)) (by decide) dX7_gloves_74 ?_
        refine v_goto hC (pc := 75) (tgt := 100) dX7_gloves_75 (by decide) ?_
        refine v_iret hC hX (pc := 100) dX7_gloves_100 ?_
        exact ⟨rfl, rfl⟩
    · exact absurd c_39 (by decide)
  · skip
    refine v_aload_n hC (pc := 0) (k := 0) 0 rfl dX7_gloves_0 ?_
    refine v_getR hC (pc := 1) dX7_gloves_1 fl_X7_7 rfl (by first | rfl | exact ok_c hq rfl | exact ok_w hq hw | exact ok_w (by omega) (by omega) | exact ok_s (by omega) (by omega) | exact ok_c (by omega) rfl | assumption) rfl (by decide) (by decide) rfl ?_
    refine v_bipush hC (pc := 4) (v := 17) (by decide +kernel) dX7_gloves_4 ?_
    refine v_iald hC (pc := 6) dX7_gloves_6 rfl (by first | rfl | exact ok_c hq rfl | exact ok_w hq hw | exact ok_w (by omega) (by omega) | exact ok_s (by omega) (by omega) | exact ok_c (by omega) rfl | assumption) (vp_nat (n := 17) (by omega) (by decide)) ?_
    refine v_callS hC (pc := 7) (As := [_]) dX7_gloves_7 rfl (m_isTurned _ _ (d := d - 1) (by omega) _ _) cs_X7_179 (Nat.le_of_ble_eq_true rfl) (by omega) (fun r h' hr => ?_)
    obtain ⟨he9, rfl⟩ := hr
    rw [he9]
    clear he9 h'
    show V X G 5 10 _ [vi (bI ((¬ h.1 (3, 0, 1) 17 - h.1 (3, 0, 1) 17 / 24 * 24 < 12)))] _
    rw [bI_f ht]
    show V _ _ _ (7 + 3) _ (_ :: _) _
    refine v_istore_n hC (pc := 10) (l' := [(2, _), (0, _), (1, _)]) dX7_gloves_10 (by decide) rfl ?_
    refine v_aload_n hC (pc := 11) (k := 0) 1 rfl dX7_gloves_11 ?_
    refine v_getR hC (pc := 12) dX7_gloves_12 fl_X7_7 rfl (by first | rfl | exact ok_c hq rfl | exact ok_w hq hw | exact ok_w (by omega) (by omega) | exact ok_s (by omega) (by omega) | exact ok_c (by omega) rfl | assumption) rfl (by decide) (by decide) rfl ?_
    refine v_bipush hC (pc := 15) (v := 43) (by decide +kernel) dX7_gloves_15 ?_
    refine v_iload_n hC (pc := 17) (k := 2) 0 rfl dX7_gloves_17 ?_
    refine v_callS hC (pc := 18) (As := [_]) dX7_gloves_18 rfl (m_flag _ _ (d := d - 1) (by omega) _ _) cs_X7_147 (Nat.le_of_ble_eq_true rfl) (by omega) (fun r h' hr => ?_)
    obtain ⟨he9, rfl⟩ := hr
    rw [he9]
    clear he9 h'
    show V _ _ _ (18 + 3) _ (_ :: _) _
    refine v_iadd hC (pc := 21) dX7_gloves_21 ?_
    refine v_iald hC (pc := 22) dX7_gloves_22 rfl (by first | rfl | exact ok_c hq rfl | exact ok_w hq hw | exact ok_w (by omega) (by omega) | exact ok_s (by omega) (by omega) | exact ok_c (by omega) rfl | assumption) (vp_nat (n := 43) (by omega) (by decide)) ?_
    refine v_aload_n hC (pc := 23) (k := 0) 1 rfl dX7_gloves_23 ?_
    refine v_getR hC (pc := 24) dX7_gloves_24 fl_X7_7 rfl (by first | rfl | exact ok_c hq rfl | exact ok_w hq hw | exact ok_w (by omega) (by omega) | exact ok_s (by omega) (by omega) | exact ok_c (by omega) rfl | assumption) rfl (by decide) (by decide) rfl ?_
    refine v_bipush hC (pc := 27) (v := 45) (by decide +kernel) dX7_gloves_27 ?_
    refine v_iald hC (pc := 29) dX7_gloves_29 rfl (by first | rfl | exact ok_c hq rfl | exact ok_w hq hw | exact ok_w (by omega) (by omega) | exact ok_s (by omega) (by omega) | exact ok_c (by omega) rfl | assumption) (vp_nat (n := 45) (by omega) (by decide)) ?_
    refine v_iadd hC (pc := 30) dX7_gloves_30 ?_
    refine v_istore_n hC (pc := 31) (l' := [(3, _), (2, _), (0, _), (1, _)]) dX7_gloves_31 (by decide) rfl ?_
    refine v_aload_n hC (pc := 32) (k := 0) 2 rfl dX7_gloves_32 ?_
    refine v_getR hC (pc := 33) dX7_gloves_33 fl_X7_7 rfl (by first | rfl | exact ok_c hq rfl | exact ok_w hq hw | exact ok_w (by omega) (by omega) | exact ok_s (by omega) (by omega) | exact ok_c (by omega) rfl | assumption) rfl (by decide) (by decide) rfl ?_
    refine v_bipush hC (pc := 36) (v := 43) (by decide +kernel) dX7_gloves_36 ?_
    refine v_iload_n hC (pc := 38) (k := 2) 1 rfl dX7_gloves_38 ?_
    refine v_if_ne hC (pc := 39) (tgt := 46) dX7_gloves_39 (by decide) (fun c_39 => ?_) (fun c_39 => ?_)
    · exact absurd c_39 (by decide)
    · skip
      refine v_iconst hC (pc := 42) (v := 1) (by decide) dX7_gloves_42 ?_
      refine v_goto hC (pc := 43) (tgt := 47) dX7_gloves_43 (by decide) ?_
      refine v_callS hC (pc := 47) (As := [_]) dX7_gloves_47 rfl (m_flag _ _ (d := d - 1) (by omega) _ _) cs_X7_147 (Nat.le_of_ble_eq_true rfl) (by omega) (fun r h' hr => ?_)
      obtain ⟨he9, rfl⟩ := hr
      rw [he9]
      clear he9 h'
      show V _ _ _ (47 + 3) _ (_ :: _) _
      refine v_iadd hC (pc := 50) dX7_gloves_50 ?_
      refine v_iald hC (pc := 51) dX7_gloves_51 rfl (by first | rfl | exact ok_c hq rfl | exact ok_w hq hw | exact ok_w (by omega) (by omega) | exact ok_s (by omega) (by omega) | exact ok_c (by omega) rfl | assumption) (vp_nat (n := 44) (by omega) (by decide)) ?_
      refine v_aload_n hC (pc := 52) (k := 0) 2 rfl dX7_gloves_52 ?_
      refine v_getR hC (pc := 53) dX7_gloves_53 fl_X7_7 rfl (by first | rfl | exact ok_c hq rfl | exact ok_w hq hw | exact ok_w (by omega) (by omega) | exact ok_s (by omega) (by omega) | exact ok_c (by omega) rfl | assumption) rfl (by decide) (by decide) rfl ?_
      refine v_bipush hC (pc := 56) (v := 46) (by decide +kernel) dX7_gloves_56 ?_
      refine v_iald hC (pc := 58) dX7_gloves_58 rfl (by first | rfl | exact ok_c hq rfl | exact ok_w hq hw | exact ok_w (by omega) (by omega) | exact ok_s (by omega) (by omega) | exact ok_c (by omega) rfl | assumption) (vp_nat (n := 46) (by omega) (by decide)) ?_
      refine v_iadd hC (pc := 59) dX7_gloves_59 ?_
      refine v_istore hC (pc := 60) (l' := [(4, _), (3, _), (2, _), (0, _), (1, _)]) dX7_gloves_60 (by decide) rfl ?_
      refine v_iload_n hC (pc := 62) (k := 1) 4 rfl dX7_gloves_62 ?_
      refine v_i2l hC (pc := 63) dX7_gloves_63 ?_
      refine v_lconst hC (pc := 64) (v := 0) (by decide) dX7_gloves_64 ?_
      refine v_ldc2 hC (pc := 65) k_X7_167 dX7_gloves_65 ?_
      refine v_callS hC (pc := 68) (As := [_, _, _]) dX7_gloves_68 rfl (m_in _ _ (d := d - 1) (by omega) _ x 0 2) cs_X7_84 (Nat.le_of_ble_eq_true rfl) (by omega) (fun r h' hr => ?_)
      obtain ⟨he9, rfl⟩ := hr
      rw [he9]
      clear he9 h'
      rw [bI_f hbad]
      show V _ _ _ (68 + 3) _ (_ :: _) _
      refine v_if_ne hC (pc := 71) (tgt := 78) dX7_gloves_71 (by decide) (fun c_71 => ?_) (fun c_71 => ?_)
      · exact absurd c_71 (by decide)
      · skip
        refine v_iconst hC (pc := 74) (v := (-1)) (by decide) dX7_gloves_74 ?_
        refine v_goto hC (pc := 75) (tgt := 100) dX7_gloves_75 (by decide) ?_
        refine v_iret hC hX (pc := 100) dX7_gloves_100 ?_
        exact ⟨rfl, rfl⟩

