/-! THE CLASS: odds, who fits, by a seed -/
theorem lN_lt0 {g : Nat} (hg : g < 2 ^ 62) (h : lN g < 1) : g < 1 := (pk_lLT (by omega) (by decide)).mp (show lN g < lN 1 from h)
set_option maxRecDepth 20000 in
set_option maxHeartbeats 2000000 in
theorem k_luck_ok (l9 : Launch) (G : WT) {d : Nat} (hd : 7 ≤ d) (h : HP) {nC : Nat} (hn8 : nC ≤ 8) (hnc : h.1 (0, 0, 0) 0 = nI nC) {nW : Nat} (hn4 : nW ≤ 4) (hnw : h.1 (0, 0, 0) 4 = nI nW) {v p m c x : Nat} {w : Nat} (hw : w < nW) (hv : v ≤ 10) (hc : c < nC) (hx : x < 2) (hp : p < nC) (hpl : h.1 (6, 0, w) 0 = nI p) (hm : h.1 (6, 0, w) 4 - h.1 (6, 0, w) 5 = nI m) (hm10 : m ≤ 10) {wl bd : Nat → Nat → Nat} {sd : Nat → Int32} (hsd : ∀ i, sd i = ((h.1 (6, 0, w) 3 >>> ((h.1 (6, 0, w) 5 + nI i &&& 31))) &&& 1)) (hwl : ∀ i, i < m → ∀ c, c < nC → comF (h.1 (0, 0, 6)) (h.1 (0, 0, 0) 1) (nI c) (sd i) (h.1 (0, 0, 0) 2 + nI i) (h.1 (6, 0, w) 2) = nI (wl i c) ∧ wl i c < nC) (hbd : ∀ i, i < m → ∀ c, c < nC → comF (h.1 (0, 0, 6)) (h.1 (0, 0, 0) 1) (nI c) (1 - sd i) (h.1 (0, 0, 0) 2 + nI i) (h.1 (6, 0, w) 2) = nI (bd i c) ∧ bd i c < nC) : MS l9 G yX6_luck cX6_luck 7 (some .long) d [vr (1, 0, 0), vi (nI w), vi (nI v), vi (nI c), vi (nI x)] h (fun r h1 => h1.1 = h.1 ∧ (∀ k, k ≠ (1, 0, 9) → k ≠ (1, 0, 10) → k ≠ (1, 0, 8) → h1.2 k = h.2 k) ∧ r = some (vl (lN (if x = 0 then (wgtF wl bd v nC p m c) / Nat.gcd (10 ^ m) (wgtF wl bd v nC p m c) else 10 ^ m / Nat.gcd (10 ^ m) (wgtF wl bd v nC p m c))))) := by
  refine MS_of (by decide +kernel) (Nat.le_of_ble_eq_true rfl) (fun X hC hX => ?_)
  show V X G 7 0 _ [] _
  refine v_aload_n hC (pc := 0) (k := 0) 0 rfl dX6_luck_0 ?_
  refine v_getR hC (pc := 1) dX6_luck_1 fl_X6_10 rfl (by first | rfl | exact ok_c hq rfl | exact ok_w hq hw | exact ok_w (by omega) (by omega) | exact ok_s (by omega) (by omega) | exact ok_c (by omega) rfl | assumption) rfl (by decide) (by decide) rfl ?_
  refine v_iload_n hC (pc := 4) (k := 1) 1 rfl dX6_luck_4 ?_
  refine v_callV hC (pc := 5) (As := [_]) dX6_luck_5 rfl (t_hasWalker_t _ _ (d := d - 1) (by omega) (q := 0) (by decide) _ (c := w) (by assumption) (by omega) hnw) cv_X6_115 rfl (by decide) rfl (by first | rfl | exact ok_c hq rfl | exact ok_w hq hw | exact ok_w (by omega) (by omega) | exact ok_s (by omega) (by omega) | exact ok_c (by omega) rfl | assumption) (Nat.le_of_ble_eq_true rfl) (by omega) (fun r h' hr => ?_)
  obtain ⟨he9, rfl⟩ := hr
  rw [he9]
  clear he9 h'
  show V _ _ _ (5 + 3) _ (_ :: _) _
  refine v_if_eq hC (pc := 8) (tgt := 40) dX6_luck_8 (by decide) (fun c_8 => ?_) (fun c_8 => ?_)
  · exact absurd c_8 (by decide)
  · skip
    refine v_iload_n hC (pc := 11) (k := 2) 2 rfl dX6_luck_11 ?_
    refine v_if_lt hC (pc := 12) (tgt := 40) dX6_luck_12 (by decide) (fun c_12 => ?_) (fun c_12 => ?_)
    · exact absurd c_12 (nI_pos (by omega))
    · skip
      refine v_iload_n hC (pc := 15) (k := 2) 2 rfl dX6_luck_15 ?_
      refine v_bipush hC (pc := 16) (v := 10) (by decide +kernel) dX6_luck_16 ?_
      refine v_icmp_gt hC (pc := 18) (tgt := 40) dX6_luck_18 (by decide) (fun c_18 => ?_) (fun c_18 => ?_)
      · exact absurd c_18 (nI_nlt hv (by decide))
      · skip
        refine v_aload_n hC (pc := 21) (k := 0) 0 rfl dX6_luck_21 ?_
        refine v_getR hC (pc := 22) dX6_luck_22 fl_X6_10 rfl (by first | rfl | exact ok_c hq rfl | exact ok_w hq hw | exact ok_w (by omega) (by omega) | exact ok_s (by omega) (by omega) | exact ok_c (by omega) rfl | assumption) rfl (by decide) (by decide) rfl ?_
        refine v_iload_n hC (pc := 25) (k := 3) 3 rfl dX6_luck_25 ?_
        refine v_callV hC (pc := 26) (As := [_]) dX6_luck_26 rfl (t_hasCorner_t _ _ (d := d - 1) (by omega) (q := 0) (by decide) _ (c := c) (by assumption) (by omega) hnc) cv_X6_105 rfl (by decide) rfl (by first | rfl | exact ok_c hq rfl | exact ok_w hq hw | exact ok_w (by omega) (by omega) | exact ok_s (by omega) (by omega) | exact ok_c (by omega) rfl | assumption) (Nat.le_of_ble_eq_true rfl) (by omega) (fun r h' hr => ?_)
        obtain ⟨he9, rfl⟩ := hr
        rw [he9]
        clear he9 h'
        show V _ _ _ (26 + 3) _ (_ :: _) _
        refine v_if_eq hC (pc := 29) (tgt := 40) dX6_luck_29 (by decide) (fun c_29 => ?_) (fun c_29 => ?_)
        · exact absurd c_29 (by decide)
        · skip
          refine v_iload hC (pc := 32) 4 rfl dX6_luck_32 ?_
          refine v_callS hC (pc := 34) (As := [_]) dX6_luck_34 rfl (t_isZeroOrOne_t _ _ (d := d - 1) (by omega) _ (s := x) (by assumption)) cs_X6_108 (Nat.le_of_ble_eq_true rfl) (by omega) (fun r h' hr => ?_)
          obtain ⟨he9, rfl⟩ := hr
          rw [he9]
          clear he9 h'
          show V _ _ _ (34 + 3) _ (_ :: _) _
          refine v_if_ne hC (pc := 37) (tgt := 44) dX6_luck_37 (by decide) (fun c_37 => ?_) (fun c_37 => ?_)
          · skip
            refine v_aload_n hC (pc := 44) (k := 0) 0 rfl dX6_luck_44 ?_
            refine v_getR hC (pc := 45) dX6_luck_45 fl_X6_47 rfl (by first | rfl | exact ok_c hq rfl | exact ok_w hq hw | exact ok_w (by omega) (by omega) | exact ok_s (by omega) (by omega) | exact ok_c (by omega) rfl | assumption) rfl (by decide) (by decide) rfl ?_
            refine v_aload_n hC (pc := 48) (k := 0) 0 rfl dX6_luck_48 ?_
            refine v_getR hC (pc := 49) dX6_luck_49 fl_X6_10 rfl (by first | rfl | exact ok_c hq rfl | exact ok_w hq hw | exact ok_w (by omega) (by omega) | exact ok_s (by omega) (by omega) | exact ok_c (by omega) rfl | assumption) rfl (by decide) (by decide) rfl ?_
            refine v_aload_n hC (pc := 52) (k := 0) 0 rfl dX6_luck_52 ?_
            refine v_getR hC (pc := 53) dX6_luck_53 fl_X6_10 rfl (by first | rfl | exact ok_c hq rfl | exact ok_w hq hw | exact ok_w (by omega) (by omega) | exact ok_s (by omega) (by omega) | exact ok_c (by omega) rfl | assumption) rfl (by decide) (by decide) rfl ?_
            refine v_getR hC (pc := 56) dX6_luck_56 fl_X6_118 rfl (by first | rfl | exact ok_c hq rfl | exact ok_w hq hw | exact ok_w (by omega) (by omega) | exact ok_s (by omega) (by omega) | exact ok_c (by omega) rfl | assumption) rfl (by decide) (by decide) rfl ?_
            refine v_iload_n hC (pc := 59) (k := 1) 1 rfl dX6_luck_59 ?_
            refine v_aald hC (pc := 60) (j := (6, 0, w)) 5 dX6_luck_60 rfl (by decide) (fun _ => rfl) (by first | rfl | exact ok_c hq rfl | exact ok_w hq hw | exact ok_w (by omega) (by omega) | exact ok_s (by omega) (by omega) | exact ok_c (by omega) rfl | assumption) (vp_nat (n := w) (by omega) (by decide)) (by rw [nI_clamp (show w < 2 ^ 31 by omega)]; rfl) ?_
            refine v_iload_n hC (pc := 61) (k := 2) 2 rfl dX6_luck_61 ?_
            refine v_callV hC (pc := 62) (As := [_, _, _]) dX6_luck_62 rfl (t_weigh _ _ (d := d - 1) (by omega) (q := 0) (by decide) (w := w) (by omega) _ hn8 hnc hv hp hpl hm hm10 hsd hwl hbd) cv_X6_208 rfl (by decide) rfl rfl (Nat.le_of_ble_eq_true rfl) (by omega) (fun r h' hr => ?_)
            obtain ⟨rfl, hu1, hu2, hu3, hu4⟩ := hr
            generalize h' = u at hu1 hu2 hu3 hu4 ⊢
            show V _ _ _ (62 + 3) _ _ _
            refine v_aload_n hC (pc := 65) (k := 0) 0 rfl dX6_luck_65 ?_
            refine v_getR hC (pc := 66) dX6_luck_66 fl_X6_47 rfl (by first | rfl | exact ok_c hq rfl | exact ok_w hq hw | exact ok_w (by omega) (by omega) | exact ok_s (by omega) (by omega) | exact ok_c (by omega) rfl | assumption) rfl (by decide) (by decide) rfl ?_
            refine v_getR hC (pc := 69) dX6_luck_69 fl_X6_212 rfl (by first | rfl | exact ok_c hq rfl | exact ok_w hq hw | exact ok_w (by omega) (by omega) | exact ok_s (by omega) (by omega) | exact ok_c (by omega) rfl | assumption) rfl (by decide) (by decide) rfl ?_
            refine v_iload_n hC (pc := 72) (k := 3) 3 rfl dX6_luck_72 ?_
            refine v_lald hC (pc := 73) dX6_luck_73 rfl (by first | rfl | exact ok_c hq rfl | exact ok_w hq hw | exact ok_w (by omega) (by omega) | exact ok_s (by omega) (by omega) | exact ok_c (by omega) rfl | assumption) (vp_nat (n := c) (by omega) (by decide)) ?_
            rw [nI_clamp (show c < 2 ^ 31 by omega)]
            show V X G 7 74 _ (vl (u.2 (1, 0, 9) c) :: _) _
            rw [hu2 c (by omega)]
            have hp1 := p10_lt hm10
            have hp2 : (wgtF wl bd v nC p m c) ≤ 10 ^ m := wgt_le hv hn8 (by omega) (by omega) (fun i hi c1 hc1 => ⟨by have := (hwl i hi c1 hc1).2; omega, by have := (hbd i hi c1 hc1).2; omega⟩)
            have hAB : (wgtF wl bd v nC p m c) * 10 ^ m < 2 ^ 68 := Nat.lt_of_le_of_lt (Nat.mul_le_mul_right _ hp2) (by have : 10 ^ m * 10 ^ m ≤ 10 ^ 10 * 10 ^ 10 := Nat.mul_le_mul (Nat.pow_le_pow_right (by decide) hm10) (Nat.pow_le_pow_right (by decide) hm10); exact Nat.lt_of_le_of_lt this (by decide))
            have hgp : 0 < Nat.gcd (wgtF wl bd v nC p m c) (10 ^ m) := Nat.gcd_pos_of_pos_right _ (Nat.pow_pos (by decide))
            have hgl : Nat.gcd (wgtF wl bd v nC p m c) (10 ^ m) ≤ 10 ^ m := Nat.gcd_le_right _ (Nat.pow_pos (by decide))
            have hgb : Nat.gcd (wgtF wl bd v nC p m c) (10 ^ m) < 2 ^ 62 := by omega
            have hg0 : ¬ lN (Nat.gcd (wgtF wl bd v nC p m c) (10 ^ m)) = 0 := fun z => absurd ((pk_lEQ (by omega) (by decide)).mp (show lN _ = lN 0 from z)) (by omega)
            refine v_aload_n hC (pc := 74) (k := 0) 0 rfl dX6_luck_74 ?_
            refine v_getR hC (pc := 75) dX6_luck_75 fl_X6_47 rfl (by first | rfl | exact ok_c hq rfl | exact ok_w hq hw | exact ok_w (by omega) (by omega) | exact ok_s (by omega) (by omega) | exact ok_c (by omega) rfl | assumption) rfl (by decide) (by decide) rfl ?_
            refine v_getL hC (pc := 78) dX6_luck_78 fl_X6_216 rfl (by first | rfl | exact ok_c hq rfl | exact ok_w hq hw | exact ok_w (by omega) (by omega) | exact ok_s (by omega) (by omega) | exact ok_c (by omega) rfl | assumption) rfl (by decide) (by decide) ?_
            rw [show u.2 (1, 0, 8) 2 = lN (10 ^ m) from hu3]
            refine v_callS hC (pc := 81) (As := [_, _]) dX6_luck_81 rfl (t_gcd _ _ (d := d - 1) (by omega) _ (A := (wgtF wl bd v nC p m c)) (B := 10 ^ m) (by omega) (by omega) hAB) cs_X6_220 (Nat.le_of_ble_eq_true rfl) (by omega) (fun r h' hr => ?_)
            obtain ⟨he9, rfl⟩ := hr
            rw [he9]
            clear he9 h'
            show V _ _ _ (81 + 3) _ (_ :: _) _
            refine v_lstore hC (pc := 84) (l' := [(5, _), (0, _), (1, _), (2, _), (3, _), (4, _)]) dX6_luck_84 (by decide) rfl ?_
            refine v_lload hC (pc := 86) 0 rfl dX6_luck_86 ?_
            refine v_lconst hC (pc := 88) (v := 1) (by decide) dX6_luck_88 ?_
            refine v_lcmp hC (pc := 89) dX6_luck_89 ?_
            refine v_if_ge hC (pc := 90) (tgt := 97) dX6_luck_90 (by decide) (fun c_90 => ?_) (fun c_90 => ?_)
            · skip
              refine v_iload hC (pc := 97) 5 rfl dX6_luck_97 ?_
              refine v_if_ne hC (pc := 99) (tgt := 117) dX6_luck_99 (by decide) (fun c_99 => ?_) (fun c_99 => ?_)
              · skip
                refine v_aload_n hC (pc := 117) (k := 0) 1 rfl dX6_luck_117 ?_
                refine v_getR hC (pc := 118) dX6_luck_118 fl_X6_47 rfl (by first | rfl | exact ok_c hq rfl | exact ok_w hq hw | exact ok_w (by omega) (by omega) | exact ok_s (by omega) (by omega) | exact ok_c (by omega) rfl | assumption) rfl (by decide) (by decide) rfl ?_
                refine v_getL hC (pc := 121) dX6_luck_121 fl_X6_216 rfl (by first | rfl | exact ok_c hq rfl | exact ok_w hq hw | exact ok_w (by omega) (by omega) | exact ok_s (by omega) (by omega) | exact ok_c (by omega) rfl | assumption) rfl (by decide) (by decide) ?_
                rw [show u.2 (1, 0, 8) 2 = lN (10 ^ m) from hu3]
                refine v_lload hC (pc := 124) 0 rfl dX6_luck_124 ?_
                refine v_ldiv hC (pc := 126) hg0 dX6_luck_126 ?_
                try rw [pk_lDiv (by omega) hgp (by omega)]
                refine v_lret hC hX (pc := 127) dX6_luck_127 ?_
                refine ⟨hu1, hu4, ?_⟩
                rw [Nat.gcd_comm (10 ^ m) _]
                first | rw [if_pos (nI_z c_99 (by omega))] | rw [if_neg (fun z => c_99 (by rw [z]; rfl))]
              · skip
                refine v_aload_n hC (pc := 102) (k := 0) 1 rfl dX6_luck_102 ?_
                refine v_getR hC (pc := 103) dX6_luck_103 fl_X6_47 rfl (by first | rfl | exact ok_c hq rfl | exact ok_w hq hw | exact ok_w (by omega) (by omega) | exact ok_s (by omega) (by omega) | exact ok_c (by omega) rfl | assumption) rfl (by decide) (by decide) rfl ?_
                refine v_getR hC (pc := 106) dX6_luck_106 fl_X6_212 rfl (by first | rfl | exact ok_c hq rfl | exact ok_w hq hw | exact ok_w (by omega) (by omega) | exact ok_s (by omega) (by omega) | exact ok_c (by omega) rfl | assumption) rfl (by decide) (by decide) rfl ?_
                refine v_iload_n hC (pc := 109) (k := 3) 4 rfl dX6_luck_109 ?_
                refine v_lald hC (pc := 110) dX6_luck_110 rfl (by first | rfl | exact ok_c hq rfl | exact ok_w hq hw | exact ok_w (by omega) (by omega) | exact ok_s (by omega) (by omega) | exact ok_c (by omega) rfl | assumption) (vp_nat (n := c) (by omega) (by decide)) ?_
                rw [nI_clamp (show c < 2 ^ 31 by omega)]
                show V X G 7 111 _ (vl (u.2 (1, 0, 9) c) :: _) _
                rw [hu2 c (by omega)]
                refine v_lload hC (pc := 111) 0 rfl dX6_luck_111 ?_
                refine v_ldiv hC (pc := 113) hg0 dX6_luck_113 ?_
                refine v_goto hC (pc := 114) (tgt := 127) dX6_luck_114 (by decide) ?_
                try rw [pk_lDiv (by omega) hgp (by omega)]
                refine v_lret hC hX (pc := 127) dX6_luck_127 ?_
                refine ⟨hu1, hu4, ?_⟩
                rw [Nat.gcd_comm (10 ^ m) _]
                first | rw [if_pos (nI_z c_99 (by omega))] | rw [if_neg (fun z => c_99 (by rw [z]; rfl))]
            · exact absurd (lcmp_lt.mp (Int32.not_le.mp c_90)) (fun z => absurd (lN_lt0 hgb z) (by omega))
          · exact absurd c_37 (by decide)

set_option maxRecDepth 20000 in
set_option maxHeartbeats 2000000 in
theorem k_luck_bad (l9 : Launch) (G : WT) {d : Nat} (hd : 3 ≤ d) (h : HP) {nC : Nat} (hn8 : nC ≤ 8) (hnc : h.1 (0, 0, 0) 0 = nI nC) {nW : Nat} (hn4 : nW ≤ 4) (hnw : h.1 (0, 0, 0) 4 = nI nW) (w v c x : Int32) (hbad : ¬ ((¬ w < 0 ∧ ¬ nI nW ≤ w) ∧ (¬ v < 0 ∧ ¬ 10 < v) ∧ (¬ c < 0 ∧ ¬ nI nC ≤ c) ∧ (x = 0 ∨ x = 1))) : MS l9 G yX6_luck cX6_luck 7 (some .long) d [vr (1, 0, 0), vi w, vi v, vi c, vi x] h (fun r h1 => h1 = h ∧ r = some (vl (-1))) := by
  refine MS_of (by decide +kernel) (Nat.le_of_ble_eq_true rfl) (fun X hC hX => ?_)
  show V X G 7 0 _ [] _
  refine v_aload_n hC (pc := 0) (k := 0) 0 rfl dX6_luck_0 ?_
  refine v_getR hC (pc := 1) dX6_luck_1 fl_X6_10 rfl (by first | rfl | exact ok_c hq rfl | exact ok_w hq hw | exact ok_w (by omega) (by omega) | exact ok_s (by omega) (by omega) | exact ok_c (by omega) rfl | assumption) rfl (by decide) (by decide) rfl ?_
  refine v_iload_n hC (pc := 4) (k := 1) 1 rfl dX6_luck_4 ?_
  refine v_callV hC (pc := 5) (As := [_]) dX6_luck_5 rfl (t_hasWalker _ _ (d := d - 1) (by omega) (q := 0) (by decide) _ _) cv_X6_115 rfl (by decide) rfl (by first | rfl | exact ok_c hq rfl | exact ok_w hq hw | exact ok_w (by omega) (by omega) | exact ok_s (by omega) (by omega) | exact ok_c (by omega) rfl | assumption) (Nat.le_of_ble_eq_true rfl) (by omega) (fun r h' hr => ?_)
  obtain ⟨he9, rfl⟩ := hr
  rw [he9, hnw]
  clear he9 h'
  show V _ _ _ (5 + 3) _ (_ :: _) _
  refine v_ifb_eq hC (pc := 8) (tgt := 40) dX6_luck_8 (by decide) (fun c_8 => ?_) (fun c_8 => ?_)
  · skip
    refine v_ldc2 hC (pc := 40) k_X6_206 dX6_luck_40 ?_
    refine v_lret hC hX (pc := 43) dX6_luck_43 ?_
    exact ⟨rfl, rfl⟩
  · skip
    refine v_iload_n hC (pc := 11) (k := 2) 2 rfl dX6_luck_11 ?_
    refine v_if_lt hC (pc := 12) (tgt := 40) dX6_luck_12 (by decide) (fun c_12 => ?_) (fun c_12 => ?_)
    · skip
      refine v_ldc2 hC (pc := 40) k_X6_206 dX6_luck_40 ?_
      refine v_lret hC hX (pc := 43) dX6_luck_43 ?_
      exact ⟨rfl, rfl⟩
    · skip
      refine v_iload_n hC (pc := 15) (k := 2) 2 rfl dX6_luck_15 ?_
      refine v_bipush hC (pc := 16) (v := 10) (by decide +kernel) dX6_luck_16 ?_
      refine v_icmp_gt hC (pc := 18) (tgt := 40) dX6_luck_18 (by decide) (fun c_18 => ?_) (fun c_18 => ?_)
      · skip
        refine v_ldc2 hC (pc := 40) k_X6_206 dX6_luck_40 ?_
        refine v_lret hC hX (pc := 43) dX6_luck_43 ?_
        exact ⟨rfl, rfl⟩
      · skip
        refine v_aload_n hC (pc := 21) (k := 0) 0 rfl dX6_luck_21 ?_
        refine v_getR hC (pc := 22) dX6_luck_22 fl_X6_10 rfl (by first | rfl | exact ok_c hq rfl | exact ok_w hq hw | exact ok_w (by omega) (by omega) | exact ok_s (by omega) (by omega) | exact ok_c (by omega) rfl | assumption) rfl (by decide) (by decide) rfl ?_
        refine v_iload_n hC (pc := 25) (k := 3) 3 rfl dX6_luck_25 ?_
        refine v_callV hC (pc := 26) (As := [_]) dX6_luck_26 rfl (t_hasCorner _ _ (d := d - 1) (by omega) (q := 0) (by decide) _ _) cv_X6_105 rfl (by decide) rfl (by first | rfl | exact ok_c hq rfl | exact ok_w hq hw | exact ok_w (by omega) (by omega) | exact ok_s (by omega) (by omega) | exact ok_c (by omega) rfl | assumption) (Nat.le_of_ble_eq_true rfl) (by omega) (fun r h' hr => ?_)
        obtain ⟨he9, rfl⟩ := hr
        rw [he9, hnc]
        clear he9 h'
        show V _ _ _ (26 + 3) _ (_ :: _) _
        refine v_ifb_eq hC (pc := 29) (tgt := 40) dX6_luck_29 (by decide) (fun c_29 => ?_) (fun c_29 => ?_)
        · skip
          refine v_ldc2 hC (pc := 40) k_X6_206 dX6_luck_40 ?_
          refine v_lret hC hX (pc := 43) dX6_luck_43 ?_
          exact ⟨rfl, rfl⟩
        · skip
          refine v_iload hC (pc := 32) 4 rfl dX6_luck_32 ?_
          refine v_callS hC (pc := 34) (As := [_]) dX6_luck_34 rfl (t_isZeroOrOne _ _ (d := d - 1) (by omega) _ _) cs_X6_108 (Nat.le_of_ble_eq_true rfl) (by omega) (fun r h' hr => ?_)
          obtain ⟨he9, rfl⟩ := hr
          rw [he9]
          clear he9 h'
          show V _ _ _ (34 + 3) _ (_ :: _) _
          refine v_ifb_ne hC (pc := 37) (tgt := 44) dX6_luck_37 (by decide) (fun c_37 => ?_) (fun c_37 => ?_)
          · skip
            exact absurd (show _ ∧ _ ∧ _ ∧ _ from ⟨c_8, ⟨c_12, c_18⟩, c_29, c_37⟩) hbad
          · skip
            refine v_ldc2 hC (pc := 40) k_X6_206 dX6_luck_40 ?_
            refine v_lret hC hX (pc := 43) dX6_luck_43 ?_
            exact ⟨rfl, rfl⟩

def asC (h : HP) (w nS x c : Nat) : Prop := ∀ k, k < nS → aseP h 0 w (nI c) (nI x) k
noncomputable def ftC (h : HP) (w nS x n : Nat) : Int32 := itN (fun c a => a ||| (bP (asC h w nS x c) <<< (nI c &&& 31))) n 0
theorem ftC_t {h : HP} {w nS x c : Nat} (q : asC h w nS x c) : ftC h w nS x c ||| (1 <<< (nI c &&& 31)) = ftC h w nS x (c + 1) := by
  show _ = ftC h w nS x c ||| (bP (asC h w nS x c) <<< (nI c &&& 31))
  rw [bP_t q]
theorem ftC_f {h : HP} {w nS x c : Nat} (hc : c < 32) (q : ¬ asC h w nS x c) : ftC h w nS x c = ftC h w nS x (c + 1) := by
  show _ = ftC h w nS x c ||| (bP (asC h w nS x c) <<< (nI c &&& 31))
  rw [bP_f q]
  refine b_ext (fun i hi => ?_)
  rw [b_or, b_shl c hc 0 hi, b_0]
  simp
set_option maxRecDepth 20000 in
set_option maxHeartbeats 2000000 in
theorem k_fits_0 (l9 : Launch) (G : WT) {d : Nat} (hd : 7 ≤ d) (h : HP) {nC : Nat} (hn8 : nC ≤ 8) (hnc : h.1 (0, 0, 0) 0 = nI nC) {nW : Nat} (hn4 : nW ≤ 4) (hnw : h.1 (0, 0, 0) 4 = nI nW) {nS : Nat} (hs8 : nS ≤ 8) (hns : h.1 (0, 0, 0) 5 = nI nS) (hsh : ∀ k, k < nS → (h.1 (0, 0, 10) k).toNatClampNeg ≤ 10) (hsh2 : ∀ k, k < nS → h.1 (0, 0, 10) k = nI (h.1 (0, 0, 10) k).toNatClampNeg) {w : Nat} (hw : w < nW) : MS l9 G yX6_fits cX6_fits 5 (some .int) d [vr (1, 0, 0), vi (nI w), vi (nI 0)] h (fun r h1 => h1 = h ∧ r = some (vi (ftC h w nS 0 nC))) := by
  refine MS_of (by decide +kernel) (Nat.le_of_ble_eq_true rfl) (fun X hC hX => ?_)
  show V X G 5 0 _ [] _
  have lp : ∀ (n i : Nat) , i ≤ nC → nC + 1 ≤ i + n → V X G 5 25 [(4, vi (nI i)), (3, vi (ftC h w nS 0 i)), (0, vr (1, 0, 0)), (1, vi (nI w)), (2, vi (nI 0))] [] (h) := by
    intro n
    induction n with
    | zero => intro i  h1 h2; exact absurd h2 (by omega)
    | succ n ih =>
      intro i  h1 h2
      refine v_iload hC (pc := 25) 0 rfl dX6_fits_25 ?_
      refine v_aload_n hC (pc := 27) (k := 0) 2 rfl dX6_fits_27 ?_
      refine v_getR hC (pc := 28) dX6_fits_28 fl_X6_10 rfl (by first | rfl | exact ok_c hq rfl | exact ok_w hq hw | exact ok_w (by omega) (by omega) | exact ok_s (by omega) (by omega) | exact ok_c (by omega) rfl | assumption) rfl (by decide) (by decide) rfl ?_
      refine v_getI hC (pc := 31) dX6_fits_31 fl_X6_82 rfl (by first | rfl | exact ok_c hq rfl | exact ok_w hq hw | exact ok_w (by omega) (by omega) | exact ok_s (by omega) (by omega) | exact ok_c (by omega) rfl | assumption) rfl (by decide) (by decide) ?_
      rw [hnc]
      refine v_icmp_ge hC (pc := 34) (tgt := 73) dX6_fits_34 (by decide) (fun c_34 => ?_) (fun c_34 => ?_)
      · skip
        have hi : i = nC := lp_ex (c_34) h1 (by omega)
        refine v_iload_n hC (pc := 73) (k := 3) 1 rfl dX6_fits_73 ?_
        refine v_iret hC hX (pc := 74) dX6_fits_74 ?_
        subst hi
        exact ⟨rfl, rfl⟩
      · skip
        have hi : i < nC := lp_in (c_34) h1 (by omega)
        refine v_aload_n hC (pc := 37) (k := 0) 2 rfl dX6_fits_37 ?_
        refine v_getR hC (pc := 38) dX6_fits_38 fl_X6_10 rfl (by first | rfl | exact ok_c hq rfl | exact ok_w hq hw | exact ok_w (by omega) (by omega) | exact ok_s (by omega) (by omega) | exact ok_c (by omega) rfl | assumption) rfl (by decide) (by decide) rfl ?_
        refine v_iload_n hC (pc := 41) (k := 1) 3 rfl dX6_fits_41 ?_
        refine v_iload hC (pc := 42) 0 rfl dX6_fits_42 ?_
        refine v_iload_n hC (pc := 44) (k := 2) 4 rfl dX6_fits_44 ?_
        refine v_iconst hC (pc := 45) (v := 1) (by decide) dX6_fits_45 ?_
        refine v_icmp_ne hC (pc := 46) (tgt := 53) dX6_fits_46 (by decide) (fun c_46 => ?_) (fun c_46 => ?_)
        · skip
          refine v_iconst hC (pc := 53) (v := 0) (by decide) dX6_fits_53 ?_
          refine v_callV hC (pc := 54) (As := [_, _, _]) dX6_fits_54 rfl (t_isAsSeen _ _ (d := d - 1) (by omega) (q := 0) (by decide) (w := w) (by omega) _ hs8 hns hsh hsh2 (nI i) (nI 0)) cv_X6_231 rfl (by decide) rfl (by first | rfl | exact ok_c hq rfl | exact ok_w hq hw | exact ok_w (by omega) (by omega) | exact ok_s (by omega) (by omega) | exact ok_c (by omega) rfl | assumption) (Nat.le_of_ble_eq_true rfl) (by omega) (fun r h' hr => ?_)
          obtain ⟨he9, rfl⟩ := hr
          rw [he9]
          clear he9 h'
          show V _ _ _ (54 + 3) _ (_ :: _) _
          refine v_if_eq hC (pc := 57) (tgt := 67) dX6_fits_57 (by decide) (fun c_57 => ?_) (fun c_57 => ?_)
          · skip
            rw [ftC_f (h := h) (w := w) (nS := nS) (x := 0) (c := i) (by omega) (bP_0.mp c_57)]
            refine v_iinc hC (pc := 67) (l' := [(4, _), (3, _), (0, _), (1, _), (2, _)]) 0 (v := nI (i + 1)) dX6_fits_67 rfl (nI_inc i) (by decide) rfl ?_
            refine v_goto hC (pc := 70) (tgt := 25) dX6_fits_70 (by decide) ?_
            exact ih (i + 1) (by omega) (by omega)
          · skip
            skip
            refine v_iload_n hC (pc := 60) (k := 3) 1 rfl dX6_fits_60 ?_
            refine v_iconst hC (pc := 61) (v := 1) (by decide) dX6_fits_61 ?_
            refine v_iload hC (pc := 62) 0 rfl dX6_fits_62 ?_
            refine v_ishl hC (pc := 64) dX6_fits_64 ?_
            refine v_ior hC (pc := 65) dX6_fits_65 ?_
            rw [ftC_t (h := h) (w := w) (nS := nS) (x := 0) (c := i) (Classical.not_not.mp (fun z => c_57 (bP_f z)))]
            refine v_istore_n hC (pc := 66) (l' := [(3, _), (4, _), (0, _), (1, _), (2, _)]) dX6_fits_66 (by decide) rfl ?_
            refine v_iinc hC (pc := 67) (l' := [(4, _), (3, _), (0, _), (1, _), (2, _)]) 1 (v := nI (i + 1)) dX6_fits_67 rfl (nI_inc i) (by decide) rfl ?_
            refine v_goto hC (pc := 70) (tgt := 25) dX6_fits_70 (by decide) ?_
            exact ih (i + 1) (by omega) (by omega)
        · exact absurd c_46 (by decide)
  refine v_aload_n hC (pc := 0) (k := 0) 0 rfl dX6_fits_0 ?_
  refine v_getR hC (pc := 1) dX6_fits_1 fl_X6_10 rfl (by first | rfl | exact ok_c hq rfl | exact ok_w hq hw | exact ok_w (by omega) (by omega) | exact ok_s (by omega) (by omega) | exact ok_c (by omega) rfl | assumption) rfl (by decide) (by decide) rfl ?_
  refine v_iload_n hC (pc := 4) (k := 1) 1 rfl dX6_fits_4 ?_
  refine v_callV hC (pc := 5) (As := [_]) dX6_fits_5 rfl (t_hasWalker_t _ _ (d := d - 1) (by omega) (q := 0) (by decide) _ (c := w) (by assumption) (by omega) hnw) cv_X6_115 rfl (by decide) rfl (by first | rfl | exact ok_c hq rfl | exact ok_w hq hw | exact ok_w (by omega) (by omega) | exact ok_s (by omega) (by omega) | exact ok_c (by omega) rfl | assumption) (Nat.le_of_ble_eq_true rfl) (by omega) (fun r h' hr => ?_)
  obtain ⟨he9, rfl⟩ := hr
  rw [he9]
  clear he9 h'
  show V _ _ _ (5 + 3) _ (_ :: _) _
  refine v_if_eq hC (pc := 8) (tgt := 18) dX6_fits_8 (by decide) (fun c_8 => ?_) (fun c_8 => ?_)
  · exact absurd c_8 (by decide)
  · skip
    refine v_iload_n hC (pc := 11) (k := 2) 2 rfl dX6_fits_11 ?_
    refine v_callS hC (pc := 12) (As := [_]) dX6_fits_12 rfl (t_isZeroOrOne_t _ _ (d := d - 1) (by omega) _ (s := 0) (by decide)) cs_X6_108 (Nat.le_of_ble_eq_true rfl) (by omega) (fun r h' hr => ?_)
    obtain ⟨he9, rfl⟩ := hr
    rw [he9]
    clear he9 h'
    show V _ _ _ (12 + 3) _ (_ :: _) _
    refine v_if_ne hC (pc := 15) (tgt := 20) dX6_fits_15 (by decide) (fun c_15 => ?_) (fun c_15 => ?_)
    · skip
      refine v_iconst hC (pc := 20) (v := 0) (by decide) dX6_fits_20 ?_
      refine v_istore_n hC (pc := 21) (l' := [(3, _), (0, _), (1, _), (2, _)]) dX6_fits_21 (by decide) rfl ?_
      refine v_iconst hC (pc := 22) (v := 0) (by decide) dX6_fits_22 ?_
      refine v_istore hC (pc := 23) (l' := [(4, _), (3, _), (0, _), (1, _), (2, _)]) dX6_fits_23 (by decide) rfl ?_
      exact lp 9 0 (by omega) (by omega)
    · exact absurd c_15 (by decide)

set_option maxRecDepth 20000 in
set_option maxHeartbeats 2000000 in
theorem k_fits_1 (l9 : Launch) (G : WT) {d : Nat} (hd : 7 ≤ d) (h : HP) {nC : Nat} (hn8 : nC ≤ 8) (hnc : h.1 (0, 0, 0) 0 = nI nC) {nW : Nat} (hn4 : nW ≤ 4) (hnw : h.1 (0, 0, 0) 4 = nI nW) {nS : Nat} (hs8 : nS ≤ 8) (hns : h.1 (0, 0, 0) 5 = nI nS) (hsh : ∀ k, k < nS → (h.1 (0, 0, 10) k).toNatClampNeg ≤ 10) (hsh2 : ∀ k, k < nS → h.1 (0, 0, 10) k = nI (h.1 (0, 0, 10) k).toNatClampNeg) {w : Nat} (hw : w < nW) : MS l9 G yX6_fits cX6_fits 5 (some .int) d [vr (1, 0, 0), vi (nI w), vi (nI 1)] h (fun r h1 => h1 = h ∧ r = some (vi (ftC h w nS 1 nC))) := by
  refine MS_of (by decide +kernel) (Nat.le_of_ble_eq_true rfl) (fun X hC hX => ?_)
  show V X G 5 0 _ [] _
  have lp : ∀ (n i : Nat) , i ≤ nC → nC + 1 ≤ i + n → V X G 5 25 [(4, vi (nI i)), (3, vi (ftC h w nS 1 i)), (0, vr (1, 0, 0)), (1, vi (nI w)), (2, vi (nI 1))] [] (h) := by
    intro n
    induction n with
    | zero => intro i  h1 h2; exact absurd h2 (by omega)
    | succ n ih =>
      intro i  h1 h2
      refine v_iload hC (pc := 25) 0 rfl dX6_fits_25 ?_
      refine v_aload_n hC (pc := 27) (k := 0) 2 rfl dX6_fits_27 ?_
      refine v_getR hC (pc := 28) dX6_fits_28 fl_X6_10 rfl (by first | rfl | exact ok_c hq rfl | exact ok_w hq hw | exact ok_w (by omega) (by omega) | exact ok_s (by omega) (by omega) | exact ok_c (by omega) rfl | assumption) rfl (by decide) (by decide) rfl ?_
      refine v_getI hC (pc := 31) dX6_fits_31 fl_X6_82 rfl (by first | rfl | exact ok_c hq rfl | exact ok_w hq hw | exact ok_w (by omega) (by omega) | exact ok_s (by omega) (by omega) | exact ok_c (by omega) rfl | assumption) rfl (by decide) (by decide) ?_
      rw [hnc]
      refine v_icmp_ge hC (pc := 34) (tgt := 73) dX6_fits_34 (by decide) (fun c_34 => ?_) (fun c_34 => ?_)
      · skip
        have hi : i = nC := lp_ex (c_34) h1 (by omega)
        refine v_iload_n hC (pc := 73) (k := 3) 1 rfl dX6_fits_73 ?_
        refine v_iret hC hX (pc := 74) dX6_fits_74 ?_
        subst hi
        exact ⟨rfl, rfl⟩
      · skip
        have hi : i < nC := lp_in (c_34) h1 (by omega)
        refine v_aload_n hC (pc := 37) (k := 0) 2 rfl dX6_fits_37 ?_
        refine v_getR hC (pc := 38) dX6_fits_38 fl_X6_10 rfl (by first | rfl | exact ok_c hq rfl | exact ok_w hq hw | exact ok_w (by omega) (by omega) | exact ok_s (by omega) (by omega) | exact ok_c (by omega) rfl | assumption) rfl (by decide) (by decide) rfl ?_
        refine v_iload_n hC (pc := 41) (k := 1) 3 rfl dX6_fits_41 ?_
        refine v_iload hC (pc := 42) 0 rfl dX6_fits_42 ?_
        refine v_iload_n hC (pc := 44) (k := 2) 4 rfl dX6_fits_44 ?_
        refine v_iconst hC (pc := 45) (v := 1) (by decide) dX6_fits_45 ?_
        refine v_icmp_ne hC (pc := 46) (tgt := 53) dX6_fits_46 (by decide) (fun c_46 => ?_) (fun c_46 => ?_)
        · exact absurd rfl c_46
        · skip
          refine v_iconst hC (pc := 49) (v := 1) (by decide) dX6_fits_49 ?_
          refine v_goto hC (pc := 50) (tgt := 54) dX6_fits_50 (by decide) ?_
          refine v_callV hC (pc := 54) (As := [_, _, _]) dX6_fits_54 rfl (t_isAsSeen _ _ (d := d - 1) (by omega) (q := 0) (by decide) (w := w) (by omega) _ hs8 hns hsh hsh2 (nI i) (nI 1)) cv_X6_231 rfl (by decide) rfl (by first | rfl | exact ok_c hq rfl | exact ok_w hq hw | exact ok_w (by omega) (by omega) | exact ok_s (by omega) (by omega) | exact ok_c (by omega) rfl | assumption) (Nat.le_of_ble_eq_true rfl) (by omega) (fun r h' hr => ?_)
          obtain ⟨he9, rfl⟩ := hr
          rw [he9]
          clear he9 h'
          show V _ _ _ (54 + 3) _ (_ :: _) _
          refine v_if_eq hC (pc := 57) (tgt := 67) dX6_fits_57 (by decide) (fun c_57 => ?_) (fun c_57 => ?_)
          · skip
            rw [ftC_f (h := h) (w := w) (nS := nS) (x := 1) (c := i) (by omega) (bP_0.mp c_57)]
            refine v_iinc hC (pc := 67) (l' := [(4, _), (3, _), (0, _), (1, _), (2, _)]) 0 (v := nI (i + 1)) dX6_fits_67 rfl (nI_inc i) (by decide) rfl ?_
            refine v_goto hC (pc := 70) (tgt := 25) dX6_fits_70 (by decide) ?_
            exact ih (i + 1) (by omega) (by omega)
          · skip
            skip
            refine v_iload_n hC (pc := 60) (k := 3) 1 rfl dX6_fits_60 ?_
            refine v_iconst hC (pc := 61) (v := 1) (by decide) dX6_fits_61 ?_
            refine v_iload hC (pc := 62) 0 rfl dX6_fits_62 ?_
            refine v_ishl hC (pc := 64) dX6_fits_64 ?_
            refine v_ior hC (pc := 65) dX6_fits_65 ?_
            rw [ftC_t (h := h) (w := w) (nS := nS) (x := 1) (c := i) (Classical.not_not.mp (fun z => c_57 (bP_f z)))]
            refine v_istore_n hC (pc := 66) (l' := [(3, _), (4, _), (0, _), (1, _), (2, _)]) dX6_fits_66 (by decide) rfl ?_
            refine v_iinc hC (pc := 67) (l' := [(4, _), (3, _), (0, _), (1, _), (2, _)]) 1 (v := nI (i + 1)) dX6_fits_67 rfl (nI_inc i) (by decide) rfl ?_
            refine v_goto hC (pc := 70) (tgt := 25) dX6_fits_70 (by decide) ?_
            exact ih (i + 1) (by omega) (by omega)
  refine v_aload_n hC (pc := 0) (k := 0) 0 rfl dX6_fits_0 ?_
  refine v_getR hC (pc := 1) dX6_fits_1 fl_X6_10 rfl (by first | rfl | exact ok_c hq rfl | exact ok_w hq hw | exact ok_w (by omega) (by omega) | exact ok_s (by omega) (by omega) | exact ok_c (by omega) rfl | assumption) rfl (by decide) (by decide) rfl ?_
  refine v_iload_n hC (pc := 4) (k := 1) 1 rfl dX6_fits_4 ?_
  refine v_callV hC (pc := 5) (As := [_]) dX6_fits_5 rfl (t_hasWalker_t _ _ (d := d - 1) (by omega) (q := 0) (by decide) _ (c := w) (by assumption) (by omega) hnw) cv_X6_115 rfl (by decide) rfl (by first | rfl | exact ok_c hq rfl | exact ok_w hq hw | exact ok_w (by omega) (by omega) | exact ok_s (by omega) (by omega) | exact ok_c (by omega) rfl | assumption) (Nat.le_of_ble_eq_true rfl) (by omega) (fun r h' hr => ?_)
  obtain ⟨he9, rfl⟩ := hr
  rw [he9]
  clear he9 h'
  show V _ _ _ (5 + 3) _ (_ :: _) _
  refine v_if_eq hC (pc := 8) (tgt := 18) dX6_fits_8 (by decide) (fun c_8 => ?_) (fun c_8 => ?_)
  · exact absurd c_8 (by decide)
  · skip
    refine v_iload_n hC (pc := 11) (k := 2) 2 rfl dX6_fits_11 ?_
    refine v_callS hC (pc := 12) (As := [_]) dX6_fits_12 rfl (t_isZeroOrOne_t _ _ (d := d - 1) (by omega) _ (s := 1) (by decide)) cs_X6_108 (Nat.le_of_ble_eq_true rfl) (by omega) (fun r h' hr => ?_)
    obtain ⟨he9, rfl⟩ := hr
    rw [he9]
    clear he9 h'
    show V _ _ _ (12 + 3) _ (_ :: _) _
    refine v_if_ne hC (pc := 15) (tgt := 20) dX6_fits_15 (by decide) (fun c_15 => ?_) (fun c_15 => ?_)
    · skip
      refine v_iconst hC (pc := 20) (v := 0) (by decide) dX6_fits_20 ?_
      refine v_istore_n hC (pc := 21) (l' := [(3, _), (0, _), (1, _), (2, _)]) dX6_fits_21 (by decide) rfl ?_
      refine v_iconst hC (pc := 22) (v := 0) (by decide) dX6_fits_22 ?_
      refine v_istore hC (pc := 23) (l' := [(4, _), (3, _), (0, _), (1, _), (2, _)]) dX6_fits_23 (by decide) rfl ?_
      exact lp 9 0 (by omega) (by omega)
    · exact absurd c_15 (by decide)

set_option maxRecDepth 20000 in
set_option maxHeartbeats 2000000 in
theorem k_fits_bad (l9 : Launch) (G : WT) {d : Nat} (hd : 3 ≤ d) (h : HP) {nW : Nat} (hn4 : nW ≤ 4) (hnw : h.1 (0, 0, 0) 4 = nI nW) (w x : Int32) (hbad : ¬ ((¬ w < 0 ∧ ¬ nI nW ≤ w) ∧ (x = 0 ∨ x = 1))) : MS l9 G yX6_fits cX6_fits 5 (some .int) d [vr (1, 0, 0), vi w, vi x] h (fun r h1 => h1 = h ∧ r = some (vi (-1))) := by
  refine MS_of (by decide +kernel) (Nat.le_of_ble_eq_true rfl) (fun X hC hX => ?_)
  show V X G 5 0 _ [] _
  refine v_aload_n hC (pc := 0) (k := 0) 0 rfl dX6_fits_0 ?_
  refine v_getR hC (pc := 1) dX6_fits_1 fl_X6_10 rfl (by first | rfl | exact ok_c hq rfl | exact ok_w hq hw | exact ok_w (by omega) (by omega) | exact ok_s (by omega) (by omega) | exact ok_c (by omega) rfl | assumption) rfl (by decide) (by decide) rfl ?_
  refine v_iload_n hC (pc := 4) (k := 1) 1 rfl dX6_fits_4 ?_
  refine v_callV hC (pc := 5) (As := [_]) dX6_fits_5 rfl (t_hasWalker _ _ (d := d - 1) (by omega) (q := 0) (by decide) _ _) cv_X6_115 rfl (by decide) rfl (by first | rfl | exact ok_c hq rfl | exact ok_w hq hw | exact ok_w (by omega) (by omega) | exact ok_s (by omega) (by omega) | exact ok_c (by omega) rfl | assumption) (Nat.le_of_ble_eq_true rfl) (by omega) (fun r h' hr => ?_)
  obtain ⟨he9, rfl⟩ := hr
  rw [he9, hnw]
  clear he9 h'
  show V _ _ _ (5 + 3) _ (_ :: _) _
  refine v_ifb_eq hC (pc := 8) (tgt := 18) dX6_fits_8 (by decide) (fun c_8 => ?_) (fun c_8 => ?_)
  · skip
    refine v_iconst hC (pc := 18) (v := (-1)) (by decide) dX6_fits_18 ?_
    refine v_iret hC hX (pc := 19) dX6_fits_19 ?_
    exact ⟨rfl, rfl⟩
  · skip
    refine v_iload_n hC (pc := 11) (k := 2) 2 rfl dX6_fits_11 ?_
    refine v_callS hC (pc := 12) (As := [_]) dX6_fits_12 rfl (t_isZeroOrOne _ _ (d := d - 1) (by omega) _ _) cs_X6_108 (Nat.le_of_ble_eq_true rfl) (by omega) (fun r h' hr => ?_)
    obtain ⟨he9, rfl⟩ := hr
    rw [he9]
    clear he9 h'
    show V _ _ _ (12 + 3) _ (_ :: _) _
    refine v_ifb_ne hC (pc := 15) (tgt := 20) dX6_fits_15 (by decide) (fun c_15 => ?_) (fun c_15 => ?_)
    · skip
      exact absurd (show _ ∧ _ from ⟨c_8, c_15⟩) hbad
    · skip
      refine v_iconst hC (pc := 18) (v := (-1)) (by decide) dX6_fits_18 ?_
      refine v_iret hC hX (pc := 19) dX6_fits_19 ?_
      exact ⟨rfl, rfl⟩

theorem endH_Fr {h u : HP} {q n : Nat} {c : Int32} (hF : FrC u h q) : FrC (endH u q n c) h q := by
  refine ⟨fun i hi => ?_, hF.2⟩
  have e0 : i ≠ (0, q, 0) := fun e => hi (by rw [e]; exact ⟨Or.inl rfl, rfl⟩)
  unfold endH
  rw [upI_ne _ _ _ e0, upI_ne _ _ _ e0, ← hF.1 i hi]
  funext k
  unfold plcH
  by_cases e : i.1 = 6 ∧ i.2.1 = q ∧ i.2.2 < n ∧ k = 0
  · exact absurd ⟨Or.inr e.1, e.2.1⟩ hi
  · exact if_neg e
theorem drgH_Fr {h u : HP} {q n : Nat} {s : Int32} (hF : FrC u h q) : FrC (drgH u q n s) h q := by
  refine ⟨fun i hi => ?_, hF.2⟩
  rw [← hF.1 i hi]
  funext k
  unfold drgH
  by_cases e : i = (0, q, 13) ∧ k < n
  · exact absurd (by rw [e.1]; exact ⟨Or.inl rfl, rfl⟩) hi
  · exact if_neg e
theorem drF_Fr {h u : HP} {q nW : Nat} {sd : Int32} (hF : FrC u h q) : ∀ n, FrC (drF q nW n (u, 0, sd)).1 h q
  | 0 => hF
  | n + 1 => endH_Fr (drgH_Fr (drF_Fr hF n))
set_option maxRecDepth 20000 in
set_option maxHeartbeats 2000000 in
theorem k_drift_0 (l9 : Launch) (G : WT) {d : Nat} (hd : 6 ≤ d) (h : HP) {nW : Nat} (hn4 : nW ≤ 4) (hnw : h.1 (0, 0, 0) 4 = nI nW) (hz : ∀ w, w < 4 → h.1 (6, 0, w) 2 = 0 ∨ h.1 (6, 0, w) 2 = 1) (sd : Int32) {N : Nat} (hN1 : 1 ≤ N) (hN : N ≤ 60) : MS l9 G yX6_drift cX6_drift 5 (some .int) d [vr (1, 0, 0), vi sd, vi (nI N), vi (nI 0)] h (fun r h1 => ∃ u, SamC u h 1 0 ∧ FrC u h 1 ∧ FrC h1 h 1 ∧ r = some (vi (drF 1 nW N (u, 0, sd)).2.1)) := by
  refine MS_of (by decide +kernel) (Nat.le_of_ble_eq_true rfl) (fun X hC hX => ?_)
  show V X G 5 0 _ [] _
  refine v_iload_n hC (pc := 0) (k := 2) 2 rfl dX6_drift_0 ?_
  refine v_iconst hC (pc := 1) (v := 1) (by decide) dX6_drift_1 ?_
  refine v_icmp_lt hC (pc := 2) (tgt := 18) dX6_drift_2 (by decide) (fun c_2 => ?_) (fun c_2 => ?_)
  · exact absurd c_2 (nI_nlt hN1 (by omega))
  · skip
    refine v_iload_n hC (pc := 5) (k := 2) 2 rfl dX6_drift_5 ?_
    refine v_bipush hC (pc := 6) (v := 60) (by decide +kernel) dX6_drift_6 ?_
    refine v_icmp_gt hC (pc := 8) (tgt := 18) dX6_drift_8 (by decide) (fun c_8 => ?_) (fun c_8 => ?_)
    · exact absurd c_8 (nI_nlt hN (by decide))
    · skip
      refine v_iload_n hC (pc := 11) (k := 3) 3 rfl dX6_drift_11 ?_
      refine v_callS hC (pc := 12) (As := [_]) dX6_drift_12 rfl (t_isZeroOrOne_t _ _ (d := d - 1) (by omega) _ (s := 0) (by decide)) cs_X6_108 (Nat.le_of_ble_eq_true rfl) (by omega) (fun r h' hr => ?_)
      obtain ⟨he9, rfl⟩ := hr
      rw [he9]
      clear he9 h'
      show V _ _ _ (12 + 3) _ (_ :: _) _
      refine v_if_ne hC (pc := 15) (tgt := 20) dX6_drift_15 (by decide) (fun c_15 => ?_) (fun c_15 => ?_)
      · skip
        refine v_aload_n hC (pc := 20) (k := 0) 0 rfl dX6_drift_20 ?_
        refine v_getR hC (pc := 21) dX6_drift_21 fl_X6_16 rfl (by first | rfl | exact ok_c hq rfl | exact ok_w hq hw | exact ok_w (by omega) (by omega) | exact ok_s (by omega) (by omega) | exact ok_c (by omega) rfl | assumption) rfl (by decide) (by decide) rfl ?_
        refine v_aload_n hC (pc := 24) (k := 0) 0 rfl dX6_drift_24 ?_
        refine v_getR hC (pc := 25) dX6_drift_25 fl_X6_10 rfl (by first | rfl | exact ok_c hq rfl | exact ok_w hq hw | exact ok_w (by omega) (by omega) | exact ok_s (by omega) (by omega) | exact ok_c (by omega) rfl | assumption) rfl (by decide) (by decide) rfl ?_
        refine v_callV hC (pc := 28) (As := [_]) dX6_drift_28 rfl (t_copyOf _ _ (d := d - 1) (by omega) (q := 1) (p := 0) (by decide) (by decide) (by decide) _ hz) cv_X6_75 rfl (by decide) rfl (by first | rfl | exact ok_c hq rfl | exact ok_w hq hw | exact ok_w (by omega) (by omega) | exact ok_s (by omega) (by omega) | exact ok_c (by omega) rfl | assumption) (Nat.le_of_ble_eq_true rfl) (by omega) (fun r h' hr => ?_)
        obtain ⟨rfl, hs, hf⟩ := hr
        generalize h' = u at hs hf ⊢
        have hw1 : u.1 (0, 1, 0) 4 = nI nW := (hs.1 4 (by decide)).trans hnw
        show V _ _ _ (28 + 3) _ _ _
        refine v_aload_n hC (pc := 31) (k := 0) 0 rfl dX6_drift_31 ?_
        refine v_getR hC (pc := 32) dX6_drift_32 fl_X6_16 rfl (by first | rfl | exact ok_c hq rfl | exact ok_w hq hw | exact ok_w (by omega) (by omega) | exact ok_s (by omega) (by omega) | exact ok_c (by omega) rfl | assumption) rfl (by decide) (by decide) rfl ?_
        refine v_iload_n hC (pc := 35) (k := 1) 1 rfl dX6_drift_35 ?_
        refine v_iload_n hC (pc := 36) (k := 2) 2 rfl dX6_drift_36 ?_
        refine v_callV hC (pc := 37) (As := [_, _]) dX6_drift_37 rfl (t_driftBy _ _ (d := d - 1) (by omega) (q := 1) (by decide) _ hn4 hw1 sd (N := N) (by omega)) cv_X6_235 rfl (by decide) rfl (by first | rfl | exact ok_c hq rfl | exact ok_w hq hw | exact ok_w (by omega) (by omega) | exact ok_s (by omega) (by omega) | exact ok_c (by omega) rfl | assumption) (Nat.le_of_ble_eq_true rfl) (by omega) (fun r h' hr => ?_)
        obtain ⟨rfl, he9⟩ := hr
        rw [he9]
        clear he9 h'
        show V _ _ _ (37 + 3) _ (_ :: _) _
        refine v_istore hC (pc := 40) (l' := [(4, _), (0, _), (1, _), (2, _), (3, _)]) dX6_drift_40 (by decide) rfl ?_
        refine v_iload_n hC (pc := 42) (k := 3) 4 rfl dX6_drift_42 ?_
        refine v_if_ne hC (pc := 43) (tgt := 51) dX6_drift_43 (by decide) (fun c_43 => ?_) (fun c_43 => ?_)
        · exact absurd rfl c_43
        · skip
          refine v_iload hC (pc := 46) 0 rfl dX6_drift_46 ?_
          refine v_goto hC (pc := 48) (tgt := 58) dX6_drift_48 (by decide) ?_
          refine v_iret hC hX (pc := 58) dX6_drift_58 ?_
          exact ⟨u, hs, hf, drF_Fr hf N, rfl⟩
      · exact absurd c_15 (by decide)

set_option maxRecDepth 20000 in
set_option maxHeartbeats 2000000 in
theorem k_drift_1 (l9 : Launch) (G : WT) {d : Nat} (hd : 6 ≤ d) (h : HP) {nW : Nat} (hn4 : nW ≤ 4) (hnw : h.1 (0, 0, 0) 4 = nI nW) (hz : ∀ w, w < 4 → h.1 (6, 0, w) 2 = 0 ∨ h.1 (6, 0, w) 2 = 1) (sd : Int32) {N : Nat} (hN1 : 1 ≤ N) (hN : N ≤ 60) : MS l9 G yX6_drift cX6_drift 5 (some .int) d [vr (1, 0, 0), vi sd, vi (nI N), vi (nI 1)] h (fun r h1 => ∃ u, SamC u h 1 0 ∧ FrC u h 1 ∧ FrC h1 h 1 ∧ r = some (vi (itN (fun w a => a ||| (1 <<< (((drF 1 nW N (u, 0, sd)).1.1 (6, 1, w) 0) &&& 31))) nW 0))) := by
  refine MS_of (by decide +kernel) (Nat.le_of_ble_eq_true rfl) (fun X hC hX => ?_)
  show V X G 5 0 _ [] _
  refine v_iload_n hC (pc := 0) (k := 2) 2 rfl dX6_drift_0 ?_
  refine v_iconst hC (pc := 1) (v := 1) (by decide) dX6_drift_1 ?_
  refine v_icmp_lt hC (pc := 2) (tgt := 18) dX6_drift_2 (by decide) (fun c_2 => ?_) (fun c_2 => ?_)
  · exact absurd c_2 (nI_nlt hN1 (by omega))
  · skip
    refine v_iload_n hC (pc := 5) (k := 2) 2 rfl dX6_drift_5 ?_
    refine v_bipush hC (pc := 6) (v := 60) (by decide +kernel) dX6_drift_6 ?_
    refine v_icmp_gt hC (pc := 8) (tgt := 18) dX6_drift_8 (by decide) (fun c_8 => ?_) (fun c_8 => ?_)
    · exact absurd c_8 (nI_nlt hN (by decide))
    · skip
      refine v_iload_n hC (pc := 11) (k := 3) 3 rfl dX6_drift_11 ?_
      refine v_callS hC (pc := 12) (As := [_]) dX6_drift_12 rfl (t_isZeroOrOne_t _ _ (d := d - 1) (by omega) _ (s := 1) (by decide)) cs_X6_108 (Nat.le_of_ble_eq_true rfl) (by omega) (fun r h' hr => ?_)
      obtain ⟨he9, rfl⟩ := hr
      rw [he9]
      clear he9 h'
      show V _ _ _ (12 + 3) _ (_ :: _) _
      refine v_if_ne hC (pc := 15) (tgt := 20) dX6_drift_15 (by decide) (fun c_15 => ?_) (fun c_15 => ?_)
      · skip
        refine v_aload_n hC (pc := 20) (k := 0) 0 rfl dX6_drift_20 ?_
        refine v_getR hC (pc := 21) dX6_drift_21 fl_X6_16 rfl (by first | rfl | exact ok_c hq rfl | exact ok_w hq hw | exact ok_w (by omega) (by omega) | exact ok_s (by omega) (by omega) | exact ok_c (by omega) rfl | assumption) rfl (by decide) (by decide) rfl ?_
        refine v_aload_n hC (pc := 24) (k := 0) 0 rfl dX6_drift_24 ?_
        refine v_getR hC (pc := 25) dX6_drift_25 fl_X6_10 rfl (by first | rfl | exact ok_c hq rfl | exact ok_w hq hw | exact ok_w (by omega) (by omega) | exact ok_s (by omega) (by omega) | exact ok_c (by omega) rfl | assumption) rfl (by decide) (by decide) rfl ?_
        refine v_callV hC (pc := 28) (As := [_]) dX6_drift_28 rfl (t_copyOf _ _ (d := d - 1) (by omega) (q := 1) (p := 0) (by decide) (by decide) (by decide) _ hz) cv_X6_75 rfl (by decide) rfl (by first | rfl | exact ok_c hq rfl | exact ok_w hq hw | exact ok_w (by omega) (by omega) | exact ok_s (by omega) (by omega) | exact ok_c (by omega) rfl | assumption) (Nat.le_of_ble_eq_true rfl) (by omega) (fun r h' hr => ?_)
        obtain ⟨rfl, hs, hf⟩ := hr
        generalize h' = u at hs hf ⊢
        have hw1 : u.1 (0, 1, 0) 4 = nI nW := (hs.1 4 (by decide)).trans hnw
        show V _ _ _ (28 + 3) _ _ _
        refine v_aload_n hC (pc := 31) (k := 0) 0 rfl dX6_drift_31 ?_
        refine v_getR hC (pc := 32) dX6_drift_32 fl_X6_16 rfl (by first | rfl | exact ok_c hq rfl | exact ok_w hq hw | exact ok_w (by omega) (by omega) | exact ok_s (by omega) (by omega) | exact ok_c (by omega) rfl | assumption) rfl (by decide) (by decide) rfl ?_
        refine v_iload_n hC (pc := 35) (k := 1) 1 rfl dX6_drift_35 ?_
        refine v_iload_n hC (pc := 36) (k := 2) 2 rfl dX6_drift_36 ?_
        refine v_callV hC (pc := 37) (As := [_, _]) dX6_drift_37 rfl (t_driftBy _ _ (d := d - 1) (by omega) (q := 1) (by decide) _ hn4 hw1 sd (N := N) (by omega)) cv_X6_235 rfl (by decide) rfl (by first | rfl | exact ok_c hq rfl | exact ok_w hq hw | exact ok_w (by omega) (by omega) | exact ok_s (by omega) (by omega) | exact ok_c (by omega) rfl | assumption) (Nat.le_of_ble_eq_true rfl) (by omega) (fun r h' hr => ?_)
        obtain ⟨rfl, he9⟩ := hr
        rw [he9]
        clear he9 h'
        show V _ _ _ (37 + 3) _ (_ :: _) _
        refine v_istore hC (pc := 40) (l' := [(4, _), (0, _), (1, _), (2, _), (3, _)]) dX6_drift_40 (by decide) rfl ?_
        refine v_iload_n hC (pc := 42) (k := 3) 4 rfl dX6_drift_42 ?_
        refine v_if_ne hC (pc := 43) (tgt := 51) dX6_drift_43 (by decide) (fun c_43 => ?_) (fun c_43 => ?_)
        · skip
          refine v_aload_n hC (pc := 51) (k := 0) 1 rfl dX6_drift_51 ?_
          refine v_getR hC (pc := 52) dX6_drift_52 fl_X6_16 rfl (by first | rfl | exact ok_c hq rfl | exact ok_w hq hw | exact ok_w (by omega) (by omega) | exact ok_s (by omega) (by omega) | exact ok_c (by omega) rfl | assumption) rfl (by decide) (by decide) rfl ?_
          refine v_callV hC (pc := 55) (As := []) dX6_drift_55 rfl (t_placeBits _ _ (d := d - 1) (by omega) (q := 1) (by decide) _ hn4 (by rw [drF_w]; exact hw1)) cv_X6_238 rfl (by decide) rfl (by first | rfl | exact ok_c hq rfl | exact ok_w hq hw | exact ok_w (by omega) (by omega) | exact ok_s (by omega) (by omega) | exact ok_c (by omega) rfl | assumption) (Nat.le_of_ble_eq_true rfl) (by omega) (fun r h' hr => ?_)
          obtain ⟨he9, rfl⟩ := hr
          rw [he9]
          clear he9 h'
          show V _ _ _ (55 + 3) _ (_ :: _) _
          refine v_iret hC hX (pc := 58) dX6_drift_58 ?_
          exact ⟨u, hs, hf, drF_Fr hf N, rfl⟩
        · exact absurd c_43 (by decide)
      · exact absurd c_15 (by decide)

set_option maxRecDepth 20000 in
set_option maxHeartbeats 2000000 in
theorem k_drift_bad (l9 : Launch) (G : WT) {d : Nat} (hd : 3 ≤ d) (h : HP) (s n x : Int32) (hbad : ¬ ((¬ n < 1 ∧ ¬ 60 < n) ∧ (x = 0 ∨ x = 1))) : MS l9 G yX6_drift cX6_drift 5 (some .int) d [vr (1, 0, 0), vi s, vi n, vi x] h (fun r h1 => h1 = h ∧ r = some (vi (-1))) := by
  refine MS_of (by decide +kernel) (Nat.le_of_ble_eq_true rfl) (fun X hC hX => ?_)
  show V X G 5 0 _ [] _
  refine v_iload_n hC (pc := 0) (k := 2) 2 rfl dX6_drift_0 ?_
  refine v_iconst hC (pc := 1) (v := 1) (by decide) dX6_drift_1 ?_
  refine v_icmp_lt hC (pc := 2) (tgt := 18) dX6_drift_2 (by decide) (fun c_2 => ?_) (fun c_2 => ?_)
  · skip
    refine v_iconst hC (pc := 18) (v := (-1)) (by decide) dX6_drift_18 ?_
    refine v_iret hC hX (pc := 19) dX6_drift_19 ?_
    exact ⟨rfl, rfl⟩
  · skip
    refine v_iload_n hC (pc := 5) (k := 2) 2 rfl dX6_drift_5 ?_
    refine v_bipush hC (pc := 6) (v := 60) (by decide +kernel) dX6_drift_6 ?_
    refine v_icmp_gt hC (pc := 8) (tgt := 18) dX6_drift_8 (by decide) (fun c_8 => ?_) (fun c_8 => ?_)
    · skip
      refine v_iconst hC (pc := 18) (v := (-1)) (by decide) dX6_drift_18 ?_
      refine v_iret hC hX (pc := 19) dX6_drift_19 ?_
      exact ⟨rfl, rfl⟩
    · skip
      refine v_iload_n hC (pc := 11) (k := 3) 3 rfl dX6_drift_11 ?_
      refine v_callS hC (pc := 12) (As := [_]) dX6_drift_12 rfl (t_isZeroOrOne _ _ (d := d - 1) (by omega) _ _) cs_X6_108 (Nat.le_of_ble_eq_true rfl) (by omega) (fun r h' hr => ?_)
      obtain ⟨he9, rfl⟩ := hr
      rw [he9]
      clear he9 h'
      show V _ _ _ (12 + 3) _ (_ :: _) _
      refine v_ifb_ne hC (pc := 15) (tgt := 20) dX6_drift_15 (by decide) (fun c_15 => ?_) (fun c_15 => ?_)
      · skip
        exact absurd (show _ ∧ _ from ⟨⟨c_2, c_8⟩, c_15⟩) hbad
      · skip
        refine v_iconst hC (pc := 18) (v := (-1)) (by decide) dX6_drift_18 ?_
        refine v_iret hC hX (pc := 19) dX6_drift_19 ?_
        exact ⟨rfl, rfl⟩

/-- what text() answers and leaves -/
def TXK (T : Nat → Int32) (t : Nat) (h : HP) (r : Option PV) (h1 : HP) : Prop := (∃ c f u, txE T t = .inl (c, f) ∧ 0 < c ∧ r = some (vi (-10 - nI f)) ∧ CE h u ∧ h1 = upI (upI u (1, 0, 2) 1 0) (1, 0, 0) 8 c) ∨ ∃ m D u v, txE T t = .inr (m, D) ∧ WD D ∧ r = some (vi (nI m)) ∧ CE h u ∧ DCd u D ∧ SamC v (upI (upI u (1, 0, 2) 1 0) (1, 0, 0) 8 0) 0 4 ∧ FrC v (upI (upI u (1, 0, 2) 1 0) (1, 0, 0) 8 0) 0 ∧ h1 = upI v (1, 0, 0) 7 0
theorem txE_PX (T : Nat → Int32) (t : Nat) : True := trivial
theorem PX_txS (T : Nat → Int32) (t : Nat) : ∀ n m a, PX (txS T t n m a)
  | 0, _, _ => PX_r _
  | n + 1, m, a => PX_i (PX_l (by decide)) (PX_i (PX_r _) (PX_b (by rw [lin_tk]; exact PX_b (PX_tk T t a) (fun _ => PX_knd T t 3 _)) (fun b => PX_txS T t n (m + 1) b)))
theorem PX_tx (T : Nat → Int32) (t : Nat) : PX (txE T t) := PX_b (PX_txS T t _ _ _) (fun _ => PX_i (PX_r _) (PX_l (by decide)))
set_option maxRecDepth 20000 in
set_option maxHeartbeats 2000000 in
theorem k_text (l9 : Launch) (G : WT) {d : Nat} (hd : 10 ≤ d) {T : Nat → Int32} {t : Nat} (h : HP) (ht : t ≤ 160) (htp : h.1 (1, 0, 2) 1 = nI t) (hT : h.1 (1, 0, 3) = T) (hT0 : ∀ j, j < t → ¬ T j < 0) (hKB : KB h) : MS l9 G yX6_text cX6_text 2 (some .int) d [vr (1, 0, 0)] h (fun r h1 => TXK T t h r h1) := by
  refine MS_of (by decide +kernel) (Nat.le_of_ble_eq_true rfl) (fun X hC hX => ?_)
  show V X G 2 0 _ [] _
  rcases hE : txE T t with ⟨c, f⟩ | ⟨m, D⟩
  · have hc : 0 < c := PX_tx T t c f hE
    refine v_aload_n hC (pc := 0) (k := 0) 0 rfl dX6_text_0 ?_
    refine v_getR hC (pc := 1) dX6_text_1 fl_X6_26 rfl (by first | rfl | exact ok_c hq rfl | exact ok_w hq hw | exact ok_w (by omega) (by omega) | exact ok_s (by omega) (by omega) | exact ok_c (by omega) rfl | assumption) rfl (by decide) (by decide) rfl ?_
    refine v_callV hC (pc := 4) (As := []) dX6_text_4 rfl (MS.mono (t_readLines _ _ (d := d - 1) (by omega) h ht htp hT hT0) (R' := fun r h1 => ∃ v9, r = some (vi v9) ∧ CE h h1 ∧ h1.1 (1, 0, 2) 2 = c ∧ h1.1 (1, 0, 2) 3 = nI f) (fun r h1 z => by
rcases z with ⟨c', f', v', z1, z2, z3, z4, z5, z6⟩ | ⟨m', D', z1, _⟩
· rw [hE] at z1; cases z1; exact ⟨v', z3, z4, z5, z6⟩
· rw [hE] at z1; cases z1)) cv_X6_59 rfl (by decide) rfl (by first | rfl | exact ok_c hq rfl | exact ok_w hq hw | exact ok_w (by omega) (by omega) | exact ok_s (by omega) (by omega) | exact ok_c (by omega) rfl | assumption) (Nat.le_of_ble_eq_true rfl) (by omega) (fun r h' hr => ?_)
    obtain ⟨v9, rfl, hE9, z2, z3⟩ := hr
    generalize h' = u at hE9 z2 z3 ⊢
    show V _ _ _ (4 + 3) _ (_ :: _) _
    refine v_istore_n hC (pc := 7) (l' := [(1, _), (0, _)]) dX6_text_7 (by decide) rfl ?_
    refine v_aload_n hC (pc := 8) (k := 0) 1 rfl dX6_text_8 ?_
    refine v_getR hC (pc := 9) dX6_text_9 fl_X6_26 rfl (by first | rfl | exact ok_c hq rfl | exact ok_w hq hw | exact ok_w (by omega) (by omega) | exact ok_s (by omega) (by omega) | exact ok_c (by omega) rfl | assumption) rfl (by decide) (by decide) rfl ?_
    refine v_iconst hC (pc := 12) (v := 0) (by decide) dX6_text_12 ?_
    refine v_putI hC (pc := 13) dX6_text_13 fs_X6_51 rfl (by first | rfl | exact ok_c hq rfl | exact ok_w hq hw | exact ok_w (by omega) (by omega) | exact ok_s (by omega) (by omega) | exact ok_c (by omega) rfl | assumption) rfl (by decide) (by decide) ?_
    refine v_aload_n hC (pc := 16) (k := 0) 1 rfl dX6_text_16 ?_
    refine v_aload_n hC (pc := 17) (k := 0) 1 rfl dX6_text_17 ?_
    refine v_getR hC (pc := 18) dX6_text_18 fl_X6_26 rfl (by first | rfl | exact ok_c hq rfl | exact ok_w hq hw | exact ok_w (by omega) (by omega) | exact ok_s (by omega) (by omega) | exact ok_c (by omega) rfl | assumption) rfl (by decide) (by decide) rfl ?_
    refine v_getI hC (pc := 21) dX6_text_21 fl_X6_63 rfl (by first | rfl | exact ok_c hq rfl | exact ok_w hq hw | exact ok_w (by omega) (by omega) | exact ok_s (by omega) (by omega) | exact ok_c (by omega) rfl | assumption) rfl (by decide) (by decide) ?_
    rw [upI_k _ _ _ _ _ (by decide), z2]
    refine v_putI hC (pc := 24) dX6_text_24 fs_X6_66 rfl (by first | rfl | exact ok_c hq rfl | exact ok_w hq hw | exact ok_w (by omega) (by omega) | exact ok_s (by omega) (by omega) | exact ok_c (by omega) rfl | assumption) rfl (by decide) (by decide) ?_
    refine v_aload_n hC (pc := 27) (k := 0) 1 rfl dX6_text_27 ?_
    refine v_getI hC (pc := 28) dX6_text_28 fl_X6_66 rfl (by first | rfl | exact ok_c hq rfl | exact ok_w hq hw | exact ok_w (by omega) (by omega) | exact ok_s (by omega) (by omega) | exact ok_c (by omega) rfl | assumption) rfl (by decide) (by decide) ?_
    rw [upI_i]
    refine v_if_eq hC (pc := 31) (tgt := 45) dX6_text_31 (by decide) (fun c_31 => ?_) (fun c_31 => ?_)
    · exact absurd c_31 (fun z => absurd hc (by rw [z]; exact Int32.lt_irrefl))
    · skip
      refine v_bipush hC (pc := 34) (v := (-10)) (by decide +kernel) dX6_text_34 ?_
      refine v_aload_n hC (pc := 36) (k := 0) 1 rfl dX6_text_36 ?_
      refine v_getR hC (pc := 37) dX6_text_37 fl_X6_26 rfl (by first | rfl | exact ok_c hq rfl | exact ok_w hq hw | exact ok_w (by omega) (by omega) | exact ok_s (by omega) (by omega) | exact ok_c (by omega) rfl | assumption) rfl (by decide) (by decide) rfl ?_
      refine v_getI hC (pc := 40) dX6_text_40 fl_X6_69 rfl (by first | rfl | exact ok_c hq rfl | exact ok_w hq hw | exact ok_w (by omega) (by omega) | exact ok_s (by omega) (by omega) | exact ok_c (by omega) rfl | assumption) rfl (by decide) (by decide) ?_
      rw [upI_ne _ _ _ (show ((1, 0, 2) : PId) ≠ (1, 0, 0) by decide)]
      rw [upI_k _ _ _ _ _ (by decide), z3]
      refine v_isub hC (pc := 43) dX6_text_43 ?_
      refine v_iret hC hX (pc := 44) dX6_text_44 ?_
      exact Or.inl ⟨c, f, u, hE, hc, rfl, hE9, rfl⟩
  · skip
    refine v_aload_n hC (pc := 0) (k := 0) 0 rfl dX6_text_0 ?_
    refine v_getR hC (pc := 1) dX6_text_1 fl_X6_26 rfl (by first | rfl | exact ok_c hq rfl | exact ok_w hq hw | exact ok_w (by omega) (by omega) | exact ok_s (by omega) (by omega) | exact ok_c (by omega) rfl | assumption) rfl (by decide) (by decide) rfl ?_
    refine v_callV hC (pc := 4) (As := []) dX6_text_4 rfl (MS.mono (t_readLines _ _ (d := d - 1) (by omega) h ht htp hT hT0) (R' := fun r h1 => r = some (vi (nI m)) ∧ WD D ∧ CE h h1 ∧ h1.1 (1, 0, 2) 2 = 0 ∧ DCd h1 D) (fun r h1 z => by
rcases z with ⟨c', f', v', z1, z2, z3, z4, z5, z6⟩ | ⟨m', D', z1, z2, z3, z4, z5, z6⟩
· rw [hE] at z1; cases z1
· rw [hE] at z1; cases z1; exact ⟨z3, z2, z4, z5, z6⟩)) cv_X6_59 rfl (by decide) rfl (by first | rfl | exact ok_c hq rfl | exact ok_w hq hw | exact ok_w (by omega) (by omega) | exact ok_s (by omega) (by omega) | exact ok_c (by omega) rfl | assumption) (Nat.le_of_ble_eq_true rfl) (by omega) (fun r h' hr => ?_)
    obtain ⟨rfl, hW, hE9, z2, hD⟩ := hr
    generalize h' = u at hE9 z2 hD ⊢
    show V _ _ _ (4 + 3) _ (_ :: _) _
    refine v_istore_n hC (pc := 7) (l' := [(1, _), (0, _)]) dX6_text_7 (by decide) rfl ?_
    refine v_aload_n hC (pc := 8) (k := 0) 1 rfl dX6_text_8 ?_
    refine v_getR hC (pc := 9) dX6_text_9 fl_X6_26 rfl (by first | rfl | exact ok_c hq rfl | exact ok_w hq hw | exact ok_w (by omega) (by omega) | exact ok_s (by omega) (by omega) | exact ok_c (by omega) rfl | assumption) rfl (by decide) (by decide) rfl ?_
    refine v_iconst hC (pc := 12) (v := 0) (by decide) dX6_text_12 ?_
    refine v_putI hC (pc := 13) dX6_text_13 fs_X6_51 rfl (by first | rfl | exact ok_c hq rfl | exact ok_w hq hw | exact ok_w (by omega) (by omega) | exact ok_s (by omega) (by omega) | exact ok_c (by omega) rfl | assumption) rfl (by decide) (by decide) ?_
    refine v_aload_n hC (pc := 16) (k := 0) 1 rfl dX6_text_16 ?_
    refine v_aload_n hC (pc := 17) (k := 0) 1 rfl dX6_text_17 ?_
    refine v_getR hC (pc := 18) dX6_text_18 fl_X6_26 rfl (by first | rfl | exact ok_c hq rfl | exact ok_w hq hw | exact ok_w (by omega) (by omega) | exact ok_s (by omega) (by omega) | exact ok_c (by omega) rfl | assumption) rfl (by decide) (by decide) rfl ?_
    refine v_getI hC (pc := 21) dX6_text_21 fl_X6_63 rfl (by first | rfl | exact ok_c hq rfl | exact ok_w hq hw | exact ok_w (by omega) (by omega) | exact ok_s (by omega) (by omega) | exact ok_c (by omega) rfl | assumption) rfl (by decide) (by decide) ?_
    rw [upI_k _ _ _ _ _ (by decide), z2]
    refine v_putI hC (pc := 24) dX6_text_24 fs_X6_66 rfl (by first | rfl | exact ok_c hq rfl | exact ok_w hq hw | exact ok_w (by omega) (by omega) | exact ok_s (by omega) (by omega) | exact ok_c (by omega) rfl | assumption) rfl (by decide) (by decide) ?_
    refine v_aload_n hC (pc := 27) (k := 0) 1 rfl dX6_text_27 ?_
    refine v_getI hC (pc := 28) dX6_text_28 fl_X6_66 rfl (by first | rfl | exact ok_c hq rfl | exact ok_w hq hw | exact ok_w (by omega) (by omega) | exact ok_s (by omega) (by omega) | exact ok_c (by omega) rfl | assumption) rfl (by decide) (by decide) ?_
    rw [upI_i]
    refine v_if_eq hC (pc := 31) (tgt := 45) dX6_text_31 (by decide) (fun c_31 => ?_) (fun c_31 => ?_)
    · skip
      refine v_aload_n hC (pc := 45) (k := 0) 1 rfl dX6_text_45 ?_
      refine v_getR hC (pc := 46) dX6_text_46 fl_X6_10 rfl (by first | rfl | exact ok_c hq rfl | exact ok_w hq hw | exact ok_w (by omega) (by omega) | exact ok_s (by omega) (by omega) | exact ok_c (by omega) rfl | assumption) rfl (by decide) (by decide) rfl ?_
      refine v_aload_n hC (pc := 49) (k := 0) 1 rfl dX6_text_49 ?_
      refine v_getR hC (pc := 50) dX6_text_50 fl_X6_26 rfl (by first | rfl | exact ok_c hq rfl | exact ok_w hq hw | exact ok_w (by omega) (by omega) | exact ok_s (by omega) (by omega) | exact ok_c (by omega) rfl | assumption) rfl (by decide) (by decide) rfl ?_
      refine v_getR hC (pc := 53) dX6_text_53 fl_X6_72 rfl (by first | rfl | exact ok_c hq rfl | exact ok_w hq hw | exact ok_w (by omega) (by omega) | exact ok_s (by omega) (by omega) | exact ok_c (by omega) rfl | assumption) rfl (by decide) (by decide) rfl ?_
      refine v_callV hC (pc := 56) (As := [_]) dX6_text_56 rfl (t_copyOf _ _ (d := d - 1) (by omega) (q := 0) (p := 4) (by decide) (by decide) (by decide) _ (fun w hw => by rw [upI_ne _ _ _ (ne_1 (by decide)), upI_ne _ _ _ (ne_1 (by decide))]; exact hE9.2.1.2 hKB w hw)) cv_X6_75 rfl (by decide) rfl (by first | rfl | exact ok_c hq rfl | exact ok_w hq hw | exact ok_w (by omega) (by omega) | exact ok_s (by omega) (by omega) | exact ok_c (by omega) rfl | assumption) (Nat.le_of_ble_eq_true rfl) (by omega) (fun r h' hr => ?_)
      obtain ⟨rfl, hs, hf⟩ := hr
      generalize h' = v at hs hf ⊢
      show V _ _ _ (56 + 3) _ _ _
      refine v_aload_n hC (pc := 59) (k := 0) 1 rfl dX6_text_59 ?_
      refine v_iconst hC (pc := 60) (v := 0) (by decide) dX6_text_60 ?_
      refine v_putI hC (pc := 61) dX6_text_61 fs_X6_79 rfl (by first | rfl | exact ok_c hq rfl | exact ok_w hq hw | exact ok_w (by omega) (by omega) | exact ok_s (by omega) (by omega) | exact ok_c (by omega) rfl | assumption) rfl (by decide) (by decide) ?_
      refine v_iload_n hC (pc := 64) (k := 1) 0 rfl dX6_text_64 ?_
      refine v_iret hC hX (pc := 65) dX6_text_65 ?_
      exact Or.inr ⟨m, D, u, v, hE, hW, rfl, hE9, hD, hs, hf, rfl⟩
    · exact absurd rfl c_31

