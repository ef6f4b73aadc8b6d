/-! THE REFERENCE: read -/
set_option maxRecDepth 20000 in
set_option maxHeartbeats 2000000 in
theorem m_read_0 (l9 : Launch) (G : WT) {d : Nat} (hd : 4 ≤ d) (h : HP) {k l : Nat} (hk : k < 4) (hl : l < 3) (f : Int32) : MS l9 G yX7_read cX7_read 11 (some .int) d [vr (3, 0, 0), vi (nI k), vi (nI l), vi f, vi (nI 0)] h (fun r h1 => r = some (vi 0) ∧ ∃ u, scr h u ∧ h1 = upI u (3, 0, 0) 27 0) := by
  refine MS_of (by decide +kernel) (Nat.le_of_ble_eq_true rfl) (fun X hC hX => ?_)
  show V X G 11 0 _ [] _
  have main : ∀ u : HP, scr h u → (∀ i9, i9 < 4 → u.1 (3, 0, 29) i9 = h.1 (3, 0, 1) (18 + 6 * i9 + 0)) → V X G 11 69 [(7, vi 0), (6, vi 0), (5, vi 0), (0, vr (3, 0, 0)), (1, vi (nI k)), (2, vi (nI l)), (3, vi f), (4, vi (nI 0))] [] u := by
    intro u ha hhad
    refine v_iload hC (pc := 69) 0 rfl dX7_read_69 ?_
    refine v_iload hC (pc := 71) 7 rfl dX7_read_71 ?_
    refine v_icmp_ge hC (pc := 73) (tgt := 264) dX7_read_73 (by decide) (fun c_73 => ?_) (fun c_73 => ?_)
    · skip
      refine v_aload_n hC (pc := 264) (k := 0) 3 rfl dX7_read_264 ?_
      refine v_iload hC (pc := 265) 2 rfl dX7_read_265 ?_
      refine v_putI hC (pc := 267) dX7_read_267 fs_X7_309 rfl (by first | rfl | exact ok_c hq rfl | exact ok_w hq hw | exact ok_w (by omega) (by omega) | exact ok_s (by omega) (by omega) | exact ok_c (by omega) rfl | assumption) rfl (by decide) (by decide) ?_
      refine v_iload hC (pc := 270) 1 rfl dX7_read_270 ?_
      refine v_iret hC hX (pc := 272) dX7_read_272 ?_
      exact ⟨rfl, u, ha, rfl⟩
    · exact absurd (by decide : nI 0 ≤ (0 : Int32)) (fun z => c_73 z)
  have loop : ∀ (n j : Nat) (u : HP), j ≤ 4 → 5 ≤ j + n → scr h u → (∀ i9, i9 < j → u.1 (3, 0, 29) i9 = h.1 (3, 0, 1) (18 + 6 * i9 + 0)) → V X G 11 26 [(5, vi (nI j)), (0, vr (3, 0, 0)), (1, vi (nI k)), (2, vi (nI l)), (3, vi f), (4, vi (nI 0))] [] u := by
    intro n
    induction n with
    | zero => intro j u h1 h2; exact absurd h2 (by omega)
    | succ n ih =>
      intro j u h1 h2 ha hhad
      refine v_iload hC (pc := 26) 0 rfl dX7_read_26 ?_
      refine v_iconst hC (pc := 28) (v := 4) (by decide) dX7_read_28 ?_
      refine v_icmp_ge hC (pc := 29) (tgt := 60) dX7_read_29 (by decide) (fun c_29 => ?_) (fun c_29 => ?_)
      · skip
        have hj : j = 4 := lp_ex (N := 4) c_29 h1 (by decide)
        subst hj
        refine v_iconst hC (pc := 60) (v := 0) (by decide) dX7_read_60 ?_
        refine v_istore hC (pc := 61) (l' := [(5, _), (0, _), (1, _), (2, _), (3, _), (4, _)]) dX7_read_61 (by decide) rfl ?_
        refine v_iconst hC (pc := 63) (v := 0) (by decide) dX7_read_63 ?_
        refine v_istore hC (pc := 64) (l' := [(6, _), (5, _), (0, _), (1, _), (2, _), (3, _), (4, _)]) dX7_read_64 (by decide) rfl ?_
        refine v_iconst hC (pc := 66) (v := 0) (by decide) dX7_read_66 ?_
        refine v_istore hC (pc := 67) (l' := [(7, _), (6, _), (5, _), (0, _), (1, _), (2, _), (3, _), (4, _)]) dX7_read_67 (by decide) rfl ?_
        exact main u ha hhad
      · skip
        have hj : j < 4 := lp_in (N := 4) c_29 h1 (by decide)
        refine v_aload_n hC (pc := 32) (k := 0) 1 rfl dX7_read_32 ?_
        refine v_getR hC (pc := 33) dX7_read_33 fl_X7_54 rfl (by first | rfl | exact ok_c hq rfl | exact ok_w hq hw | exact ok_w (by omega) (by omega) | exact ok_s (by omega) (by omega) | exact ok_c (by omega) rfl | assumption) rfl (by decide) (by decide) rfl ?_
        refine v_iload hC (pc := 36) 0 rfl dX7_read_36 ?_
        refine v_aload_n hC (pc := 38) (k := 0) 1 rfl dX7_read_38 ?_
        refine v_getR hC (pc := 39) dX7_read_39 fl_X7_7 rfl (by first | rfl | exact ok_c hq rfl | exact ok_w hq hw | exact ok_w (by omega) (by omega) | exact ok_s (by omega) (by omega) | exact ok_c (by omega) rfl | assumption) rfl (by decide) (by decide) rfl ?_
        refine v_bipush hC (pc := 42) (v := 18) (by decide +kernel) dX7_read_42 ?_
        refine v_bipush hC (pc := 44) (v := 6) (by decide +kernel) dX7_read_44 ?_
        refine v_iload hC (pc := 46) 0 rfl dX7_read_46 ?_
        refine v_imul hC (pc := 48) dX7_read_48 ?_
        refine v_iadd hC (pc := 49) dX7_read_49 ?_
        refine v_iconst hC (pc := 50) (v := 0) (by decide) dX7_read_50 ?_
        refine v_iadd hC (pc := 51) dX7_read_51 ?_
        rw [show (18 : Int32) = nI 18 from rfl, show (6 : Int32) = nI 6 from rfl, nL_0, pk_mul, nI_add, nI_add]
        refine v_iald hC (pc := 52) dX7_read_52 rfl (by first | rfl | exact ok_c hq rfl | exact ok_w hq hw | exact ok_w (by omega) (by omega) | exact ok_s (by omega) (by omega) | exact ok_c (by omega) rfl | assumption) (vp_nat (n := 18 + 6 * j + 0) (by omega) (by decide)) ?_
        rw [nI_clamp (show 18 + 6 * j + 0 < 2 ^ 31 by omega)]
        show V X G 11 53 _ (vi (u.1 (3, 0, 1) (18 + 6 * j + 0)) :: _) _
        rw [scr_1 ha]
        refine v_iast hC (pc := 53) dX7_read_53 rfl (by first | rfl | exact ok_c hq rfl | exact ok_w hq hw | exact ok_w (by omega) (by omega) | exact ok_s (by omega) (by omega) | exact ok_c (by omega) rfl | assumption) (vp_nat (n := j) (by omega) (by decide)) ?_
        rw [nI_clamp (show j < 2 ^ 31 by omega)]
        refine v_iinc hC (pc := 54) (l' := [(5, _), (0, _), (1, _), (2, _), (3, _), (4, _)]) 0 (v := nI (j + 1)) dX7_read_54 rfl (nI_inc j) (by decide) rfl ?_
        refine v_goto hC (pc := 57) (tgt := 26) dX7_read_57 (by decide) ?_
        refine ih (j + 1) _ (by omega) (by omega) (scr_upI ha (j := (3, 0, 29)) (by decide) _ _) (fun i hi => ?_)
        rw [upI_same]
        show (if i = j then _ else u.1 (3, 0, 29) i) = _
        by_cases e : i = j
        · rw [if_pos e, e]
        · rw [if_neg e]; exact hhad i (by omega)
  refine v_iload_n hC (pc := 0) (k := 1) 1 rfl dX7_read_0 ?_
  refine v_iload_n hC (pc := 1) (k := 2) 2 rfl dX7_read_1 ?_
  refine v_callS hC (pc := 2) (As := [_, _]) dX7_read_2 rfl (m_isSheet_t _ _ (d := d - 1) (by omega) _ (k := k) (l := l) (by assumption) (by assumption)) cs_X7_301 (Nat.le_of_ble_eq_true rfl) (by omega) (fun r h' hr => ?_)
  obtain ⟨he9, rfl⟩ := hr
  rw [he9]
  clear he9 h'
  show V _ _ _ (2 + 3) _ (_ :: _) _
  refine v_if_eq hC (pc := 5) (tgt := 21) dX7_read_5 (by decide) (fun c_5 => ?_) (fun c_5 => ?_)
  · exact absurd c_5 (by decide)
  · skip
    refine v_iload hC (pc := 8) 4 rfl dX7_read_8 ?_
    refine v_i2l hC (pc := 10) dX7_read_10 ?_
    refine v_lconst hC (pc := 11) (v := 0) (by decide) dX7_read_11 ?_
    refine v_ldc2 hC (pc := 12) k_X7_304 dX7_read_12 ?_
    refine v_callS hC (pc := 15) (As := [_, _, _]) dX7_read_15 rfl (m_in_t _ _ (d := d - 1) (by omega) _ (nI 0) 0 20 ⟨nI_pos (by omega), nI_nlt (show 0 ≤ 20 by decide) (by decide)⟩) cs_X7_84 (Nat.le_of_ble_eq_true rfl) (by omega) (fun r h' hr => ?_)
    obtain ⟨he9, rfl⟩ := hr
    rw [he9]
    clear he9 h'
    show V _ _ _ (15 + 3) _ (_ :: _) _
    refine v_if_ne hC (pc := 18) (tgt := 23) dX7_read_18 (by decide) (fun c_18 => ?_) (fun c_18 => ?_)
    · skip
      refine v_iconst hC (pc := 23) (v := 0) (by decide) dX7_read_23 ?_
      refine v_istore hC (pc := 24) (l' := [(5, _), (0, _), (1, _), (2, _), (3, _), (4, _)]) dX7_read_24 (by decide) rfl ?_
      exact loop 5 0 h (by omega) (by omega) (scr_r h) (fun i hi => absurd hi (Nat.not_lt_zero _))
    · exact absurd c_18 (by decide)

set_option maxRecDepth 20000 in
set_option maxHeartbeats 2000000 in
theorem m_read_null (l9 : Launch) (G : WT) {d : Nat} (hd : 4 ≤ d) (h : HP) {k l n0 : Nat} (hk : k < 4) (hl : l < 3) (hn0 : 0 < n0) (hn : n0 ≤ 20) (f : Int32) (hln : h.1 (3, 0, 25) k = -4) : MS l9 G yX7_read cX7_read 11 (some .int) d [vr (3, 0, 0), vi (nI k), vi (nI l), vi f, vi (nI n0)] h (fun r h1 => r = some (vi 0) ∧ ∃ u, scr h u ∧ h1 = upI u (3, 0, 0) 27 1) := by
  refine MS_of (by decide +kernel) (Nat.le_of_ble_eq_true rfl) (fun X hC hX => ?_)
  show V X G 11 0 _ [] _
  have main : ∀ u : HP, scr h u → (∀ i9, i9 < 4 → u.1 (3, 0, 29) i9 = h.1 (3, 0, 1) (18 + 6 * i9 + 0)) → V X G 11 69 [(7, vi 0), (6, vi 0), (5, vi 0), (0, vr (3, 0, 0)), (1, vi (nI k)), (2, vi (nI l)), (3, vi f), (4, vi (nI n0))] [] u := by
    intro u ha hhad
    have fin : ∀ i1 : Int32, V X G 11 69 [(7, vi i1), (6, vi 0), (5, vi 1), (0, vr (3, 0, 0)), (1, vi (nI k)), (2, vi (nI l)), (3, vi f), (4, vi (nI n0))] [] u := by
      intro i1
      refine v_iload hC (pc := 69) 0 rfl dX7_read_69 ?_
      refine v_iload hC (pc := 71) 7 rfl dX7_read_71 ?_
      refine v_icmp_ge hC (pc := 73) (tgt := 264) dX7_read_73 (by decide) (fun c_73 => ?_) (fun c_73 => ?_)
      · skip
        refine v_aload_n hC (pc := 264) (k := 0) 3 rfl dX7_read_264 ?_
        refine v_iload hC (pc := 265) 2 rfl dX7_read_265 ?_
        refine v_putI hC (pc := 267) dX7_read_267 fs_X7_309 rfl (by first | rfl | exact ok_c hq rfl | exact ok_w hq hw | exact ok_w (by omega) (by omega) | exact ok_s (by omega) (by omega) | exact ok_c (by omega) rfl | assumption) rfl (by decide) (by decide) ?_
        refine v_iload hC (pc := 270) 1 rfl dX7_read_270 ?_
        refine v_iret hC hX (pc := 272) dX7_read_272 ?_
        exact ⟨rfl, u, ha, rfl⟩
      · skip
        refine v_iload hC (pc := 76) 2 rfl dX7_read_76 ?_
        refine v_if_ne hC (pc := 78) (tgt := 264) dX7_read_78 (by decide) (fun c_78 => ?_) (fun c_78 => ?_)
        · skip
          refine v_aload_n hC (pc := 264) (k := 0) 3 rfl dX7_read_264 ?_
          refine v_iload hC (pc := 265) 2 rfl dX7_read_265 ?_
          refine v_putI hC (pc := 267) dX7_read_267 fs_X7_309 rfl (by first | rfl | exact ok_c hq rfl | exact ok_w hq hw | exact ok_w (by omega) (by omega) | exact ok_s (by omega) (by omega) | exact ok_c (by omega) rfl | assumption) rfl (by decide) (by decide) ?_
          refine v_iload hC (pc := 270) 1 rfl dX7_read_270 ?_
          refine v_iret hC hX (pc := 272) dX7_read_272 ?_
          exact ⟨rfl, u, ha, rfl⟩
        · exact absurd (show (1 : Int32) = 0 from c_78) (by decide)
    have c1 : ∀ i1 : Int32, V X G 11 84 [(8, vi i1), (7, vi 0), (6, vi 0), (5, vi 1), (0, vr (3, 0, 0)), (1, vi (nI k)), (2, vi (nI l)), (3, vi f), (4, vi (nI n0))] [] u := by
      intro i1
      refine v_iload hC (pc := 84) 0 rfl dX7_read_84 ?_
      refine v_iconst hC (pc := 86) (v := 2) (by decide) dX7_read_86 ?_
      refine v_icmp_ge hC (pc := 87) (tgt := 171) dX7_read_87 (by decide) (fun c_87 => ?_) (fun c_87 => ?_)
      · skip
        skip
        refine v_iload hC (pc := 171) 3 rfl dX7_read_171 ?_
        refine v_if_ne hC (pc := 173) (tgt := 258) dX7_read_173 (by decide) (fun c_173 => ?_) (fun c_173 => ?_)
        · skip
          skip
          refine v_iinc hC (pc := 258) (l' := [(7, _), (8, _), (6, _), (5, _), (0, _), (1, _), (2, _), (3, _), (4, _)]) 1 dX7_read_258 rfl rfl (by decide) rfl ?_
          refine v_goto hC (pc := 261) (tgt := 69) dX7_read_261 (by decide) ?_
          refine v_loc (l' := [(7, _), (6, _), (5, _), (0, _), (1, _), (2, _), (3, _), (4, _)]) [0, 2, 3, 4, 5, 6, 7, 8] rfl ?_
          exact fin _
        · exact absurd (show (1 : Int32) = 0 from c_173) (by decide)
      · skip
        refine v_iload hC (pc := 90) 3 rfl dX7_read_90 ?_
        refine v_if_ne hC (pc := 92) (tgt := 171) dX7_read_92 (by decide) (fun c_92 => ?_) (fun c_92 => ?_)
        · skip
          refine v_iload hC (pc := 171) 3 rfl dX7_read_171 ?_
          refine v_if_ne hC (pc := 173) (tgt := 258) dX7_read_173 (by decide) (fun c_173 => ?_) (fun c_173 => ?_)
          · skip
            skip
            refine v_iinc hC (pc := 258) (l' := [(7, _), (8, _), (6, _), (5, _), (0, _), (1, _), (2, _), (3, _), (4, _)]) 1 dX7_read_258 rfl rfl (by decide) rfl ?_
            refine v_goto hC (pc := 261) (tgt := 69) dX7_read_261 (by decide) ?_
            refine v_loc (l' := [(7, _), (6, _), (5, _), (0, _), (1, _), (2, _), (3, _), (4, _)]) [0, 2, 3, 4, 5, 6, 7, 8] rfl ?_
            exact fin _
          · exact absurd (show (1 : Int32) = 0 from c_173) (by decide)
        · exact absurd (show (1 : Int32) = 0 from c_92) (by decide)
    have c0 : V X G 11 84 [(8, vi 0), (7, vi 0), (6, vi 0), (5, vi 0), (0, vr (3, 0, 0)), (1, vi (nI k)), (2, vi (nI l)), (3, vi f), (4, vi (nI n0))] [] u := by
      skip
      refine v_iload hC (pc := 84) 0 rfl dX7_read_84 ?_
      refine v_iconst hC (pc := 86) (v := 2) (by decide) dX7_read_86 ?_
      refine v_icmp_ge hC (pc := 87) (tgt := 171) dX7_read_87 (by decide) (fun c_87 => ?_) (fun c_87 => ?_)
      · exact absurd c_87 (by decide)
      · skip
        refine v_iload hC (pc := 90) 3 rfl dX7_read_90 ?_
        refine v_if_ne hC (pc := 92) (tgt := 171) dX7_read_92 (by decide) (fun c_92 => ?_) (fun c_92 => ?_)
        · exact absurd rfl c_92
        · skip
          refine v_iload_n hC (pc := 95) (k := 3) 7 rfl dX7_read_95 ?_
          refine v_i2l hC (pc := 96) dX7_read_96 ?_
          refine v_iconst hC (pc := 97) (v := 2) (by decide) dX7_read_97 ?_
          refine v_iload hC (pc := 98) 1 rfl dX7_read_98 ?_
          refine v_imul hC (pc := 100) dX7_read_100 ?_
          refine v_i2l hC (pc := 101) dX7_read_101 ?_
          refine v_ladd hC (pc := 102) dX7_read_102 ?_
          refine v_iload hC (pc := 103) 0 rfl dX7_read_103 ?_
          refine v_i2l hC (pc := 105) dX7_read_105 ?_
          refine v_ladd hC (pc := 106) dX7_read_106 ?_
          refine v_lstore hC (pc := 107) (l' := [(9, _), (8, _), (7, _), (6, _), (5, _), (0, _), (1, _), (2, _), (3, _), (4, _)]) dX7_read_107 (by decide) rfl ?_
          refine v_aload_n hC (pc := 109) (k := 0) 5 rfl dX7_read_109 ?_
          refine v_getR hC (pc := 110) dX7_read_110 fl_X7_45 rfl (by first | rfl | exact ok_c hq rfl | exact ok_w hq hw | exact ok_w (by omega) (by omega) | exact ok_s (by omega) (by omega) | exact ok_c (by omega) rfl | assumption) rfl (by decide) (by decide) rfl ?_
          refine v_iload_n hC (pc := 113) (k := 1) 6 rfl dX7_read_113 ?_
          refine v_iald hC (pc := 114) dX7_read_114 rfl (by first | rfl | exact ok_c hq rfl | exact ok_w hq hw | exact ok_w (by omega) (by omega) | exact ok_s (by omega) (by omega) | exact ok_c (by omega) rfl | assumption) (vp_nat (n := k) (by omega) (by decide)) ?_
          rw [nI_clamp (show k < 2 ^ 31 by omega)]
          show V X G 11 115 _ (vi (u.1 (3, 0, 25) k) :: _) _
          rw [ha.1 _ (by decide)]
          refine v_bipush hC (pc := 115) (v := (-4)) (by decide +kernel) dX7_read_115 ?_
          refine v_icmp_ne hC (pc := 117) (tgt := 124) dX7_read_117 (by decide) (fun c_117 => ?_) (fun c_117 => ?_)
          · exact absurd hln c_117
          · skip
            refine v_iconst hC (pc := 120) (v := 1) (by decide) dX7_read_120 ?_
            refine v_goto hC (pc := 121) (tgt := 163) dX7_read_121 (by decide) ?_
            refine v_istore hC (pc := 163) (l' := [(5, _), (9, _), (8, _), (7, _), (6, _), (0, _), (1, _), (2, _), (3, _), (4, _)]) dX7_read_163 (by decide) rfl ?_
            refine v_iinc hC (pc := 165) (l' := [(8, _), (5, _), (9, _), (7, _), (6, _), (0, _), (1, _), (2, _), (3, _), (4, _)]) 2 dX7_read_165 rfl rfl (by decide) rfl ?_
            refine v_goto hC (pc := 168) (tgt := 84) dX7_read_168 (by decide) ?_
            refine v_loc (l' := [(8, _), (7, _), (6, _), (5, _), (0, _), (1, _), (2, _), (3, _), (4, _)]) [0, 3, 4, 1, 5, 6, 7, 8, 9] rfl ?_
            exact c1 _
    refine v_iload hC (pc := 69) 0 rfl dX7_read_69 ?_
    refine v_iload hC (pc := 71) 7 rfl dX7_read_71 ?_
    refine v_icmp_ge hC (pc := 73) (tgt := 264) dX7_read_73 (by decide) (fun c_73 => ?_) (fun c_73 => ?_)
    · exact absurd (show nI n0 ≤ nI 0 from c_73) (nI_ge hn0 (by omega))
    · skip
      refine v_iload hC (pc := 76) 2 rfl dX7_read_76 ?_
      refine v_if_ne hC (pc := 78) (tgt := 264) dX7_read_78 (by decide) (fun c_78 => ?_) (fun c_78 => ?_)
      · exact absurd rfl c_78
      · skip
        refine v_iconst hC (pc := 81) (v := 0) (by decide) dX7_read_81 ?_
        refine v_istore hC (pc := 82) (l' := [(8, _), (7, _), (6, _), (5, _), (0, _), (1, _), (2, _), (3, _), (4, _)]) dX7_read_82 (by decide) rfl ?_
        exact c0
  have loop : ∀ (n j : Nat) (u : HP), j ≤ 4 → 5 ≤ j + n → scr h u → (∀ i9, i9 < j → u.1 (3, 0, 29) i9 = h.1 (3, 0, 1) (18 + 6 * i9 + 0)) → V X G 11 26 [(5, vi (nI j)), (0, vr (3, 0, 0)), (1, vi (nI k)), (2, vi (nI l)), (3, vi f), (4, vi (nI n0))] [] u := by
    intro n
    induction n with
    | zero => intro j u h1 h2; exact absurd h2 (by omega)
    | succ n ih =>
      intro j u h1 h2 ha hhad
      refine v_iload hC (pc := 26) 0 rfl dX7_read_26 ?_
      refine v_iconst hC (pc := 28) (v := 4) (by decide) dX7_read_28 ?_
      refine v_icmp_ge hC (pc := 29) (tgt := 60) dX7_read_29 (by decide) (fun c_29 => ?_) (fun c_29 => ?_)
      · skip
        have hj : j = 4 := lp_ex (N := 4) c_29 h1 (by decide)
        subst hj
        refine v_iconst hC (pc := 60) (v := 0) (by decide) dX7_read_60 ?_
        refine v_istore hC (pc := 61) (l' := [(5, _), (0, _), (1, _), (2, _), (3, _), (4, _)]) dX7_read_61 (by decide) rfl ?_
        refine v_iconst hC (pc := 63) (v := 0) (by decide) dX7_read_63 ?_
        refine v_istore hC (pc := 64) (l' := [(6, _), (5, _), (0, _), (1, _), (2, _), (3, _), (4, _)]) dX7_read_64 (by decide) rfl ?_
        refine v_iconst hC (pc := 66) (v := 0) (by decide) dX7_read_66 ?_
        refine v_istore hC (pc := 67) (l' := [(7, _), (6, _), (5, _), (0, _), (1, _), (2, _), (3, _), (4, _)]) dX7_read_67 (by decide) rfl ?_
        exact main u ha hhad
      · skip
        have hj : j < 4 := lp_in (N := 4) c_29 h1 (by decide)
        refine v_aload_n hC (pc := 32) (k := 0) 1 rfl dX7_read_32 ?_
        refine v_getR hC (pc := 33) dX7_read_33 fl_X7_54 rfl (by first | rfl | exact ok_c hq rfl | exact ok_w hq hw | exact ok_w (by omega) (by omega) | exact ok_s (by omega) (by omega) | exact ok_c (by omega) rfl | assumption) rfl (by decide) (by decide) rfl ?_
        refine v_iload hC (pc := 36) 0 rfl dX7_read_36 ?_
        refine v_aload_n hC (pc := 38) (k := 0) 1 rfl dX7_read_38 ?_
        refine v_getR hC (pc := 39) dX7_read_39 fl_X7_7 rfl (by first | rfl | exact ok_c hq rfl | exact ok_w hq hw | exact ok_w (by omega) (by omega) | exact ok_s (by omega) (by omega) | exact ok_c (by omega) rfl | assumption) rfl (by decide) (by decide) rfl ?_
        refine v_bipush hC (pc := 42) (v := 18) (by decide +kernel) dX7_read_42 ?_
        refine v_bipush hC (pc := 44) (v := 6) (by decide +kernel) dX7_read_44 ?_
        refine v_iload hC (pc := 46) 0 rfl dX7_read_46 ?_
        refine v_imul hC (pc := 48) dX7_read_48 ?_
        refine v_iadd hC (pc := 49) dX7_read_49 ?_
        refine v_iconst hC (pc := 50) (v := 0) (by decide) dX7_read_50 ?_
        refine v_iadd hC (pc := 51) dX7_read_51 ?_
        rw [show (18 : Int32) = nI 18 from rfl, show (6 : Int32) = nI 6 from rfl, nL_0, pk_mul, nI_add, nI_add]
        refine v_iald hC (pc := 52) dX7_read_52 rfl (by first | rfl | exact ok_c hq rfl | exact ok_w hq hw | exact ok_w (by omega) (by omega) | exact ok_s (by omega) (by omega) | exact ok_c (by omega) rfl | assumption) (vp_nat (n := 18 + 6 * j + 0) (by omega) (by decide)) ?_
        rw [nI_clamp (show 18 + 6 * j + 0 < 2 ^ 31 by omega)]
        show V X G 11 53 _ (vi (u.1 (3, 0, 1) (18 + 6 * j + 0)) :: _) _
        rw [scr_1 ha]
        refine v_iast hC (pc := 53) dX7_read_53 rfl (by first | rfl | exact ok_c hq rfl | exact ok_w hq hw | exact ok_w (by omega) (by omega) | exact ok_s (by omega) (by omega) | exact ok_c (by omega) rfl | assumption) (vp_nat (n := j) (by omega) (by decide)) ?_
        rw [nI_clamp (show j < 2 ^ 31 by omega)]
        refine v_iinc hC (pc := 54) (l' := [(5, _), (0, _), (1, _), (2, _), (3, _), (4, _)]) 0 (v := nI (j + 1)) dX7_read_54 rfl (nI_inc j) (by decide) rfl ?_
        refine v_goto hC (pc := 57) (tgt := 26) dX7_read_57 (by decide) ?_
        refine ih (j + 1) _ (by omega) (by omega) (scr_upI ha (j := (3, 0, 29)) (by decide) _ _) (fun i hi => ?_)
        rw [upI_same]
        show (if i = j then _ else u.1 (3, 0, 29) i) = _
        by_cases e : i = j
        · rw [if_pos e, e]
        · rw [if_neg e]; exact hhad i (by omega)
  refine v_iload_n hC (pc := 0) (k := 1) 1 rfl dX7_read_0 ?_
  refine v_iload_n hC (pc := 1) (k := 2) 2 rfl dX7_read_1 ?_
  refine v_callS hC (pc := 2) (As := [_, _]) dX7_read_2 rfl (m_isSheet_t _ _ (d := d - 1) (by omega) _ (k := k) (l := l) (by assumption) (by assumption)) cs_X7_301 (Nat.le_of_ble_eq_true rfl) (by omega) (fun r h' hr => ?_)
  obtain ⟨he9, rfl⟩ := hr
  rw [he9]
  clear he9 h'
  show V _ _ _ (2 + 3) _ (_ :: _) _
  refine v_if_eq hC (pc := 5) (tgt := 21) dX7_read_5 (by decide) (fun c_5 => ?_) (fun c_5 => ?_)
  · exact absurd c_5 (by decide)
  · skip
    refine v_iload hC (pc := 8) 4 rfl dX7_read_8 ?_
    refine v_i2l hC (pc := 10) dX7_read_10 ?_
    refine v_lconst hC (pc := 11) (v := 0) (by decide) dX7_read_11 ?_
    refine v_ldc2 hC (pc := 12) k_X7_304 dX7_read_12 ?_
    refine v_callS hC (pc := 15) (As := [_, _, _]) dX7_read_15 rfl (m_in_t _ _ (d := d - 1) (by omega) _ (nI n0) 0 20 ⟨nI_pos (by omega), nI_nlt hn (by decide)⟩) cs_X7_84 (Nat.le_of_ble_eq_true rfl) (by omega) (fun r h' hr => ?_)
    obtain ⟨he9, rfl⟩ := hr
    rw [he9]
    clear he9 h'
    show V _ _ _ (15 + 3) _ (_ :: _) _
    refine v_if_ne hC (pc := 18) (tgt := 23) dX7_read_18 (by decide) (fun c_18 => ?_) (fun c_18 => ?_)
    · skip
      refine v_iconst hC (pc := 23) (v := 0) (by decide) dX7_read_23 ?_
      refine v_istore hC (pc := 24) (l' := [(5, _), (0, _), (1, _), (2, _), (3, _), (4, _)]) dX7_read_24 (by decide) rfl ?_
      exact loop 5 0 h (by omega) (by omega) (scr_r h) (fun i hi => absurd hi (Nat.not_lt_zero _))
    · exact absurd c_18 (by decide)

set_option maxRecDepth 20000 in
set_option maxHeartbeats 2000000 in
theorem m_read_cast (l9 : Launch) (G : WT) {d : Nat} (hd : 4 ≤ d) (h : HP) {k l n0 : Nat} (hk : k < 4) (hl : l < 3) (hn0 : 0 < n0) (hn : n0 ≤ 20) (f : Int32) (hln : ¬ h.1 (3, 0, 25) k = -4) (hln2 : ¬ h.1 (3, 0, 25) k = nI l) : MS l9 G yX7_read cX7_read 11 (some .int) d [vr (3, 0, 0), vi (nI k), vi (nI l), vi f, vi (nI n0)] h (fun r h1 => r = some (vi 0) ∧ ∃ u, scr h u ∧ h1 = upI u (3, 0, 0) 27 3) := by
  refine MS_of (by decide +kernel) (Nat.le_of_ble_eq_true rfl) (fun X hC hX => ?_)
  show V X G 11 0 _ [] _
  have main : ∀ u : HP, scr h u → (∀ i9, i9 < 4 → u.1 (3, 0, 29) i9 = h.1 (3, 0, 1) (18 + 6 * i9 + 0)) → V X G 11 69 [(7, vi 0), (6, vi 0), (5, vi 0), (0, vr (3, 0, 0)), (1, vi (nI k)), (2, vi (nI l)), (3, vi f), (4, vi (nI n0))] [] u := by
    intro u ha hhad
    have fin : ∀ i1 : Int32, V X G 11 69 [(7, vi i1), (6, vi 0), (5, vi 3), (0, vr (3, 0, 0)), (1, vi (nI k)), (2, vi (nI l)), (3, vi f), (4, vi (nI n0))] [] u := by
      intro i1
      refine v_iload hC (pc := 69) 0 rfl dX7_read_69 ?_
      refine v_iload hC (pc := 71) 7 rfl dX7_read_71 ?_
      refine v_icmp_ge hC (pc := 73) (tgt := 264) dX7_read_73 (by decide) (fun c_73 => ?_) (fun c_73 => ?_)
      · skip
        refine v_aload_n hC (pc := 264) (k := 0) 3 rfl dX7_read_264 ?_
        refine v_iload hC (pc := 265) 2 rfl dX7_read_265 ?_
        refine v_putI hC (pc := 267) dX7_read_267 fs_X7_309 rfl (by first | rfl | exact ok_c hq rfl | exact ok_w hq hw | exact ok_w (by omega) (by omega) | exact ok_s (by omega) (by omega) | exact ok_c (by omega) rfl | assumption) rfl (by decide) (by decide) ?_
        refine v_iload hC (pc := 270) 1 rfl dX7_read_270 ?_
        refine v_iret hC hX (pc := 272) dX7_read_272 ?_
        exact ⟨rfl, u, ha, rfl⟩
      · skip
        refine v_iload hC (pc := 76) 2 rfl dX7_read_76 ?_
        refine v_if_ne hC (pc := 78) (tgt := 264) dX7_read_78 (by decide) (fun c_78 => ?_) (fun c_78 => ?_)
        · skip
          refine v_aload_n hC (pc := 264) (k := 0) 3 rfl dX7_read_264 ?_
          refine v_iload hC (pc := 265) 2 rfl dX7_read_265 ?_
          refine v_putI hC (pc := 267) dX7_read_267 fs_X7_309 rfl (by first | rfl | exact ok_c hq rfl | exact ok_w hq hw | exact ok_w (by omega) (by omega) | exact ok_s (by omega) (by omega) | exact ok_c (by omega) rfl | assumption) rfl (by decide) (by decide) ?_
          refine v_iload hC (pc := 270) 1 rfl dX7_read_270 ?_
          refine v_iret hC hX (pc := 272) dX7_read_272 ?_
          exact ⟨rfl, u, ha, rfl⟩
        · exact absurd (show (3 : Int32) = 0 from c_78) (by decide)
    have c1 : ∀ i1 : Int32, V X G 11 84 [(8, vi i1), (7, vi 0), (6, vi 0), (5, vi 3), (0, vr (3, 0, 0)), (1, vi (nI k)), (2, vi (nI l)), (3, vi f), (4, vi (nI n0))] [] u := by
      intro i1
      refine v_iload hC (pc := 84) 0 rfl dX7_read_84 ?_
      refine v_iconst hC (pc := 86) (v := 2) (by decide) dX7_read_86 ?_
      refine v_icmp_ge hC (pc := 87) (tgt := 171) dX7_read_87 (by decide) (fun c_87 => ?_) (fun c_87 => ?_)
      · skip
        skip
        refine v_iload hC (pc := 171) 3 rfl dX7_read_171 ?_
        refine v_if_ne hC (pc := 173) (tgt := 258) dX7_read_173 (by decide) (fun c_173 => ?_) (fun c_173 => ?_)
        · skip
          skip
          refine v_iinc hC (pc := 258) (l' := [(7, _), (8, _), (6, _), (5, _), (0, _), (1, _), (2, _), (3, _), (4, _)]) 1 dX7_read_258 rfl rfl (by decide) rfl ?_
          refine v_goto hC (pc := 261) (tgt := 69) dX7_read_261 (by decide) ?_
          refine v_loc (l' := [(7, _), (6, _), (5, _), (0, _), (1, _), (2, _), (3, _), (4, _)]) [0, 2, 3, 4, 5, 6, 7, 8] rfl ?_
          exact fin _
        · exact absurd (show (3 : Int32) = 0 from c_173) (by decide)
      · skip
        refine v_iload hC (pc := 90) 3 rfl dX7_read_90 ?_
        refine v_if_ne hC (pc := 92) (tgt := 171) dX7_read_92 (by decide) (fun c_92 => ?_) (fun c_92 => ?_)
        · skip
          refine v_iload hC (pc := 171) 3 rfl dX7_read_171 ?_
          refine v_if_ne hC (pc := 173) (tgt := 258) dX7_read_173 (by decide) (fun c_173 => ?_) (fun c_173 => ?_)
          · skip
            skip
            refine v_iinc hC (pc := 258) (l' := [(7, _), (8, _), (6, _), (5, _), (0, _), (1, _), (2, _), (3, _), (4, _)]) 1 dX7_read_258 rfl rfl (by decide) rfl ?_
            refine v_goto hC (pc := 261) (tgt := 69) dX7_read_261 (by decide) ?_
            refine v_loc (l' := [(7, _), (6, _), (5, _), (0, _), (1, _), (2, _), (3, _), (4, _)]) [0, 2, 3, 4, 5, 6, 7, 8] rfl ?_
            exact fin _
          · exact absurd (show (3 : Int32) = 0 from c_173) (by decide)
        · exact absurd (show (3 : Int32) = 0 from c_92) (by decide)
    have c0 : V X G 11 84 [(8, vi 0), (7, vi 0), (6, vi 0), (5, vi 0), (0, vr (3, 0, 0)), (1, vi (nI k)), (2, vi (nI l)), (3, vi f), (4, vi (nI n0))] [] u := by
      skip
      refine v_iload hC (pc := 84) 0 rfl dX7_read_84 ?_
      refine v_iconst hC (pc := 86) (v := 2) (by decide) dX7_read_86 ?_
      refine v_icmp_ge hC (pc := 87) (tgt := 171) dX7_read_87 (by decide) (fun c_87 => ?_) (fun c_87 => ?_)
      · exact absurd c_87 (by decide)
      · skip
        refine v_iload hC (pc := 90) 3 rfl dX7_read_90 ?_
        refine v_if_ne hC (pc := 92) (tgt := 171) dX7_read_92 (by decide) (fun c_92 => ?_) (fun c_92 => ?_)
        · exact absurd rfl c_92
        · skip
          refine v_iload_n hC (pc := 95) (k := 3) 7 rfl dX7_read_95 ?_
          refine v_i2l hC (pc := 96) dX7_read_96 ?_
          refine v_iconst hC (pc := 97) (v := 2) (by decide) dX7_read_97 ?_
          refine v_iload hC (pc := 98) 1 rfl dX7_read_98 ?_
          refine v_imul hC (pc := 100) dX7_read_100 ?_
          refine v_i2l hC (pc := 101) dX7_read_101 ?_
          refine v_ladd hC (pc := 102) dX7_read_102 ?_
          refine v_iload hC (pc := 103) 0 rfl dX7_read_103 ?_
          refine v_i2l hC (pc := 105) dX7_read_105 ?_
          refine v_ladd hC (pc := 106) dX7_read_106 ?_
          refine v_lstore hC (pc := 107) (l' := [(9, _), (8, _), (7, _), (6, _), (5, _), (0, _), (1, _), (2, _), (3, _), (4, _)]) dX7_read_107 (by decide) rfl ?_
          refine v_aload_n hC (pc := 109) (k := 0) 5 rfl dX7_read_109 ?_
          refine v_getR hC (pc := 110) dX7_read_110 fl_X7_45 rfl (by first | rfl | exact ok_c hq rfl | exact ok_w hq hw | exact ok_w (by omega) (by omega) | exact ok_s (by omega) (by omega) | exact ok_c (by omega) rfl | assumption) rfl (by decide) (by decide) rfl ?_
          refine v_iload_n hC (pc := 113) (k := 1) 6 rfl dX7_read_113 ?_
          refine v_iald hC (pc := 114) dX7_read_114 rfl (by first | rfl | exact ok_c hq rfl | exact ok_w hq hw | exact ok_w (by omega) (by omega) | exact ok_s (by omega) (by omega) | exact ok_c (by omega) rfl | assumption) (vp_nat (n := k) (by omega) (by decide)) ?_
          rw [nI_clamp (show k < 2 ^ 31 by omega)]
          show V X G 11 115 _ (vi (u.1 (3, 0, 25) k) :: _) _
          rw [ha.1 _ (by decide)]
          refine v_bipush hC (pc := 115) (v := (-4)) (by decide +kernel) dX7_read_115 ?_
          refine v_icmp_ne hC (pc := 117) (tgt := 124) dX7_read_117 (by decide) (fun c_117 => ?_) (fun c_117 => ?_)
          · skip
            refine v_aload_n hC (pc := 124) (k := 0) 5 rfl dX7_read_124 ?_
            refine v_getR hC (pc := 125) dX7_read_125 fl_X7_45 rfl (by first | rfl | exact ok_c hq rfl | exact ok_w hq hw | exact ok_w (by omega) (by omega) | exact ok_s (by omega) (by omega) | exact ok_c (by omega) rfl | assumption) rfl (by decide) (by decide) rfl ?_
            refine v_iload_n hC (pc := 128) (k := 1) 6 rfl dX7_read_128 ?_
            refine v_iald hC (pc := 129) dX7_read_129 rfl (by first | rfl | exact ok_c hq rfl | exact ok_w hq hw | exact ok_w (by omega) (by omega) | exact ok_s (by omega) (by omega) | exact ok_c (by omega) rfl | assumption) (vp_nat (n := k) (by omega) (by decide)) ?_
            rw [nI_clamp (show k < 2 ^ 31 by omega)]
            show V X G 11 130 _ (vi (u.1 (3, 0, 25) k) :: _) _
            rw [ha.1 _ (by decide)]
            refine v_iload_n hC (pc := 130) (k := 2) 7 rfl dX7_read_130 ?_
            refine v_icmp_eq hC (pc := 131) (tgt := 138) dX7_read_131 (by decide) (fun c_131 => ?_) (fun c_131 => ?_)
            · exact absurd c_131 hln2
            · skip
              refine v_iconst hC (pc := 134) (v := 3) (by decide) dX7_read_134 ?_
              refine v_goto hC (pc := 135) (tgt := 163) dX7_read_135 (by decide) ?_
              refine v_istore hC (pc := 163) (l' := [(5, _), (9, _), (8, _), (7, _), (6, _), (0, _), (1, _), (2, _), (3, _), (4, _)]) dX7_read_163 (by decide) rfl ?_
              refine v_iinc hC (pc := 165) (l' := [(8, _), (5, _), (9, _), (7, _), (6, _), (0, _), (1, _), (2, _), (3, _), (4, _)]) 2 dX7_read_165 rfl rfl (by decide) rfl ?_
              refine v_goto hC (pc := 168) (tgt := 84) dX7_read_168 (by decide) ?_
              refine v_loc (l' := [(8, _), (7, _), (6, _), (5, _), (0, _), (1, _), (2, _), (3, _), (4, _)]) [0, 3, 4, 1, 5, 6, 7, 8, 9] rfl ?_
              exact c1 _
          · exact absurd c_117 hln
    refine v_iload hC (pc := 69) 0 rfl dX7_read_69 ?_
    refine v_iload hC (pc := 71) 7 rfl dX7_read_71 ?_
    refine v_icmp_ge hC (pc := 73) (tgt := 264) dX7_read_73 (by decide) (fun c_73 => ?_) (fun c_73 => ?_)
    · exact absurd (show nI n0 ≤ nI 0 from c_73) (nI_ge hn0 (by omega))
    · skip
      refine v_iload hC (pc := 76) 2 rfl dX7_read_76 ?_
      refine v_if_ne hC (pc := 78) (tgt := 264) dX7_read_78 (by decide) (fun c_78 => ?_) (fun c_78 => ?_)
      · exact absurd rfl c_78
      · skip
        refine v_iconst hC (pc := 81) (v := 0) (by decide) dX7_read_81 ?_
        refine v_istore hC (pc := 82) (l' := [(8, _), (7, _), (6, _), (5, _), (0, _), (1, _), (2, _), (3, _), (4, _)]) dX7_read_82 (by decide) rfl ?_
        exact c0
  have loop : ∀ (n j : Nat) (u : HP), j ≤ 4 → 5 ≤ j + n → scr h u → (∀ i9, i9 < j → u.1 (3, 0, 29) i9 = h.1 (3, 0, 1) (18 + 6 * i9 + 0)) → V X G 11 26 [(5, vi (nI j)), (0, vr (3, 0, 0)), (1, vi (nI k)), (2, vi (nI l)), (3, vi f), (4, vi (nI n0))] [] u := by
    intro n
    induction n with
    | zero => intro j u h1 h2; exact absurd h2 (by omega)
    | succ n ih =>
      intro j u h1 h2 ha hhad
      refine v_iload hC (pc := 26) 0 rfl dX7_read_26 ?_
      refine v_iconst hC (pc := 28) (v := 4) (by decide) dX7_read_28 ?_
      refine v_icmp_ge hC (pc := 29) (tgt := 60) dX7_read_29 (by decide) (fun c_29 => ?_) (fun c_29 => ?_)
      · skip
        have hj : j = 4 := lp_ex (N := 4) c_29 h1 (by decide)
        subst hj
        refine v_iconst hC (pc := 60) (v := 0) (by decide) dX7_read_60 ?_
        refine v_istore hC (pc := 61) (l' := [(5, _), (0, _), (1, _), (2, _), (3, _), (4, _)]) dX7_read_61 (by decide) rfl ?_
        refine v_iconst hC (pc := 63) (v := 0) (by decide) dX7_read_63 ?_
        refine v_istore hC (pc := 64) (l' := [(6, _), (5, _), (0, _), (1, _), (2, _), (3, _), (4, _)]) dX7_read_64 (by decide) rfl ?_
        refine v_iconst hC (pc := 66) (v := 0) (by decide) dX7_read_66 ?_
        refine v_istore hC (pc := 67) (l' := [(7, _), (6, _), (5, _), (0, _), (1, _), (2, _), (3, _), (4, _)]) dX7_read_67 (by decide) rfl ?_
        exact main u ha hhad
      · skip
        have hj : j < 4 := lp_in (N := 4) c_29 h1 (by decide)
        refine v_aload_n hC (pc := 32) (k := 0) 1 rfl dX7_read_32 ?_
        refine v_getR hC (pc := 33) dX7_read_33 fl_X7_54 rfl (by first | rfl | exact ok_c hq rfl | exact ok_w hq hw | exact ok_w (by omega) (by omega) | exact ok_s (by omega) (by omega) | exact ok_c (by omega) rfl | assumption) rfl (by decide) (by decide) rfl ?_
        refine v_iload hC (pc := 36) 0 rfl dX7_read_36 ?_
        refine v_aload_n hC (pc := 38) (k := 0) 1 rfl dX7_read_38 ?_
        refine v_getR hC (pc := 39) dX7_read_39 fl_X7_7 rfl (by first | rfl | exact ok_c hq rfl | exact ok_w hq hw | exact ok_w (by omega) (by omega) | exact ok_s (by omega) (by omega) | exact ok_c (by omega) rfl | assumption) rfl (by decide) (by decide) rfl ?_
        refine v_bipush hC (pc := 42) (v := 18) (by decide +kernel) dX7_read_42 ?_
        refine v_bipush hC (pc := 44) (v := 6) (by decide +kernel) dX7_read_44 ?_
        refine v_iload hC (pc := 46) 0 rfl dX7_read_46 ?_
        refine v_imul hC (pc := 48) dX7_read_48 ?_
        refine v_iadd hC (pc := 49) dX7_read_49 ?_
        refine v_iconst hC (pc := 50) (v := 0) (by decide) dX7_read_50 ?_
        refine v_iadd hC (pc := 51) dX7_read_51 ?_
        rw [show (18 : Int32) = nI 18 from rfl, show (6 : Int32) = nI 6 from rfl, nL_0, pk_mul, nI_add, nI_add]
        refine v_iald hC (pc := 52) dX7_read_52 rfl (by first | rfl | exact ok_c hq rfl | exact ok_w hq hw | exact ok_w (by omega) (by omega) | exact ok_s (by omega) (by omega) | exact ok_c (by omega) rfl | assumption) (vp_nat (n := 18 + 6 * j + 0) (by omega) (by decide)) ?_
        rw [nI_clamp (show 18 + 6 * j + 0 < 2 ^ 31 by omega)]
        show V X G 11 53 _ (vi (u.1 (3, 0, 1) (18 + 6 * j + 0)) :: _) _
        rw [scr_1 ha]
        refine v_iast hC (pc := 53) dX7_read_53 rfl (by first | rfl | exact ok_c hq rfl | exact ok_w hq hw | exact ok_w (by omega) (by omega) | exact ok_s (by omega) (by omega) | exact ok_c (by omega) rfl | assumption) (vp_nat (n := j) (by omega) (by decide)) ?_
        rw [nI_clamp (show j < 2 ^ 31 by omega)]
        refine v_iinc hC (pc := 54) (l' := [(5, _), (0, _), (1, _), (2, _), (3, _), (4, _)]) 0 (v := nI (j + 1)) dX7_read_54 rfl (nI_inc j) (by decide) rfl ?_
        refine v_goto hC (pc := 57) (tgt := 26) dX7_read_57 (by decide) ?_
        refine ih (j + 1) _ (by omega) (by omega) (scr_upI ha (j := (3, 0, 29)) (by decide) _ _) (fun i hi => ?_)
        rw [upI_same]
        show (if i = j then _ else u.1 (3, 0, 29) i) = _
        by_cases e : i = j
        · rw [if_pos e, e]
        · rw [if_neg e]; exact hhad i (by omega)
  refine v_iload_n hC (pc := 0) (k := 1) 1 rfl dX7_read_0 ?_
  refine v_iload_n hC (pc := 1) (k := 2) 2 rfl dX7_read_1 ?_
  refine v_callS hC (pc := 2) (As := [_, _]) dX7_read_2 rfl (m_isSheet_t _ _ (d := d - 1) (by omega) _ (k := k) (l := l) (by assumption) (by assumption)) cs_X7_301 (Nat.le_of_ble_eq_true rfl) (by omega) (fun r h' hr => ?_)
  obtain ⟨he9, rfl⟩ := hr
  rw [he9]
  clear he9 h'
  show V _ _ _ (2 + 3) _ (_ :: _) _
  refine v_if_eq hC (pc := 5) (tgt := 21) dX7_read_5 (by decide) (fun c_5 => ?_) (fun c_5 => ?_)
  · exact absurd c_5 (by decide)
  · skip
    refine v_iload hC (pc := 8) 4 rfl dX7_read_8 ?_
    refine v_i2l hC (pc := 10) dX7_read_10 ?_
    refine v_lconst hC (pc := 11) (v := 0) (by decide) dX7_read_11 ?_
    refine v_ldc2 hC (pc := 12) k_X7_304 dX7_read_12 ?_
    refine v_callS hC (pc := 15) (As := [_, _, _]) dX7_read_15 rfl (m_in_t _ _ (d := d - 1) (by omega) _ (nI n0) 0 20 ⟨nI_pos (by omega), nI_nlt hn (by decide)⟩) cs_X7_84 (Nat.le_of_ble_eq_true rfl) (by omega) (fun r h' hr => ?_)
    obtain ⟨he9, rfl⟩ := hr
    rw [he9]
    clear he9 h'
    show V _ _ _ (15 + 3) _ (_ :: _) _
    refine v_if_ne hC (pc := 18) (tgt := 23) dX7_read_18 (by decide) (fun c_18 => ?_) (fun c_18 => ?_)
    · skip
      refine v_iconst hC (pc := 23) (v := 0) (by decide) dX7_read_23 ?_
      refine v_istore hC (pc := 24) (l' := [(5, _), (0, _), (1, _), (2, _), (3, _), (4, _)]) dX7_read_24 (by decide) rfl ?_
      exact loop 5 0 h (by omega) (by omega) (scr_r h) (fun i hi => absurd hi (Nat.not_lt_zero _))
    · exact absurd c_18 (by decide)

set_option maxRecDepth 20000 in
set_option maxHeartbeats 2000000 in
theorem m_read_neg (l9 : Launch) (G : WT) {d : Nat} (hd : 4 ≤ d) (h : HP) {k l n0 : Nat} (hk : k < 4) (hl : l < 3) (hn0 : 0 < n0) (hn : n0 ≤ 20) (f : Int32) (hln : h.1 (3, 0, 25) k = nI l) (hf : f < 0) : MS l9 G yX7_read cX7_read 11 (some .int) d [vr (3, 0, 0), vi (nI k), vi (nI l), vi f, vi (nI n0)] h (fun r h1 => r = some (vi 0) ∧ ∃ u, scr h u ∧ h1 = upI u (3, 0, 0) 27 2) := by
  refine MS_of (by decide +kernel) (Nat.le_of_ble_eq_true rfl) (fun X hC hX => ?_)
  show V X G 11 0 _ [] _
  have main : ∀ u : HP, scr h u → (∀ i9, i9 < 4 → u.1 (3, 0, 29) i9 = h.1 (3, 0, 1) (18 + 6 * i9 + 0)) → V X G 11 69 [(7, vi 0), (6, vi 0), (5, vi 0), (0, vr (3, 0, 0)), (1, vi (nI k)), (2, vi (nI l)), (3, vi f), (4, vi (nI n0))] [] u := by
    intro u ha hhad
    have fin : ∀ i1 : Int32, V X G 11 69 [(7, vi i1), (6, vi 0), (5, vi 2), (0, vr (3, 0, 0)), (1, vi (nI k)), (2, vi (nI l)), (3, vi f), (4, vi (nI n0))] [] u := by
      intro i1
      refine v_iload hC (pc := 69) 0 rfl dX7_read_69 ?_
      refine v_iload hC (pc := 71) 7 rfl dX7_read_71 ?_
      refine v_icmp_ge hC (pc := 73) (tgt := 264) dX7_read_73 (by decide) (fun c_73 => ?_) (fun c_73 => ?_)
      · skip
        refine v_aload_n hC (pc := 264) (k := 0) 3 rfl dX7_read_264 ?_
        refine v_iload hC (pc := 265) 2 rfl dX7_read_265 ?_
        refine v_putI hC (pc := 267) dX7_read_267 fs_X7_309 rfl (by first | rfl | exact ok_c hq rfl | exact ok_w hq hw | exact ok_w (by omega) (by omega) | exact ok_s (by omega) (by omega) | exact ok_c (by omega) rfl | assumption) rfl (by decide) (by decide) ?_
        refine v_iload hC (pc := 270) 1 rfl dX7_read_270 ?_
        refine v_iret hC hX (pc := 272) dX7_read_272 ?_
        exact ⟨rfl, u, ha, rfl⟩
      · skip
        refine v_iload hC (pc := 76) 2 rfl dX7_read_76 ?_
        refine v_if_ne hC (pc := 78) (tgt := 264) dX7_read_78 (by decide) (fun c_78 => ?_) (fun c_78 => ?_)
        · skip
          refine v_aload_n hC (pc := 264) (k := 0) 3 rfl dX7_read_264 ?_
          refine v_iload hC (pc := 265) 2 rfl dX7_read_265 ?_
          refine v_putI hC (pc := 267) dX7_read_267 fs_X7_309 rfl (by first | rfl | exact ok_c hq rfl | exact ok_w hq hw | exact ok_w (by omega) (by omega) | exact ok_s (by omega) (by omega) | exact ok_c (by omega) rfl | assumption) rfl (by decide) (by decide) ?_
          refine v_iload hC (pc := 270) 1 rfl dX7_read_270 ?_
          refine v_iret hC hX (pc := 272) dX7_read_272 ?_
          exact ⟨rfl, u, ha, rfl⟩
        · exact absurd (show (2 : Int32) = 0 from c_78) (by decide)
    have c1 : ∀ i1 : Int32, V X G 11 84 [(8, vi i1), (7, vi 0), (6, vi 0), (5, vi 2), (0, vr (3, 0, 0)), (1, vi (nI k)), (2, vi (nI l)), (3, vi f), (4, vi (nI n0))] [] u := by
      intro i1
      refine v_iload hC (pc := 84) 0 rfl dX7_read_84 ?_
      refine v_iconst hC (pc := 86) (v := 2) (by decide) dX7_read_86 ?_
      refine v_icmp_ge hC (pc := 87) (tgt := 171) dX7_read_87 (by decide) (fun c_87 => ?_) (fun c_87 => ?_)
      · skip
        skip
        refine v_iload hC (pc := 171) 3 rfl dX7_read_171 ?_
        refine v_if_ne hC (pc := 173) (tgt := 258) dX7_read_173 (by decide) (fun c_173 => ?_) (fun c_173 => ?_)
        · skip
          skip
          refine v_iinc hC (pc := 258) (l' := [(7, _), (8, _), (6, _), (5, _), (0, _), (1, _), (2, _), (3, _), (4, _)]) 1 dX7_read_258 rfl rfl (by decide) rfl ?_
          refine v_goto hC (pc := 261) (tgt := 69) dX7_read_261 (by decide) ?_
          refine v_loc (l' := [(7, _), (6, _), (5, _), (0, _), (1, _), (2, _), (3, _), (4, _)]) [0, 2, 3, 4, 5, 6, 7, 8] rfl ?_
          exact fin _
        · exact absurd (show (2 : Int32) = 0 from c_173) (by decide)
      · skip
        refine v_iload hC (pc := 90) 3 rfl dX7_read_90 ?_
        refine v_if_ne hC (pc := 92) (tgt := 171) dX7_read_92 (by decide) (fun c_92 => ?_) (fun c_92 => ?_)
        · skip
          refine v_iload hC (pc := 171) 3 rfl dX7_read_171 ?_
          refine v_if_ne hC (pc := 173) (tgt := 258) dX7_read_173 (by decide) (fun c_173 => ?_) (fun c_173 => ?_)
          · skip
            skip
            refine v_iinc hC (pc := 258) (l' := [(7, _), (8, _), (6, _), (5, _), (0, _), (1, _), (2, _), (3, _), (4, _)]) 1 dX7_read_258 rfl rfl (by decide) rfl ?_
            refine v_goto hC (pc := 261) (tgt := 69) dX7_read_261 (by decide) ?_
            refine v_loc (l' := [(7, _), (6, _), (5, _), (0, _), (1, _), (2, _), (3, _), (4, _)]) [0, 2, 3, 4, 5, 6, 7, 8] rfl ?_
            exact fin _
          · exact absurd (show (2 : Int32) = 0 from c_173) (by decide)
        · exact absurd (show (2 : Int32) = 0 from c_92) (by decide)
    have c0 : V X G 11 84 [(8, vi 0), (7, vi 0), (6, vi 0), (5, vi 0), (0, vr (3, 0, 0)), (1, vi (nI k)), (2, vi (nI l)), (3, vi f), (4, vi (nI n0))] [] u := by
      skip
      refine v_iload hC (pc := 84) 0 rfl dX7_read_84 ?_
      refine v_iconst hC (pc := 86) (v := 2) (by decide) dX7_read_86 ?_
      refine v_icmp_ge hC (pc := 87) (tgt := 171) dX7_read_87 (by decide) (fun c_87 => ?_) (fun c_87 => ?_)
      · exact absurd c_87 (by decide)
      · skip
        refine v_iload hC (pc := 90) 3 rfl dX7_read_90 ?_
        refine v_if_ne hC (pc := 92) (tgt := 171) dX7_read_92 (by decide) (fun c_92 => ?_) (fun c_92 => ?_)
        · exact absurd rfl c_92
        · skip
          refine v_iload_n hC (pc := 95) (k := 3) 7 rfl dX7_read_95 ?_
          refine v_i2l hC (pc := 96) dX7_read_96 ?_
          refine v_iconst hC (pc := 97) (v := 2) (by decide) dX7_read_97 ?_
          refine v_iload hC (pc := 98) 1 rfl dX7_read_98 ?_
          refine v_imul hC (pc := 100) dX7_read_100 ?_
          refine v_i2l hC (pc := 101) dX7_read_101 ?_
          refine v_ladd hC (pc := 102) dX7_read_102 ?_
          refine v_iload hC (pc := 103) 0 rfl dX7_read_103 ?_
          refine v_i2l hC (pc := 105) dX7_read_105 ?_
          refine v_ladd hC (pc := 106) dX7_read_106 ?_
          rw [show f.toInt64 + ((2 : Int32) * 0).toInt64 + (0 : Int32).toInt64 = f.toInt64 from by rw [show ((2 : Int32) * 0).toInt64 = 0 from by decide +kernel, show ((0 : Int32)).toInt64 = 0 from rfl, Int64.add_zero, Int64.add_zero]]
          refine v_lstore hC (pc := 107) (l' := [(9, _), (8, _), (7, _), (6, _), (5, _), (0, _), (1, _), (2, _), (3, _), (4, _)]) dX7_read_107 (by decide) rfl ?_
          refine v_aload_n hC (pc := 109) (k := 0) 5 rfl dX7_read_109 ?_
          refine v_getR hC (pc := 110) dX7_read_110 fl_X7_45 rfl (by first | rfl | exact ok_c hq rfl | exact ok_w hq hw | exact ok_w (by omega) (by omega) | exact ok_s (by omega) (by omega) | exact ok_c (by omega) rfl | assumption) rfl (by decide) (by decide) rfl ?_
          refine v_iload_n hC (pc := 113) (k := 1) 6 rfl dX7_read_113 ?_
          refine v_iald hC (pc := 114) dX7_read_114 rfl (by first | rfl | exact ok_c hq rfl | exact ok_w hq hw | exact ok_w (by omega) (by omega) | exact ok_s (by omega) (by omega) | exact ok_c (by omega) rfl | assumption) (vp_nat (n := k) (by omega) (by decide)) ?_
          rw [nI_clamp (show k < 2 ^ 31 by omega)]
          show V X G 11 115 _ (vi (u.1 (3, 0, 25) k) :: _) _
          rw [ha.1 _ (by decide)]
          refine v_bipush hC (pc := 115) (v := (-4)) (by decide +kernel) dX7_read_115 ?_
          refine v_icmp_ne hC (pc := 117) (tgt := 124) dX7_read_117 (by decide) (fun c_117 => ?_) (fun c_117 => ?_)
          · skip
            refine v_aload_n hC (pc := 124) (k := 0) 5 rfl dX7_read_124 ?_
            refine v_getR hC (pc := 125) dX7_read_125 fl_X7_45 rfl (by first | rfl | exact ok_c hq rfl | exact ok_w hq hw | exact ok_w (by omega) (by omega) | exact ok_s (by omega) (by omega) | exact ok_c (by omega) rfl | assumption) rfl (by decide) (by decide) rfl ?_
            refine v_iload_n hC (pc := 128) (k := 1) 6 rfl dX7_read_128 ?_
            refine v_iald hC (pc := 129) dX7_read_129 rfl (by first | rfl | exact ok_c hq rfl | exact ok_w hq hw | exact ok_w (by omega) (by omega) | exact ok_s (by omega) (by omega) | exact ok_c (by omega) rfl | assumption) (vp_nat (n := k) (by omega) (by decide)) ?_
            rw [nI_clamp (show k < 2 ^ 31 by omega)]
            show V X G 11 130 _ (vi (u.1 (3, 0, 25) k) :: _) _
            rw [ha.1 _ (by decide)]
            refine v_iload_n hC (pc := 130) (k := 2) 7 rfl dX7_read_130 ?_
            refine v_icmp_eq hC (pc := 131) (tgt := 138) dX7_read_131 (by decide) (fun c_131 => ?_) (fun c_131 => ?_)
            · skip
              refine v_lload hC (pc := 138) 0 rfl dX7_read_138 ?_
              refine v_lconst hC (pc := 140) (v := 0) (by decide) dX7_read_140 ?_
              refine v_lcmp hC (pc := 141) dX7_read_141 ?_
              refine v_if_lt hC (pc := 142) (tgt := 158) dX7_read_142 (by decide) (fun c_142 => ?_) (fun c_142 => ?_)
              · skip
                refine v_iconst hC (pc := 158) (v := 2) (by decide) dX7_read_158 ?_
                refine v_goto hC (pc := 159) (tgt := 163) dX7_read_159 (by decide) ?_
                refine v_istore hC (pc := 163) (l' := [(5, _), (9, _), (8, _), (7, _), (6, _), (0, _), (1, _), (2, _), (3, _), (4, _)]) dX7_read_163 (by decide) rfl ?_
                refine v_iinc hC (pc := 165) (l' := [(8, _), (5, _), (9, _), (7, _), (6, _), (0, _), (1, _), (2, _), (3, _), (4, _)]) 2 dX7_read_165 rfl rfl (by decide) rfl ?_
                refine v_goto hC (pc := 168) (tgt := 84) dX7_read_168 (by decide) ?_
                refine v_loc (l' := [(8, _), (7, _), (6, _), (5, _), (0, _), (1, _), (2, _), (3, _), (4, _)]) [0, 3, 4, 1, 5, 6, 7, 8, 9] rfl ?_
                exact c1 _
              · exact absurd (lcmp_lt.mpr (show f.toInt64 < 0 from (wide_lt f 0).mpr hf)) c_142
            · exact absurd hln c_131
          · exact absurd (hln.symm.trans c_117) (nI_n4 (by omega))
    refine v_iload hC (pc := 69) 0 rfl dX7_read_69 ?_
    refine v_iload hC (pc := 71) 7 rfl dX7_read_71 ?_
    refine v_icmp_ge hC (pc := 73) (tgt := 264) dX7_read_73 (by decide) (fun c_73 => ?_) (fun c_73 => ?_)
    · exact absurd (show nI n0 ≤ nI 0 from c_73) (nI_ge hn0 (by omega))
    · skip
      refine v_iload hC (pc := 76) 2 rfl dX7_read_76 ?_
      refine v_if_ne hC (pc := 78) (tgt := 264) dX7_read_78 (by decide) (fun c_78 => ?_) (fun c_78 => ?_)
      · exact absurd rfl c_78
      · skip
        refine v_iconst hC (pc := 81) (v := 0) (by decide) dX7_read_81 ?_
        refine v_istore hC (pc := 82) (l' := [(8, _), (7, _), (6, _), (5, _), (0, _), (1, _), (2, _), (3, _), (4, _)]) dX7_read_82 (by decide) rfl ?_
        exact c0
  have loop : ∀ (n j : Nat) (u : HP), j ≤ 4 → 5 ≤ j + n → scr h u → (∀ i9, i9 < j → u.1 (3, 0, 29) i9 = h.1 (3, 0, 1) (18 + 6 * i9 + 0)) → V X G 11 26 [(5, vi (nI j)), (0, vr (3, 0, 0)), (1, vi (nI k)), (2, vi (nI l)), (3, vi f), (4, vi (nI n0))] [] u := by
    intro n
    induction n with
    | zero => intro j u h1 h2; exact absurd h2 (by omega)
    | succ n ih =>
      intro j u h1 h2 ha hhad
      refine v_iload hC (pc := 26) 0 rfl dX7_read_26 ?_
      refine v_iconst hC (pc := 28) (v := 4) (by decide) dX7_read_28 ?_
      refine v_icmp_ge hC (pc := 29) (tgt := 60) dX7_read_29 (by decide) (fun c_29 => ?_) (fun c_29 => ?_)
      · skip
        have hj : j = 4 := lp_ex (N := 4) c_29 h1 (by decide)
        subst hj
        refine v_iconst hC (pc := 60) (v := 0) (by decide) dX7_read_60 ?_
        refine v_istore hC (pc := 61) (l' := [(5, _), (0, _), (1, _), (2, _), (3, _), (4, _)]) dX7_read_61 (by decide) rfl ?_
        refine v_iconst hC (pc := 63) (v := 0) (by decide) dX7_read_63 ?_
        refine v_istore hC (pc := 64) (l' := [(6, _), (5, _), (0, _), (1, _), (2, _), (3, _), (4, _)]) dX7_read_64 (by decide) rfl ?_
        refine v_iconst hC (pc := 66) (v := 0) (by decide) dX7_read_66 ?_
        refine v_istore hC (pc := 67) (l' := [(7, _), (6, _), (5, _), (0, _), (1, _), (2, _), (3, _), (4, _)]) dX7_read_67 (by decide) rfl ?_
        exact main u ha hhad
      · skip
        have hj : j < 4 := lp_in (N := 4) c_29 h1 (by decide)
        refine v_aload_n hC (pc := 32) (k := 0) 1 rfl dX7_read_32 ?_
        refine v_getR hC (pc := 33) dX7_read_33 fl_X7_54 rfl (by first | rfl | exact ok_c hq rfl | exact ok_w hq hw | exact ok_w (by omega) (by omega) | exact ok_s (by omega) (by omega) | exact ok_c (by omega) rfl | assumption) rfl (by decide) (by decide) rfl ?_
        refine v_iload hC (pc := 36) 0 rfl dX7_read_36 ?_
        refine v_aload_n hC (pc := 38) (k := 0) 1 rfl dX7_read_38 ?_
        refine v_getR hC (pc := 39) dX7_read_39 fl_X7_7 rfl (by first | rfl | exact ok_c hq rfl | exact ok_w hq hw | exact ok_w (by omega) (by omega) | exact ok_s (by omega) (by omega) | exact ok_c (by omega) rfl | assumption) rfl (by decide) (by decide) rfl ?_
        refine v_bipush hC (pc := 42) (v := 18) (by decide +kernel) dX7_read_42 ?_
        refine v_bipush hC (pc := 44) (v := 6) (by decide +kernel) dX7_read_44 ?_
        refine v_iload hC (pc := 46) 0 rfl dX7_read_46 ?_
        refine v_imul hC (pc := 48) dX7_read_48 ?_
        refine v_iadd hC (pc := 49) dX7_read_49 ?_
        refine v_iconst hC (pc := 50) (v := 0) (by decide) dX7_read_50 ?_
        refine v_iadd hC (pc := 51) dX7_read_51 ?_
        rw [show (18 : Int32) = nI 18 from rfl, show (6 : Int32) = nI 6 from rfl, nL_0, pk_mul, nI_add, nI_add]
        refine v_iald hC (pc := 52) dX7_read_52 rfl (by first | rfl | exact ok_c hq rfl | exact ok_w hq hw | exact ok_w (by omega) (by omega) | exact ok_s (by omega) (by omega) | exact ok_c (by omega) rfl | assumption) (vp_nat (n := 18 + 6 * j + 0) (by omega) (by decide)) ?_
        rw [nI_clamp (show 18 + 6 * j + 0 < 2 ^ 31 by omega)]
        show V X G 11 53 _ (vi (u.1 (3, 0, 1) (18 + 6 * j + 0)) :: _) _
        rw [scr_1 ha]
        refine v_iast hC (pc := 53) dX7_read_53 rfl (by first | rfl | exact ok_c hq rfl | exact ok_w hq hw | exact ok_w (by omega) (by omega) | exact ok_s (by omega) (by omega) | exact ok_c (by omega) rfl | assumption) (vp_nat (n := j) (by omega) (by decide)) ?_
        rw [nI_clamp (show j < 2 ^ 31 by omega)]
        refine v_iinc hC (pc := 54) (l' := [(5, _), (0, _), (1, _), (2, _), (3, _), (4, _)]) 0 (v := nI (j + 1)) dX7_read_54 rfl (nI_inc j) (by decide) rfl ?_
        refine v_goto hC (pc := 57) (tgt := 26) dX7_read_57 (by decide) ?_
        refine ih (j + 1) _ (by omega) (by omega) (scr_upI ha (j := (3, 0, 29)) (by decide) _ _) (fun i hi => ?_)
        rw [upI_same]
        show (if i = j then _ else u.1 (3, 0, 29) i) = _
        by_cases e : i = j
        · rw [if_pos e, e]
        · rw [if_neg e]; exact hhad i (by omega)
  refine v_iload_n hC (pc := 0) (k := 1) 1 rfl dX7_read_0 ?_
  refine v_iload_n hC (pc := 1) (k := 2) 2 rfl dX7_read_1 ?_
  refine v_callS hC (pc := 2) (As := [_, _]) dX7_read_2 rfl (m_isSheet_t _ _ (d := d - 1) (by omega) _ (k := k) (l := l) (by assumption) (by assumption)) cs_X7_301 (Nat.le_of_ble_eq_true rfl) (by omega) (fun r h' hr => ?_)
  obtain ⟨he9, rfl⟩ := hr
  rw [he9]
  clear he9 h'
  show V _ _ _ (2 + 3) _ (_ :: _) _
  refine v_if_eq hC (pc := 5) (tgt := 21) dX7_read_5 (by decide) (fun c_5 => ?_) (fun c_5 => ?_)
  · exact absurd c_5 (by decide)
  · skip
    refine v_iload hC (pc := 8) 4 rfl dX7_read_8 ?_
    refine v_i2l hC (pc := 10) dX7_read_10 ?_
    refine v_lconst hC (pc := 11) (v := 0) (by decide) dX7_read_11 ?_
    refine v_ldc2 hC (pc := 12) k_X7_304 dX7_read_12 ?_
    refine v_callS hC (pc := 15) (As := [_, _, _]) dX7_read_15 rfl (m_in_t _ _ (d := d - 1) (by omega) _ (nI n0) 0 20 ⟨nI_pos (by omega), nI_nlt hn (by decide)⟩) cs_X7_84 (Nat.le_of_ble_eq_true rfl) (by omega) (fun r h' hr => ?_)
    obtain ⟨he9, rfl⟩ := hr
    rw [he9]
    clear he9 h'
    show V _ _ _ (15 + 3) _ (_ :: _) _
    refine v_if_ne hC (pc := 18) (tgt := 23) dX7_read_18 (by decide) (fun c_18 => ?_) (fun c_18 => ?_)
    · skip
      refine v_iconst hC (pc := 23) (v := 0) (by decide) dX7_read_23 ?_
      refine v_istore hC (pc := 24) (l' := [(5, _), (0, _), (1, _), (2, _), (3, _), (4, _)]) dX7_read_24 (by decide) rfl ?_
      exact loop 5 0 h (by omega) (by omega) (scr_r h) (fun i hi => absurd hi (Nat.not_lt_zero _))
    · exact absurd c_18 (by decide)

set_option maxRecDepth 20000 in
set_option maxHeartbeats 2000000 in
theorem m_read_bad (l9 : Launch) (G : WT) {d : Nat} (hd : 3 ≤ d) (h : HP) (k l f n : Int32) (hbad : ¬ (((¬ k < 0 ∧ ¬ 3 < k) ∧ ¬ l < 0 ∧ ¬ 2 < l) ∧ ¬ n < 0 ∧ ¬ 20 < n)) : MS l9 G yX7_read cX7_read 11 (some .int) d [vr (3, 0, 0), vi k, vi l, vi f, vi n] h (fun r h1 => h1 = h ∧ r = some (vi (-1))) := by
  refine MS_of (by decide +kernel) (Nat.le_of_ble_eq_true rfl) (fun X hC hX => ?_)
  show V X G 11 0 _ [] _
  refine v_iload_n hC (pc := 0) (k := 1) 1 rfl dX7_read_0 ?_
  refine v_iload_n hC (pc := 1) (k := 2) 2 rfl dX7_read_1 ?_
  refine v_callS hC (pc := 2) (As := [_, _]) dX7_read_2 rfl (m_isSheet _ _ (d := d - 1) (by omega) _ _ _) cs_X7_301 (Nat.le_of_ble_eq_true rfl) (by omega) (fun r h' hr => ?_)
  obtain ⟨he9, rfl⟩ := hr
  rw [he9]
  clear he9 h'
  show V _ _ _ (2 + 3) _ (_ :: _) _
  refine v_ifb_eq hC (pc := 5) (tgt := 21) dX7_read_5 (by decide) (fun c_5 => ?_) (fun c_5 => ?_)
  · skip
    refine v_iconst hC (pc := 21) (v := (-1)) (by decide) dX7_read_21 ?_
    refine v_iret hC hX (pc := 22) dX7_read_22 ?_
    exact ⟨rfl, rfl⟩
  · skip
    refine v_iload hC (pc := 8) 4 rfl dX7_read_8 ?_
    refine v_i2l hC (pc := 10) dX7_read_10 ?_
    refine v_lconst hC (pc := 11) (v := 0) (by decide) dX7_read_11 ?_
    refine v_ldc2 hC (pc := 12) k_X7_304 dX7_read_12 ?_
    refine v_callS hC (pc := 15) (As := [_, _, _]) dX7_read_15 rfl (m_in _ _ (d := d - 1) (by omega) _ (n) (0) (20)) cs_X7_84 (Nat.le_of_ble_eq_true rfl) (by omega) (fun r h' hr => ?_)
    obtain ⟨he9, rfl⟩ := hr
    rw [he9]
    clear he9 h'
    show V _ _ _ (15 + 3) _ (_ :: _) _
    refine v_ifb_ne hC (pc := 18) (tgt := 23) dX7_read_18 (by decide) (fun c_18 => ?_) (fun c_18 => ?_)
    · skip
      exact absurd ⟨c_5, c_18⟩ hbad
    · skip
      refine v_iconst hC (pc := 21) (v := (-1)) (by decide) dX7_read_21 ?_
      refine v_iret hC hX (pc := 22) dX7_read_22 ?_
      exact ⟨rfl, rfl⟩

