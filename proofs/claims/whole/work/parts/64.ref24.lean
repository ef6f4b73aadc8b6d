/-! THE REFERENCE: count -/
/-- how many streets, how many letters -/
def cnS (A : Nat → Int32) (n : Nat) : Int32 := itN (fun c a => a + (bI (¬ A (0 + c) = -4) + bI (¬ A (8 + c) = -4))) n 0
def cnL (A : Nat → Int32) (n : Nat) : Int32 := itN (fun w a => a + lefA A w) n 0
set_option maxRecDepth 20000 in
set_option maxHeartbeats 2000000 in
theorem m_count (l9 : Launch) (G : WT) {d : Nat} (hd : 4 ≤ d) (h : HP) {nC nW : Nat} (hn8 : nC ≤ 8) (hnc : h.1 (3, 0, 0) 3 = nI nC) (hn4 : nW ≤ 4) (hnw : h.1 (3, 0, 0) 4 = nI nW) (x : Int32) : MS l9 G yX7_count cX7_count 6 (some .int) d [vr (3, 0, 0), vi x] h (fun r h1 => scr h h1 ∧ r = some (vi (swF [cnS ((stH h).1 (3, 0, 2)) nC, h.1 (3, 0, 1) 47, flgF (h.1 (3, 0, 3) 0) + flgF (h.1 (3, 0, 3) 1), h.1 (3, 0, 0) 12, if h.1 (3, 0, 25) 0 = -4 then -4 else h.1 (3, 0, 26) 0, cnL ((stH h).1 (3, 0, 2)) nW, bitsF (plB ((stH h).1 (3, 0, 2)) nW) 8] x))) := by
  refine MS_of (by decide +kernel) (Nat.le_of_ble_eq_true rfl) (fun X hC hX => ?_)
  show V X G 6 0 _ [] _
  have wl : ∀ (n k : Nat), k ≤ nW → nW + 1 ≤ k + n → V X G 6 81 [(5, vi (nI k)), (3, vi (cnL ((stH h).1 (3, 0, 2)) k)), (4, vi (plB ((stH h).1 (3, 0, 2)) k)), (2, vi (cnS ((stH h).1 (3, 0, 2)) nC)), (0, vr (3, 0, 0)), (1, vi x)] [] (stH h) := by
    intro n
    induction n with
    | zero => intro k h1 h2; exact absurd h2 (by omega)
    | succ n ih =>
      intro k h1 h2
      refine v_iload hC (pc := 81) 0 rfl dX7_count_81 ?_
      refine v_aload_n hC (pc := 83) (k := 0) 4 rfl dX7_count_83 ?_
      refine v_getI hC (pc := 84) dX7_count_84 fl_X7_79 rfl (by first | rfl | exact ok_c hq rfl | exact ok_w hq hw | exact ok_w (by omega) (by omega) | exact ok_s (by omega) (by omega) | exact ok_c (by omega) rfl | assumption) rfl (by decide) (by decide) ?_
      refine v_icmp_ge hC (pc := 87) (tgt := 119) dX7_count_87 (by decide) (fun c_87 => ?_) (fun c_87 => ?_)
      · skip
        have hk : k = nW := lp_ex (by rw [stH_o h (by decide), hnw] at c_87; exact c_87) h1 (by omega)
        subst hk
        refine v_iload_n hC (pc := 119) (k := 1) 5 rfl dX7_count_119 ?_
        rcases sw_cases (x) 6 (by decide) with ⟨k9, hk9, hsw⟩ | hsw
        · rcases (show k9 = 0 ∨ k9 = 1 ∨ k9 = 2 ∨ k9 = 3 ∨ k9 = 4 ∨ k9 = 5 ∨ k9 = 6 by omega) with rfl | rfl | rfl | rfl | rfl | rfl | rfl
          · rw [hsw]
            refine v_tabIn hC (pc := 120) (tgt := 164) dX7_count_120 (by decide) (by decide) (off := 44) (by decide) (by decide) ?_
            refine v_iload_n hC (pc := 164) (k := 2) 3 rfl dX7_count_164 ?_
            refine v_iret hC hX (pc := 165) dX7_count_165 ?_
            exact ⟨scr_st h, by rw [hsw]; rfl⟩
          · rw [hsw]
            refine v_tabIn hC (pc := 120) (tgt := 166) dX7_count_120 (by decide) (by decide) (off := 46) (by decide) (by decide) ?_
            refine v_aload_n hC (pc := 166) (k := 0) 4 rfl dX7_count_166 ?_
            refine v_getR hC (pc := 167) dX7_count_167 fl_X7_7 rfl (by first | rfl | exact ok_c hq rfl | exact ok_w hq hw | exact ok_w (by omega) (by omega) | exact ok_s (by omega) (by omega) | exact ok_c (by omega) rfl | assumption) rfl (by decide) (by decide) rfl ?_
            refine v_bipush hC (pc := 170) (v := 47) (by decide +kernel) dX7_count_170 ?_
            refine v_iald hC (pc := 172) dX7_count_172 rfl (by first | rfl | exact ok_c hq rfl | exact ok_w hq hw | exact ok_w (by omega) (by omega) | exact ok_s (by omega) (by omega) | exact ok_c (by omega) rfl | assumption) (vp_nat (n := 47) (by omega) (by decide)) ?_
            refine v_iret hC hX (pc := 173) dX7_count_173 ?_
            exact ⟨scr_st h, by rw [hsw]; rfl⟩
          · rw [hsw]
            refine v_tabIn hC (pc := 120) (tgt := 174) dX7_count_120 (by decide) (by decide) (off := 54) (by decide) (by decide) ?_
            refine v_aload_n hC (pc := 174) (k := 0) 4 rfl dX7_count_174 ?_
            refine v_getR hC (pc := 175) dX7_count_175 fl_X7_16 rfl (by first | rfl | exact ok_c hq rfl | exact ok_w hq hw | exact ok_w (by omega) (by omega) | exact ok_s (by omega) (by omega) | exact ok_c (by omega) rfl | assumption) rfl (by decide) (by decide) rfl ?_
            refine v_iconst hC (pc := 178) (v := 0) (by decide) dX7_count_178 ?_
            refine v_zald hC (pc := 179) dX7_count_179 rfl (by first | rfl | exact ok_c hq rfl | exact ok_w hq hw | exact ok_w (by omega) (by omega) | exact ok_s (by omega) (by omega) | exact ok_c (by omega) rfl | assumption) (vp_nat (n := 0) (by omega) (by decide)) ?_
            refine v_callS hC (pc := 180) (As := [_]) dX7_count_180 rfl (m_flag _ _ (d := d - 1) (by omega) _ _) cs_X7_147 (Nat.le_of_ble_eq_true rfl) (by omega) (fun r h' hr => ?_)
            obtain ⟨he9, rfl⟩ := hr
            rw [he9]
            clear he9 h'
            show V _ _ _ (180 + 3) _ (_ :: _) _
            refine v_aload_n hC (pc := 183) (k := 0) 4 rfl dX7_count_183 ?_
            refine v_getR hC (pc := 184) dX7_count_184 fl_X7_16 rfl (by first | rfl | exact ok_c hq rfl | exact ok_w hq hw | exact ok_w (by omega) (by omega) | exact ok_s (by omega) (by omega) | exact ok_c (by omega) rfl | assumption) rfl (by decide) (by decide) rfl ?_
            refine v_iconst hC (pc := 187) (v := 1) (by decide) dX7_count_187 ?_
            refine v_zald hC (pc := 188) dX7_count_188 rfl (by first | rfl | exact ok_c hq rfl | exact ok_w hq hw | exact ok_w (by omega) (by omega) | exact ok_s (by omega) (by omega) | exact ok_c (by omega) rfl | assumption) (vp_nat (n := 1) (by omega) (by decide)) ?_
            refine v_callS hC (pc := 189) (As := [_]) dX7_count_189 rfl (m_flag _ _ (d := d - 1) (by omega) _ _) cs_X7_147 (Nat.le_of_ble_eq_true rfl) (by omega) (fun r h' hr => ?_)
            obtain ⟨he9, rfl⟩ := hr
            rw [he9]
            clear he9 h'
            show V _ _ _ (189 + 3) _ (_ :: _) _
            refine v_iadd hC (pc := 192) dX7_count_192 ?_
            refine v_iret hC hX (pc := 193) dX7_count_193 ?_
            exact ⟨scr_st h, by rw [hsw]; rfl⟩
          · rw [hsw]
            refine v_tabIn hC (pc := 120) (tgt := 194) dX7_count_120 (by decide) (by decide) (off := 74) (by decide) (by decide) ?_
            refine v_aload_n hC (pc := 194) (k := 0) 4 rfl dX7_count_194 ?_
            refine v_getI hC (pc := 195) dX7_count_195 fl_X7_88 rfl (by first | rfl | exact ok_c hq rfl | exact ok_w hq hw | exact ok_w (by omega) (by omega) | exact ok_s (by omega) (by omega) | exact ok_c (by omega) rfl | assumption) rfl (by decide) (by decide) ?_
            refine v_iret hC hX (pc := 198) dX7_count_198 ?_
            exact ⟨scr_st h, by rw [hsw]; rfl⟩
          · rw [hsw]
            refine v_tabIn hC (pc := 120) (tgt := 199) dX7_count_120 (by decide) (by decide) (off := 79) (by decide) (by decide) ?_
            refine v_aload_n hC (pc := 199) (k := 0) 4 rfl dX7_count_199 ?_
            refine v_getR hC (pc := 200) dX7_count_200 fl_X7_45 rfl (by first | rfl | exact ok_c hq rfl | exact ok_w hq hw | exact ok_w (by omega) (by omega) | exact ok_s (by omega) (by omega) | exact ok_c (by omega) rfl | assumption) rfl (by decide) (by decide) rfl ?_
            refine v_iconst hC (pc := 203) (v := 0) (by decide) dX7_count_203 ?_
            refine v_iald hC (pc := 204) dX7_count_204 rfl (by first | rfl | exact ok_c hq rfl | exact ok_w hq hw | exact ok_w (by omega) (by omega) | exact ok_s (by omega) (by omega) | exact ok_c (by omega) rfl | assumption) (vp_nat (n := 0) (by omega) (by decide)) ?_
            refine v_bipush hC (pc := 205) (v := (-4)) (by decide +kernel) dX7_count_205 ?_
            refine v_icmp_ne hC (pc := 207) (tgt := 215) dX7_count_207 (by decide) (fun c_207 => ?_) (fun c_207 => ?_)
            · skip
              refine v_aload_n hC (pc := 215) (k := 0) 4 rfl dX7_count_215 ?_
              refine v_getR hC (pc := 216) dX7_count_216 fl_X7_48 rfl (by first | rfl | exact ok_c hq rfl | exact ok_w hq hw | exact ok_w (by omega) (by omega) | exact ok_s (by omega) (by omega) | exact ok_c (by omega) rfl | assumption) rfl (by decide) (by decide) rfl ?_
              refine v_iconst hC (pc := 219) (v := 0) (by decide) dX7_count_219 ?_
              refine v_iald hC (pc := 220) dX7_count_220 rfl (by first | rfl | exact ok_c hq rfl | exact ok_w hq hw | exact ok_w (by omega) (by omega) | exact ok_s (by omega) (by omega) | exact ok_c (by omega) rfl | assumption) (vp_nat (n := 0) (by omega) (by decide)) ?_
              refine v_iret hC hX (pc := 221) dX7_count_221 ?_
              refine ⟨scr_st h, ?_⟩
              rw [hsw]
              have e : (stH h).1 (3, 0, 25) 0 = h.1 (3, 0, 25) 0 := by rw [stH_o h (by decide)]
              first | exact congrArg (fun z => some (vi z)) (if_pos (show h.1 (3, 0, 25) 0 = -4 from c_207)).symm | exact congrArg (fun z => some (vi z)) (if_neg (show ¬ h.1 (3, 0, 25) 0 = -4 from c_207)).symm
            · skip
              refine v_bipush hC (pc := 210) (v := (-4)) (by decide +kernel) dX7_count_210 ?_
              refine v_goto hC (pc := 212) (tgt := 221) dX7_count_212 (by decide) ?_
              refine v_iret hC hX (pc := 221) dX7_count_221 ?_
              refine ⟨scr_st h, ?_⟩
              rw [hsw]
              have e : (stH h).1 (3, 0, 25) 0 = h.1 (3, 0, 25) 0 := by rw [stH_o h (by decide)]
              first | exact congrArg (fun z => some (vi z)) (if_pos (show h.1 (3, 0, 25) 0 = -4 from c_207)).symm | exact congrArg (fun z => some (vi z)) (if_neg (show ¬ h.1 (3, 0, 25) 0 = -4 from c_207)).symm
          · rw [hsw]
            refine v_tabIn hC (pc := 120) (tgt := 222) dX7_count_120 (by decide) (by decide) (off := 102) (by decide) (by decide) ?_
            refine v_iload_n hC (pc := 222) (k := 3) 1 rfl dX7_count_222 ?_
            refine v_iret hC hX (pc := 223) dX7_count_223 ?_
            exact ⟨scr_st h, by rw [hsw]; rfl⟩
          · rw [hsw]
            refine v_tabIn hC (pc := 120) (tgt := 224) dX7_count_120 (by decide) (by decide) (off := 104) (by decide) (by decide) ?_
            refine v_iload hC (pc := 224) 2 rfl dX7_count_224 ?_
            refine v_callS hC (pc := 226) (As := [_]) dX7_count_226 rfl (m_bitsOf _ _ (d := d - 1) (by omega) _ _) cs_X7_269 (Nat.le_of_ble_eq_true rfl) (by omega) (fun r h' hr => ?_)
            obtain ⟨he9, rfl⟩ := hr
            rw [he9]
            clear he9 h'
            show V _ _ _ (226 + 3) _ (_ :: _) _
            refine v_iret hC hX (pc := 229) dX7_count_229 ?_
            exact ⟨scr_st h, by rw [hsw]; rfl⟩
        · refine v_tabOut hC (pc := 120) (tgt := 230) dX7_count_120 hsw (by decide) ?_
          refine v_iconst hC (pc := 230) (v := (-1)) (by decide) dX7_count_230 ?_
          refine v_iret hC hX (pc := 231) dX7_count_231 ?_
          exact ⟨scr_st h, by rw [swF_out rfl hsw]⟩
      · skip
        have hk : k < nW := lp_in (by rw [stH_o h (by decide), hnw] at c_87; exact c_87) h1 (by omega)
        refine v_iload_n hC (pc := 90) (k := 3) 1 rfl dX7_count_90 ?_
        refine v_aload_n hC (pc := 91) (k := 0) 4 rfl dX7_count_91 ?_
        refine v_iload hC (pc := 92) 0 rfl dX7_count_92 ?_
        refine v_callV hC (pc := 94) (As := [_]) dX7_count_94 rfl (m_leftOf _ _ (d := d - 1) (by omega) _ (w := k) (by omega)) cv_X7_197 rfl (by decide) rfl (by first | rfl | exact ok_c hq rfl | exact ok_w hq hw | exact ok_w (by omega) (by omega) | exact ok_s (by omega) (by omega) | exact ok_c (by omega) rfl | assumption) (Nat.le_of_ble_eq_true rfl) (by omega) (fun r h' hr => ?_)
        obtain ⟨he9, rfl⟩ := hr
        rw [he9]
        clear he9 h'
        show V _ _ _ (94 + 3) _ (_ :: _) _
        refine v_iadd hC (pc := 97) dX7_count_97 ?_
        refine v_istore_n hC (pc := 98) (l' := [(3, _), (5, _), (4, _), (2, _), (0, _), (1, _)]) dX7_count_98 (by decide) rfl ?_
        refine v_iload hC (pc := 99) 2 rfl dX7_count_99 ?_
        refine v_iconst hC (pc := 101) (v := 1) (by decide) dX7_count_101 ?_
        refine v_aload_n hC (pc := 102) (k := 0) 4 rfl dX7_count_102 ?_
        refine v_iload hC (pc := 103) 1 rfl dX7_count_103 ?_
        refine v_iconst hC (pc := 105) (v := 0) (by decide) dX7_count_105 ?_
        refine v_callV hC (pc := 106) (As := [_, _]) dX7_count_106 rfl (m_of _ _ (d := d - 1) (by omega) _ (w := k) (by omega) (k := 0) (by decide)) cv_X7_187 rfl (by decide) rfl (by first | rfl | exact ok_c hq rfl | exact ok_w hq hw | exact ok_w (by omega) (by omega) | exact ok_s (by omega) (by omega) | exact ok_c (by omega) rfl | assumption) (Nat.le_of_ble_eq_true rfl) (by omega) (fun r h' hr => ?_)
        obtain ⟨he9, rfl⟩ := hr
        rw [he9]
        clear he9 h'
        show V _ _ _ (106 + 3) _ (_ :: _) _
        refine v_ishl hC (pc := 109) dX7_count_109 ?_
        refine v_ior hC (pc := 110) dX7_count_110 ?_
        refine v_istore hC (pc := 111) (l' := [(4, _), (3, _), (5, _), (2, _), (0, _), (1, _)]) dX7_count_111 (by decide) rfl ?_
        refine v_iinc hC (pc := 113) (l' := [(5, _), (4, _), (3, _), (2, _), (0, _), (1, _)]) 2 (v := nI (k + 1)) dX7_count_113 rfl (nI_inc k) (by decide) rfl ?_
        refine v_goto hC (pc := 116) (tgt := 81) dX7_count_116 (by decide) ?_
        refine v_loc (l' := [(5, _), (3, _), (4, _), (2, _), (0, _), (1, _)]) [0, 2, 1, 3, 4, 5] rfl ?_
        exact ih (k + 1) (by omega) (by omega)
  have cl : ∀ (n c : Nat), c ≤ nC → nC + 1 ≤ c + n → V X G 6 14 [(5, vi (nI c)), (2, vi (cnS ((stH h).1 (3, 0, 2)) c)), (3, vi 0), (4, vi 0), (0, vr (3, 0, 0)), (1, vi x)] [] (stH h) := by
    intro n
    induction n with
    | zero => intro c h1 h2; exact absurd h2 (by omega)
    | succ n ih =>
      intro c h1 h2
      refine v_iload hC (pc := 14) 0 rfl dX7_count_14 ?_
      refine v_aload_n hC (pc := 16) (k := 0) 4 rfl dX7_count_16 ?_
      refine v_getI hC (pc := 17) dX7_count_17 fl_X7_76 rfl (by first | rfl | exact ok_c hq rfl | exact ok_w hq hw | exact ok_w (by omega) (by omega) | exact ok_s (by omega) (by omega) | exact ok_c (by omega) rfl | assumption) rfl (by decide) (by decide) ?_
      refine v_icmp_ge hC (pc := 20) (tgt := 78) dX7_count_20 (by decide) (fun c_20 => ?_) (fun c_20 => ?_)
      · skip
        have hc : c = nC := lp_ex (by rw [stH_o h (by decide), hnc] at c_20; exact c_20) h1 (by omega)
        subst hc
        refine v_iconst hC (pc := 78) (v := 0) (by decide) dX7_count_78 ?_
        refine v_istore hC (pc := 79) (l' := [(5, _), (2, _), (3, _), (4, _), (0, _), (1, _)]) dX7_count_79 (by decide) rfl ?_
        refine v_loc (l' := [(5, _), (3, _), (4, _), (2, _), (0, _), (1, _)]) [0, 2, 3, 1, 4, 5] rfl ?_
        exact wl (nW + 1) 0 (by omega) (by omega)
      · skip
        have hc : c < nC := lp_in (by rw [stH_o h (by decide), hnc] at c_20; exact c_20) h1 (by omega)
        refine v_iload_n hC (pc := 23) (k := 2) 1 rfl dX7_count_23 ?_
        refine v_aload_n hC (pc := 24) (k := 0) 4 rfl dX7_count_24 ?_
        refine v_getR hC (pc := 25) dX7_count_25 fl_X7_13 rfl (by first | rfl | exact ok_c hq rfl | exact ok_w hq hw | exact ok_w (by omega) (by omega) | exact ok_s (by omega) (by omega) | exact ok_c (by omega) rfl | assumption) rfl (by decide) (by decide) rfl ?_
        refine v_iconst hC (pc := 28) (v := 0) (by decide) dX7_count_28 ?_
        refine v_iload hC (pc := 29) 0 rfl dX7_count_29 ?_
        refine v_iadd hC (pc := 31) dX7_count_31 ?_
        rw [nL_0, nI_add]
        refine v_iald hC (pc := 32) dX7_count_32 rfl (by first | rfl | exact ok_c hq rfl | exact ok_w hq hw | exact ok_w (by omega) (by omega) | exact ok_s (by omega) (by omega) | exact ok_c (by omega) rfl | assumption) (vp_nat (n := 0 + c) (by omega) (by decide)) ?_
        rw [nI_clamp (show 0 + c < 2 ^ 31 by omega)]
        show V X G 6 33 _ (vi (((stH h).1 (3, 0, 2)) (0 + c)) :: _) _
        refine v_bipush hC (pc := 33) (v := (-4)) (by decide +kernel) dX7_count_33 ?_
        refine v_icmp_eq hC (pc := 35) (tgt := 42) dX7_count_35 (by decide) (fun c_35 => ?_) (fun c_35 => ?_)
        · skip
          refine v_iconst hC (pc := 42) (v := 0) (by decide) dX7_count_42 ?_
          refine v_callS hC (pc := 43) (As := [_]) dX7_count_43 rfl (m_flag _ _ (d := d - 1) (by omega) _ _) cs_X7_147 (Nat.le_of_ble_eq_true rfl) (by omega) (fun r h' hr => ?_)
          obtain ⟨he9, rfl⟩ := hr
          rw [he9]
          clear he9 h'
          show V _ _ _ (43 + 3) _ (_ :: _) _
          first | rw [show flgF 1 = bI (¬ ((stH h).1 (3, 0, 2)) (0 + c) = -4) from (bI_t c_35).symm] | rw [show flgF 0 = bI (¬ ((stH h).1 (3, 0, 2)) (0 + c) = -4) from (bI_f (fun z => z c_35)).symm]
          refine v_aload_n hC (pc := 46) (k := 0) 4 rfl dX7_count_46 ?_
          refine v_getR hC (pc := 47) dX7_count_47 fl_X7_13 rfl (by first | rfl | exact ok_c hq rfl | exact ok_w hq hw | exact ok_w (by omega) (by omega) | exact ok_s (by omega) (by omega) | exact ok_c (by omega) rfl | assumption) rfl (by decide) (by decide) rfl ?_
          refine v_bipush hC (pc := 50) (v := 8) (by decide +kernel) dX7_count_50 ?_
          refine v_iload hC (pc := 52) 0 rfl dX7_count_52 ?_
          refine v_iadd hC (pc := 54) dX7_count_54 ?_
          rw [nL_8, nI_add]
          refine v_iald hC (pc := 55) dX7_count_55 rfl (by first | rfl | exact ok_c hq rfl | exact ok_w hq hw | exact ok_w (by omega) (by omega) | exact ok_s (by omega) (by omega) | exact ok_c (by omega) rfl | assumption) (vp_nat (n := 8 + c) (by omega) (by decide)) ?_
          rw [nI_clamp (show 8 + c < 2 ^ 31 by omega)]
          show V X G 6 56 _ (vi (((stH h).1 (3, 0, 2)) (8 + c)) :: _) _
          refine v_bipush hC (pc := 56) (v := (-4)) (by decide +kernel) dX7_count_56 ?_
          refine v_icmp_eq hC (pc := 58) (tgt := 65) dX7_count_58 (by decide) (fun c_58 => ?_) (fun c_58 => ?_)
          · skip
            refine v_iconst hC (pc := 65) (v := 0) (by decide) dX7_count_65 ?_
            refine v_callS hC (pc := 66) (As := [_]) dX7_count_66 rfl (m_flag _ _ (d := d - 1) (by omega) _ _) cs_X7_147 (Nat.le_of_ble_eq_true rfl) (by omega) (fun r h' hr => ?_)
            obtain ⟨he9, rfl⟩ := hr
            rw [he9]
            clear he9 h'
            show V _ _ _ (66 + 3) _ (_ :: _) _
            first | rw [show flgF 1 = bI (¬ ((stH h).1 (3, 0, 2)) (8 + c) = -4) from (bI_t c_58).symm] | rw [show flgF 0 = bI (¬ ((stH h).1 (3, 0, 2)) (8 + c) = -4) from (bI_f (fun z => z c_58)).symm]
            refine v_iadd hC (pc := 69) dX7_count_69 ?_
            refine v_iadd hC (pc := 70) dX7_count_70 ?_
            refine v_istore_n hC (pc := 71) (l' := [(2, _), (5, _), (3, _), (4, _), (0, _), (1, _)]) dX7_count_71 (by decide) rfl ?_
            refine v_iinc hC (pc := 72) (l' := [(5, _), (2, _), (3, _), (4, _), (0, _), (1, _)]) 1 (v := nI (c + 1)) dX7_count_72 rfl (nI_inc c) (by decide) rfl ?_
            refine v_goto hC (pc := 75) (tgt := 14) dX7_count_75 (by decide) ?_
            exact ih (c + 1) (by omega) (by omega)
          · skip
            refine v_iconst hC (pc := 61) (v := 1) (by decide) dX7_count_61 ?_
            refine v_goto hC (pc := 62) (tgt := 66) dX7_count_62 (by decide) ?_
            refine v_callS hC (pc := 66) (As := [_]) dX7_count_66 rfl (m_flag _ _ (d := d - 1) (by omega) _ _) cs_X7_147 (Nat.le_of_ble_eq_true rfl) (by omega) (fun r h' hr => ?_)
            obtain ⟨he9, rfl⟩ := hr
            rw [he9]
            clear he9 h'
            show V _ _ _ (66 + 3) _ (_ :: _) _
            first | rw [show flgF 1 = bI (¬ ((stH h).1 (3, 0, 2)) (8 + c) = -4) from (bI_t c_58).symm] | rw [show flgF 0 = bI (¬ ((stH h).1 (3, 0, 2)) (8 + c) = -4) from (bI_f (fun z => z c_58)).symm]
            refine v_iadd hC (pc := 69) dX7_count_69 ?_
            refine v_iadd hC (pc := 70) dX7_count_70 ?_
            refine v_istore_n hC (pc := 71) (l' := [(2, _), (5, _), (3, _), (4, _), (0, _), (1, _)]) dX7_count_71 (by decide) rfl ?_
            refine v_iinc hC (pc := 72) (l' := [(5, _), (2, _), (3, _), (4, _), (0, _), (1, _)]) 1 (v := nI (c + 1)) dX7_count_72 rfl (nI_inc c) (by decide) rfl ?_
            refine v_goto hC (pc := 75) (tgt := 14) dX7_count_75 (by decide) ?_
            exact ih (c + 1) (by omega) (by omega)
        · skip
          refine v_iconst hC (pc := 38) (v := 1) (by decide) dX7_count_38 ?_
          refine v_goto hC (pc := 39) (tgt := 43) dX7_count_39 (by decide) ?_
          refine v_callS hC (pc := 43) (As := [_]) dX7_count_43 rfl (m_flag _ _ (d := d - 1) (by omega) _ _) cs_X7_147 (Nat.le_of_ble_eq_true rfl) (by omega) (fun r h' hr => ?_)
          obtain ⟨he9, rfl⟩ := hr
          rw [he9]
          clear he9 h'
          show V _ _ _ (43 + 3) _ (_ :: _) _
          first | rw [show flgF 1 = bI (¬ ((stH h).1 (3, 0, 2)) (0 + c) = -4) from (bI_t c_35).symm] | rw [show flgF 0 = bI (¬ ((stH h).1 (3, 0, 2)) (0 + c) = -4) from (bI_f (fun z => z c_35)).symm]
          refine v_aload_n hC (pc := 46) (k := 0) 4 rfl dX7_count_46 ?_
          refine v_getR hC (pc := 47) dX7_count_47 fl_X7_13 rfl (by first | rfl | exact ok_c hq rfl | exact ok_w hq hw | exact ok_w (by omega) (by omega) | exact ok_s (by omega) (by omega) | exact ok_c (by omega) rfl | assumption) rfl (by decide) (by decide) rfl ?_
          refine v_bipush hC (pc := 50) (v := 8) (by decide +kernel) dX7_count_50 ?_
          refine v_iload hC (pc := 52) 0 rfl dX7_count_52 ?_
          refine v_iadd hC (pc := 54) dX7_count_54 ?_
          rw [nL_8, nI_add]
          refine v_iald hC (pc := 55) dX7_count_55 rfl (by first | rfl | exact ok_c hq rfl | exact ok_w hq hw | exact ok_w (by omega) (by omega) | exact ok_s (by omega) (by omega) | exact ok_c (by omega) rfl | assumption) (vp_nat (n := 8 + c) (by omega) (by decide)) ?_
          rw [nI_clamp (show 8 + c < 2 ^ 31 by omega)]
          show V X G 6 56 _ (vi (((stH h).1 (3, 0, 2)) (8 + c)) :: _) _
          refine v_bipush hC (pc := 56) (v := (-4)) (by decide +kernel) dX7_count_56 ?_
          refine v_icmp_eq hC (pc := 58) (tgt := 65) dX7_count_58 (by decide) (fun c_58 => ?_) (fun c_58 => ?_)
          · skip
            refine v_iconst hC (pc := 65) (v := 0) (by decide) dX7_count_65 ?_
            refine v_callS hC (pc := 66) (As := [_]) dX7_count_66 rfl (m_flag _ _ (d := d - 1) (by omega) _ _) cs_X7_147 (Nat.le_of_ble_eq_true rfl) (by omega) (fun r h' hr => ?_)
            obtain ⟨he9, rfl⟩ := hr
            rw [he9]
            clear he9 h'
            show V _ _ _ (66 + 3) _ (_ :: _) _
            first | rw [show flgF 1 = bI (¬ ((stH h).1 (3, 0, 2)) (8 + c) = -4) from (bI_t c_58).symm] | rw [show flgF 0 = bI (¬ ((stH h).1 (3, 0, 2)) (8 + c) = -4) from (bI_f (fun z => z c_58)).symm]
            refine v_iadd hC (pc := 69) dX7_count_69 ?_
            refine v_iadd hC (pc := 70) dX7_count_70 ?_
            refine v_istore_n hC (pc := 71) (l' := [(2, _), (5, _), (3, _), (4, _), (0, _), (1, _)]) dX7_count_71 (by decide) rfl ?_
            refine v_iinc hC (pc := 72) (l' := [(5, _), (2, _), (3, _), (4, _), (0, _), (1, _)]) 1 (v := nI (c + 1)) dX7_count_72 rfl (nI_inc c) (by decide) rfl ?_
            refine v_goto hC (pc := 75) (tgt := 14) dX7_count_75 (by decide) ?_
            exact ih (c + 1) (by omega) (by omega)
          · skip
            refine v_iconst hC (pc := 61) (v := 1) (by decide) dX7_count_61 ?_
            refine v_goto hC (pc := 62) (tgt := 66) dX7_count_62 (by decide) ?_
            refine v_callS hC (pc := 66) (As := [_]) dX7_count_66 rfl (m_flag _ _ (d := d - 1) (by omega) _ _) cs_X7_147 (Nat.le_of_ble_eq_true rfl) (by omega) (fun r h' hr => ?_)
            obtain ⟨he9, rfl⟩ := hr
            rw [he9]
            clear he9 h'
            show V _ _ _ (66 + 3) _ (_ :: _) _
            first | rw [show flgF 1 = bI (¬ ((stH h).1 (3, 0, 2)) (8 + c) = -4) from (bI_t c_58).symm] | rw [show flgF 0 = bI (¬ ((stH h).1 (3, 0, 2)) (8 + c) = -4) from (bI_f (fun z => z c_58)).symm]
            refine v_iadd hC (pc := 69) dX7_count_69 ?_
            refine v_iadd hC (pc := 70) dX7_count_70 ?_
            refine v_istore_n hC (pc := 71) (l' := [(2, _), (5, _), (3, _), (4, _), (0, _), (1, _)]) dX7_count_71 (by decide) rfl ?_
            refine v_iinc hC (pc := 72) (l' := [(5, _), (2, _), (3, _), (4, _), (0, _), (1, _)]) 1 (v := nI (c + 1)) dX7_count_72 rfl (nI_inc c) (by decide) rfl ?_
            refine v_goto hC (pc := 75) (tgt := 14) dX7_count_75 (by decide) ?_
            exact ih (c + 1) (by omega) (by omega)
  refine v_iconst hC (pc := 0) (v := 0) (by decide) dX7_count_0 ?_
  refine v_istore_n hC (pc := 1) (l' := [(2, _), (0, _), (1, _)]) dX7_count_1 (by decide) rfl ?_
  refine v_iconst hC (pc := 2) (v := 0) (by decide) dX7_count_2 ?_
  refine v_istore_n hC (pc := 3) (l' := [(3, _), (2, _), (0, _), (1, _)]) dX7_count_3 (by decide) rfl ?_
  refine v_iconst hC (pc := 4) (v := 0) (by decide) dX7_count_4 ?_
  refine v_istore hC (pc := 5) (l' := [(4, _), (3, _), (2, _), (0, _), (1, _)]) dX7_count_5 (by decide) rfl ?_
  refine v_aload_n hC (pc := 7) (k := 0) 3 rfl dX7_count_7 ?_
  refine v_callV hC (pc := 8) (As := []) dX7_count_8 rfl (m_starts _ _ (d := d - 1) (by omega) _) cv_X7_219 rfl (by decide) rfl (by first | rfl | exact ok_c hq rfl | exact ok_w hq hw | exact ok_w (by omega) (by omega) | exact ok_s (by omega) (by omega) | exact ok_c (by omega) rfl | assumption) (Nat.le_of_ble_eq_true rfl) (by omega) (fun r h' hr => ?_)
  obtain ⟨rfl, rfl⟩ := hr
  refine v_heap (show _ = stH h from rfl) ?_
  show V _ _ _ (8 + 3) _ _ _
  refine v_iconst hC (pc := 11) (v := 0) (by decide) dX7_count_11 ?_
  refine v_istore hC (pc := 12) (l' := [(5, _), (4, _), (3, _), (2, _), (0, _), (1, _)]) dX7_count_12 (by decide) rfl ?_
  refine v_loc (l' := [(5, _), (2, _), (3, _), (4, _), (0, _), (1, _)]) [0, 3, 2, 1, 4, 5] rfl ?_
  exact cl (nC + 1) 0 (by omega) (by omega)

