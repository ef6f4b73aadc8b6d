/-! ODDS -/
/-- one corner spreads its weight -/
def sprS (wl bd : Nat → Nat) (W : Nat → Nat) (v c : Nat) (N : Nat → Nat) : Nat → Nat := fun x => (N x + if x = wl c then W c * (10 - v) else 0) + if x = bd c then W c * v else 0
def sprF (wl bd : Nat → Nat) (W : Nat → Nat) (v n : Nat) : Nat → Nat := itN (sprS wl bd W v) n (fun _ => 0)
def wgtF (wl bd : Nat → Nat → Nat) (v nC p : Nat) : Nat → Nat → Nat
  | 0 => fun x => if x = p then 1 else 0
  | i + 1 => sprF (wl i) (bd i) (wgtF wl bd v nC p i) v nC
theorem nI64 {v : Nat} (hv : v < 2 ^ 31) : (nI v).toInt64 = lN v := nI_l hv
set_option maxRecDepth 20000 in
set_option maxHeartbeats 2000000 in
theorem t_takeLetter (l9 : Launch) (G : WT) {d : Nat} (hd : 5 ≤ d) {q w : Nat} (hq : q < 5) (hw : w < 4) (h : HP) {nC : Nat} (hn8 : nC ≤ 8) (hnc : h.1 (0, q, 0) 0 = nI nC) {i v : Nat} (hv : v ≤ 10) {wl bd : Nat → Nat} {sd : Int32} (hsd : sd = ((h.1 (6, q, w) 3 >>> ((h.1 (6, q, w) 5 + nI i &&& 31))) &&& 1)) (hwl : ∀ c, c < nC → comF (h.1 (0, q, 6)) (h.1 (0, q, 0) 1) (nI c) sd (h.1 (0, q, 0) 2 + nI i) (h.1 (6, q, w) 2) = nI (wl c) ∧ wl c < nC) (hbd : ∀ c, c < nC → comF (h.1 (0, q, 6)) (h.1 (0, q, 0) 1) (nI c) (1 - sd) (h.1 (0, q, 0) 2 + nI i) (h.1 (6, q, w) 2) = nI (bd c) ∧ bd c < nC) {W : Nat → Nat} (hW : ∀ x, x < 8 → h.2 (1, 0, 9) x = lN (W x)) : MS l9 G yX1_takeLetter cX1_takeLetter 9 none d [vr (1, 0, 8), vr (0, q, 0), vr (6, q, w), vi (nI i), vi (nI v)] h (fun r h1 => r = none ∧ h1.1 = h.1 ∧ (∀ x, x < 8 → h1.2 (1, 0, 9) x = lN (sprF wl bd W v nC x)) ∧ ∀ k, k ≠ (1, 0, 9) → k ≠ (1, 0, 10) → h1.2 k = h.2 k) := by
  refine MS_of (by decide +kernel) (Nat.le_of_ble_eq_true rfl) (fun X hC hX => ?_)
  show V X G 9 0 _ [] _
  have loop : ∀ (n c : Nat) (u : HP), c ≤ nC → nC + 1 ≤ c + n → u.1 = h.1 → u.2 (1, 0, 9) = h.2 (1, 0, 9) → (∀ x, x < 8 → u.2 (1, 0, 10) x = lN (itN (sprS wl bd W v) c (fun _ => 0) x)) → (∀ k, k ≠ (1, 0, 10) → u.2 k = h.2 k) → V X G 9 23 [(6, vi (nI c)), (5, vi sd), (0, vr (1, 0, 8)), (1, vr (0, q, 0)), (2, vr (6, q, w)), (3, vi (nI i)), (4, vi (nI v))] [] u := by
    intro n
    induction n with
    | zero => intro c u h1 h2; exact absurd h2 (by omega)
    | succ n ih =>
      intro c u h1 h2 hu1 hu2 hu3 hu4
      skip
      refine v_iload hC (pc := 23) 0 rfl dX1_takeLetter_23 ?_
      refine v_aload_n hC (pc := 25) (k := 1) 3 rfl dX1_takeLetter_25 ?_
      refine v_getI hC (pc := 26) dX1_takeLetter_26 fl_X1_57 rfl (by first | rfl | exact ok_c hq rfl | exact ok_w hq hw | exact ok_w (by omega) (by omega) | exact ok_s (by omega) (by omega) | exact ok_c (by omega) rfl | assumption) rfl (by decide) (by decide) ?_
      refine v_icmp_ge hC (pc := 29) (tgt := 143) dX1_takeLetter_29 (by decide) (fun c_29 => ?_) (fun c_29 => ?_)
      · skip
        have hi : c = nC := lp_ex (by rw [hu1, hnc] at c_29; exact c_29) h1 (by omega)
        subst hi
        refine v_aload_n hC (pc := 143) (k := 0) 2 rfl dX1_takeLetter_143 ?_
        refine v_getR hC (pc := 144) dX1_takeLetter_144 fl_X1_15 rfl (by first | rfl | exact ok_c hq rfl | exact ok_w hq hw | exact ok_w (by omega) (by omega) | exact ok_s (by omega) (by omega) | exact ok_c (by omega) rfl | assumption) rfl (by decide) (by decide) rfl ?_
        refine v_iconst hC (pc := 147) (v := 0) (by decide) dX1_takeLetter_147 ?_
        refine v_aload_n hC (pc := 148) (k := 0) 2 rfl dX1_takeLetter_148 ?_
        refine v_getR hC (pc := 149) dX1_takeLetter_149 fl_X1_9 rfl (by first | rfl | exact ok_c hq rfl | exact ok_w hq hw | exact ok_w (by omega) (by omega) | exact ok_s (by omega) (by omega) | exact ok_c (by omega) rfl | assumption) rfl (by decide) (by decide) rfl ?_
        refine v_iconst hC (pc := 152) (v := 0) (by decide) dX1_takeLetter_152 ?_
        refine v_bipush hC (pc := 153) (v := 8) (by decide +kernel) dX1_takeLetter_153 ?_
        refine v_copyL hC (pc := 155) dX1_takeLetter_155 ml_X1_71 rfl rfl rfl rfl (by decide) (by decide) (by decide) (by decide) (by decide) (Nat.le_of_ble_eq_true rfl) (by omega) ?_
        refine v_vret hC hX (pc := 158) dX1_takeLetter_158 ?_
        refine ⟨rfl, hu1, fun x hx => ?_, fun k hk1 hk2 => ?_⟩
        · rw [upRL_same]
          show va_cpy (u.2 (1, 0, 10)) (u.2 (1, 0, 9)) 0 0 8 x = _
          unfold va_cpy
          rw [if_pos ⟨Nat.zero_le _, by omega⟩]
          show u.2 (1, 0, 10) (0 + (x - 0)) = _
          rw [show 0 + (x - 0) = x by omega]
          exact hu3 x hx
        · rw [upRL_ne _ _ hk1]
          exact hu4 k hk2
      · skip
        have hi : c < nC := lp_in (by rw [hu1, hnc] at c_29; exact c_29) h1 (by omega)
        refine v_aload_n hC (pc := 32) (k := 1) 3 rfl dX1_takeLetter_32 ?_
        refine v_iload hC (pc := 33) 0 rfl dX1_takeLetter_33 ?_
        refine v_iload hC (pc := 35) 1 rfl dX1_takeLetter_35 ?_
        refine v_aload_n hC (pc := 37) (k := 1) 3 rfl dX1_takeLetter_37 ?_
        refine v_getI hC (pc := 38) dX1_takeLetter_38 fl_X1_60 rfl (by first | rfl | exact ok_c hq rfl | exact ok_w hq hw | exact ok_w (by omega) (by omega) | exact ok_s (by omega) (by omega) | exact ok_c (by omega) rfl | assumption) rfl (by decide) (by decide) ?_
        refine v_iload_n hC (pc := 41) (k := 3) 5 rfl dX1_takeLetter_41 ?_
        refine v_iadd hC (pc := 42) dX1_takeLetter_42 ?_
        refine v_aload_n hC (pc := 43) (k := 2) 4 rfl dX1_takeLetter_43 ?_
        refine v_getZ hC (pc := 44) dX1_takeLetter_44 fl_X1_63 rfl (by first | rfl | exact ok_c hq rfl | exact ok_w hq hw | exact ok_w (by omega) (by omega) | exact ok_s (by omega) (by omega) | exact ok_c (by omega) rfl | assumption) rfl (by decide) (by decide) ?_
        refine v_callV hC (pc := 47) (As := [_, _, _, _]) dX1_takeLetter_47 rfl (t_comesTo _ _ (d := d - 1) (by omega) hq u _ _ _ _) cv_X1_67 rfl (by decide) rfl (by first | rfl | exact ok_c hq rfl | exact ok_w hq hw | exact ok_w (by omega) (by omega) | exact ok_s (by omega) (by omega) | exact ok_c (by omega) rfl | assumption) (Nat.le_of_ble_eq_true rfl) (by omega) (fun r h' hr => ?_)
        obtain ⟨he9, rfl⟩ := hr
        rw [he9]
        clear he9 h'
        show V _ _ _ (47 + 3) _ (_ :: _) _
        show V X G 9 50 _ (vi (comF (u.1 (0, q, 6)) (u.1 (0, q, 0) 1) (nI c) sd (u.1 (0, q, 0) 2 + nI i) (u.1 (6, q, w) 2)) :: _) _
        rw [hu1, (hwl c hi).1]
        refine v_istore hC (pc := 50) (l' := [(7, _), (6, _), (5, _), (0, _), (1, _), (2, _), (3, _), (4, _)]) dX1_takeLetter_50 (by decide) rfl ?_
        refine v_aload_n hC (pc := 52) (k := 1) 4 rfl dX1_takeLetter_52 ?_
        refine v_iload hC (pc := 53) 1 rfl dX1_takeLetter_53 ?_
        refine v_iconst hC (pc := 55) (v := 1) (by decide) dX1_takeLetter_55 ?_
        refine v_iload hC (pc := 56) 2 rfl dX1_takeLetter_56 ?_
        refine v_isub hC (pc := 58) dX1_takeLetter_58 ?_
        refine v_aload_n hC (pc := 59) (k := 1) 4 rfl dX1_takeLetter_59 ?_
        refine v_getI hC (pc := 60) dX1_takeLetter_60 fl_X1_60 rfl (by first | rfl | exact ok_c hq rfl | exact ok_w hq hw | exact ok_w (by omega) (by omega) | exact ok_s (by omega) (by omega) | exact ok_c (by omega) rfl | assumption) rfl (by decide) (by decide) ?_
        refine v_iload_n hC (pc := 63) (k := 3) 6 rfl dX1_takeLetter_63 ?_
        refine v_iadd hC (pc := 64) dX1_takeLetter_64 ?_
        refine v_aload_n hC (pc := 65) (k := 2) 5 rfl dX1_takeLetter_65 ?_
        refine v_getZ hC (pc := 66) dX1_takeLetter_66 fl_X1_63 rfl (by first | rfl | exact ok_c hq rfl | exact ok_w hq hw | exact ok_w (by omega) (by omega) | exact ok_s (by omega) (by omega) | exact ok_c (by omega) rfl | assumption) rfl (by decide) (by decide) ?_
        refine v_callV hC (pc := 69) (As := [_, _, _, _]) dX1_takeLetter_69 rfl (t_comesTo _ _ (d := d - 1) (by omega) hq u _ _ _ _) cv_X1_67 rfl (by decide) rfl (by first | rfl | exact ok_c hq rfl | exact ok_w hq hw | exact ok_w (by omega) (by omega) | exact ok_s (by omega) (by omega) | exact ok_c (by omega) rfl | assumption) (Nat.le_of_ble_eq_true rfl) (by omega) (fun r h' hr => ?_)
        obtain ⟨he9, rfl⟩ := hr
        rw [he9]
        clear he9 h'
        show V _ _ _ (69 + 3) _ (_ :: _) _
        show V X G 9 72 _ (vi (comF (u.1 (0, q, 6)) (u.1 (0, q, 0) 1) (nI c) (1 - sd) (u.1 (0, q, 0) 2 + nI i) (u.1 (6, q, w) 2)) :: _) _
        rw [hu1, (hbd c hi).1]
        have hwc := (hwl c hi).2
        have hbc := (hbd c hi).2
        refine v_istore hC (pc := 72) (l' := [(8, _), (7, _), (6, _), (5, _), (0, _), (1, _), (2, _), (3, _), (4, _)]) dX1_takeLetter_72 (by decide) rfl ?_
        refine v_aload_n hC (pc := 74) (k := 1) 5 rfl dX1_takeLetter_74 ?_
        refine v_iload hC (pc := 75) 1 rfl dX1_takeLetter_75 ?_
        refine v_callV hC (pc := 77) (As := [_]) dX1_takeLetter_77 rfl (t_hasCorner _ _ (d := d - 1) (by omega) hq u _) cv_X1_34 rfl (by decide) rfl (by first | rfl | exact ok_c hq rfl | exact ok_w hq hw | exact ok_w (by omega) (by omega) | exact ok_s (by omega) (by omega) | exact ok_c (by omega) rfl | assumption) (Nat.le_of_ble_eq_true rfl) (by omega) (fun r h' hr => ?_)
        obtain ⟨he9, rfl⟩ := hr
        rw [he9]
        clear he9 h'
        show V _ _ _ (77 + 3) _ (_ :: _) _
        refine v_ifb_eq hC (pc := 80) (tgt := 137) dX1_takeLetter_80 (by decide) (fun c_80 => ?_) (fun c_80 => ?_)
        · exact absurd ⟨nI_pos (show wl c < 2 ^ 31 by omega), by rw [hu1, hnc]; exact nI_ge hwc (by omega)⟩ c_80
        · skip
          refine v_aload_n hC (pc := 83) (k := 1) 5 rfl dX1_takeLetter_83 ?_
          refine v_iload hC (pc := 84) 0 rfl dX1_takeLetter_84 ?_
          refine v_callV hC (pc := 86) (As := [_]) dX1_takeLetter_86 rfl (t_hasCorner _ _ (d := d - 1) (by omega) hq u _) cv_X1_34 rfl (by decide) rfl (by first | rfl | exact ok_c hq rfl | exact ok_w hq hw | exact ok_w (by omega) (by omega) | exact ok_s (by omega) (by omega) | exact ok_c (by omega) rfl | assumption) (Nat.le_of_ble_eq_true rfl) (by omega) (fun r h' hr => ?_)
          obtain ⟨he9, rfl⟩ := hr
          rw [he9]
          clear he9 h'
          show V _ _ _ (86 + 3) _ (_ :: _) _
          refine v_ifb_eq hC (pc := 89) (tgt := 137) dX1_takeLetter_89 (by decide) (fun c_89 => ?_) (fun c_89 => ?_)
          · exact absurd ⟨nI_pos (show bd c < 2 ^ 31 by omega), by rw [hu1, hnc]; exact nI_ge hbc (by omega)⟩ c_89
          · skip
            refine v_aload_n hC (pc := 92) (k := 0) 4 rfl dX1_takeLetter_92 ?_
            refine v_getR hC (pc := 93) dX1_takeLetter_93 fl_X1_15 rfl (by first | rfl | exact ok_c hq rfl | exact ok_w hq hw | exact ok_w (by omega) (by omega) | exact ok_s (by omega) (by omega) | exact ok_c (by omega) rfl | assumption) rfl (by decide) (by decide) rfl ?_
            refine v_iload hC (pc := 96) 1 rfl dX1_takeLetter_96 ?_
            refine v_dup2 hC (pc := 98) dX1_takeLetter_98 ?_
            refine v_lald hC (pc := 99) dX1_takeLetter_99 rfl (by first | rfl | exact ok_c hq rfl | exact ok_w hq hw | exact ok_w (by omega) (by omega) | exact ok_s (by omega) (by omega) | exact ok_c (by omega) rfl | assumption) (vp_nat (show wl c < 8 by omega) (by decide)) ?_
            rw [nI_clamp (show wl c < 2 ^ 31 by omega)]
            refine v_aload_n hC (pc := 100) (k := 0) 4 rfl dX1_takeLetter_100 ?_
            refine v_getR hC (pc := 101) dX1_takeLetter_101 fl_X1_9 rfl (by first | rfl | exact ok_c hq rfl | exact ok_w hq hw | exact ok_w (by omega) (by omega) | exact ok_s (by omega) (by omega) | exact ok_c (by omega) rfl | assumption) rfl (by decide) (by decide) rfl ?_
            refine v_iload hC (pc := 104) 2 rfl dX1_takeLetter_104 ?_
            refine v_lald hC (pc := 106) dX1_takeLetter_106 rfl (by first | rfl | exact ok_c hq rfl | exact ok_w hq hw | exact ok_w (by omega) (by omega) | exact ok_s (by omega) (by omega) | exact ok_c (by omega) rfl | assumption) (vp_nat (show c < 8 by omega) (by decide)) ?_
            rw [nI_clamp (show c < 2 ^ 31 by omega)]
            refine v_bipush hC (pc := 107) (v := 10) (by decide +kernel) dX1_takeLetter_107 ?_
            refine v_iload hC (pc := 109) 8 rfl dX1_takeLetter_109 ?_
            refine v_isub hC (pc := 111) dX1_takeLetter_111 ?_
            rw [show (10 : Int32) = nI 10 from rfl, pk_sub hv]
            refine v_i2l hC (pc := 112) dX1_takeLetter_112 ?_
            rw [nI64 (show 10 - v < 2 ^ 31 by omega)]
            refine v_lmul hC (pc := 113) dX1_takeLetter_113 ?_
            refine v_ladd hC (pc := 114) dX1_takeLetter_114 ?_
            refine v_last hC (pc := 115) dX1_takeLetter_115 rfl (by first | rfl | exact ok_c hq rfl | exact ok_w hq hw | exact ok_w (by omega) (by omega) | exact ok_s (by omega) (by omega) | exact ok_c (by omega) rfl | assumption) (vp_nat (show wl c < 8 by omega) (by decide)) ?_
            rw [nI_clamp (show wl c < 2 ^ 31 by omega)]
            refine v_aload_n hC (pc := 116) (k := 0) 4 rfl dX1_takeLetter_116 ?_
            refine v_getR hC (pc := 117) dX1_takeLetter_117 fl_X1_15 rfl (by first | rfl | exact ok_c hq rfl | exact ok_w hq hw | exact ok_w (by omega) (by omega) | exact ok_s (by omega) (by omega) | exact ok_c (by omega) rfl | assumption) rfl (by decide) (by decide) rfl ?_
            refine v_iload hC (pc := 120) 0 rfl dX1_takeLetter_120 ?_
            refine v_dup2 hC (pc := 122) dX1_takeLetter_122 ?_
            refine v_lald hC (pc := 123) dX1_takeLetter_123 rfl (by first | rfl | exact ok_c hq rfl | exact ok_w hq hw | exact ok_w (by omega) (by omega) | exact ok_s (by omega) (by omega) | exact ok_c (by omega) rfl | assumption) (vp_nat (show bd c < 8 by omega) (by decide)) ?_
            rw [nI_clamp (show bd c < 2 ^ 31 by omega)]
            refine v_aload_n hC (pc := 124) (k := 0) 4 rfl dX1_takeLetter_124 ?_
            refine v_getR hC (pc := 125) dX1_takeLetter_125 fl_X1_9 rfl (by first | rfl | exact ok_c hq rfl | exact ok_w hq hw | exact ok_w (by omega) (by omega) | exact ok_s (by omega) (by omega) | exact ok_c (by omega) rfl | assumption) rfl (by decide) (by decide) rfl ?_
            refine v_iload hC (pc := 128) 2 rfl dX1_takeLetter_128 ?_
            refine v_lald hC (pc := 130) dX1_takeLetter_130 rfl (by first | rfl | exact ok_c hq rfl | exact ok_w hq hw | exact ok_w (by omega) (by omega) | exact ok_s (by omega) (by omega) | exact ok_c (by omega) rfl | assumption) (vp_nat (show c < 8 by omega) (by decide)) ?_
            rw [nI_clamp (show c < 2 ^ 31 by omega)]
            refine v_iload hC (pc := 131) 8 rfl dX1_takeLetter_131 ?_
            refine v_i2l hC (pc := 133) dX1_takeLetter_133 ?_
            rw [nI64 (show v < 2 ^ 31 by omega)]
            refine v_lmul hC (pc := 134) dX1_takeLetter_134 ?_
            refine v_ladd hC (pc := 135) dX1_takeLetter_135 ?_
            refine v_last hC (pc := 136) dX1_takeLetter_136 rfl (by first | rfl | exact ok_c hq rfl | exact ok_w hq hw | exact ok_w (by omega) (by omega) | exact ok_s (by omega) (by omega) | exact ok_c (by omega) rfl | assumption) (vp_nat (show bd c < 8 by omega) (by decide)) ?_
            rw [nI_clamp (show bd c < 2 ^ 31 by omega)]
            refine v_iinc hC (pc := 137) (l' := [(6, _), (8, _), (7, _), (5, _), (0, _), (1, _), (2, _), (3, _), (4, _)]) 2 (v := nI (c + 1)) dX1_takeLetter_137 rfl (nI_inc c) (by decide) rfl ?_
            refine v_goto hC (pc := 140) (tgt := 23) dX1_takeLetter_140 (by decide) ?_
            refine v_loc (l' := [(6, _), (5, _), (0, _), (1, _), (2, _), (3, _), (4, _)]) [0, 3, 4, 5, 6, 7, 8] rfl ?_
            refine ih (c + 1) _ (by omega) (by omega) hu1 ?_ (fun x hx => ?_) (fun k hk => ?_)
            · simp [upL]
              exact hu2
            · rw [itN_s]
              have e1 := hu3 (wl c) (by omega)
              have e2 := hu3 (bd c) (by omega)
              have e3 := hu3 x hx
              have e4 : u.2 (1, 0, 9) c = lN (W c) := by rw [hu2]; exact hW c (by omega)
              generalize itN (sprS wl bd W v) c (fun _ => 0) = N at e1 e2 e3 ⊢
              unfold sprS
              simp only [upL, true_and, e4, e1, e2, e3]
              by_cases z1 : x = wl c <;> by_cases z2 : x = bd c <;> by_cases z3 : bd c = wl c
              all_goals (simp [z1, z2, z3, show (wl c = bd c) = (bd c = wl c) from propext eq_comm, lN_mul, lN_add]; try omega)
            · rw [upL_ne _ _ _ hk, upL_ne _ _ _ hk]
              exact hu4 k hk
  subst hsd
  refine v_aload_n hC (pc := 0) (k := 2) 2 rfl dX1_takeLetter_0 ?_
  refine v_aload_n hC (pc := 1) (k := 2) 2 rfl dX1_takeLetter_1 ?_
  refine v_getI hC (pc := 2) dX1_takeLetter_2 fl_X1_50 rfl (by first | rfl | exact ok_c hq rfl | exact ok_w hq hw | exact ok_w (by omega) (by omega) | exact ok_s (by omega) (by omega) | exact ok_c (by omega) rfl | assumption) rfl (by decide) (by decide) ?_
  refine v_iload_n hC (pc := 5) (k := 3) 3 rfl dX1_takeLetter_5 ?_
  refine v_iadd hC (pc := 6) dX1_takeLetter_6 ?_
  refine v_callV hC (pc := 7) (As := [_]) dX1_takeLetter_7 rfl (t_letterAt _ _ (d := d - 1) (by omega) hq hw _ _) cv_X1_53 rfl (by decide) rfl (by first | rfl | exact ok_c hq rfl | exact ok_w hq hw | exact ok_w (by omega) (by omega) | exact ok_s (by omega) (by omega) | exact ok_c (by omega) rfl | assumption) (Nat.le_of_ble_eq_true rfl) (by omega) (fun r h' hr => ?_)
  obtain ⟨he9, rfl⟩ := hr
  rw [he9]
  clear he9 h'
  show V _ _ _ (7 + 3) _ (_ :: _) _
  refine v_istore hC (pc := 10) (l' := [(5, _), (0, _), (1, _), (2, _), (3, _), (4, _)]) dX1_takeLetter_10 (by decide) rfl ?_
  refine v_aload_n hC (pc := 12) (k := 0) 1 rfl dX1_takeLetter_12 ?_
  refine v_getR hC (pc := 13) dX1_takeLetter_13 fl_X1_15 rfl (by first | rfl | exact ok_c hq rfl | exact ok_w hq hw | exact ok_w (by omega) (by omega) | exact ok_s (by omega) (by omega) | exact ok_c (by omega) rfl | assumption) rfl (by decide) (by decide) rfl ?_
  refine v_lconst hC (pc := 16) (v := 0) (by decide) dX1_takeLetter_16 ?_
  refine v_callS hC (pc := 17) (As := [_, _]) dX1_takeLetter_17 rfl (t_fillL _ _ (d := d - 1) (by omega) _ (N := 8) rfl rfl (by decide) _) cs_X1_22 (Nat.le_of_ble_eq_true rfl) (by omega) (fun r h' hr => ?_)
  obtain ⟨rfl, rfl⟩ := hr
  show V _ _ _ (17 + 3) _ _ _
  refine v_iconst hC (pc := 20) (v := 0) (by decide) dX1_takeLetter_20 ?_
  refine v_istore hC (pc := 21) (l' := [(6, _), (5, _), (0, _), (1, _), (2, _), (3, _), (4, _)]) dX1_takeLetter_21 (by decide) rfl ?_
  refine loop (nC + 1) 0 _ (Nat.zero_le _) (by omega) rfl rfl (fun x hx => ?_) (fun k hk => ?_)
  · rw [upRL_same]
    unfold filRL
    rw [if_pos hx]; rfl
  · rw [upRL_ne _ _ hk]

set_option maxRecDepth 20000 in
set_option maxHeartbeats 2000000 in
theorem t_weigh (l9 : Launch) (G : WT) {d : Nat} (hd : 6 ≤ d) {q w : Nat} (hq : q < 5) (hw : w < 4) (h : HP) {nC : Nat} (hn8 : nC ≤ 8) (hnc : h.1 (0, q, 0) 0 = nI nC) {v p m : Nat} (hv : v ≤ 10) (hp : p < nC) (hpl : h.1 (6, q, w) 0 = nI p) (hm : h.1 (6, q, w) 4 - h.1 (6, q, w) 5 = nI m) (hm10 : m ≤ 10) {wl bd : Nat → Nat → Nat} {sd : Nat → Int32} (hsd : ∀ i, sd i = ((h.1 (6, q, w) 3 >>> ((h.1 (6, q, w) 5 + nI i &&& 31))) &&& 1)) (hwl : ∀ i, i < m → ∀ c, c < nC → comF (h.1 (0, q, 6)) (h.1 (0, q, 0) 1) (nI c) (sd i) (h.1 (0, q, 0) 2 + nI i) (h.1 (6, q, w) 2) = nI (wl i c) ∧ wl i c < nC) (hbd : ∀ i, i < m → ∀ c, c < nC → comF (h.1 (0, q, 6)) (h.1 (0, q, 0) 1) (nI c) (1 - sd i) (h.1 (0, q, 0) 2 + nI i) (h.1 (6, q, w) 2) = nI (bd i c) ∧ bd i c < nC) : MS l9 G yX1_weigh cX1_weigh 5 none d [vr (1, 0, 8), vr (0, q, 0), vr (6, q, w), vi (nI v)] h (fun r h1 => r = none ∧ h1.1 = h.1 ∧ (∀ x, x < 8 → h1.2 (1, 0, 9) x = lN (wgtF wl bd v nC p m x)) ∧ h1.2 (1, 0, 8) 2 = lN (10 ^ m) ∧ ∀ k, k ≠ (1, 0, 9) → k ≠ (1, 0, 10) → k ≠ (1, 0, 8) → h1.2 k = h.2 k) := by
  refine MS_of (by decide +kernel) (Nat.le_of_ble_eq_true rfl) (fun X hC hX => ?_)
  show V X G 5 0 _ [] _
  have loop : ∀ (n i : Nat) (u : HP), i ≤ m → m + 1 ≤ i + n → u.1 = h.1 → (∀ x, x < 8 → u.2 (1, 0, 9) x = lN (wgtF wl bd v nC p i x)) → u.2 (1, 0, 8) 2 = lN (10 ^ i) → (∀ k, k ≠ (1, 0, 9) → k ≠ (1, 0, 10) → k ≠ (1, 0, 8) → u.2 k = h.2 k) → V X G 5 37 [(4, vi (nI i)), (0, vr (1, 0, 8)), (1, vr (0, q, 0)), (2, vr (6, q, w)), (3, vi (nI v))] [] u := by
    intro n
    induction n with
    | zero => intro i u h1 h2; exact absurd h2 (by omega)
    | succ n ih =>
      intro i u h1 h2 hu1 hu2 hu3 hu4
      refine v_iload hC (pc := 37) 0 rfl dX1_weigh_37 ?_
      refine v_aload_n hC (pc := 39) (k := 2) 3 rfl dX1_weigh_39 ?_
      refine v_callV hC (pc := 40) (As := []) dX1_weigh_40 rfl (t_lettersLeft _ _ (d := d - 1) (by omega) hq hw u) cv_X1_40 rfl (by decide) rfl (by first | rfl | exact ok_c hq rfl | exact ok_w hq hw | exact ok_w (by omega) (by omega) | exact ok_s (by omega) (by omega) | exact ok_c (by omega) rfl | assumption) (Nat.le_of_ble_eq_true rfl) (by omega) (fun r h' hr => ?_)
      obtain ⟨he9, rfl⟩ := hr
      rw [he9]
      clear he9 h'
      show V _ _ _ (40 + 3) _ (_ :: _) _
      refine v_icmp_ge hC (pc := 43) (tgt := 73) dX1_weigh_43 (by decide) (fun c_43 => ?_) (fun c_43 => ?_)
      · skip
        have hi : i = m := lp_ex (by rw [hu1, hm] at c_43; exact c_43) h1 (by omega)
        subst hi
        refine v_vret hC hX (pc := 73) dX1_weigh_73 ?_
        exact ⟨rfl, hu1, hu2, hu3, hu4⟩
      · skip
        have hi : i < m := lp_in (by rw [hu1, hm] at c_43; exact c_43) h1 (by omega)
        refine v_aload_n hC (pc := 46) (k := 0) 1 rfl dX1_weigh_46 ?_
        refine v_aload_n hC (pc := 47) (k := 1) 2 rfl dX1_weigh_47 ?_
        refine v_aload_n hC (pc := 48) (k := 2) 3 rfl dX1_weigh_48 ?_
        refine v_iload hC (pc := 49) 0 rfl dX1_weigh_49 ?_
        refine v_iload_n hC (pc := 51) (k := 3) 4 rfl dX1_weigh_51 ?_
        refine v_callV hC (pc := 52) (As := [_, _, _, _]) dX1_weigh_52 rfl (t_takeLetter _ _ (d := d - 1) (by omega) hq hw u hn8 (by rw [hu1]; exact hnc) hv (wl := wl i) (bd := bd i) (sd := sd i) (by rw [hu1]; exact hsd i) (by rw [hu1]; exact hwl i hi) (by rw [hu1]; exact hbd i hi) (W := wgtF wl bd v nC p i) hu2) cv_X1_44 rfl (by decide) rfl (by first | rfl | exact ok_c hq rfl | exact ok_w hq hw | exact ok_w (by omega) (by omega) | exact ok_s (by omega) (by omega) | exact ok_c (by omega) rfl | assumption) (Nat.le_of_ble_eq_true rfl) (by omega) (fun r h' hr => ?_)
        obtain ⟨rfl, z1, z2, z3⟩ := hr
        show V _ _ _ (52 + 3) _ _ _
        refine v_aload_n hC (pc := 55) (k := 0) 1 rfl dX1_weigh_55 ?_
        refine v_dup hC (pc := 56) rfl dX1_weigh_56 ?_
        refine v_getL hC (pc := 57) dX1_weigh_57 fl_X1_18 rfl (by first | rfl | exact ok_c hq rfl | exact ok_w hq hw | exact ok_w (by omega) (by omega) | exact ok_s (by omega) (by omega) | exact ok_c (by omega) rfl | assumption) rfl (by decide) (by decide) ?_
        refine v_ldc2 hC (pc := 60) k_X1_48 dX1_weigh_60 ?_
        refine v_lmul hC (pc := 63) dX1_weigh_63 ?_
        refine v_putL hC (pc := 64) dX1_weigh_64 fs_X1_18 rfl (by first | rfl | exact ok_c hq rfl | exact ok_w hq hw | exact ok_w (by omega) (by omega) | exact ok_s (by omega) (by omega) | exact ok_c (by omega) rfl | assumption) rfl (by decide) (by decide) ?_
        refine v_iinc hC (pc := 67) (l' := [(4, _), (0, _), (1, _), (2, _), (3, _)]) 0 (v := nI (i + 1)) dX1_weigh_67 rfl (nI_inc i) (by decide) rfl ?_
        refine v_goto hC (pc := 70) (tgt := 37) dX1_weigh_70 (by decide) ?_
        refine ih (i + 1) _ (by omega) (by omega) ?_ (fun x hx => ?_) ?_ (fun k h1 h2 h3 => ?_)
        · exact z1.trans hu1
        · rw [upL_ne _ _ _ (show ((1, 0, 9) : PId) ≠ (1, 0, 8) by decide)]
          exact z2 x hx
        · simp only [upL, and_self, if_true]
          rw [z3 (1, 0, 8) (by decide) (by decide), hu3, show (10 : Int64) = lN 10 from rfl, lN_mul, Nat.pow_succ]
        · rw [upL_ne _ _ _ h3, z3 k h1 h2]
          exact hu4 k h1 h2 h3
  refine v_aload_n hC (pc := 0) (k := 0) 0 rfl dX1_weigh_0 ?_
  refine v_getR hC (pc := 1) dX1_weigh_1 fl_X1_9 rfl (by first | rfl | exact ok_c hq rfl | exact ok_w hq hw | exact ok_w (by omega) (by omega) | exact ok_s (by omega) (by omega) | exact ok_c (by omega) rfl | assumption) rfl (by decide) (by decide) rfl ?_
  refine v_lconst hC (pc := 4) (v := 0) (by decide) dX1_weigh_4 ?_
  refine v_callS hC (pc := 5) (As := [_, _]) dX1_weigh_5 rfl (t_fillL _ _ (d := d - 1) (by omega) _ (N := 8) rfl rfl (by decide) _) cs_X1_22 (Nat.le_of_ble_eq_true rfl) (by omega) (fun r h' hr => ?_)
  obtain ⟨rfl, rfl⟩ := hr
  show V _ _ _ (5 + 3) _ _ _
  refine v_aload_n hC (pc := 8) (k := 1) 1 rfl dX1_weigh_8 ?_
  refine v_aload_n hC (pc := 9) (k := 2) 2 rfl dX1_weigh_9 ?_
  refine v_getI hC (pc := 10) dX1_weigh_10 fl_X1_28 rfl (by first | rfl | exact ok_c hq rfl | exact ok_w hq hw | exact ok_w (by omega) (by omega) | exact ok_s (by omega) (by omega) | exact ok_c (by omega) rfl | assumption) rfl (by decide) (by decide) ?_
  refine v_callV hC (pc := 13) (As := [_]) dX1_weigh_13 rfl (t_hasCorner _ _ (d := d - 1) (by omega) hq _ _) cv_X1_34 rfl (by decide) rfl (by first | rfl | exact ok_c hq rfl | exact ok_w hq hw | exact ok_w (by omega) (by omega) | exact ok_s (by omega) (by omega) | exact ok_c (by omega) rfl | assumption) (Nat.le_of_ble_eq_true rfl) (by omega) (fun r h' hr => ?_)
  obtain ⟨he9, rfl⟩ := hr
  rw [he9]
  clear he9 h'
  show V _ _ _ (13 + 3) _ (_ :: _) _
  refine v_ifb_eq hC (pc := 16) (tgt := 29) dX1_weigh_16 (by decide) (fun c_16 => ?_) (fun c_16 => ?_)
  · exact absurd ⟨by simp only [upRL]; rw [hpl]; exact nI_pos (show p < 2 ^ 31 by omega), by simp only [upRL]; rw [hpl, hnc]; exact nI_ge hp (by omega)⟩ c_16
  · skip
    refine v_aload_n hC (pc := 19) (k := 0) 0 rfl dX1_weigh_19 ?_
    refine v_getR hC (pc := 20) dX1_weigh_20 fl_X1_9 rfl (by first | rfl | exact ok_c hq rfl | exact ok_w hq hw | exact ok_w (by omega) (by omega) | exact ok_s (by omega) (by omega) | exact ok_c (by omega) rfl | assumption) rfl (by decide) (by decide) rfl ?_
    refine v_aload_n hC (pc := 23) (k := 2) 2 rfl dX1_weigh_23 ?_
    refine v_getI hC (pc := 24) dX1_weigh_24 fl_X1_28 rfl (by first | rfl | exact ok_c hq rfl | exact ok_w hq hw | exact ok_w (by omega) (by omega) | exact ok_s (by omega) (by omega) | exact ok_c (by omega) rfl | assumption) rfl (by decide) (by decide) ?_
    refine v_lconst hC (pc := 27) (v := 1) (by decide) dX1_weigh_27 ?_
    refine v_last hC (pc := 28) dX1_weigh_28 rfl (by first | rfl | exact ok_c hq rfl | exact ok_w hq hw | exact ok_w (by omega) (by omega) | exact ok_s (by omega) (by omega) | exact ok_c (by omega) rfl | assumption) (by show vp_in (h.1 (6, q, w) 0) 8; rw [hpl]; exact vp_nat (show p < 8 by omega) (by decide)) ?_
    refine v_aload_n hC (pc := 29) (k := 0) 0 rfl dX1_weigh_29 ?_
    refine v_lconst hC (pc := 30) (v := 1) (by decide) dX1_weigh_30 ?_
    refine v_putL hC (pc := 31) dX1_weigh_31 fs_X1_18 rfl (by first | rfl | exact ok_c hq rfl | exact ok_w hq hw | exact ok_w (by omega) (by omega) | exact ok_s (by omega) (by omega) | exact ok_c (by omega) rfl | assumption) rfl (by decide) (by decide) ?_
    refine v_iconst hC (pc := 34) (v := 0) (by decide) dX1_weigh_34 ?_
    refine v_istore hC (pc := 35) (l' := [(4, _), (0, _), (1, _), (2, _), (3, _)]) dX1_weigh_35 (by decide) rfl ?_
    refine loop (m + 1) 0 _ (Nat.zero_le _) (by omega) rfl (fun x hx => ?_) (by simp [upL]; rfl) (fun k h1 h2 h3 => ?_)
    · have e : (nI p).toNatClampNeg = p := nI_clamp (by omega)
      simp only [upL, upRL, filRL, hpl, e, wgtF, true_and, show ((1, 0, 9) : PId) = (1, 0, 8) ↔ False from by decide, false_and, if_false, if_true]
      by_cases z : x = p
      · simp [z]; rfl
      · simp [z, hx]; rfl
    · rw [upL_ne _ _ _ h3, upL_ne _ _ _ h1, upRL_ne _ _ h1]

