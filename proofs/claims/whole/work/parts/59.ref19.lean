/-! THE REFERENCE: luck -/
set_option maxRecDepth 20000 in
set_option maxHeartbeats 2000000 in
theorem m_common (l9 : Launch) (G : WT) {d : Nat} (hd : 1 ≤ d) (h : HP) {A B : Nat} (hA : A < 2 ^ 63) (hB : B < 2 ^ 63) : MS l9 G yX7_common cX7_common 10 (some .long) d [vl (lN A), vl (lN B)] h (fun r h1 => h1 = h ∧ r = some (vl (lN (Nat.gcd A B)))) := by
  refine MS_of (by decide +kernel) (Nat.le_of_ble_eq_true rfl) (fun X hC hX => ?_)
  show V X G 10 0 _ [] _
  have loop : ∀ (n y x : Nat), y < n → x < 2 ^ 63 → y < 2 ^ 63 → Nat.gcd x y = Nat.gcd A B → V X G 10 6 [(6, vl (lN y)), (4, vl (lN x)), (0, vl (lN A)), (2, vl (lN B))] [] h := by
    intro n
    induction n with
    | zero => intro y x h1; exact absurd h1 (Nat.not_lt_zero _)
    | succ n ih =>
      intro y x h1 hx hy hg
      refine v_lload hC (pc := 6) 0 rfl dX7_common_6 ?_
      refine v_lconst hC (pc := 8) (v := 0) (by decide) dX7_common_8 ?_
      refine v_lcmp hC (pc := 9) dX7_common_9 ?_
      refine v_if_eq hC (pc := 10) (tgt := 31) dX7_common_10 (by decide) (fun c_10 => ?_) (fun c_10 => ?_)
      · skip
        have hy0 : y = 0 := (pk_lEQ hy (by decide)).mp (show lN y = lN 0 from lcmp0.mp c_10)
        subst hy0
        refine v_lload hC (pc := 31) 1 rfl dX7_common_31 ?_
        refine v_lret hC hX (pc := 33) dX7_common_33 ?_
        exact ⟨rfl, by rw [← hg, Nat.gcd_zero_right]⟩
      · skip
        have hy0 : 0 < y := Nat.pos_of_ne_zero (fun z => c_10 (lcmp0.mpr (by rw [z]; rfl)))
        refine v_lload hC (pc := 13) 1 rfl dX7_common_13 ?_
        refine v_lload hC (pc := 15) 0 rfl dX7_common_15 ?_
        refine v_lrem hC (pc := 17) (fun z => c_10 (lcmp0.mpr z)) dX7_common_17 ?_
        rw [pk_lRem hx (Nat.pos_of_ne_zero (fun z => c_10 (lcmp0.mpr (by rw [z]; rfl)))) hy]
        refine v_lstore hC (pc := 18) (l' := [(8, _), (6, _), (4, _), (0, _), (2, _)]) dX7_common_18 (by decide) rfl ?_
        refine v_lload hC (pc := 20) 1 rfl dX7_common_20 ?_
        refine v_lstore hC (pc := 22) (l' := [(4, _), (8, _), (6, _), (0, _), (2, _)]) dX7_common_22 (by decide) rfl ?_
        refine v_lload hC (pc := 24) 1 rfl dX7_common_24 ?_
        refine v_lstore hC (pc := 26) (l' := [(6, _), (4, _), (8, _), (0, _), (2, _)]) dX7_common_26 (by decide) rfl ?_
        refine v_goto hC (pc := 28) (tgt := 6) dX7_common_28 (by decide) ?_
        refine v_loc (l' := [(6, _), (4, _), (0, _), (2, _)]) [0, 1, 3, 4] rfl ?_
        exact ih (x % y) y (by have := Nat.mod_lt x hy0; omega) hy (by have := Nat.mod_lt x hy0; omega) (by rw [Nat.gcd_comm, ← Nat.gcd_rec, Nat.gcd_comm]; exact hg)
  refine v_lload_n hC (pc := 0) (k := 0) 0 rfl dX7_common_0 ?_
  refine v_lstore hC (pc := 1) (l' := [(4, _), (0, _), (2, _)]) dX7_common_1 (by decide) rfl ?_
  refine v_lload_n hC (pc := 3) (k := 2) 2 rfl dX7_common_3 ?_
  refine v_lstore hC (pc := 4) (l' := [(6, _), (4, _), (0, _), (2, _)]) dX7_common_4 (by decide) rfl ?_
  exact loop (B + 1) B A (by omega) hA hB rfl

set_option maxRecDepth 20000 in
set_option maxHeartbeats 2000000 in
theorem m_spreads (l9 : Launch) (G : WT) {d : Nat} (hd : 4 ≤ d) (h : HP) {nC : Nat} (hn8 : nC ≤ 8) (hnc : h.1 (3, 0, 0) 3 = nI nC) {A : Nat → Int32} (hA : h.1 (3, 0, 2) = A) {w i v s : Nat} (hw4 : w < 4) (hv : v ≤ 10) (hi : i < 1000) (hs : s < 2) {hour : Int32} (hsd : (A (18 + 6 * w + 4) >>> (nI i &&& 31)) &&& 1 = nI s) (hhr : A 17 + nI i - A (18 + 6 * w + 5) = hour) {wl bd : Nat → Nat} (hwl : ∀ c, c < nC → goM A c s hour (kpA A w) = nI (wl c) ∧ wl c < nC) (hbd : ∀ c, c < nC → goM A c (1 - s) hour (kpA A w) = nI (bd c) ∧ bd c < nC) {W : Nat → Nat} (hW : ∀ x, x < 8 → h.2 (3, 0, 23) x = lN (W x)) : MS l9 G yX7_spreads cX7_spreads 7 none d [vr (3, 0, 0), vi (nI w), vi (nI i), vi (nI v)] h (fun r h1 => r = none ∧ h1.1 = h.1 ∧ (∀ x, x < 8 → h1.2 (3, 0, 23) x = lN (sprF wl bd W v nC x)) ∧ ∀ j, j ≠ (3, 0, 23) → j ≠ (3, 0, 24) → h1.2 j = h.2 j) := by
  refine MS_of (by decide +kernel) (Nat.le_of_ble_eq_true rfl) (fun X hC hX => ?_)
  show V X G 7 0 _ [] _
  by_cases ek : A (18 + 6 * w + 2) = 1
  · have hk1 : kpA A w = 1 := if_pos ek
    rw [hk1] at hwl hbd
    have l3 : ∀ (n k : Nat) (u : HP), k ≤ 8 → 8 + 1 ≤ k + n → u.1 = h.1 → (∀ x, x < 8 → u.2 (3, 0, 24) x = lN (sprF wl bd W v nC x)) → (∀ j, j ≠ (3, 0, 23) → j ≠ (3, 0, 24) → u.2 j = h.2 j) → (∀ x, x < k → u.2 (3, 0, 23) x = lN (sprF wl bd W v nC x)) → V X G 7 166 [(6, vi (nI k)), (5, vi hour), (4, vi (nI s)), (0, vr (3, 0, 0)), (1, vi (nI w)), (2, vi (nI i)), (3, vi (nI v))] [] u := by
      intro n
      induction n with
      | zero => intro k u h1 h2; exact absurd h2 (by omega)
      | succ n ih =>
        intro k u h1 h2 hu1 hu2 hu3 hu4
        refine v_iload hC (pc := 166) 0 rfl dX7_spreads_166 ?_
        refine v_bipush hC (pc := 168) (v := 8) (by decide +kernel) dX7_spreads_168 ?_
        refine v_icmp_ge hC (pc := 170) (tgt := 193) dX7_spreads_170 (by decide) (fun c_170 => ?_) (fun c_170 => ?_)
        · skip
          have hk : k = 8 := lp_ex (N := 8) c_170 h1 (by decide)
          refine v_vret hC hX (pc := 193) dX7_spreads_193 ?_
          exact ⟨rfl, hu1, fun x hx => hu4 x (by omega), fun j j1 j2 => hu3 j j1 j2⟩
        · skip
          have hk : k < 8 := lp_in (N := 8) c_170 h1 (by decide)
          refine v_aload_n hC (pc := 173) (k := 0) 3 rfl dX7_spreads_173 ?_
          refine v_getR hC (pc := 174) dX7_spreads_174 fl_X7_38 rfl (by first | rfl | exact ok_c hq rfl | exact ok_w hq hw | exact ok_w (by omega) (by omega) | exact ok_s (by omega) (by omega) | exact ok_c (by omega) rfl | assumption) rfl (by decide) (by decide) rfl ?_
          refine v_iload hC (pc := 177) 0 rfl dX7_spreads_177 ?_
          refine v_aload_n hC (pc := 179) (k := 0) 3 rfl dX7_spreads_179 ?_
          refine v_getR hC (pc := 180) dX7_spreads_180 fl_X7_42 rfl (by first | rfl | exact ok_c hq rfl | exact ok_w hq hw | exact ok_w (by omega) (by omega) | exact ok_s (by omega) (by omega) | exact ok_c (by omega) rfl | assumption) rfl (by decide) (by decide) rfl ?_
          refine v_iload hC (pc := 183) 0 rfl dX7_spreads_183 ?_
          refine v_lald hC (pc := 185) dX7_spreads_185 rfl (by first | rfl | exact ok_c hq rfl | exact ok_w hq hw | exact ok_w (by omega) (by omega) | exact ok_s (by omega) (by omega) | exact ok_c (by omega) rfl | assumption) (vp_nat (n := k) (by omega) (by decide)) ?_
          rw [nI_clamp (show k < 2 ^ 31 by omega)]
          refine v_last hC (pc := 186) dX7_spreads_186 rfl (by first | rfl | exact ok_c hq rfl | exact ok_w hq hw | exact ok_w (by omega) (by omega) | exact ok_s (by omega) (by omega) | exact ok_c (by omega) rfl | assumption) (vp_nat (n := k) (by omega) (by decide)) ?_
          rw [nI_clamp (show k < 2 ^ 31 by omega)]
          refine v_iinc hC (pc := 187) (l' := [(6, _), (5, _), (4, _), (0, _), (1, _), (2, _), (3, _)]) 0 (v := nI (k + 1)) dX7_spreads_187 rfl (nI_inc k) (by decide) rfl ?_
          refine v_goto hC (pc := 190) (tgt := 166) dX7_spreads_190 (by decide) ?_
          refine ih (k + 1) _ (by omega) (by omega) hu1 (fun x hx => ?_) (fun j j1 j2 => ?_) (fun x hx => ?_)
          · rw [upL_ne _ _ _ (show ((3, 0, 24) : PId) ≠ (3, 0, 23) by decide)]; exact hu2 x hx
          · rw [upL_ne _ _ _ j1]; exact hu3 j j1 j2
          · simp only [upL, true_and]
            by_cases e : x = k
            · subst e; rw [if_pos rfl]; exact hu2 x (by omega)
            · rw [if_neg e]; exact hu4 x (by omega)
    have l2 : ∀ (n c : Nat) (u : HP), c ≤ nC → nC + 1 ≤ c + n → u.1 = h.1 → (∀ x, x < 8 → u.2 (3, 0, 24) x = lN (itN (sprS wl bd W v) c (fun _ => 0) x)) → (∀ j, j ≠ (3, 0, 24) → u.2 j = h.2 j) → V X G 7 57 [(6, vi (nI c)), (5, vi hour), (4, vi (nI s)), (0, vr (3, 0, 0)), (1, vi (nI w)), (2, vi (nI i)), (3, vi (nI v))] [] u := by
      intro n
      induction n with
      | zero => intro c u h1 h2; exact absurd h2 (by omega)
      | succ n ih =>
        intro c u h1 h2 hu1 hu3 hu4
        refine v_iload hC (pc := 57) 0 rfl dX7_spreads_57 ?_
        refine v_aload_n hC (pc := 59) (k := 0) 3 rfl dX7_spreads_59 ?_
        refine v_getI hC (pc := 60) dX7_spreads_60 fl_X7_76 rfl (by first | rfl | exact ok_c hq rfl | exact ok_w hq hw | exact ok_w (by omega) (by omega) | exact ok_s (by omega) (by omega) | exact ok_c (by omega) rfl | assumption) rfl (by decide) (by decide) ?_
        refine v_icmp_ge hC (pc := 63) (tgt := 163) dX7_spreads_63 (by decide) (fun c_63 => ?_) (fun c_63 => ?_)
        · skip
          have hc : c = nC := lp_ex (by rw [hu1, hnc] at c_63; exact c_63) h1 (by omega)
          subst hc
          refine v_iconst hC (pc := 163) (v := 0) (by decide) dX7_spreads_163 ?_
          refine v_istore hC (pc := 164) (l' := [(6, _), (5, _), (4, _), (0, _), (1, _), (2, _), (3, _)]) dX7_spreads_164 (by decide) rfl ?_
          exact l3 9 0 _ (by omega) (by omega) hu1 hu3 (fun j j1 j2 => hu4 j j2) (fun x hx => absurd hx (Nat.not_lt_zero _))
        · skip
          have hc : c < nC := lp_in (by rw [hu1, hnc] at c_63; exact c_63) h1 (by omega)
          refine v_aload_n hC (pc := 66) (k := 0) 3 rfl dX7_spreads_66 ?_
          refine v_getR hC (pc := 67) dX7_spreads_67 fl_X7_42 rfl (by first | rfl | exact ok_c hq rfl | exact ok_w hq hw | exact ok_w (by omega) (by omega) | exact ok_s (by omega) (by omega) | exact ok_c (by omega) rfl | assumption) rfl (by decide) (by decide) rfl ?_
          refine v_aload_n hC (pc := 70) (k := 0) 3 rfl dX7_spreads_70 ?_
          refine v_iload hC (pc := 71) 0 rfl dX7_spreads_71 ?_
          refine v_iload hC (pc := 73) 2 rfl dX7_spreads_73 ?_
          refine v_iload hC (pc := 75) 1 rfl dX7_spreads_75 ?_
          refine v_aload_n hC (pc := 77) (k := 0) 3 rfl dX7_spreads_77 ?_
          refine v_iload_n hC (pc := 78) (k := 1) 4 rfl dX7_spreads_78 ?_
          refine v_iconst hC (pc := 79) (v := 2) (by decide) dX7_spreads_79 ?_
          refine v_callV hC (pc := 80) (As := [_, _]) dX7_spreads_80 rfl (m_of _ _ (d := d - 1) (by omega) _ (w := w) (by omega) (k := 2) (by decide)) cv_X7_187 rfl (by decide) rfl (by first | rfl | exact ok_c hq rfl | exact ok_w hq hw | exact ok_w (by omega) (by omega) | exact ok_s (by omega) (by omega) | exact ok_c (by omega) rfl | assumption) (Nat.le_of_ble_eq_true rfl) (by omega) (fun r h' hr => ?_)
          obtain ⟨he9, rfl⟩ := hr
          rw [he9]
          clear he9 h'
          show V X G 7 83 _ (vi (u.1 (3, 0, 2) (18 + 6 * w + 2)) :: _) _
          rw [hu1, hA]
          show V _ _ _ (80 + 3) _ (_ :: _) _
          refine v_iconst hC (pc := 83) (v := 1) (by decide) dX7_spreads_83 ?_
          refine v_icmp_ne hC (pc := 84) (tgt := 91) dX7_spreads_84 (by decide) (fun c_84 => ?_) (fun c_84 => ?_)
          · exact absurd ek c_84
          · skip
            skip
            refine v_iconst hC (pc := 87) (v := 1) (by decide) dX7_spreads_87 ?_
            refine v_goto hC (pc := 88) (tgt := 92) dX7_spreads_88 (by decide) ?_
            refine v_callV hC (pc := 92) (As := [_, _, _, _]) dX7_spreads_92 rfl (m_goesFrom _ _ (d := d - 1) (by omega) _ (c := c) (s := s) (by omega) hs _ _) cv_X7_200 rfl (by decide) rfl (by first | rfl | exact ok_c hq rfl | exact ok_w hq hw | exact ok_w (by omega) (by omega) | exact ok_s (by omega) (by omega) | exact ok_c (by omega) rfl | assumption) (Nat.le_of_ble_eq_true rfl) (by omega) (fun r h' hr => ?_)
            obtain ⟨he9, rfl⟩ := hr
            rw [he9]
            clear he9 h'
            show V X G 7 95 _ (vi (goM (u.1 (3, 0, 2)) c s hour 1) :: _) _
            rw [hu1, hA, (hwl c hc).1]
            have hwc := (hwl c hc).2
            show V _ _ _ (92 + 3) _ (_ :: _) _
            refine v_dup2 hC (pc := 95) dX7_spreads_95 ?_
            refine v_lald hC (pc := 96) dX7_spreads_96 rfl (by first | rfl | exact ok_c hq rfl | exact ok_w hq hw | exact ok_w (by omega) (by omega) | exact ok_s (by omega) (by omega) | exact ok_c (by omega) rfl | assumption) (vp_nat (n := wl c) (by omega) (by decide)) ?_
            rw [nI_clamp (show wl c < 2 ^ 31 by omega)]
            refine v_aload_n hC (pc := 97) (k := 0) 3 rfl dX7_spreads_97 ?_
            refine v_getR hC (pc := 98) dX7_spreads_98 fl_X7_38 rfl (by first | rfl | exact ok_c hq rfl | exact ok_w hq hw | exact ok_w (by omega) (by omega) | exact ok_s (by omega) (by omega) | exact ok_c (by omega) rfl | assumption) rfl (by decide) (by decide) rfl ?_
            refine v_iload hC (pc := 101) 0 rfl dX7_spreads_101 ?_
            refine v_lald hC (pc := 103) dX7_spreads_103 rfl (by first | rfl | exact ok_c hq rfl | exact ok_w hq hw | exact ok_w (by omega) (by omega) | exact ok_s (by omega) (by omega) | exact ok_c (by omega) rfl | assumption) (vp_nat (n := c) (by omega) (by decide)) ?_
            rw [nI_clamp (show c < 2 ^ 31 by omega)]
            refine v_bipush hC (pc := 104) (v := 10) (by decide +kernel) dX7_spreads_104 ?_
            refine v_iload_n hC (pc := 106) (k := 3) 6 rfl dX7_spreads_106 ?_
            refine v_isub hC (pc := 107) dX7_spreads_107 ?_
            rw [show (10 : Int32) = nI 10 from rfl, pk_sub hv]
            refine v_i2l hC (pc := 108) dX7_spreads_108 ?_
            rw [nI64 (show 10 - v < 2 ^ 31 by omega)]
            refine v_lmul hC (pc := 109) dX7_spreads_109 ?_
            refine v_ladd hC (pc := 110) dX7_spreads_110 ?_
            refine v_last hC (pc := 111) dX7_spreads_111 rfl (by first | rfl | exact ok_c hq rfl | exact ok_w hq hw | exact ok_w (by omega) (by omega) | exact ok_s (by omega) (by omega) | exact ok_c (by omega) rfl | assumption) (vp_nat (n := wl c) (by omega) (by decide)) ?_
            rw [nI_clamp (show wl c < 2 ^ 31 by omega)]
            refine v_aload_n hC (pc := 112) (k := 0) 3 rfl dX7_spreads_112 ?_
            refine v_getR hC (pc := 113) dX7_spreads_113 fl_X7_42 rfl (by first | rfl | exact ok_c hq rfl | exact ok_w hq hw | exact ok_w (by omega) (by omega) | exact ok_s (by omega) (by omega) | exact ok_c (by omega) rfl | assumption) rfl (by decide) (by decide) rfl ?_
            refine v_aload_n hC (pc := 116) (k := 0) 3 rfl dX7_spreads_116 ?_
            refine v_iload hC (pc := 117) 0 rfl dX7_spreads_117 ?_
            refine v_iconst hC (pc := 119) (v := 1) (by decide) dX7_spreads_119 ?_
            refine v_iload hC (pc := 120) 2 rfl dX7_spreads_120 ?_
            refine v_isub hC (pc := 122) dX7_spreads_122 ?_
            rw [nL_1, pk_sub (show s ≤ 1 by omega)]
            refine v_iload hC (pc := 123) 1 rfl dX7_spreads_123 ?_
            refine v_aload_n hC (pc := 125) (k := 0) 3 rfl dX7_spreads_125 ?_
            refine v_iload_n hC (pc := 126) (k := 1) 4 rfl dX7_spreads_126 ?_
            refine v_iconst hC (pc := 127) (v := 2) (by decide) dX7_spreads_127 ?_
            refine v_callV hC (pc := 128) (As := [_, _]) dX7_spreads_128 rfl (m_of _ _ (d := d - 1) (by omega) _ (w := w) (by omega) (k := 2) (by decide)) cv_X7_187 rfl (by decide) rfl (by first | rfl | exact ok_c hq rfl | exact ok_w hq hw | exact ok_w (by omega) (by omega) | exact ok_s (by omega) (by omega) | exact ok_c (by omega) rfl | assumption) (Nat.le_of_ble_eq_true rfl) (by omega) (fun r h' hr => ?_)
            obtain ⟨he9, rfl⟩ := hr
            rw [he9]
            clear he9 h'
            show V X G 7 131 _ (vi (u.1 (3, 0, 2) (18 + 6 * w + 2)) :: _) _
            rw [hu1, hA]
            show V _ _ _ (128 + 3) _ (_ :: _) _
            refine v_iconst hC (pc := 131) (v := 1) (by decide) dX7_spreads_131 ?_
            refine v_icmp_ne hC (pc := 132) (tgt := 139) dX7_spreads_132 (by decide) (fun c_132 => ?_) (fun c_132 => ?_)
            · exact absurd ek c_132
            · skip
              skip
              refine v_iconst hC (pc := 135) (v := 1) (by decide) dX7_spreads_135 ?_
              refine v_goto hC (pc := 136) (tgt := 140) dX7_spreads_136 (by decide) ?_
              refine v_callV hC (pc := 140) (As := [_, _, _, _]) dX7_spreads_140 rfl (m_goesFrom _ _ (d := d - 1) (by omega) _ (c := c) (s := 1 - s) (by omega) (by omega) _ _) cv_X7_200 rfl (by decide) rfl (by first | rfl | exact ok_c hq rfl | exact ok_w hq hw | exact ok_w (by omega) (by omega) | exact ok_s (by omega) (by omega) | exact ok_c (by omega) rfl | assumption) (Nat.le_of_ble_eq_true rfl) (by omega) (fun r h' hr => ?_)
              obtain ⟨he9, rfl⟩ := hr
              rw [he9]
              clear he9 h'
              show V X G 7 143 _ (vi (goM (u.1 (3, 0, 2)) c (1 - s) hour 1) :: _) _
              rw [hu1, hA, (hbd c hc).1]
              have hbc := (hbd c hc).2
              show V _ _ _ (140 + 3) _ (_ :: _) _
              refine v_dup2 hC (pc := 143) dX7_spreads_143 ?_
              refine v_lald hC (pc := 144) dX7_spreads_144 rfl (by first | rfl | exact ok_c hq rfl | exact ok_w hq hw | exact ok_w (by omega) (by omega) | exact ok_s (by omega) (by omega) | exact ok_c (by omega) rfl | assumption) (vp_nat (n := bd c) (by omega) (by decide)) ?_
              rw [nI_clamp (show bd c < 2 ^ 31 by omega)]
              refine v_aload_n hC (pc := 145) (k := 0) 3 rfl dX7_spreads_145 ?_
              refine v_getR hC (pc := 146) dX7_spreads_146 fl_X7_38 rfl (by first | rfl | exact ok_c hq rfl | exact ok_w hq hw | exact ok_w (by omega) (by omega) | exact ok_s (by omega) (by omega) | exact ok_c (by omega) rfl | assumption) rfl (by decide) (by decide) rfl ?_
              refine v_iload hC (pc := 149) 0 rfl dX7_spreads_149 ?_
              refine v_lald hC (pc := 151) dX7_spreads_151 rfl (by first | rfl | exact ok_c hq rfl | exact ok_w hq hw | exact ok_w (by omega) (by omega) | exact ok_s (by omega) (by omega) | exact ok_c (by omega) rfl | assumption) (vp_nat (n := c) (by omega) (by decide)) ?_
              rw [nI_clamp (show c < 2 ^ 31 by omega)]
              refine v_iload_n hC (pc := 152) (k := 3) 6 rfl dX7_spreads_152 ?_
              refine v_i2l hC (pc := 153) dX7_spreads_153 ?_
              rw [nI64 (show v < 2 ^ 31 by omega)]
              refine v_lmul hC (pc := 154) dX7_spreads_154 ?_
              refine v_ladd hC (pc := 155) dX7_spreads_155 ?_
              refine v_last hC (pc := 156) dX7_spreads_156 rfl (by first | rfl | exact ok_c hq rfl | exact ok_w hq hw | exact ok_w (by omega) (by omega) | exact ok_s (by omega) (by omega) | exact ok_c (by omega) rfl | assumption) (vp_nat (n := bd c) (by omega) (by decide)) ?_
              rw [nI_clamp (show bd c < 2 ^ 31 by omega)]
              refine v_iinc hC (pc := 157) (l' := [(6, _), (5, _), (4, _), (0, _), (1, _), (2, _), (3, _)]) 0 (v := nI (c + 1)) dX7_spreads_157 rfl (nI_inc c) (by decide) rfl ?_
              refine v_goto hC (pc := 160) (tgt := 57) dX7_spreads_160 (by decide) ?_
              refine ih (c + 1) _ (by omega) (by omega) hu1 (fun x hx => ?_) (fun j j1 => ?_)
              · rw [itN_s]
                have e1 := hu3 (wl c) (by omega)
                have e2 := hu3 (bd c) (by omega)
                have e3 := hu3 x hx
                have e4 : u.2 (3, 0, 23) c = lN (W c) := by rw [hu4 _ (by decide)]; exact hW c (by omega)
                generalize itN (sprS wl bd W v) c (fun _ => 0) = N at e1 e2 e3 ⊢
                unfold sprS
                simp only [upL, true_and, e4, e1, e2, e3, show ((3, 0, 23) : PId) = (3, 0, 24) ↔ False from by decide, false_and, if_false]
                by_cases z1 : x = wl c <;> by_cases z2 : x = bd c <;> by_cases z3 : bd c = wl c
                all_goals (simp [z1, z2, z3, show (wl c = bd c) = (bd c = wl c) from propext eq_comm, lN_mul, lN_add]; try omega)
              · rw [upL_ne _ _ _ j1, upL_ne _ _ _ j1]
                exact hu4 j j1
    have l1 : ∀ (n k : Nat) (u : HP), k ≤ 8 → 8 + 1 ≤ k + n → u.1 = h.1 → (∀ x, x < k → u.2 (3, 0, 24) x = lN 0) → (∀ j, j ≠ (3, 0, 24) → u.2 j = h.2 j) → V X G 7 33 [(6, vi (nI k)), (5, vi hour), (4, vi (nI s)), (0, vr (3, 0, 0)), (1, vi (nI w)), (2, vi (nI i)), (3, vi (nI v))] [] u := by
      intro n
      induction n with
      | zero => intro k u h1 h2; exact absurd h2 (by omega)
      | succ n ih =>
        intro k u h1 h2 hu1 hu3 hu4
        refine v_iload hC (pc := 33) 0 rfl dX7_spreads_33 ?_
        refine v_bipush hC (pc := 35) (v := 8) (by decide +kernel) dX7_spreads_35 ?_
        refine v_icmp_ge hC (pc := 37) (tgt := 54) dX7_spreads_37 (by decide) (fun c_37 => ?_) (fun c_37 => ?_)
        · skip
          have hk : k = 8 := lp_ex (N := 8) c_37 h1 (by decide)
          refine v_iconst hC (pc := 54) (v := 0) (by decide) dX7_spreads_54 ?_
          refine v_istore hC (pc := 55) (l' := [(6, _), (5, _), (4, _), (0, _), (1, _), (2, _), (3, _)]) dX7_spreads_55 (by decide) rfl ?_
          exact l2 (nC + 1) 0 _ (by omega) (by omega) hu1 (fun x hx => hu3 x (by omega)) hu4
        · skip
          have hk : k < 8 := lp_in (N := 8) c_37 h1 (by decide)
          refine v_aload_n hC (pc := 40) (k := 0) 3 rfl dX7_spreads_40 ?_
          refine v_getR hC (pc := 41) dX7_spreads_41 fl_X7_42 rfl (by first | rfl | exact ok_c hq rfl | exact ok_w hq hw | exact ok_w (by omega) (by omega) | exact ok_s (by omega) (by omega) | exact ok_c (by omega) rfl | assumption) rfl (by decide) (by decide) rfl ?_
          refine v_iload hC (pc := 44) 0 rfl dX7_spreads_44 ?_
          refine v_lconst hC (pc := 46) (v := 0) (by decide) dX7_spreads_46 ?_
          refine v_last hC (pc := 47) dX7_spreads_47 rfl (by first | rfl | exact ok_c hq rfl | exact ok_w hq hw | exact ok_w (by omega) (by omega) | exact ok_s (by omega) (by omega) | exact ok_c (by omega) rfl | assumption) (vp_nat (n := k) (by omega) (by decide)) ?_
          rw [nI_clamp (show k < 2 ^ 31 by omega)]
          refine v_iinc hC (pc := 48) (l' := [(6, _), (5, _), (4, _), (0, _), (1, _), (2, _), (3, _)]) 0 (v := nI (k + 1)) dX7_spreads_48 rfl (nI_inc k) (by decide) rfl ?_
          refine v_goto hC (pc := 51) (tgt := 33) dX7_spreads_51 (by decide) ?_
          refine ih (k + 1) _ (by omega) (by omega) hu1 (fun x hx => ?_) (fun j j1 => ?_)
          · simp only [upL, true_and]
            by_cases e : x = k
            · subst e; rw [if_pos rfl]; rfl
            · rw [if_neg e]; exact hu3 x (by omega)
          · rw [upL_ne _ _ _ j1]; exact hu4 j j1
    refine v_aload_n hC (pc := 0) (k := 0) 0 rfl dX7_spreads_0 ?_
    refine v_iload_n hC (pc := 1) (k := 1) 1 rfl dX7_spreads_1 ?_
    refine v_iconst hC (pc := 2) (v := 4) (by decide) dX7_spreads_2 ?_
    refine v_callV hC (pc := 3) (As := [_, _]) dX7_spreads_3 rfl (m_of _ _ (d := d - 1) (by omega) _ (w := w) (by omega) (k := 4) (by decide)) cv_X7_187 rfl (by decide) rfl (by first | rfl | exact ok_c hq rfl | exact ok_w hq hw | exact ok_w (by omega) (by omega) | exact ok_s (by omega) (by omega) | exact ok_c (by omega) rfl | assumption) (Nat.le_of_ble_eq_true rfl) (by omega) (fun r h' hr => ?_)
    obtain ⟨he9, rfl⟩ := hr
    rw [he9]
    clear he9 h'
    show V X G 7 6 _ (vi (h.1 (3, 0, 2) (18 + 6 * w + 4)) :: _) _
    rw [hA]
    show V _ _ _ (3 + 3) _ (_ :: _) _
    refine v_iload_n hC (pc := 6) (k := 2) 2 rfl dX7_spreads_6 ?_
    refine v_ishr hC (pc := 7) dX7_spreads_7 ?_
    refine v_iconst hC (pc := 8) (v := 1) (by decide) dX7_spreads_8 ?_
    refine v_iand hC (pc := 9) dX7_spreads_9 ?_
    rw [hsd]
    refine v_istore hC (pc := 10) (l' := [(4, _), (0, _), (1, _), (2, _), (3, _)]) dX7_spreads_10 (by decide) rfl ?_
    refine v_aload_n hC (pc := 12) (k := 0) 1 rfl dX7_spreads_12 ?_
    refine v_getR hC (pc := 13) dX7_spreads_13 fl_X7_13 rfl (by first | rfl | exact ok_c hq rfl | exact ok_w hq hw | exact ok_w (by omega) (by omega) | exact ok_s (by omega) (by omega) | exact ok_c (by omega) rfl | assumption) rfl (by decide) (by decide) rfl ?_
    refine v_bipush hC (pc := 16) (v := 17) (by decide +kernel) dX7_spreads_16 ?_
    refine v_iald hC (pc := 18) dX7_spreads_18 rfl (by first | rfl | exact ok_c hq rfl | exact ok_w hq hw | exact ok_w (by omega) (by omega) | exact ok_s (by omega) (by omega) | exact ok_c (by omega) rfl | assumption) (vp_nat (n := 17) (by omega) (by decide)) ?_
    show V X G 7 19 _ (vi (h.1 (3, 0, 2) 17) :: _) _
    rw [hA]
    refine v_iload_n hC (pc := 19) (k := 2) 3 rfl dX7_spreads_19 ?_
    refine v_iadd hC (pc := 20) dX7_spreads_20 ?_
    refine v_aload_n hC (pc := 21) (k := 0) 1 rfl dX7_spreads_21 ?_
    refine v_iload_n hC (pc := 22) (k := 1) 2 rfl dX7_spreads_22 ?_
    refine v_iconst hC (pc := 23) (v := 5) (by decide) dX7_spreads_23 ?_
    refine v_callV hC (pc := 24) (As := [_, _]) dX7_spreads_24 rfl (m_of _ _ (d := d - 1) (by omega) _ (w := w) (by omega) (k := 5) (by decide)) cv_X7_187 rfl (by decide) rfl (by first | rfl | exact ok_c hq rfl | exact ok_w hq hw | exact ok_w (by omega) (by omega) | exact ok_s (by omega) (by omega) | exact ok_c (by omega) rfl | assumption) (Nat.le_of_ble_eq_true rfl) (by omega) (fun r h' hr => ?_)
    obtain ⟨he9, rfl⟩ := hr
    rw [he9]
    clear he9 h'
    show V X G 7 27 _ (vi (h.1 (3, 0, 2) (18 + 6 * w + 5)) :: _) _
    rw [hA]
    show V _ _ _ (24 + 3) _ (_ :: _) _
    refine v_isub hC (pc := 27) dX7_spreads_27 ?_
    rw [hhr]
    refine v_istore hC (pc := 28) (l' := [(5, _), (4, _), (0, _), (1, _), (2, _), (3, _)]) dX7_spreads_28 (by decide) rfl ?_
    refine v_iconst hC (pc := 30) (v := 0) (by decide) dX7_spreads_30 ?_
    refine v_istore hC (pc := 31) (l' := [(6, _), (5, _), (4, _), (0, _), (1, _), (2, _), (3, _)]) dX7_spreads_31 (by decide) rfl ?_
    exact l1 9 0 _ (by omega) (by omega) rfl (fun x hx => absurd hx (Nat.not_lt_zero _)) (fun j _ => rfl)
  · have hk1 : kpA A w = 0 := if_neg ek
    rw [hk1] at hwl hbd
    have l3 : ∀ (n k : Nat) (u : HP), k ≤ 8 → 8 + 1 ≤ k + n → u.1 = h.1 → (∀ x, x < 8 → u.2 (3, 0, 24) x = lN (sprF wl bd W v nC x)) → (∀ j, j ≠ (3, 0, 23) → j ≠ (3, 0, 24) → u.2 j = h.2 j) → (∀ x, x < k → u.2 (3, 0, 23) x = lN (sprF wl bd W v nC x)) → V X G 7 166 [(6, vi (nI k)), (5, vi hour), (4, vi (nI s)), (0, vr (3, 0, 0)), (1, vi (nI w)), (2, vi (nI i)), (3, vi (nI v))] [] u := by
      intro n
      induction n with
      | zero => intro k u h1 h2; exact absurd h2 (by omega)
      | succ n ih =>
        intro k u h1 h2 hu1 hu2 hu3 hu4
        refine v_iload hC (pc := 166) 0 rfl dX7_spreads_166 ?_
        refine v_bipush hC (pc := 168) (v := 8) (by decide +kernel) dX7_spreads_168 ?_
        refine v_icmp_ge hC (pc := 170) (tgt := 193) dX7_spreads_170 (by decide) (fun c_170 => ?_) (fun c_170 => ?_)
        · skip
          have hk : k = 8 := lp_ex (N := 8) c_170 h1 (by decide)
          refine v_vret hC hX (pc := 193) dX7_spreads_193 ?_
          exact ⟨rfl, hu1, fun x hx => hu4 x (by omega), fun j j1 j2 => hu3 j j1 j2⟩
        · skip
          have hk : k < 8 := lp_in (N := 8) c_170 h1 (by decide)
          refine v_aload_n hC (pc := 173) (k := 0) 3 rfl dX7_spreads_173 ?_
          refine v_getR hC (pc := 174) dX7_spreads_174 fl_X7_38 rfl (by first | rfl | exact ok_c hq rfl | exact ok_w hq hw | exact ok_w (by omega) (by omega) | exact ok_s (by omega) (by omega) | exact ok_c (by omega) rfl | assumption) rfl (by decide) (by decide) rfl ?_
          refine v_iload hC (pc := 177) 0 rfl dX7_spreads_177 ?_
          refine v_aload_n hC (pc := 179) (k := 0) 3 rfl dX7_spreads_179 ?_
          refine v_getR hC (pc := 180) dX7_spreads_180 fl_X7_42 rfl (by first | rfl | exact ok_c hq rfl | exact ok_w hq hw | exact ok_w (by omega) (by omega) | exact ok_s (by omega) (by omega) | exact ok_c (by omega) rfl | assumption) rfl (by decide) (by decide) rfl ?_
          refine v_iload hC (pc := 183) 0 rfl dX7_spreads_183 ?_
          refine v_lald hC (pc := 185) dX7_spreads_185 rfl (by first | rfl | exact ok_c hq rfl | exact ok_w hq hw | exact ok_w (by omega) (by omega) | exact ok_s (by omega) (by omega) | exact ok_c (by omega) rfl | assumption) (vp_nat (n := k) (by omega) (by decide)) ?_
          rw [nI_clamp (show k < 2 ^ 31 by omega)]
          refine v_last hC (pc := 186) dX7_spreads_186 rfl (by first | rfl | exact ok_c hq rfl | exact ok_w hq hw | exact ok_w (by omega) (by omega) | exact ok_s (by omega) (by omega) | exact ok_c (by omega) rfl | assumption) (vp_nat (n := k) (by omega) (by decide)) ?_
          rw [nI_clamp (show k < 2 ^ 31 by omega)]
          refine v_iinc hC (pc := 187) (l' := [(6, _), (5, _), (4, _), (0, _), (1, _), (2, _), (3, _)]) 0 (v := nI (k + 1)) dX7_spreads_187 rfl (nI_inc k) (by decide) rfl ?_
          refine v_goto hC (pc := 190) (tgt := 166) dX7_spreads_190 (by decide) ?_
          refine ih (k + 1) _ (by omega) (by omega) hu1 (fun x hx => ?_) (fun j j1 j2 => ?_) (fun x hx => ?_)
          · rw [upL_ne _ _ _ (show ((3, 0, 24) : PId) ≠ (3, 0, 23) by decide)]; exact hu2 x hx
          · rw [upL_ne _ _ _ j1]; exact hu3 j j1 j2
          · simp only [upL, true_and]
            by_cases e : x = k
            · subst e; rw [if_pos rfl]; exact hu2 x (by omega)
            · rw [if_neg e]; exact hu4 x (by omega)
    have l2 : ∀ (n c : Nat) (u : HP), c ≤ nC → nC + 1 ≤ c + n → u.1 = h.1 → (∀ x, x < 8 → u.2 (3, 0, 24) x = lN (itN (sprS wl bd W v) c (fun _ => 0) x)) → (∀ j, j ≠ (3, 0, 24) → u.2 j = h.2 j) → V X G 7 57 [(6, vi (nI c)), (5, vi hour), (4, vi (nI s)), (0, vr (3, 0, 0)), (1, vi (nI w)), (2, vi (nI i)), (3, vi (nI v))] [] u := by
      intro n
      induction n with
      | zero => intro c u h1 h2; exact absurd h2 (by omega)
      | succ n ih =>
        intro c u h1 h2 hu1 hu3 hu4
        refine v_iload hC (pc := 57) 0 rfl dX7_spreads_57 ?_
        refine v_aload_n hC (pc := 59) (k := 0) 3 rfl dX7_spreads_59 ?_
        refine v_getI hC (pc := 60) dX7_spreads_60 fl_X7_76 rfl (by first | rfl | exact ok_c hq rfl | exact ok_w hq hw | exact ok_w (by omega) (by omega) | exact ok_s (by omega) (by omega) | exact ok_c (by omega) rfl | assumption) rfl (by decide) (by decide) ?_
        refine v_icmp_ge hC (pc := 63) (tgt := 163) dX7_spreads_63 (by decide) (fun c_63 => ?_) (fun c_63 => ?_)
        · skip
          have hc : c = nC := lp_ex (by rw [hu1, hnc] at c_63; exact c_63) h1 (by omega)
          subst hc
          refine v_iconst hC (pc := 163) (v := 0) (by decide) dX7_spreads_163 ?_
          refine v_istore hC (pc := 164) (l' := [(6, _), (5, _), (4, _), (0, _), (1, _), (2, _), (3, _)]) dX7_spreads_164 (by decide) rfl ?_
          exact l3 9 0 _ (by omega) (by omega) hu1 hu3 (fun j j1 j2 => hu4 j j2) (fun x hx => absurd hx (Nat.not_lt_zero _))
        · skip
          have hc : c < nC := lp_in (by rw [hu1, hnc] at c_63; exact c_63) h1 (by omega)
          refine v_aload_n hC (pc := 66) (k := 0) 3 rfl dX7_spreads_66 ?_
          refine v_getR hC (pc := 67) dX7_spreads_67 fl_X7_42 rfl (by first | rfl | exact ok_c hq rfl | exact ok_w hq hw | exact ok_w (by omega) (by omega) | exact ok_s (by omega) (by omega) | exact ok_c (by omega) rfl | assumption) rfl (by decide) (by decide) rfl ?_
          refine v_aload_n hC (pc := 70) (k := 0) 3 rfl dX7_spreads_70 ?_
          refine v_iload hC (pc := 71) 0 rfl dX7_spreads_71 ?_
          refine v_iload hC (pc := 73) 2 rfl dX7_spreads_73 ?_
          refine v_iload hC (pc := 75) 1 rfl dX7_spreads_75 ?_
          refine v_aload_n hC (pc := 77) (k := 0) 3 rfl dX7_spreads_77 ?_
          refine v_iload_n hC (pc := 78) (k := 1) 4 rfl dX7_spreads_78 ?_
          refine v_iconst hC (pc := 79) (v := 2) (by decide) dX7_spreads_79 ?_
          refine v_callV hC (pc := 80) (As := [_, _]) dX7_spreads_80 rfl (m_of _ _ (d := d - 1) (by omega) _ (w := w) (by omega) (k := 2) (by decide)) cv_X7_187 rfl (by decide) rfl (by first | rfl | exact ok_c hq rfl | exact ok_w hq hw | exact ok_w (by omega) (by omega) | exact ok_s (by omega) (by omega) | exact ok_c (by omega) rfl | assumption) (Nat.le_of_ble_eq_true rfl) (by omega) (fun r h' hr => ?_)
          obtain ⟨he9, rfl⟩ := hr
          rw [he9]
          clear he9 h'
          show V X G 7 83 _ (vi (u.1 (3, 0, 2) (18 + 6 * w + 2)) :: _) _
          rw [hu1, hA]
          show V _ _ _ (80 + 3) _ (_ :: _) _
          refine v_iconst hC (pc := 83) (v := 1) (by decide) dX7_spreads_83 ?_
          refine v_icmp_ne hC (pc := 84) (tgt := 91) dX7_spreads_84 (by decide) (fun c_84 => ?_) (fun c_84 => ?_)
          · skip
            skip
            refine v_iconst hC (pc := 91) (v := 0) (by decide) dX7_spreads_91 ?_
            refine v_callV hC (pc := 92) (As := [_, _, _, _]) dX7_spreads_92 rfl (m_goesFrom _ _ (d := d - 1) (by omega) _ (c := c) (s := s) (by omega) hs _ _) cv_X7_200 rfl (by decide) rfl (by first | rfl | exact ok_c hq rfl | exact ok_w hq hw | exact ok_w (by omega) (by omega) | exact ok_s (by omega) (by omega) | exact ok_c (by omega) rfl | assumption) (Nat.le_of_ble_eq_true rfl) (by omega) (fun r h' hr => ?_)
            obtain ⟨he9, rfl⟩ := hr
            rw [he9]
            clear he9 h'
            show V X G 7 95 _ (vi (goM (u.1 (3, 0, 2)) c s hour 0) :: _) _
            rw [hu1, hA, (hwl c hc).1]
            have hwc := (hwl c hc).2
            show V _ _ _ (92 + 3) _ (_ :: _) _
            refine v_dup2 hC (pc := 95) dX7_spreads_95 ?_
            refine v_lald hC (pc := 96) dX7_spreads_96 rfl (by first | rfl | exact ok_c hq rfl | exact ok_w hq hw | exact ok_w (by omega) (by omega) | exact ok_s (by omega) (by omega) | exact ok_c (by omega) rfl | assumption) (vp_nat (n := wl c) (by omega) (by decide)) ?_
            rw [nI_clamp (show wl c < 2 ^ 31 by omega)]
            refine v_aload_n hC (pc := 97) (k := 0) 3 rfl dX7_spreads_97 ?_
            refine v_getR hC (pc := 98) dX7_spreads_98 fl_X7_38 rfl (by first | rfl | exact ok_c hq rfl | exact ok_w hq hw | exact ok_w (by omega) (by omega) | exact ok_s (by omega) (by omega) | exact ok_c (by omega) rfl | assumption) rfl (by decide) (by decide) rfl ?_
            refine v_iload hC (pc := 101) 0 rfl dX7_spreads_101 ?_
            refine v_lald hC (pc := 103) dX7_spreads_103 rfl (by first | rfl | exact ok_c hq rfl | exact ok_w hq hw | exact ok_w (by omega) (by omega) | exact ok_s (by omega) (by omega) | exact ok_c (by omega) rfl | assumption) (vp_nat (n := c) (by omega) (by decide)) ?_
            rw [nI_clamp (show c < 2 ^ 31 by omega)]
            refine v_bipush hC (pc := 104) (v := 10) (by decide +kernel) dX7_spreads_104 ?_
            refine v_iload_n hC (pc := 106) (k := 3) 6 rfl dX7_spreads_106 ?_
            refine v_isub hC (pc := 107) dX7_spreads_107 ?_
            rw [show (10 : Int32) = nI 10 from rfl, pk_sub hv]
            refine v_i2l hC (pc := 108) dX7_spreads_108 ?_
            rw [nI64 (show 10 - v < 2 ^ 31 by omega)]
            refine v_lmul hC (pc := 109) dX7_spreads_109 ?_
            refine v_ladd hC (pc := 110) dX7_spreads_110 ?_
            refine v_last hC (pc := 111) dX7_spreads_111 rfl (by first | rfl | exact ok_c hq rfl | exact ok_w hq hw | exact ok_w (by omega) (by omega) | exact ok_s (by omega) (by omega) | exact ok_c (by omega) rfl | assumption) (vp_nat (n := wl c) (by omega) (by decide)) ?_
            rw [nI_clamp (show wl c < 2 ^ 31 by omega)]
            refine v_aload_n hC (pc := 112) (k := 0) 3 rfl dX7_spreads_112 ?_
            refine v_getR hC (pc := 113) dX7_spreads_113 fl_X7_42 rfl (by first | rfl | exact ok_c hq rfl | exact ok_w hq hw | exact ok_w (by omega) (by omega) | exact ok_s (by omega) (by omega) | exact ok_c (by omega) rfl | assumption) rfl (by decide) (by decide) rfl ?_
            refine v_aload_n hC (pc := 116) (k := 0) 3 rfl dX7_spreads_116 ?_
            refine v_iload hC (pc := 117) 0 rfl dX7_spreads_117 ?_
            refine v_iconst hC (pc := 119) (v := 1) (by decide) dX7_spreads_119 ?_
            refine v_iload hC (pc := 120) 2 rfl dX7_spreads_120 ?_
            refine v_isub hC (pc := 122) dX7_spreads_122 ?_
            rw [nL_1, pk_sub (show s ≤ 1 by omega)]
            refine v_iload hC (pc := 123) 1 rfl dX7_spreads_123 ?_
            refine v_aload_n hC (pc := 125) (k := 0) 3 rfl dX7_spreads_125 ?_
            refine v_iload_n hC (pc := 126) (k := 1) 4 rfl dX7_spreads_126 ?_
            refine v_iconst hC (pc := 127) (v := 2) (by decide) dX7_spreads_127 ?_
            refine v_callV hC (pc := 128) (As := [_, _]) dX7_spreads_128 rfl (m_of _ _ (d := d - 1) (by omega) _ (w := w) (by omega) (k := 2) (by decide)) cv_X7_187 rfl (by decide) rfl (by first | rfl | exact ok_c hq rfl | exact ok_w hq hw | exact ok_w (by omega) (by omega) | exact ok_s (by omega) (by omega) | exact ok_c (by omega) rfl | assumption) (Nat.le_of_ble_eq_true rfl) (by omega) (fun r h' hr => ?_)
            obtain ⟨he9, rfl⟩ := hr
            rw [he9]
            clear he9 h'
            show V X G 7 131 _ (vi (u.1 (3, 0, 2) (18 + 6 * w + 2)) :: _) _
            rw [hu1, hA]
            show V _ _ _ (128 + 3) _ (_ :: _) _
            refine v_iconst hC (pc := 131) (v := 1) (by decide) dX7_spreads_131 ?_
            refine v_icmp_ne hC (pc := 132) (tgt := 139) dX7_spreads_132 (by decide) (fun c_132 => ?_) (fun c_132 => ?_)
            · skip
              skip
              refine v_iconst hC (pc := 139) (v := 0) (by decide) dX7_spreads_139 ?_
              refine v_callV hC (pc := 140) (As := [_, _, _, _]) dX7_spreads_140 rfl (m_goesFrom _ _ (d := d - 1) (by omega) _ (c := c) (s := 1 - s) (by omega) (by omega) _ _) cv_X7_200 rfl (by decide) rfl (by first | rfl | exact ok_c hq rfl | exact ok_w hq hw | exact ok_w (by omega) (by omega) | exact ok_s (by omega) (by omega) | exact ok_c (by omega) rfl | assumption) (Nat.le_of_ble_eq_true rfl) (by omega) (fun r h' hr => ?_)
              obtain ⟨he9, rfl⟩ := hr
              rw [he9]
              clear he9 h'
              show V X G 7 143 _ (vi (goM (u.1 (3, 0, 2)) c (1 - s) hour 0) :: _) _
              rw [hu1, hA, (hbd c hc).1]
              have hbc := (hbd c hc).2
              show V _ _ _ (140 + 3) _ (_ :: _) _
              refine v_dup2 hC (pc := 143) dX7_spreads_143 ?_
              refine v_lald hC (pc := 144) dX7_spreads_144 rfl (by first | rfl | exact ok_c hq rfl | exact ok_w hq hw | exact ok_w (by omega) (by omega) | exact ok_s (by omega) (by omega) | exact ok_c (by omega) rfl | assumption) (vp_nat (n := bd c) (by omega) (by decide)) ?_
              rw [nI_clamp (show bd c < 2 ^ 31 by omega)]
              refine v_aload_n hC (pc := 145) (k := 0) 3 rfl dX7_spreads_145 ?_
              refine v_getR hC (pc := 146) dX7_spreads_146 fl_X7_38 rfl (by first | rfl | exact ok_c hq rfl | exact ok_w hq hw | exact ok_w (by omega) (by omega) | exact ok_s (by omega) (by omega) | exact ok_c (by omega) rfl | assumption) rfl (by decide) (by decide) rfl ?_
              refine v_iload hC (pc := 149) 0 rfl dX7_spreads_149 ?_
              refine v_lald hC (pc := 151) dX7_spreads_151 rfl (by first | rfl | exact ok_c hq rfl | exact ok_w hq hw | exact ok_w (by omega) (by omega) | exact ok_s (by omega) (by omega) | exact ok_c (by omega) rfl | assumption) (vp_nat (n := c) (by omega) (by decide)) ?_
              rw [nI_clamp (show c < 2 ^ 31 by omega)]
              refine v_iload_n hC (pc := 152) (k := 3) 6 rfl dX7_spreads_152 ?_
              refine v_i2l hC (pc := 153) dX7_spreads_153 ?_
              rw [nI64 (show v < 2 ^ 31 by omega)]
              refine v_lmul hC (pc := 154) dX7_spreads_154 ?_
              refine v_ladd hC (pc := 155) dX7_spreads_155 ?_
              refine v_last hC (pc := 156) dX7_spreads_156 rfl (by first | rfl | exact ok_c hq rfl | exact ok_w hq hw | exact ok_w (by omega) (by omega) | exact ok_s (by omega) (by omega) | exact ok_c (by omega) rfl | assumption) (vp_nat (n := bd c) (by omega) (by decide)) ?_
              rw [nI_clamp (show bd c < 2 ^ 31 by omega)]
              refine v_iinc hC (pc := 157) (l' := [(6, _), (5, _), (4, _), (0, _), (1, _), (2, _), (3, _)]) 0 (v := nI (c + 1)) dX7_spreads_157 rfl (nI_inc c) (by decide) rfl ?_
              refine v_goto hC (pc := 160) (tgt := 57) dX7_spreads_160 (by decide) ?_
              refine ih (c + 1) _ (by omega) (by omega) hu1 (fun x hx => ?_) (fun j j1 => ?_)
              · rw [itN_s]
                have e1 := hu3 (wl c) (by omega)
                have e2 := hu3 (bd c) (by omega)
                have e3 := hu3 x hx
                have e4 : u.2 (3, 0, 23) c = lN (W c) := by rw [hu4 _ (by decide)]; exact hW c (by omega)
                generalize itN (sprS wl bd W v) c (fun _ => 0) = N at e1 e2 e3 ⊢
                unfold sprS
                simp only [upL, true_and, e4, e1, e2, e3, show ((3, 0, 23) : PId) = (3, 0, 24) ↔ False from by decide, false_and, if_false]
                by_cases z1 : x = wl c <;> by_cases z2 : x = bd c <;> by_cases z3 : bd c = wl c
                all_goals (simp [z1, z2, z3, show (wl c = bd c) = (bd c = wl c) from propext eq_comm, lN_mul, lN_add]; try omega)
              · rw [upL_ne _ _ _ j1, upL_ne _ _ _ j1]
                exact hu4 j j1
            · exact absurd c_132 ek
          · exact absurd c_84 ek
    have l1 : ∀ (n k : Nat) (u : HP), k ≤ 8 → 8 + 1 ≤ k + n → u.1 = h.1 → (∀ x, x < k → u.2 (3, 0, 24) x = lN 0) → (∀ j, j ≠ (3, 0, 24) → u.2 j = h.2 j) → V X G 7 33 [(6, vi (nI k)), (5, vi hour), (4, vi (nI s)), (0, vr (3, 0, 0)), (1, vi (nI w)), (2, vi (nI i)), (3, vi (nI v))] [] u := by
      intro n
      induction n with
      | zero => intro k u h1 h2; exact absurd h2 (by omega)
      | succ n ih =>
        intro k u h1 h2 hu1 hu3 hu4
        refine v_iload hC (pc := 33) 0 rfl dX7_spreads_33 ?_
        refine v_bipush hC (pc := 35) (v := 8) (by decide +kernel) dX7_spreads_35 ?_
        refine v_icmp_ge hC (pc := 37) (tgt := 54) dX7_spreads_37 (by decide) (fun c_37 => ?_) (fun c_37 => ?_)
        · skip
          have hk : k = 8 := lp_ex (N := 8) c_37 h1 (by decide)
          refine v_iconst hC (pc := 54) (v := 0) (by decide) dX7_spreads_54 ?_
          refine v_istore hC (pc := 55) (l' := [(6, _), (5, _), (4, _), (0, _), (1, _), (2, _), (3, _)]) dX7_spreads_55 (by decide) rfl ?_
          exact l2 (nC + 1) 0 _ (by omega) (by omega) hu1 (fun x hx => hu3 x (by omega)) hu4
        · skip
          have hk : k < 8 := lp_in (N := 8) c_37 h1 (by decide)
          refine v_aload_n hC (pc := 40) (k := 0) 3 rfl dX7_spreads_40 ?_
          refine v_getR hC (pc := 41) dX7_spreads_41 fl_X7_42 rfl (by first | rfl | exact ok_c hq rfl | exact ok_w hq hw | exact ok_w (by omega) (by omega) | exact ok_s (by omega) (by omega) | exact ok_c (by omega) rfl | assumption) rfl (by decide) (by decide) rfl ?_
          refine v_iload hC (pc := 44) 0 rfl dX7_spreads_44 ?_
          refine v_lconst hC (pc := 46) (v := 0) (by decide) dX7_spreads_46 ?_
          refine v_last hC (pc := 47) dX7_spreads_47 rfl (by first | rfl | exact ok_c hq rfl | exact ok_w hq hw | exact ok_w (by omega) (by omega) | exact ok_s (by omega) (by omega) | exact ok_c (by omega) rfl | assumption) (vp_nat (n := k) (by omega) (by decide)) ?_
          rw [nI_clamp (show k < 2 ^ 31 by omega)]
          refine v_iinc hC (pc := 48) (l' := [(6, _), (5, _), (4, _), (0, _), (1, _), (2, _), (3, _)]) 0 (v := nI (k + 1)) dX7_spreads_48 rfl (nI_inc k) (by decide) rfl ?_
          refine v_goto hC (pc := 51) (tgt := 33) dX7_spreads_51 (by decide) ?_
          refine ih (k + 1) _ (by omega) (by omega) hu1 (fun x hx => ?_) (fun j j1 => ?_)
          · simp only [upL, true_and]
            by_cases e : x = k
            · subst e; rw [if_pos rfl]; rfl
            · rw [if_neg e]; exact hu3 x (by omega)
          · rw [upL_ne _ _ _ j1]; exact hu4 j j1
    refine v_aload_n hC (pc := 0) (k := 0) 0 rfl dX7_spreads_0 ?_
    refine v_iload_n hC (pc := 1) (k := 1) 1 rfl dX7_spreads_1 ?_
    refine v_iconst hC (pc := 2) (v := 4) (by decide) dX7_spreads_2 ?_
    refine v_callV hC (pc := 3) (As := [_, _]) dX7_spreads_3 rfl (m_of _ _ (d := d - 1) (by omega) _ (w := w) (by omega) (k := 4) (by decide)) cv_X7_187 rfl (by decide) rfl (by first | rfl | exact ok_c hq rfl | exact ok_w hq hw | exact ok_w (by omega) (by omega) | exact ok_s (by omega) (by omega) | exact ok_c (by omega) rfl | assumption) (Nat.le_of_ble_eq_true rfl) (by omega) (fun r h' hr => ?_)
    obtain ⟨he9, rfl⟩ := hr
    rw [he9]
    clear he9 h'
    show V X G 7 6 _ (vi (h.1 (3, 0, 2) (18 + 6 * w + 4)) :: _) _
    rw [hA]
    show V _ _ _ (3 + 3) _ (_ :: _) _
    refine v_iload_n hC (pc := 6) (k := 2) 2 rfl dX7_spreads_6 ?_
    refine v_ishr hC (pc := 7) dX7_spreads_7 ?_
    refine v_iconst hC (pc := 8) (v := 1) (by decide) dX7_spreads_8 ?_
    refine v_iand hC (pc := 9) dX7_spreads_9 ?_
    rw [hsd]
    refine v_istore hC (pc := 10) (l' := [(4, _), (0, _), (1, _), (2, _), (3, _)]) dX7_spreads_10 (by decide) rfl ?_
    refine v_aload_n hC (pc := 12) (k := 0) 1 rfl dX7_spreads_12 ?_
    refine v_getR hC (pc := 13) dX7_spreads_13 fl_X7_13 rfl (by first | rfl | exact ok_c hq rfl | exact ok_w hq hw | exact ok_w (by omega) (by omega) | exact ok_s (by omega) (by omega) | exact ok_c (by omega) rfl | assumption) rfl (by decide) (by decide) rfl ?_
    refine v_bipush hC (pc := 16) (v := 17) (by decide +kernel) dX7_spreads_16 ?_
    refine v_iald hC (pc := 18) dX7_spreads_18 rfl (by first | rfl | exact ok_c hq rfl | exact ok_w hq hw | exact ok_w (by omega) (by omega) | exact ok_s (by omega) (by omega) | exact ok_c (by omega) rfl | assumption) (vp_nat (n := 17) (by omega) (by decide)) ?_
    show V X G 7 19 _ (vi (h.1 (3, 0, 2) 17) :: _) _
    rw [hA]
    refine v_iload_n hC (pc := 19) (k := 2) 3 rfl dX7_spreads_19 ?_
    refine v_iadd hC (pc := 20) dX7_spreads_20 ?_
    refine v_aload_n hC (pc := 21) (k := 0) 1 rfl dX7_spreads_21 ?_
    refine v_iload_n hC (pc := 22) (k := 1) 2 rfl dX7_spreads_22 ?_
    refine v_iconst hC (pc := 23) (v := 5) (by decide) dX7_spreads_23 ?_
    refine v_callV hC (pc := 24) (As := [_, _]) dX7_spreads_24 rfl (m_of _ _ (d := d - 1) (by omega) _ (w := w) (by omega) (k := 5) (by decide)) cv_X7_187 rfl (by decide) rfl (by first | rfl | exact ok_c hq rfl | exact ok_w hq hw | exact ok_w (by omega) (by omega) | exact ok_s (by omega) (by omega) | exact ok_c (by omega) rfl | assumption) (Nat.le_of_ble_eq_true rfl) (by omega) (fun r h' hr => ?_)
    obtain ⟨he9, rfl⟩ := hr
    rw [he9]
    clear he9 h'
    show V X G 7 27 _ (vi (h.1 (3, 0, 2) (18 + 6 * w + 5)) :: _) _
    rw [hA]
    show V _ _ _ (24 + 3) _ (_ :: _) _
    refine v_isub hC (pc := 27) dX7_spreads_27 ?_
    rw [hhr]
    refine v_istore hC (pc := 28) (l' := [(5, _), (4, _), (0, _), (1, _), (2, _), (3, _)]) dX7_spreads_28 (by decide) rfl ?_
    refine v_iconst hC (pc := 30) (v := 0) (by decide) dX7_spreads_30 ?_
    refine v_istore hC (pc := 31) (l' := [(6, _), (5, _), (4, _), (0, _), (1, _), (2, _), (3, _)]) dX7_spreads_31 (by decide) rfl ?_
    exact l1 9 0 _ (by omega) (by omega) rfl (fun x hx => absurd hx (Nat.not_lt_zero _)) (fun j _ => rfl)

