/-! THE REFERENCE: shortest ways, their letters -/
theorem scr_t {h u v : HP} (h1 : scr h u) (h2 : scr u v) : scr h v := ⟨fun i z => (h2.1 i z).trans (h1.1 i z), fun i z => (h2.2 i z).trans (h1.2 i z)⟩
set_option maxRecDepth 20000 in
set_option maxHeartbeats 2000000 in
theorem m_shortest (l9 : Launch) (G : WT) {d : Nat} (hd : 5 ≤ d) (h : HP) {nC : Nat} (hn8 : nC ≤ 8) (hnc : h.1 (3, 0, 0) 3 = nI nC) {A : Nat → Int32} (hA : h.1 (3, 0, 2) = A) (hS : wfS A nC) {sg : Int32} (hsg : A 16 = sg) {a b hr ohr : Nat} (ha8 : a < 8) (hb : b < 8) (hhr : hr < 1000) (hohr : ohr < 1000) : MS l9 G yX7_shortest cX7_shortest 6 (some .int) d [vr (3, 0, 0), vi (nI a), vi (nI b), vi (nI hr), vi (nI ohr)] h (fun r h1 => (∃ n, n ≤ 24 ∧ r = some (vi (nI n)) ∧ scr h h1 ∧ h1.1 (3, 0, 2) = A ∧ cnF (LM A sg nC) hr ohr (b * 8 + b) n 0 (a * 8 + a) ∧ (∀ m, m < n → ¬ cnF (LM A sg nC) hr ohr (b * 8 + b) m 0 (a * 8 + a)) ∧ ∀ j, j ≤ n → ∀ p, p < 64 → h1.1 (3, 0, 22) (64 * j + p) = bP (cnF (LM A sg nC) hr ohr (b * 8 + b) (n - j) j p)) ∨ (r = some (vi (-4)) ∧ scr h h1 ∧ h1.1 (3, 0, 2) = A ∧ ∀ m, m ≤ 24 → ¬ cnF (LM A sg nC) hr ohr (b * 8 + b) m 0 (a * 8 + a))) := by
  refine MS_of (by decide +kernel) (Nat.le_of_ble_eq_true rfl) (fun X hC hX => ?_)
  show V X G 6 0 _ [] _
  have loop : ∀ (n m : Nat) (u : HP), m ≤ 25 → 26 ≤ m + n → scr h u → u.1 (3, 0, 2) = A → (∀ m1, m1 < m → ¬ cnF (LM A sg nC) hr ohr (b * 8 + b) m1 0 (a * 8 + a)) → V X G 6 3 [(5, vi (nI m)), (0, vr (3, 0, 0)), (1, vi (nI a)), (2, vi (nI b)), (3, vi (nI hr)), (4, vi (nI ohr))] [] u := by
    intro n
    induction n with
    | zero => intro m u h1 h2; exact absurd h2 (by omega)
    | succ n ih =>
      intro m u h1 h2 ha haA hno
      refine v_iload hC (pc := 3) 0 rfl dX7_shortest_3 ?_
      refine v_bipush hC (pc := 5) (v := 24) (by decide +kernel) dX7_shortest_5 ?_
      refine v_icmp_gt hC (pc := 7) (tgt := 41) dX7_shortest_7 (by decide) (fun c_7 => ?_) (fun c_7 => ?_)
      · skip
        have hm : 24 < m := lp_gt (N := 24) c_7 (by decide) (by omega)
        refine v_bipush hC (pc := 41) (v := (-4)) (by decide +kernel) dX7_shortest_41 ?_
        refine v_iret hC hX (pc := 43) dX7_shortest_43 ?_
        exact Or.inr ⟨rfl, ha, haA, fun m1 y => hno m1 (by omega)⟩
      · skip
        have hm : m ≤ 24 := lp_ngt (N := 24) c_7 (by decide) (by omega)
        refine v_aload_n hC (pc := 10) (k := 0) 1 rfl dX7_shortest_10 ?_
        refine v_iload_n hC (pc := 11) (k := 1) 2 rfl dX7_shortest_11 ?_
        refine v_iload_n hC (pc := 12) (k := 1) 2 rfl dX7_shortest_12 ?_
        refine v_iload_n hC (pc := 13) (k := 2) 3 rfl dX7_shortest_13 ?_
        refine v_iload_n hC (pc := 14) (k := 3) 4 rfl dX7_shortest_14 ?_
        refine v_iload hC (pc := 15) 5 rfl dX7_shortest_15 ?_
        refine v_iload hC (pc := 17) 0 rfl dX7_shortest_17 ?_
        refine v_aload_n hC (pc := 19) (k := 0) 1 rfl dX7_shortest_19 ?_
        refine v_getR hC (pc := 20) dX7_shortest_20 fl_X7_13 rfl (by first | rfl | exact ok_c hq rfl | exact ok_w hq hw | exact ok_w (by omega) (by omega) | exact ok_s (by omega) (by omega) | exact ok_c (by omega) rfl | assumption) rfl (by decide) (by decide) rfl ?_
        refine v_bipush hC (pc := 23) (v := 16) (by decide +kernel) dX7_shortest_23 ?_
        refine v_iald hC (pc := 25) dX7_shortest_25 rfl (by first | rfl | exact ok_c hq rfl | exact ok_w hq hw | exact ok_w (by omega) (by omega) | exact ok_s (by omega) (by omega) | exact ok_c (by omega) rfl | assumption) (vp_nat (n := 16) (by omega) (by decide)) ?_
        show V X G 6 26 _ (vi (u.1 (3, 0, 2) 16) :: _) _
        rw [haA, hsg]
        refine v_callV hC (pc := 26) (As := [_, _, _, _, _, _, _]) dX7_shortest_26 rfl (m_findWay _ _ (d := d - 1) (by omega) _ hn8 (by rw [scr_0 ha]; exact hnc) haA hS (a := a) (b := b) (m := m) (hr := hr) (ohr := ohr) ha8 hb (by omega) hhr hohr _) cv_X7_244 rfl (by decide) rfl (by first | rfl | exact ok_c hq rfl | exact ok_w hq hw | exact ok_w (by omega) (by omega) | exact ok_s (by omega) (by omega) | exact ok_c (by omega) rfl | assumption) (Nat.le_of_ble_eq_true rfl) (by omega) (fun r h' hr => ?_)
        obtain ⟨rfl, hsc, hA2, hcan⟩ := hr
        have ha := scr_t ha hsc
        show V _ _ _ (26 + 3) _ (_ :: _) _
        refine v_if_eq hC (pc := 29) (tgt := 35) dX7_shortest_29 (by decide) (fun c_29 => ?_) (fun c_29 => ?_)
        · skip
          refine v_iinc hC (pc := 35) (l' := [(5, _), (0, _), (1, _), (2, _), (3, _), (4, _)]) 0 (v := nI (m + 1)) dX7_shortest_35 rfl (nI_inc m) (by decide) rfl ?_
          refine v_goto hC (pc := 38) (tgt := 3) dX7_shortest_38 (by decide) ?_
          exact ih (m + 1) _ (by omega) (by omega) ha hA2 (fun m1 y => by
            rcases (show m1 < m ∨ m1 = m by omega) with q | rfl
            · exact hno m1 q
            · exact bP_0.mp c_29)
        · skip
          refine v_iload hC (pc := 32) 0 rfl dX7_shortest_32 ?_
          refine v_iret hC hX (pc := 34) dX7_shortest_34 ?_
          exact Or.inl ⟨m, hm, rfl, ha, hA2, bP_1.mp ((bP_01 _).resolve_left c_29), hno, hcan⟩
  refine v_iconst hC (pc := 0) (v := 0) (by decide) dX7_shortest_0 ?_
  refine v_istore hC (pc := 1) (l' := [(5, _), (0, _), (1, _), (2, _), (3, _), (4, _)]) dX7_shortest_1 (by decide) rfl ?_
  exact loop 26 0 h (by omega) (by omega) (scr_r h) hA (fun m1 y => absurd y (Nat.not_lt_zero _))

/-- the letter that the loop holds ahead of step k -/
noncomputable def lettV (L : Nat → Nat → Nat → Option Nat) (hr ohr g n a : Nat) : Nat → Int32
  | 0 => -4
  | k + 1 => nI (ltF L hr ohr g n k (curF L hr ohr g n a k))
theorem curF_lt {A : Nat → Int32} {nC : Nat} {sg : Int32} (h8 : nC ≤ 8) (hS : wfS A nC) {hr ohr g n a : Nat} (ha : a < 8) : ∀ k, curF (LM A sg nC) hr ohr g n a k < 64
  | 0 => by
    show a * 8 + a < 64
    omega
  | k + 1 => by
    show (stp (LM A sg nC) hr ohr (curF (LM A sg nC) hr ohr g n a k) (ltF (LM A sg nC) hr ohr g n k (curF (LM A sg nC) hr ohr g n a k)) k).getD 0 < 64
    rcases e : stp (LM A sg nC) hr ohr (curF (LM A sg nC) hr ohr g n a k) (ltF (LM A sg nC) hr ohr g n k (curF (LM A sg nC) hr ohr g n a k)) k with _ | t
    · show 0 < 64
      decide
    · exact stp_LM h8 hS e
set_option maxRecDepth 20000 in
set_option maxHeartbeats 2000000 in
theorem m_letterOf (l9 : Launch) (G : WT) {d : Nat} (hd : 5 ≤ d) (h : HP) {nC : Nat} (hn8 : nC ≤ 8) (hnc : h.1 (3, 0, 0) 3 = nI nC) {A : Nat → Int32} (hA : h.1 (3, 0, 2) = A) (hS : wfS A nC) {sg : Int32} (hsg : A 16 = sg) {a b m i hr ohr : Nat} (ha8 : a < 8) (hm : m ≤ 24) (him : i < m) (hcn0 : cnF (LM A sg nC) hr ohr (b * 8 + b) m 0 (a * 8 + a)) (hcan : ∀ j, j ≤ m → ∀ p, p < 64 → h.1 (3, 0, 22) (64 * j + p) = bP (cnF (LM A sg nC) hr ohr (b * 8 + b) (m - j) j p)) : MS l9 G yX7_letterOf cX7_letterOf 10 (some .int) d [vr (3, 0, 0), vi (nI a), vi (nI hr), vi (nI ohr), vi (nI m), vi (nI i)] h (fun r h1 => h1 = h ∧ r = some (vi (nI (ltF (LM A sg nC) hr ohr (b * 8 + b) m i (curF (LM A sg nC) hr ohr (b * 8 + b) m a i))))) := by
  refine MS_of (by decide +kernel) (Nat.le_of_ble_eq_true rfl) (fun X hC hX => ?_)
  show V X G 10 0 _ [] _
  have loop : ∀ (n k : Nat), k ≤ i + 1 → i + 2 ≤ k + n → cnF (LM A sg nC) hr ohr (b * 8 + b) (m - k) k (curF (LM A sg nC) hr ohr (b * 8 + b) m a k) → V X G 10 15 [(8, vi (nI k)), (6, vi (nI (curF (LM A sg nC) hr ohr (b * 8 + b) m a k))), (7, vi (lettV (LM A sg nC) hr ohr (b * 8 + b) m a k)), (0, vr (3, 0, 0)), (1, vi (nI a)), (2, vi (nI hr)), (3, vi (nI ohr)), (4, vi (nI m)), (5, vi (nI i))] [] h := by
    intro n
    induction n with
    | zero => intro k h1 h2; exact absurd h2 (by omega)
    | succ n ih =>
      intro k h1 h2 hcn
      have hp64 : (curF (LM A sg nC) hr ohr (b * 8 + b) m a k) < 64 := curF_lt hn8 hS ha8 k
      refine v_iload hC (pc := 15) 0 rfl dX7_letterOf_15 ?_
      refine v_iload hC (pc := 17) 8 rfl dX7_letterOf_17 ?_
      refine v_icmp_gt hC (pc := 19) (tgt := 141) dX7_letterOf_19 (by decide) (fun c_19 => ?_) (fun c_19 => ?_)
      · skip
        have hki : i < k := lp_gt c_19 (by omega) (by omega)
        refine v_iload hC (pc := 141) 2 rfl dX7_letterOf_141 ?_
        refine v_iret hC hX (pc := 143) dX7_letterOf_143 ?_
        have hk : k = i + 1 := by omega
        subst hk
        exact ⟨rfl, rfl⟩
      · skip
        have hki : k ≤ i := lp_ngt c_19 (by omega) (by omega)
        have hk : k < m := by omega
        obtain ⟨p, hpc⟩ : ∃ p, p = (curF (LM A sg nC) hr ohr (b * 8 + b) m a k) := ⟨_, rfl⟩
        rw [← hpc] at hcn hp64
        rw [← hpc]
        refine v_iload hC (pc := 22) 8 rfl dX7_letterOf_22 ?_
        refine v_iload hC (pc := 24) 7 rfl dX7_letterOf_24 ?_
        refine v_icmp_ge hC (pc := 26) (tgt := 141) dX7_letterOf_26 (by decide) (fun c_26 => ?_) (fun c_26 => ?_)
        · exact absurd c_26 (nI_ge him (by omega))
        · skip
          refine v_aload_n hC (pc := 29) (k := 0) 3 rfl dX7_letterOf_29 ?_
          refine v_iload hC (pc := 30) 1 rfl dX7_letterOf_30 ?_
          refine v_bipush hC (pc := 32) (v := 8) (by decide +kernel) dX7_letterOf_32 ?_
          refine v_idiv hC (pc := 34) (by decide) dX7_letterOf_34 ?_
          rw [nL_8, pk_div (show p < 2 ^ 31 by omega) (by decide) (by decide)]
          refine v_iload hC (pc := 35) 1 rfl dX7_letterOf_35 ?_
          refine v_bipush hC (pc := 37) (v := 8) (by decide +kernel) dX7_letterOf_37 ?_
          refine v_irem hC (pc := 39) (by decide) dX7_letterOf_39 ?_
          rw [nL_8, pk_rem (show p < 2 ^ 31 by omega) (by decide) (by decide)]
          refine v_iconst hC (pc := 40) (v := 0) (by decide) dX7_letterOf_40 ?_
          refine v_iload_n hC (pc := 41) (k := 2) 5 rfl dX7_letterOf_41 ?_
          refine v_iload hC (pc := 42) 0 rfl dX7_letterOf_42 ?_
          refine v_iadd hC (pc := 44) dX7_letterOf_44 ?_
          rw [nI_add]
          refine v_iload_n hC (pc := 45) (k := 3) 6 rfl dX7_letterOf_45 ?_
          refine v_iload hC (pc := 46) 0 rfl dX7_letterOf_46 ?_
          refine v_iadd hC (pc := 48) dX7_letterOf_48 ?_
          rw [nI_add]
          refine v_aload_n hC (pc := 49) (k := 0) 3 rfl dX7_letterOf_49 ?_
          refine v_getR hC (pc := 50) dX7_letterOf_50 fl_X7_13 rfl (by first | rfl | exact ok_c hq rfl | exact ok_w hq hw | exact ok_w (by omega) (by omega) | exact ok_s (by omega) (by omega) | exact ok_c (by omega) rfl | assumption) rfl (by decide) (by decide) rfl ?_
          refine v_bipush hC (pc := 53) (v := 16) (by decide +kernel) dX7_letterOf_53 ?_
          refine v_iald hC (pc := 55) dX7_letterOf_55 rfl (by first | rfl | exact ok_c hq rfl | exact ok_w hq hw | exact ok_w (by omega) (by omega) | exact ok_s (by omega) (by omega) | exact ok_c (by omega) rfl | assumption) (vp_nat (n := 16) (by omega) (by decide)) ?_
          show V X G 10 56 _ (vi (h.1 (3, 0, 2) 16) :: _) _
          rw [hA, hsg]
          refine v_callV hC (pc := 56) (As := [_, _, _, _, _, _]) dX7_letterOf_56 rfl (m_pairBy _ _ (d := d - 1) (by omega) _ hn8 hnc hA hS (p := p) (s := 0) (hr := hr) (ohr := ohr) (i := k) hp64 (by decide) _) cv_X7_240 rfl (by decide) rfl (by first | rfl | exact ok_c hq rfl | exact ok_w hq hw | exact ok_w (by omega) (by omega) | exact ok_s (by omega) (by omega) | exact ok_c (by omega) rfl | assumption) (Nat.le_of_ble_eq_true rfl) (by omega) (fun r h' hr => ?_)
          obtain ⟨he9, rfl⟩ := hr
          rw [he9]
          clear he9 h'
          show V _ _ _ (56 + 3) _ (_ :: _) _
          have hlt : ∀ t, stp (LM A sg nC) hr ohr p 0 k = some t → t < 64 := fun t => stp_LM hn8 hS
          refine v_istore hC (pc := 59) (l' := [(9, _), (8, _), (6, _), (7, _), (0, _), (1, _), (2, _), (3, _), (4, _), (5, _)]) dX7_letterOf_59 (by decide) rfl ?_
          refine v_iload hC (pc := 61) 0 rfl dX7_letterOf_61 ?_
          refine v_bipush hC (pc := 63) (v := (-4)) (by decide +kernel) dX7_letterOf_63 ?_
          refine v_icmp_eq hC (pc := 65) (tgt := 90) dX7_letterOf_65 (by decide) (fun c_65 => ?_) (fun c_65 => ?_)
          · skip
            refine v_iconst hC (pc := 90) (v := 1) (by decide) dX7_letterOf_90 ?_
            skip
            refine v_istore hC (pc := 91) (l' := [(7, _), (9, _), (8, _), (6, _), (0, _), (1, _), (2, _), (3, _), (4, _), (5, _)]) dX7_letterOf_91 (by decide) rfl ?_
            refine v_iload hC (pc := 93) 0 rfl dX7_letterOf_93 ?_
            refine v_if_ne hC (pc := 95) (tgt := 103) dX7_letterOf_95 (by decide) (fun c_95 => ?_) (fun c_95 => ?_)
            · skip
              refine v_aload_n hC (pc := 103) (k := 0) 4 rfl dX7_letterOf_103 ?_
              refine v_iload hC (pc := 104) 3 rfl dX7_letterOf_104 ?_
              refine v_bipush hC (pc := 106) (v := 8) (by decide +kernel) dX7_letterOf_106 ?_
              refine v_idiv hC (pc := 108) (by decide) dX7_letterOf_108 ?_
              rw [nL_8, pk_div (show p < 2 ^ 31 by omega) (by decide) (by decide)]
              refine v_iload hC (pc := 109) 3 rfl dX7_letterOf_109 ?_
              refine v_bipush hC (pc := 111) (v := 8) (by decide +kernel) dX7_letterOf_111 ?_
              refine v_irem hC (pc := 113) (by decide) dX7_letterOf_113 ?_
              rw [nL_8, pk_rem (show p < 2 ^ 31 by omega) (by decide) (by decide)]
              refine v_iconst hC (pc := 114) (v := 1) (by decide) dX7_letterOf_114 ?_
              refine v_iload_n hC (pc := 115) (k := 2) 6 rfl dX7_letterOf_115 ?_
              refine v_iload hC (pc := 116) 2 rfl dX7_letterOf_116 ?_
              refine v_iadd hC (pc := 118) dX7_letterOf_118 ?_
              rw [nI_add]
              refine v_iload_n hC (pc := 119) (k := 3) 7 rfl dX7_letterOf_119 ?_
              refine v_iload hC (pc := 120) 2 rfl dX7_letterOf_120 ?_
              refine v_iadd hC (pc := 122) dX7_letterOf_122 ?_
              rw [nI_add]
              refine v_aload_n hC (pc := 123) (k := 0) 4 rfl dX7_letterOf_123 ?_
              refine v_getR hC (pc := 124) dX7_letterOf_124 fl_X7_13 rfl (by first | rfl | exact ok_c hq rfl | exact ok_w hq hw | exact ok_w (by omega) (by omega) | exact ok_s (by omega) (by omega) | exact ok_c (by omega) rfl | assumption) rfl (by decide) (by decide) rfl ?_
              refine v_bipush hC (pc := 127) (v := 16) (by decide +kernel) dX7_letterOf_127 ?_
              refine v_iald hC (pc := 129) dX7_letterOf_129 rfl (by first | rfl | exact ok_c hq rfl | exact ok_w hq hw | exact ok_w (by omega) (by omega) | exact ok_s (by omega) (by omega) | exact ok_c (by omega) rfl | assumption) (vp_nat (n := 16) (by omega) (by decide)) ?_
              show V X G 10 130 _ (vi (h.1 (3, 0, 2) 16) :: _) _
              rw [hA, hsg]
              refine v_callV hC (pc := 130) (As := [_, _, _, _, _, _]) dX7_letterOf_130 rfl (m_pairBy _ _ (d := d - 1) (by omega) _ hn8 hnc hA hS (p := p) (s := 1) (hr := hr) (ohr := ohr) (i := k) hp64 (by decide) _) cv_X7_240 rfl (by decide) rfl (by first | rfl | exact ok_c hq rfl | exact ok_w hq hw | exact ok_w (by omega) (by omega) | exact ok_s (by omega) (by omega) | exact ok_c (by omega) rfl | assumption) (Nat.le_of_ble_eq_true rfl) (by omega) (fun r h' hr => ?_)
              obtain ⟨he9, rfl⟩ := hr
              rw [he9]
              clear he9 h'
              show V _ _ _ (130 + 3) _ (_ :: _) _
              refine v_istore hC (pc := 133) (l' := [(6, _), (7, _), (9, _), (8, _), (0, _), (1, _), (2, _), (3, _), (4, _), (5, _)]) dX7_letterOf_133 (by decide) rfl ?_
              refine v_iinc hC (pc := 135) (l' := [(8, _), (6, _), (7, _), (9, _), (0, _), (1, _), (2, _), (3, _), (4, _), (5, _)]) 3 (v := nI (k + 1)) dX7_letterOf_135 rfl (nI_inc k) (by decide) rfl ?_
              refine v_goto hC (pc := 138) (tgt := 15) dX7_letterOf_138 (by decide) ?_
              refine v_loc (l' := [(8, _), (6, _), (7, _), (0, _), (1, _), (2, _), (3, _), (4, _), (5, _)]) [0, 1, 2, 4, 5, 6, 7, 8, 9] rfl ?_
              obtain ⟨p', y1, y2⟩ := cur_ok hk hcn
              have ec : curF (LM A sg nC) hr ohr (b * 8 + b) m a (k + 1) = p' := by
                show (stp (LM A sg nC) hr ohr (curF (LM A sg nC) hr ohr (b * 8 + b) m a k) (ltF (LM A sg nC) hr ohr (b * 8 + b) m k (curF (LM A sg nC) hr ohr (b * 8 + b) m a k)) k).getD 0 = p'
                rw [← hpc, y1]; rfl
              have ih' := ih (k + 1) (by omega) (by omega) (by rw [ec]; exact y2)
              rw [ec, show lettV (LM A sg nC) hr ohr (b * 8 + b) m a (k + 1) = nI (ltF (LM A sg nC) hr ohr (b * 8 + b) m k (curF (LM A sg nC) hr ohr (b * 8 + b) m a k)) from rfl, ← hpc] at ih'
              first | (have el : ltF (LM A sg nC) hr ohr (b * 8 + b) m k p = 0 := if_pos ⟨p9, eo, bP_1.mp ((bP_01 _).resolve_left c_83)⟩; rw [el] at y1 ih'; rw [eo] at y1; cases y1; exact ih') | (have el : ltF (LM A sg nC) hr ohr (b * 8 + b) m k p = 1 := if_neg (fun ⟨p1, x1, x2⟩ => by rw [eo] at x1; cases x1; exact bP_0.mp c_83 x2); rw [el] at y1 ih'; rw [y1]; exact ih') | (have el : ltF (LM A sg nC) hr ohr (b * 8 + b) m k p = 1 := if_neg (fun ⟨p1, x1, x2⟩ => by rw [x1] at c_65; exact nI_n4 (by have := hlt p1 x1; omega) c_65); rw [el] at y1 ih'; rw [y1]; exact ih')
            · exact absurd c_95 (by decide)
          · skip
            obtain ⟨p9, eo⟩ : ∃ p9, stp (LM A sg nC) hr ohr p 0 k = some p9 := by
              rcases eo : stp (LM A sg nC) hr ohr p 0 k with _ | p9
              · rw [eo] at c_65; exact absurd rfl c_65
              · exact ⟨p9, rfl⟩
            have h64 := hlt p9 eo
            refine v_aload_n hC (pc := 68) (k := 0) 4 rfl dX7_letterOf_68 ?_
            refine v_getR hC (pc := 69) dX7_letterOf_69 fl_X7_35 rfl (by first | rfl | exact ok_c hq rfl | exact ok_w hq hw | exact ok_w (by omega) (by omega) | exact ok_s (by omega) (by omega) | exact ok_c (by omega) rfl | assumption) rfl (by decide) (by decide) rfl ?_
            refine v_bipush hC (pc := 72) (v := 64) (by decide +kernel) dX7_letterOf_72 ?_
            refine v_iload hC (pc := 74) 1 rfl dX7_letterOf_74 ?_
            refine v_iconst hC (pc := 76) (v := 1) (by decide) dX7_letterOf_76 ?_
            refine v_iadd hC (pc := 77) dX7_letterOf_77 ?_
            refine v_imul hC (pc := 78) dX7_letterOf_78 ?_
            rw [nL_64, nL_1, nI_add, pk_mul]
            refine v_iload hC (pc := 79) 0 rfl dX7_letterOf_79 ?_
            refine v_iadd hC (pc := 81) dX7_letterOf_81 ?_
            rw [eo, show oN (some p9) = nI p9 from rfl, nI_add]
            refine v_zald hC (pc := 82) dX7_letterOf_82 rfl (by first | rfl | exact ok_c hq rfl | exact ok_w hq hw | exact ok_w (by omega) (by omega) | exact ok_s (by omega) (by omega) | exact ok_c (by omega) rfl | assumption) (vp_nat (n := 64 * (k + 1) + p9) (by omega) (by decide)) ?_
            rw [nI_clamp (show 64 * (k + 1) + p9 < 2 ^ 31 by omega)]
            show V X G 10 83 _ (vi (h.1 (3, 0, 2 + 20) (64 * (k + 1) + p9)) :: _) _
            rw [hcan (k + 1) (by omega) p9 h64]
            refine v_if_eq hC (pc := 83) (tgt := 90) dX7_letterOf_83 (by decide) (fun c_83 => ?_) (fun c_83 => ?_)
            · skip
              refine v_iconst hC (pc := 90) (v := 1) (by decide) dX7_letterOf_90 ?_
              skip
              refine v_istore hC (pc := 91) (l' := [(7, _), (9, _), (8, _), (6, _), (0, _), (1, _), (2, _), (3, _), (4, _), (5, _)]) dX7_letterOf_91 (by decide) rfl ?_
              refine v_iload hC (pc := 93) 0 rfl dX7_letterOf_93 ?_
              refine v_if_ne hC (pc := 95) (tgt := 103) dX7_letterOf_95 (by decide) (fun c_95 => ?_) (fun c_95 => ?_)
              · skip
                refine v_aload_n hC (pc := 103) (k := 0) 4 rfl dX7_letterOf_103 ?_
                refine v_iload hC (pc := 104) 3 rfl dX7_letterOf_104 ?_
                refine v_bipush hC (pc := 106) (v := 8) (by decide +kernel) dX7_letterOf_106 ?_
                refine v_idiv hC (pc := 108) (by decide) dX7_letterOf_108 ?_
                rw [nL_8, pk_div (show p < 2 ^ 31 by omega) (by decide) (by decide)]
                refine v_iload hC (pc := 109) 3 rfl dX7_letterOf_109 ?_
                refine v_bipush hC (pc := 111) (v := 8) (by decide +kernel) dX7_letterOf_111 ?_
                refine v_irem hC (pc := 113) (by decide) dX7_letterOf_113 ?_
                rw [nL_8, pk_rem (show p < 2 ^ 31 by omega) (by decide) (by decide)]
                refine v_iconst hC (pc := 114) (v := 1) (by decide) dX7_letterOf_114 ?_
                refine v_iload_n hC (pc := 115) (k := 2) 6 rfl dX7_letterOf_115 ?_
                refine v_iload hC (pc := 116) 2 rfl dX7_letterOf_116 ?_
                refine v_iadd hC (pc := 118) dX7_letterOf_118 ?_
                rw [nI_add]
                refine v_iload_n hC (pc := 119) (k := 3) 7 rfl dX7_letterOf_119 ?_
                refine v_iload hC (pc := 120) 2 rfl dX7_letterOf_120 ?_
                refine v_iadd hC (pc := 122) dX7_letterOf_122 ?_
                rw [nI_add]
                refine v_aload_n hC (pc := 123) (k := 0) 4 rfl dX7_letterOf_123 ?_
                refine v_getR hC (pc := 124) dX7_letterOf_124 fl_X7_13 rfl (by first | rfl | exact ok_c hq rfl | exact ok_w hq hw | exact ok_w (by omega) (by omega) | exact ok_s (by omega) (by omega) | exact ok_c (by omega) rfl | assumption) rfl (by decide) (by decide) rfl ?_
                refine v_bipush hC (pc := 127) (v := 16) (by decide +kernel) dX7_letterOf_127 ?_
                refine v_iald hC (pc := 129) dX7_letterOf_129 rfl (by first | rfl | exact ok_c hq rfl | exact ok_w hq hw | exact ok_w (by omega) (by omega) | exact ok_s (by omega) (by omega) | exact ok_c (by omega) rfl | assumption) (vp_nat (n := 16) (by omega) (by decide)) ?_
                show V X G 10 130 _ (vi (h.1 (3, 0, 2) 16) :: _) _
                rw [hA, hsg]
                refine v_callV hC (pc := 130) (As := [_, _, _, _, _, _]) dX7_letterOf_130 rfl (m_pairBy _ _ (d := d - 1) (by omega) _ hn8 hnc hA hS (p := p) (s := 1) (hr := hr) (ohr := ohr) (i := k) hp64 (by decide) _) cv_X7_240 rfl (by decide) rfl (by first | rfl | exact ok_c hq rfl | exact ok_w hq hw | exact ok_w (by omega) (by omega) | exact ok_s (by omega) (by omega) | exact ok_c (by omega) rfl | assumption) (Nat.le_of_ble_eq_true rfl) (by omega) (fun r h' hr => ?_)
                obtain ⟨he9, rfl⟩ := hr
                rw [he9]
                clear he9 h'
                show V _ _ _ (130 + 3) _ (_ :: _) _
                refine v_istore hC (pc := 133) (l' := [(6, _), (7, _), (9, _), (8, _), (0, _), (1, _), (2, _), (3, _), (4, _), (5, _)]) dX7_letterOf_133 (by decide) rfl ?_
                refine v_iinc hC (pc := 135) (l' := [(8, _), (6, _), (7, _), (9, _), (0, _), (1, _), (2, _), (3, _), (4, _), (5, _)]) 3 (v := nI (k + 1)) dX7_letterOf_135 rfl (nI_inc k) (by decide) rfl ?_
                refine v_goto hC (pc := 138) (tgt := 15) dX7_letterOf_138 (by decide) ?_
                refine v_loc (l' := [(8, _), (6, _), (7, _), (0, _), (1, _), (2, _), (3, _), (4, _), (5, _)]) [0, 1, 2, 4, 5, 6, 7, 8, 9] rfl ?_
                obtain ⟨p', y1, y2⟩ := cur_ok hk hcn
                have ec : curF (LM A sg nC) hr ohr (b * 8 + b) m a (k + 1) = p' := by
                  show (stp (LM A sg nC) hr ohr (curF (LM A sg nC) hr ohr (b * 8 + b) m a k) (ltF (LM A sg nC) hr ohr (b * 8 + b) m k (curF (LM A sg nC) hr ohr (b * 8 + b) m a k)) k).getD 0 = p'
                  rw [← hpc, y1]; rfl
                have ih' := ih (k + 1) (by omega) (by omega) (by rw [ec]; exact y2)
                rw [ec, show lettV (LM A sg nC) hr ohr (b * 8 + b) m a (k + 1) = nI (ltF (LM A sg nC) hr ohr (b * 8 + b) m k (curF (LM A sg nC) hr ohr (b * 8 + b) m a k)) from rfl, ← hpc] at ih'
                first | (have el : ltF (LM A sg nC) hr ohr (b * 8 + b) m k p = 0 := if_pos ⟨p9, eo, bP_1.mp ((bP_01 _).resolve_left c_83)⟩; rw [el] at y1 ih'; rw [eo] at y1; cases y1; exact ih') | (have el : ltF (LM A sg nC) hr ohr (b * 8 + b) m k p = 1 := if_neg (fun ⟨p1, x1, x2⟩ => by rw [eo] at x1; cases x1; exact bP_0.mp c_83 x2); rw [el] at y1 ih'; rw [y1]; exact ih') | (have el : ltF (LM A sg nC) hr ohr (b * 8 + b) m k p = 1 := if_neg (fun ⟨p1, x1, x2⟩ => by rw [x1] at c_65; exact nI_n4 (by have := hlt p1 x1; omega) c_65); rw [el] at y1 ih'; rw [y1]; exact ih')
              · exact absurd c_95 (by decide)
            · skip
              refine v_iconst hC (pc := 86) (v := 0) (by decide) dX7_letterOf_86 ?_
              refine v_goto hC (pc := 87) (tgt := 91) dX7_letterOf_87 (by decide) ?_
              skip
              refine v_istore hC (pc := 91) (l' := [(7, _), (9, _), (8, _), (6, _), (0, _), (1, _), (2, _), (3, _), (4, _), (5, _)]) dX7_letterOf_91 (by decide) rfl ?_
              refine v_iload hC (pc := 93) 0 rfl dX7_letterOf_93 ?_
              refine v_if_ne hC (pc := 95) (tgt := 103) dX7_letterOf_95 (by decide) (fun c_95 => ?_) (fun c_95 => ?_)
              · exact absurd c_95 (by decide)
              · skip
                refine v_iload hC (pc := 98) 1 rfl dX7_letterOf_98 ?_
                refine v_goto hC (pc := 100) (tgt := 133) dX7_letterOf_100 (by decide) ?_
                refine v_istore hC (pc := 133) (l' := [(6, _), (7, _), (9, _), (8, _), (0, _), (1, _), (2, _), (3, _), (4, _), (5, _)]) dX7_letterOf_133 (by decide) rfl ?_
                refine v_iinc hC (pc := 135) (l' := [(8, _), (6, _), (7, _), (9, _), (0, _), (1, _), (2, _), (3, _), (4, _), (5, _)]) 3 (v := nI (k + 1)) dX7_letterOf_135 rfl (nI_inc k) (by decide) rfl ?_
                refine v_goto hC (pc := 138) (tgt := 15) dX7_letterOf_138 (by decide) ?_
                refine v_loc (l' := [(8, _), (6, _), (7, _), (0, _), (1, _), (2, _), (3, _), (4, _), (5, _)]) [0, 1, 2, 4, 5, 6, 7, 8, 9] rfl ?_
                obtain ⟨p', y1, y2⟩ := cur_ok hk hcn
                have ec : curF (LM A sg nC) hr ohr (b * 8 + b) m a (k + 1) = p' := by
                  show (stp (LM A sg nC) hr ohr (curF (LM A sg nC) hr ohr (b * 8 + b) m a k) (ltF (LM A sg nC) hr ohr (b * 8 + b) m k (curF (LM A sg nC) hr ohr (b * 8 + b) m a k)) k).getD 0 = p'
                  rw [← hpc, y1]; rfl
                have ih' := ih (k + 1) (by omega) (by omega) (by rw [ec]; exact y2)
                rw [ec, show lettV (LM A sg nC) hr ohr (b * 8 + b) m a (k + 1) = nI (ltF (LM A sg nC) hr ohr (b * 8 + b) m k (curF (LM A sg nC) hr ohr (b * 8 + b) m a k)) from rfl, ← hpc] at ih'
                first | (have el : ltF (LM A sg nC) hr ohr (b * 8 + b) m k p = 0 := if_pos ⟨p9, eo, bP_1.mp ((bP_01 _).resolve_left c_83)⟩; rw [el] at y1 ih'; rw [eo] at y1; cases y1; exact ih') | (have el : ltF (LM A sg nC) hr ohr (b * 8 + b) m k p = 1 := if_neg (fun ⟨p1, x1, x2⟩ => by rw [eo] at x1; cases x1; exact bP_0.mp c_83 x2); rw [el] at y1 ih'; rw [y1]; exact ih') | (have el : ltF (LM A sg nC) hr ohr (b * 8 + b) m k p = 1 := if_neg (fun ⟨p1, x1, x2⟩ => by rw [x1] at c_65; exact nI_n4 (by have := hlt p1 x1; omega) c_65); rw [el] at y1 ih'; rw [y1]; exact ih')
  refine v_bipush hC (pc := 0) (v := 8) (by decide +kernel) dX7_letterOf_0 ?_
  refine v_iload_n hC (pc := 2) (k := 1) 1 rfl dX7_letterOf_2 ?_
  refine v_imul hC (pc := 3) dX7_letterOf_3 ?_
  refine v_iload_n hC (pc := 4) (k := 1) 1 rfl dX7_letterOf_4 ?_
  refine v_iadd hC (pc := 5) dX7_letterOf_5 ?_
  refine v_istore hC (pc := 6) (l' := [(6, _), (0, _), (1, _), (2, _), (3, _), (4, _), (5, _)]) dX7_letterOf_6 (by decide) rfl ?_
  refine v_bipush hC (pc := 8) (v := (-4)) (by decide +kernel) dX7_letterOf_8 ?_
  refine v_istore hC (pc := 10) (l' := [(7, _), (6, _), (0, _), (1, _), (2, _), (3, _), (4, _), (5, _)]) dX7_letterOf_10 (by decide) rfl ?_
  refine v_iconst hC (pc := 12) (v := 0) (by decide) dX7_letterOf_12 ?_
  refine v_istore hC (pc := 13) (l' := [(8, _), (7, _), (6, _), (0, _), (1, _), (2, _), (3, _), (4, _), (5, _)]) dX7_letterOf_13 (by decide) rfl ?_
  refine v_loc (l' := [(8, _), (6, _), (7, _), (0, _), (1, _), (2, _), (3, _), (4, _), (5, _)]) [0, 2, 1, 3, 4, 5, 6, 7, 8] rfl ?_
  rw [show vi (8 * nI a + nI a) = vi (nI (curF (LM A sg nC) hr ohr (b * 8 + b) m a 0)) from by rw [nL_8, pk_mul, nI_add, Nat.mul_comm]; rfl]
  exact loop (i + 2) 0 (by omega) (by omega) hcn0

set_option maxRecDepth 20000 in
set_option maxHeartbeats 2000000 in
theorem m_letterOf_n (l9 : Launch) (G : WT) {d : Nat} (hd : 5 ≤ d) (h : HP) {a m i hr ohr : Nat} (hi : i < 1000) (hmi : m ≤ i) : MS l9 G yX7_letterOf cX7_letterOf 10 (some .int) d [vr (3, 0, 0), vi (nI a), vi (nI hr), vi (nI ohr), vi (nI m), vi (nI i)] h (fun r h1 => h1 = h ∧ r = some (vi (-4))) := by
  refine MS_of (by decide +kernel) (Nat.le_of_ble_eq_true rfl) (fun X hC hX => ?_)
  show V X G 10 0 _ [] _
  refine v_bipush hC (pc := 0) (v := 8) (by decide +kernel) dX7_letterOf_0 ?_
  refine v_iload_n hC (pc := 2) (k := 1) 1 rfl dX7_letterOf_2 ?_
  refine v_imul hC (pc := 3) dX7_letterOf_3 ?_
  refine v_iload_n hC (pc := 4) (k := 1) 1 rfl dX7_letterOf_4 ?_
  refine v_iadd hC (pc := 5) dX7_letterOf_5 ?_
  refine v_istore hC (pc := 6) (l' := [(6, _), (0, _), (1, _), (2, _), (3, _), (4, _), (5, _)]) dX7_letterOf_6 (by decide) rfl ?_
  refine v_bipush hC (pc := 8) (v := (-4)) (by decide +kernel) dX7_letterOf_8 ?_
  refine v_istore hC (pc := 10) (l' := [(7, _), (6, _), (0, _), (1, _), (2, _), (3, _), (4, _), (5, _)]) dX7_letterOf_10 (by decide) rfl ?_
  refine v_iconst hC (pc := 12) (v := 0) (by decide) dX7_letterOf_12 ?_
  refine v_istore hC (pc := 13) (l' := [(8, _), (7, _), (6, _), (0, _), (1, _), (2, _), (3, _), (4, _), (5, _)]) dX7_letterOf_13 (by decide) rfl ?_
  refine v_iload hC (pc := 15) 0 rfl dX7_letterOf_15 ?_
  refine v_iload hC (pc := 17) 8 rfl dX7_letterOf_17 ?_
  refine v_icmp_gt hC (pc := 19) (tgt := 141) dX7_letterOf_19 (by decide) (fun c_19 => ?_) (fun c_19 => ?_)
  · exact absurd (show nI i < nI 0 from c_19) (nI_pos (by omega))
  · skip
    refine v_iload hC (pc := 22) 8 rfl dX7_letterOf_22 ?_
    refine v_iload hC (pc := 24) 7 rfl dX7_letterOf_24 ?_
    refine v_icmp_ge hC (pc := 26) (tgt := 141) dX7_letterOf_26 (by decide) (fun c_26 => ?_) (fun c_26 => ?_)
    · skip
      refine v_iload hC (pc := 141) 1 rfl dX7_letterOf_141 ?_
      refine v_iret hC hX (pc := 143) dX7_letterOf_143 ?_
      exact ⟨rfl, rfl⟩
    · exact absurd (nI_le hmi (by omega)) c_26

