/-! THE REFERENCE: signs -/
noncomputable def tmI (P : Prop) (k : Nat) : Int32 := if k = 0 then 1 else bP P
theorem tmI_01 (P : Prop) (k : Nat) : tmI P k = 0 ∨ tmI P k = 1 := by
  unfold tmI
  split
  · exact Or.inr rfl
  · exact bP_01 P
theorem tmI_f {P : Prop} {k : Nat} (h : tmI P k = 0) : tmI P k = bP P := by
  unfold tmI at h ⊢
  split
  · rename_i e
    rw [if_pos e] at h
    exact absurd h (by decide)
  · rfl
set_option maxRecDepth 20000 in
set_option maxHeartbeats 2000000 in
theorem m_isInTime (l9 : Launch) (G : WT) {d : Nat} (hd : 4 ≤ d) (h : HP) {nC : Nat} (hn8 : nC ≤ 8) (hnc : h.1 (3, 0, 0) 3 = nI nC) {A : Nat → Int32} (hA : h.1 (3, 0, 2) = A) (hS : wfS A nC) {a b n1 : Nat} (ha8 : a < 8) (hb : b < 8) (hn1 : n1 < 1000) (sg : Int32) : MS l9 G yX7_isInTime cX7_isInTime 7 (some .boolean) d [vr (3, 0, 0), vi (nI a), vi (nI b), vi (nI n1), vi sg] h (fun r h1 => h1 = h ∧ r = some (vi (bP (wa A nC a n1 b)))) := by
  refine MS_of (by decide +kernel) (Nat.le_of_ble_eq_true rfl) (fun X hC hX => ?_)
  show V X G 7 0 _ [] _
  have loop : ∀ (n k : Nat), k ≤ 24 → 25 ≤ k + n → V X G 7 6 [(6, vi (nI k)), (5, vi (tmI (wa A nC a n1 b) k)), (0, vr (3, 0, 0)), (1, vi (nI a)), (2, vi (nI b)), (3, vi (nI n1)), (4, vi sg)] [] h := by
    intro n
    induction n with
    | zero => intro k h1 h2; exact absurd h2 (by omega)
    | succ n ih =>
      intro k h1 h2
      refine v_iload hC (pc := 6) 0 rfl dX7_isInTime_6 ?_
      refine v_bipush hC (pc := 8) (v := 24) (by decide +kernel) dX7_isInTime_8 ?_
      refine v_icmp_ge hC (pc := 10) (tgt := 49) dX7_isInTime_10 (by decide) (fun c_10 => ?_) (fun c_10 => ?_)
      · skip
        have hk : k = 24 := lp_ex (N := 24) c_10 h1 (by decide)
        refine v_iload hC (pc := 49) 1 rfl dX7_isInTime_49 ?_
        refine v_zret hC hX (pc := 51) dX7_isInTime_51 (nar_b (tmI_01 _ _)) ?_
        first | exact ⟨rfl, by rw [show tmI (wa A nC a n1 b) k = bP (wa A nC a n1 b) from if_neg (by omega)]⟩ | exact ⟨rfl, by rw [tmI_f c_15]⟩
      · skip
        have hk : k < 24 := lp_in (N := 24) c_10 h1 (by decide)
        refine v_iload hC (pc := 13) 1 rfl dX7_isInTime_13 ?_
        refine v_if_eq hC (pc := 15) (tgt := 49) dX7_isInTime_15 (by decide) (fun c_15 => ?_) (fun c_15 => ?_)
        · skip
          refine v_iload hC (pc := 49) 1 rfl dX7_isInTime_49 ?_
          refine v_zret hC hX (pc := 51) dX7_isInTime_51 (nar_b (tmI_01 _ _)) ?_
          first | exact ⟨rfl, by rw [show tmI (wa A nC a n1 b) k = bP (wa A nC a n1 b) from if_neg (by omega)]⟩ | exact ⟨rfl, by rw [tmI_f c_15]⟩
        · skip
          refine v_aload_n hC (pc := 18) (k := 0) 2 rfl dX7_isInTime_18 ?_
          refine v_iload_n hC (pc := 19) (k := 1) 3 rfl dX7_isInTime_19 ?_
          refine v_iload hC (pc := 20) 0 rfl dX7_isInTime_20 ?_
          refine v_iload_n hC (pc := 22) (k := 3) 5 rfl dX7_isInTime_22 ?_
          refine v_iload hC (pc := 23) 6 rfl dX7_isInTime_23 ?_
          refine v_callV hC (pc := 25) (As := [_, _, _, _]) dX7_isInTime_25 rfl (m_reachBy _ _ (d := d - 1) (by omega) _ hn8 hnc hA hS (a := a) (n1 := n1) ha8 hn1 _ _) cv_X7_265 rfl (by decide) rfl (by first | rfl | exact ok_c hq rfl | exact ok_w hq hw | exact ok_w (by omega) (by omega) | exact ok_s (by omega) (by omega) | exact ok_c (by omega) rfl | assumption) (Nat.le_of_ble_eq_true rfl) (by omega) (fun r h' hr => ?_)
          obtain ⟨he9, v, rfl, hv⟩ := hr
          rw [he9]
          clear he9 h'
          show V _ _ _ (25 + 3) _ (_ :: _) _
          refine v_iload_n hC (pc := 28) (k := 2) 4 rfl dX7_isInTime_28 ?_
          refine v_ishr hC (pc := 29) dX7_isInTime_29 ?_
          refine v_iconst hC (pc := 30) (v := 1) (by decide) dX7_isInTime_30 ?_
          refine v_iand hC (pc := 31) dX7_isInTime_31 ?_
          refine v_iconst hC (pc := 32) (v := 1) (by decide) dX7_isInTime_32 ?_
          refine v_icmp_ne hC (pc := 33) (tgt := 40) dX7_isInTime_33 (by decide) (fun c_33 => ?_) (fun c_33 => ?_)
          · skip
            refine v_iconst hC (pc := 40) (v := 0) (by decide) dX7_isInTime_40 ?_
            first | rw [show (1 : Int32) = tmI (wa A nC a n1 b) (k + 1) from (bP_t ((Bs_tst hv (by omega)).mp c_33)).symm] | rw [show (0 : Int32) = tmI (wa A nC a n1 b) (k + 1) from (bP_f (fun z => c_33 ((Bs_tst hv (by omega)).mpr z))).symm]
            refine v_istore hC (pc := 41) (l' := [(5, _), (6, _), (0, _), (1, _), (2, _), (3, _), (4, _)]) dX7_isInTime_41 (by decide) rfl ?_
            refine v_iinc hC (pc := 43) (l' := [(6, _), (5, _), (0, _), (1, _), (2, _), (3, _), (4, _)]) 1 (v := nI (k + 1)) dX7_isInTime_43 rfl (nI_inc k) (by decide) rfl ?_
            refine v_goto hC (pc := 46) (tgt := 6) dX7_isInTime_46 (by decide) ?_
            exact ih (k + 1) (by omega) (by omega)
          · skip
            refine v_iconst hC (pc := 36) (v := 1) (by decide) dX7_isInTime_36 ?_
            refine v_goto hC (pc := 37) (tgt := 41) dX7_isInTime_37 (by decide) ?_
            first | rw [show (1 : Int32) = tmI (wa A nC a n1 b) (k + 1) from (bP_t ((Bs_tst hv (by omega)).mp c_33)).symm] | rw [show (0 : Int32) = tmI (wa A nC a n1 b) (k + 1) from (bP_f (fun z => c_33 ((Bs_tst hv (by omega)).mpr z))).symm]
            refine v_istore hC (pc := 41) (l' := [(5, _), (6, _), (0, _), (1, _), (2, _), (3, _), (4, _)]) dX7_isInTime_41 (by decide) rfl ?_
            refine v_iinc hC (pc := 43) (l' := [(6, _), (5, _), (0, _), (1, _), (2, _), (3, _), (4, _)]) 1 (v := nI (k + 1)) dX7_isInTime_43 rfl (nI_inc k) (by decide) rfl ?_
            refine v_goto hC (pc := 46) (tgt := 6) dX7_isInTime_46 (by decide) ?_
            exact ih (k + 1) (by omega) (by omega)
  refine v_iconst hC (pc := 0) (v := 1) (by decide) dX7_isInTime_0 ?_
  refine v_istore hC (pc := 1) (l' := [(5, _), (0, _), (1, _), (2, _), (3, _), (4, _)]) dX7_isInTime_1 (by decide) rfl ?_
  refine v_iconst hC (pc := 3) (v := 0) (by decide) dX7_isInTime_3 ?_
  refine v_istore hC (pc := 4) (l' := [(6, _), (5, _), (0, _), (1, _), (2, _), (3, _), (4, _)]) dX7_isInTime_4 (by decide) rfl ?_
  exact loop 25 0 (by omega) (by omega)

theorem shl1 : ∀ n, n ≤ 8 → (1 : Int32) <<< (nI n &&& 31) = nI (2 ^ n) := by decide +kernel
theorem bits_nat (x : Int32) : ∀ n, ∃ m, m ≤ n ∧ bitsF x n = nI m
  | 0 => ⟨0, Nat.le_refl _, rfl⟩
  | n + 1 => by
    obtain ⟨m, h1, h2⟩ := bits_nat x n
    obtain ⟨s, h3, h4⟩ := and1_nat (x >>> (nI n &&& 31))
    refine ⟨m + s, by omega, ?_⟩
    show bitsF x n + ((x >>> (nI n &&& 31)) &&& 1) = _
    rw [h2, h4, nI_add]
theorem bits_00 : bitsF 0 8 = 0 := by decide +kernel
noncomputable def sfw (P : Prop) (k : Nat) : Int32 := if k = 0 then 1000000 else if bP P = 1 then 0 else 1000000
noncomputable def sfd (P : Prop) (k : Nat) : Int32 := if k = 0 then -4 else if bP P = 1 then 0 else -4
theorem bits_ge (k : Nat) : (0 : Int32) ≤ bitsF (nI k) 8 := by
  obtain ⟨m, h1, h2⟩ := bits_nat (nI k) 8
  rw [h2]
  exact nI_pos' (by omega)
set_option maxRecDepth 20000 in
set_option maxHeartbeats 2000000 in
theorem m_signs_ok (l9 : Launch) (G : WT) {d : Nat} (hd : 6 ≤ d) (h : HP) {nC : Nat} (hn8 : nC ≤ 8) (hnc : h.1 (3, 0, 0) 3 = nI nC) (hS : wfS (h.1 (3, 0, 1)) nC) {a b n1 : Nat} (hac : a < nC) (hbc : b < nC) (hn0 : 1 ≤ n1) (hn : n1 ≤ 24) : MS l9 G yX7_signs cX7_signs 8 (some .int) d [vr (3, 0, 0), vi (nI a), vi (nI b), vi (nI n1)] h (fun r h1 => scr h h1 ∧ (((wa ((stH h).1 (3, 0, 2)) nC a n1 b) ∧ r = some (vi 0)) ∨ (¬ (wa ((stH h).1 (3, 0, 2)) nC a n1 b) ∧ r = some (vi (-4))))) := by
  refine MS_of (by decide +kernel) (Nat.le_of_ble_eq_true rfl) (fun X hC hX => ?_)
  show V X G 8 0 _ [] _
  have h256 : 2 ^ nC ≤ 256 := Nat.pow_le_pow_right (n := 2) (by decide) hn8
  have loop : ∀ (n k : Nat), k ≤ 2 ^ nC → 2 ^ nC + 1 ≤ k + n → V X G 8 46 [(6, vi (nI k)), (5, vi (sfd (wa ((stH h).1 (3, 0, 2)) nC a n1 b) k)), (4, vi (sfw (wa ((stH h).1 (3, 0, 2)) nC a n1 b) k)), (0, vr (3, 0, 0)), (1, vi (nI a)), (2, vi (nI b)), (3, vi (nI n1))] [] (stH h) := by
    intro n
    induction n with
    | zero => intro k h1 h2; exact absurd h2 (by omega)
    | succ n ih =>
      intro k h1 h2
      rcases (show k = 2 ^ nC ∨ k < 2 ^ nC by omega) with rfl | hk
      · skip
        refine v_iload hC (pc := 46) 0 rfl dX7_signs_46 ?_
        refine v_iconst hC (pc := 48) (v := 1) (by decide) dX7_signs_48 ?_
        refine v_aload_n hC (pc := 49) (k := 0) 3 rfl dX7_signs_49 ?_
        refine v_getI hC (pc := 50) dX7_signs_50 fl_X7_76 rfl (by first | rfl | exact ok_c hq rfl | exact ok_w hq hw | exact ok_w (by omega) (by omega) | exact ok_s (by omega) (by omega) | exact ok_c (by omega) rfl | assumption) rfl (by decide) (by decide) ?_
        show V X G 8 53 _ (vi ((stH h).1 (3, 0, 0) 3) :: _) _
        rw [show (stH h).1 (3, 0, 0) 3 = nI nC from (by rw [stH_o h (by decide)]; exact hnc)]
        refine v_ishl hC (pc := 53) dX7_signs_53 ?_
        rw [show (1 : Int32) <<< (nI nC &&& 31) = nI (2 ^ nC) from shl1 nC hn8]
        refine v_icmp_ge hC (pc := 54) (tgt := 144) dX7_signs_54 (by decide) (fun c_54 => ?_) (fun c_54 => ?_)
        · skip
          refine v_iload hC (pc := 144) 1 rfl dX7_signs_144 ?_
          refine v_iret hC hX (pc := 146) dX7_signs_146 ?_
          have hpos : 0 < 2 ^ nC := Nat.pow_pos (by decide)
          refine ⟨scr_st h, ?_⟩
          by_cases e : bP (wa ((stH h).1 (3, 0, 2)) nC a n1 b) = 1
          · exact Or.inl ⟨bP_1.mp e, by unfold sfd; rw [if_neg (by omega), if_pos e]⟩
          · exact Or.inr ⟨fun z => e (bP_t z), by unfold sfd; rw [if_neg (by omega), if_neg e]⟩
        · exact absurd (Int32.le_refl _) c_54
      · have ih2 := ih (k + 1) (by omega) (by omega)
        by_cases hP : (wa ((stH h).1 (3, 0, 2)) nC a n1 b)
        · rw [show sfd (wa ((stH h).1 (3, 0, 2)) nC a n1 b) (k + 1) = 0 from (if_neg (by omega)).trans (if_pos (bP_t hP)), show sfw (wa ((stH h).1 (3, 0, 2)) nC a n1 b) (k + 1) = 0 from (if_neg (by omega)).trans (if_pos (bP_t hP))] at ih2
          rcases Nat.eq_zero_or_pos k with rfl | kp
          · rw [show sfd (wa ((stH h).1 (3, 0, 2)) nC a n1 b) 0 = -4 from rfl, show sfw (wa ((stH h).1 (3, 0, 2)) nC a n1 b) 0 = 1000000 from rfl]
            refine v_iload hC (pc := 46) 0 rfl dX7_signs_46 ?_
            refine v_iconst hC (pc := 48) (v := 1) (by decide) dX7_signs_48 ?_
            refine v_aload_n hC (pc := 49) (k := 0) 3 rfl dX7_signs_49 ?_
            refine v_getI hC (pc := 50) dX7_signs_50 fl_X7_76 rfl (by first | rfl | exact ok_c hq rfl | exact ok_w hq hw | exact ok_w (by omega) (by omega) | exact ok_s (by omega) (by omega) | exact ok_c (by omega) rfl | assumption) rfl (by decide) (by decide) ?_
            show V X G 8 53 _ (vi ((stH h).1 (3, 0, 0) 3) :: _) _
            rw [show (stH h).1 (3, 0, 0) 3 = nI nC from (by rw [stH_o h (by decide)]; exact hnc)]
            refine v_ishl hC (pc := 53) dX7_signs_53 ?_
            rw [show (1 : Int32) <<< (nI nC &&& 31) = nI (2 ^ nC) from shl1 nC hn8]
            refine v_icmp_ge hC (pc := 54) (tgt := 144) dX7_signs_54 (by decide) (fun c_54 => ?_) (fun c_54 => ?_)
            · exact absurd c_54 (nI_ge hk (by omega))
            · skip
              refine v_iload hC (pc := 57) 0 rfl dX7_signs_57 ?_
              refine v_aload_n hC (pc := 59) (k := 0) 3 rfl dX7_signs_59 ?_
              refine v_getR hC (pc := 60) dX7_signs_60 fl_X7_7 rfl (by first | rfl | exact ok_c hq rfl | exact ok_w hq hw | exact ok_w (by omega) (by omega) | exact ok_s (by omega) (by omega) | exact ok_c (by omega) rfl | assumption) rfl (by decide) (by decide) rfl ?_
              refine v_bipush hC (pc := 63) (v := 16) (by decide +kernel) dX7_signs_63 ?_
              refine v_iald hC (pc := 65) dX7_signs_65 rfl (by first | rfl | exact ok_c hq rfl | exact ok_w hq hw | exact ok_w (by omega) (by omega) | exact ok_s (by omega) (by omega) | exact ok_c (by omega) rfl | assumption) (vp_nat (n := 16) (by omega) (by decide)) ?_
              refine v_iand hC (pc := 66) dX7_signs_66 ?_
              refine v_if_ne hC (pc := 67) (tgt := 104) dX7_signs_67 (by decide) (fun c_67 => ?_) (fun c_67 => ?_)
              · exact absurd (Int32.zero_and) c_67
              · skip
                refine v_iload hC (pc := 70) 0 rfl dX7_signs_70 ?_
                refine v_callS hC (pc := 72) (As := [_]) dX7_signs_72 rfl (m_bitsOf _ _ (d := d - 1) (by omega) _ _) cs_X7_269 (Nat.le_of_ble_eq_true rfl) (by omega) (fun r h' hr => ?_)
                obtain ⟨he9, rfl⟩ := hr
                rw [he9]
                clear he9 h'
                show V _ _ _ (72 + 3) _ (_ :: _) _
                refine v_iload hC (pc := 75) 2 rfl dX7_signs_75 ?_
                refine v_icmp_ge hC (pc := 77) (tgt := 104) dX7_signs_77 (by decide) (fun c_77 => ?_) (fun c_77 => ?_)
                · exact absurd (show (1000000 : Int32) ≤ bitsF 0 8 from c_77) (by rw [bits_00]; decide)
                · skip
                  refine v_aload_n hC (pc := 80) (k := 0) 3 rfl dX7_signs_80 ?_
                  refine v_iload_n hC (pc := 81) (k := 1) 4 rfl dX7_signs_81 ?_
                  refine v_iload_n hC (pc := 82) (k := 2) 5 rfl dX7_signs_82 ?_
                  refine v_iload_n hC (pc := 83) (k := 3) 6 rfl dX7_signs_83 ?_
                  refine v_aload_n hC (pc := 84) (k := 0) 3 rfl dX7_signs_84 ?_
                  refine v_getR hC (pc := 85) dX7_signs_85 fl_X7_7 rfl (by first | rfl | exact ok_c hq rfl | exact ok_w hq hw | exact ok_w (by omega) (by omega) | exact ok_s (by omega) (by omega) | exact ok_c (by omega) rfl | assumption) rfl (by decide) (by decide) rfl ?_
                  refine v_bipush hC (pc := 88) (v := 16) (by decide +kernel) dX7_signs_88 ?_
                  refine v_iald hC (pc := 90) dX7_signs_90 rfl (by first | rfl | exact ok_c hq rfl | exact ok_w hq hw | exact ok_w (by omega) (by omega) | exact ok_s (by omega) (by omega) | exact ok_c (by omega) rfl | assumption) (vp_nat (n := 16) (by omega) (by decide)) ?_
                  refine v_iload hC (pc := 91) 0 rfl dX7_signs_91 ?_
                  refine v_ior hC (pc := 93) dX7_signs_93 ?_
                  refine v_callV hC (pc := 94) (As := [_, _, _, _]) dX7_signs_94 rfl (m_isInTime _ _ (d := d - 1) (by omega) _ hn8 (by rw [stH_o h (by decide)]; exact hnc) (A := ((stH h).1 (3, 0, 2))) rfl (stH_wfS hn8 hS) (a := a) (b := b) (n1 := n1) (by omega) (by omega) (by omega) _) cv_X7_272 rfl (by decide) rfl (by first | rfl | exact ok_c hq rfl | exact ok_w hq hw | exact ok_w (by omega) (by omega) | exact ok_s (by omega) (by omega) | exact ok_c (by omega) rfl | assumption) (Nat.le_of_ble_eq_true rfl) (by omega) (fun r h' hr => ?_)
                  obtain ⟨he9, rfl⟩ := hr
                  rw [he9]
                  clear he9 h'
                  show V _ _ _ (94 + 3) _ (_ :: _) _
                  refine v_if_eq hC (pc := 97) (tgt := 104) dX7_signs_97 (by decide) (fun c_97 => ?_) (fun c_97 => ?_)
                  · exact absurd ((bP_t hP).symm.trans c_97) (by decide)
                  · skip
                    refine v_iconst hC (pc := 100) (v := 1) (by decide) dX7_signs_100 ?_
                    refine v_goto hC (pc := 101) (tgt := 105) dX7_signs_101 (by decide) ?_
                    refine v_istore hC (pc := 105) (l' := [(7, _), (6, _), (5, _), (4, _), (0, _), (1, _), (2, _), (3, _)]) dX7_signs_105 (by decide) rfl ?_
                    refine v_iload hC (pc := 107) 0 rfl dX7_signs_107 ?_
                    refine v_if_eq hC (pc := 109) (tgt := 117) dX7_signs_109 (by decide) (fun c_109 => ?_) (fun c_109 => ?_)
                    · exact absurd c_109 (by decide)
                    · skip
                      refine v_iload hC (pc := 112) 1 rfl dX7_signs_112 ?_
                      refine v_goto hC (pc := 114) (tgt := 119) dX7_signs_114 (by decide) ?_
                      refine v_istore hC (pc := 119) (l' := [(5, _), (7, _), (6, _), (4, _), (0, _), (1, _), (2, _), (3, _)]) dX7_signs_119 (by decide) rfl ?_
                      refine v_iload hC (pc := 121) 1 rfl dX7_signs_121 ?_
                      refine v_if_eq hC (pc := 123) (tgt := 134) dX7_signs_123 (by decide) (fun c_123 => ?_) (fun c_123 => ?_)
                      · exact absurd c_123 (by decide)
                      · skip
                        refine v_iload hC (pc := 126) 2 rfl dX7_signs_126 ?_
                        refine v_callS hC (pc := 128) (As := [_]) dX7_signs_128 rfl (m_bitsOf _ _ (d := d - 1) (by omega) _ _) cs_X7_269 (Nat.le_of_ble_eq_true rfl) (by omega) (fun r h' hr => ?_)
                        obtain ⟨he9, rfl⟩ := hr
                        rw [he9]
                        clear he9 h'
                        show V _ _ _ (128 + 3) _ (_ :: _) _
                        refine v_goto hC (pc := 131) (tgt := 136) dX7_signs_131 (by decide) ?_
                        refine v_istore hC (pc := 136) (l' := [(4, _), (5, _), (7, _), (6, _), (0, _), (1, _), (2, _), (3, _)]) dX7_signs_136 (by decide) rfl ?_
                        refine v_iinc hC (pc := 138) (l' := [(6, _), (4, _), (5, _), (7, _), (0, _), (1, _), (2, _), (3, _)]) 3 (v := nI (0 + 1)) dX7_signs_138 rfl (nI_inc 0) (by decide) rfl ?_
                        refine v_goto hC (pc := 141) (tgt := 46) dX7_signs_141 (by decide) ?_
                        refine v_loc (l' := [(6, _), (5, _), (4, _), (0, _), (1, _), (2, _), (3, _)]) [0, 2, 1, 4, 5, 6, 7] rfl ?_
                        rw [show bitsF (nI 0) 8 = 0 from bits_00]
                        exact ih2
          · rw [show sfd (wa ((stH h).1 (3, 0, 2)) nC a n1 b) k = 0 from (if_neg (by omega)).trans (if_pos (bP_t hP)), show sfw (wa ((stH h).1 (3, 0, 2)) nC a n1 b) k = 0 from (if_neg (by omega)).trans (if_pos (bP_t hP))]
            refine v_iload hC (pc := 46) 0 rfl dX7_signs_46 ?_
            refine v_iconst hC (pc := 48) (v := 1) (by decide) dX7_signs_48 ?_
            refine v_aload_n hC (pc := 49) (k := 0) 3 rfl dX7_signs_49 ?_
            refine v_getI hC (pc := 50) dX7_signs_50 fl_X7_76 rfl (by first | rfl | exact ok_c hq rfl | exact ok_w hq hw | exact ok_w (by omega) (by omega) | exact ok_s (by omega) (by omega) | exact ok_c (by omega) rfl | assumption) rfl (by decide) (by decide) ?_
            show V X G 8 53 _ (vi ((stH h).1 (3, 0, 0) 3) :: _) _
            rw [show (stH h).1 (3, 0, 0) 3 = nI nC from (by rw [stH_o h (by decide)]; exact hnc)]
            refine v_ishl hC (pc := 53) dX7_signs_53 ?_
            rw [show (1 : Int32) <<< (nI nC &&& 31) = nI (2 ^ nC) from shl1 nC hn8]
            refine v_icmp_ge hC (pc := 54) (tgt := 144) dX7_signs_54 (by decide) (fun c_54 => ?_) (fun c_54 => ?_)
            · exact absurd c_54 (nI_ge hk (by omega))
            · skip
              refine v_iload hC (pc := 57) 0 rfl dX7_signs_57 ?_
              refine v_aload_n hC (pc := 59) (k := 0) 3 rfl dX7_signs_59 ?_
              refine v_getR hC (pc := 60) dX7_signs_60 fl_X7_7 rfl (by first | rfl | exact ok_c hq rfl | exact ok_w hq hw | exact ok_w (by omega) (by omega) | exact ok_s (by omega) (by omega) | exact ok_c (by omega) rfl | assumption) rfl (by decide) (by decide) rfl ?_
              refine v_bipush hC (pc := 63) (v := 16) (by decide +kernel) dX7_signs_63 ?_
              refine v_iald hC (pc := 65) dX7_signs_65 rfl (by first | rfl | exact ok_c hq rfl | exact ok_w hq hw | exact ok_w (by omega) (by omega) | exact ok_s (by omega) (by omega) | exact ok_c (by omega) rfl | assumption) (vp_nat (n := 16) (by omega) (by decide)) ?_
              refine v_iand hC (pc := 66) dX7_signs_66 ?_
              refine v_if_ne hC (pc := 67) (tgt := 104) dX7_signs_67 (by decide) (fun c_67 => ?_) (fun c_67 => ?_)
              · skip
                refine v_iconst hC (pc := 104) (v := 0) (by decide) dX7_signs_104 ?_
                refine v_istore hC (pc := 105) (l' := [(7, _), (6, _), (5, _), (4, _), (0, _), (1, _), (2, _), (3, _)]) dX7_signs_105 (by decide) rfl ?_
                refine v_iload hC (pc := 107) 0 rfl dX7_signs_107 ?_
                refine v_if_eq hC (pc := 109) (tgt := 117) dX7_signs_109 (by decide) (fun c_109 => ?_) (fun c_109 => ?_)
                · skip
                  refine v_iload hC (pc := 117) 2 rfl dX7_signs_117 ?_
                  refine v_istore hC (pc := 119) (l' := [(5, _), (7, _), (6, _), (4, _), (0, _), (1, _), (2, _), (3, _)]) dX7_signs_119 (by decide) rfl ?_
                  refine v_iload hC (pc := 121) 1 rfl dX7_signs_121 ?_
                  refine v_if_eq hC (pc := 123) (tgt := 134) dX7_signs_123 (by decide) (fun c_123 => ?_) (fun c_123 => ?_)
                  · skip
                    refine v_iload hC (pc := 134) 3 rfl dX7_signs_134 ?_
                    refine v_istore hC (pc := 136) (l' := [(4, _), (5, _), (7, _), (6, _), (0, _), (1, _), (2, _), (3, _)]) dX7_signs_136 (by decide) rfl ?_
                    refine v_iinc hC (pc := 138) (l' := [(6, _), (4, _), (5, _), (7, _), (0, _), (1, _), (2, _), (3, _)]) 3 (v := nI (k + 1)) dX7_signs_138 rfl (nI_inc k) (by decide) rfl ?_
                    refine v_goto hC (pc := 141) (tgt := 46) dX7_signs_141 (by decide) ?_
                    refine v_loc (l' := [(6, _), (5, _), (4, _), (0, _), (1, _), (2, _), (3, _)]) [0, 2, 1, 4, 5, 6, 7] rfl ?_
                    exact ih2
                  · exact absurd c_123 (by decide)
                · exact absurd c_109 (by decide)
              · skip
                refine v_iload hC (pc := 70) 0 rfl dX7_signs_70 ?_
                refine v_callS hC (pc := 72) (As := [_]) dX7_signs_72 rfl (m_bitsOf _ _ (d := d - 1) (by omega) _ _) cs_X7_269 (Nat.le_of_ble_eq_true rfl) (by omega) (fun r h' hr => ?_)
                obtain ⟨he9, rfl⟩ := hr
                rw [he9]
                clear he9 h'
                show V _ _ _ (72 + 3) _ (_ :: _) _
                refine v_iload hC (pc := 75) 2 rfl dX7_signs_75 ?_
                refine v_icmp_ge hC (pc := 77) (tgt := 104) dX7_signs_77 (by decide) (fun c_77 => ?_) (fun c_77 => ?_)
                · skip
                  refine v_iconst hC (pc := 104) (v := 0) (by decide) dX7_signs_104 ?_
                  refine v_istore hC (pc := 105) (l' := [(7, _), (6, _), (5, _), (4, _), (0, _), (1, _), (2, _), (3, _)]) dX7_signs_105 (by decide) rfl ?_
                  refine v_iload hC (pc := 107) 0 rfl dX7_signs_107 ?_
                  refine v_if_eq hC (pc := 109) (tgt := 117) dX7_signs_109 (by decide) (fun c_109 => ?_) (fun c_109 => ?_)
                  · skip
                    refine v_iload hC (pc := 117) 2 rfl dX7_signs_117 ?_
                    refine v_istore hC (pc := 119) (l' := [(5, _), (7, _), (6, _), (4, _), (0, _), (1, _), (2, _), (3, _)]) dX7_signs_119 (by decide) rfl ?_
                    refine v_iload hC (pc := 121) 1 rfl dX7_signs_121 ?_
                    refine v_if_eq hC (pc := 123) (tgt := 134) dX7_signs_123 (by decide) (fun c_123 => ?_) (fun c_123 => ?_)
                    · skip
                      refine v_iload hC (pc := 134) 3 rfl dX7_signs_134 ?_
                      refine v_istore hC (pc := 136) (l' := [(4, _), (5, _), (7, _), (6, _), (0, _), (1, _), (2, _), (3, _)]) dX7_signs_136 (by decide) rfl ?_
                      refine v_iinc hC (pc := 138) (l' := [(6, _), (4, _), (5, _), (7, _), (0, _), (1, _), (2, _), (3, _)]) 3 (v := nI (k + 1)) dX7_signs_138 rfl (nI_inc k) (by decide) rfl ?_
                      refine v_goto hC (pc := 141) (tgt := 46) dX7_signs_141 (by decide) ?_
                      refine v_loc (l' := [(6, _), (5, _), (4, _), (0, _), (1, _), (2, _), (3, _)]) [0, 2, 1, 4, 5, 6, 7] rfl ?_
                      exact ih2
                    · exact absurd c_123 (by decide)
                  · exact absurd c_109 (by decide)
                · exact absurd (bits_ge k) c_77
        · have hq : ¬ bP (wa ((stH h).1 (3, 0, 2)) nC a n1 b) = 1 := fun z => hP (bP_1.mp z)
          rw [show sfd (wa ((stH h).1 (3, 0, 2)) nC a n1 b) (k + 1) = -4 from (if_neg (by omega)).trans (if_neg hq), show sfw (wa ((stH h).1 (3, 0, 2)) nC a n1 b) (k + 1) = 1000000 from (if_neg (by omega)).trans (if_neg hq)] at ih2
          rw [show sfd (wa ((stH h).1 (3, 0, 2)) nC a n1 b) k = -4 from by unfold sfd; rw [if_neg hq]; split <;> rfl, show sfw (wa ((stH h).1 (3, 0, 2)) nC a n1 b) k = 1000000 from by unfold sfw; rw [if_neg hq]; split <;> rfl]
          refine v_iload hC (pc := 46) 0 rfl dX7_signs_46 ?_
          refine v_iconst hC (pc := 48) (v := 1) (by decide) dX7_signs_48 ?_
          refine v_aload_n hC (pc := 49) (k := 0) 3 rfl dX7_signs_49 ?_
          refine v_getI hC (pc := 50) dX7_signs_50 fl_X7_76 rfl (by first | rfl | exact ok_c hq rfl | exact ok_w hq hw | exact ok_w (by omega) (by omega) | exact ok_s (by omega) (by omega) | exact ok_c (by omega) rfl | assumption) rfl (by decide) (by decide) ?_
          show V X G 8 53 _ (vi ((stH h).1 (3, 0, 0) 3) :: _) _
          rw [show (stH h).1 (3, 0, 0) 3 = nI nC from (by rw [stH_o h (by decide)]; exact hnc)]
          refine v_ishl hC (pc := 53) dX7_signs_53 ?_
          rw [show (1 : Int32) <<< (nI nC &&& 31) = nI (2 ^ nC) from shl1 nC hn8]
          refine v_icmp_ge hC (pc := 54) (tgt := 144) dX7_signs_54 (by decide) (fun c_54 => ?_) (fun c_54 => ?_)
          · exact absurd c_54 (nI_ge hk (by omega))
          · skip
            refine v_iload hC (pc := 57) 0 rfl dX7_signs_57 ?_
            refine v_aload_n hC (pc := 59) (k := 0) 3 rfl dX7_signs_59 ?_
            refine v_getR hC (pc := 60) dX7_signs_60 fl_X7_7 rfl (by first | rfl | exact ok_c hq rfl | exact ok_w hq hw | exact ok_w (by omega) (by omega) | exact ok_s (by omega) (by omega) | exact ok_c (by omega) rfl | assumption) rfl (by decide) (by decide) rfl ?_
            refine v_bipush hC (pc := 63) (v := 16) (by decide +kernel) dX7_signs_63 ?_
            refine v_iald hC (pc := 65) dX7_signs_65 rfl (by first | rfl | exact ok_c hq rfl | exact ok_w hq hw | exact ok_w (by omega) (by omega) | exact ok_s (by omega) (by omega) | exact ok_c (by omega) rfl | assumption) (vp_nat (n := 16) (by omega) (by decide)) ?_
            refine v_iand hC (pc := 66) dX7_signs_66 ?_
            refine v_if_ne hC (pc := 67) (tgt := 104) dX7_signs_67 (by decide) (fun c_67 => ?_) (fun c_67 => ?_)
            · skip
              refine v_iconst hC (pc := 104) (v := 0) (by decide) dX7_signs_104 ?_
              refine v_istore hC (pc := 105) (l' := [(7, _), (6, _), (5, _), (4, _), (0, _), (1, _), (2, _), (3, _)]) dX7_signs_105 (by decide) rfl ?_
              refine v_iload hC (pc := 107) 0 rfl dX7_signs_107 ?_
              refine v_if_eq hC (pc := 109) (tgt := 117) dX7_signs_109 (by decide) (fun c_109 => ?_) (fun c_109 => ?_)
              · skip
                refine v_iload hC (pc := 117) 2 rfl dX7_signs_117 ?_
                refine v_istore hC (pc := 119) (l' := [(5, _), (7, _), (6, _), (4, _), (0, _), (1, _), (2, _), (3, _)]) dX7_signs_119 (by decide) rfl ?_
                refine v_iload hC (pc := 121) 1 rfl dX7_signs_121 ?_
                refine v_if_eq hC (pc := 123) (tgt := 134) dX7_signs_123 (by decide) (fun c_123 => ?_) (fun c_123 => ?_)
                · skip
                  refine v_iload hC (pc := 134) 3 rfl dX7_signs_134 ?_
                  refine v_istore hC (pc := 136) (l' := [(4, _), (5, _), (7, _), (6, _), (0, _), (1, _), (2, _), (3, _)]) dX7_signs_136 (by decide) rfl ?_
                  refine v_iinc hC (pc := 138) (l' := [(6, _), (4, _), (5, _), (7, _), (0, _), (1, _), (2, _), (3, _)]) 3 (v := nI (k + 1)) dX7_signs_138 rfl (nI_inc k) (by decide) rfl ?_
                  refine v_goto hC (pc := 141) (tgt := 46) dX7_signs_141 (by decide) ?_
                  refine v_loc (l' := [(6, _), (5, _), (4, _), (0, _), (1, _), (2, _), (3, _)]) [0, 2, 1, 4, 5, 6, 7] rfl ?_
                  exact ih2
                · exact absurd c_123 (by decide)
              · exact absurd c_109 (by decide)
            · skip
              refine v_iload hC (pc := 70) 0 rfl dX7_signs_70 ?_
              refine v_callS hC (pc := 72) (As := [_]) dX7_signs_72 rfl (m_bitsOf _ _ (d := d - 1) (by omega) _ _) cs_X7_269 (Nat.le_of_ble_eq_true rfl) (by omega) (fun r h' hr => ?_)
              obtain ⟨he9, rfl⟩ := hr
              rw [he9]
              clear he9 h'
              show V _ _ _ (72 + 3) _ (_ :: _) _
              refine v_iload hC (pc := 75) 2 rfl dX7_signs_75 ?_
              refine v_icmp_ge hC (pc := 77) (tgt := 104) dX7_signs_77 (by decide) (fun c_77 => ?_) (fun c_77 => ?_)
              · skip
                refine v_iconst hC (pc := 104) (v := 0) (by decide) dX7_signs_104 ?_
                refine v_istore hC (pc := 105) (l' := [(7, _), (6, _), (5, _), (4, _), (0, _), (1, _), (2, _), (3, _)]) dX7_signs_105 (by decide) rfl ?_
                refine v_iload hC (pc := 107) 0 rfl dX7_signs_107 ?_
                refine v_if_eq hC (pc := 109) (tgt := 117) dX7_signs_109 (by decide) (fun c_109 => ?_) (fun c_109 => ?_)
                · skip
                  refine v_iload hC (pc := 117) 2 rfl dX7_signs_117 ?_
                  refine v_istore hC (pc := 119) (l' := [(5, _), (7, _), (6, _), (4, _), (0, _), (1, _), (2, _), (3, _)]) dX7_signs_119 (by decide) rfl ?_
                  refine v_iload hC (pc := 121) 1 rfl dX7_signs_121 ?_
                  refine v_if_eq hC (pc := 123) (tgt := 134) dX7_signs_123 (by decide) (fun c_123 => ?_) (fun c_123 => ?_)
                  · skip
                    refine v_iload hC (pc := 134) 3 rfl dX7_signs_134 ?_
                    refine v_istore hC (pc := 136) (l' := [(4, _), (5, _), (7, _), (6, _), (0, _), (1, _), (2, _), (3, _)]) dX7_signs_136 (by decide) rfl ?_
                    refine v_iinc hC (pc := 138) (l' := [(6, _), (4, _), (5, _), (7, _), (0, _), (1, _), (2, _), (3, _)]) 3 (v := nI (k + 1)) dX7_signs_138 rfl (nI_inc k) (by decide) rfl ?_
                    refine v_goto hC (pc := 141) (tgt := 46) dX7_signs_141 (by decide) ?_
                    refine v_loc (l' := [(6, _), (5, _), (4, _), (0, _), (1, _), (2, _), (3, _)]) [0, 2, 1, 4, 5, 6, 7] rfl ?_
                    exact ih2
                  · exact absurd c_123 (by decide)
                · exact absurd c_109 (by decide)
              · skip
                refine v_aload_n hC (pc := 80) (k := 0) 3 rfl dX7_signs_80 ?_
                refine v_iload_n hC (pc := 81) (k := 1) 4 rfl dX7_signs_81 ?_
                refine v_iload_n hC (pc := 82) (k := 2) 5 rfl dX7_signs_82 ?_
                refine v_iload_n hC (pc := 83) (k := 3) 6 rfl dX7_signs_83 ?_
                refine v_aload_n hC (pc := 84) (k := 0) 3 rfl dX7_signs_84 ?_
                refine v_getR hC (pc := 85) dX7_signs_85 fl_X7_7 rfl (by first | rfl | exact ok_c hq rfl | exact ok_w hq hw | exact ok_w (by omega) (by omega) | exact ok_s (by omega) (by omega) | exact ok_c (by omega) rfl | assumption) rfl (by decide) (by decide) rfl ?_
                refine v_bipush hC (pc := 88) (v := 16) (by decide +kernel) dX7_signs_88 ?_
                refine v_iald hC (pc := 90) dX7_signs_90 rfl (by first | rfl | exact ok_c hq rfl | exact ok_w hq hw | exact ok_w (by omega) (by omega) | exact ok_s (by omega) (by omega) | exact ok_c (by omega) rfl | assumption) (vp_nat (n := 16) (by omega) (by decide)) ?_
                refine v_iload hC (pc := 91) 0 rfl dX7_signs_91 ?_
                refine v_ior hC (pc := 93) dX7_signs_93 ?_
                refine v_callV hC (pc := 94) (As := [_, _, _, _]) dX7_signs_94 rfl (m_isInTime _ _ (d := d - 1) (by omega) _ hn8 (by rw [stH_o h (by decide)]; exact hnc) (A := ((stH h).1 (3, 0, 2))) rfl (stH_wfS hn8 hS) (a := a) (b := b) (n1 := n1) (by omega) (by omega) (by omega) _) cv_X7_272 rfl (by decide) rfl (by first | rfl | exact ok_c hq rfl | exact ok_w hq hw | exact ok_w (by omega) (by omega) | exact ok_s (by omega) (by omega) | exact ok_c (by omega) rfl | assumption) (Nat.le_of_ble_eq_true rfl) (by omega) (fun r h' hr => ?_)
                obtain ⟨he9, rfl⟩ := hr
                rw [he9]
                clear he9 h'
                show V _ _ _ (94 + 3) _ (_ :: _) _
                refine v_if_eq hC (pc := 97) (tgt := 104) dX7_signs_97 (by decide) (fun c_97 => ?_) (fun c_97 => ?_)
                · skip
                  refine v_iconst hC (pc := 104) (v := 0) (by decide) dX7_signs_104 ?_
                  refine v_istore hC (pc := 105) (l' := [(7, _), (6, _), (5, _), (4, _), (0, _), (1, _), (2, _), (3, _)]) dX7_signs_105 (by decide) rfl ?_
                  refine v_iload hC (pc := 107) 0 rfl dX7_signs_107 ?_
                  refine v_if_eq hC (pc := 109) (tgt := 117) dX7_signs_109 (by decide) (fun c_109 => ?_) (fun c_109 => ?_)
                  · skip
                    refine v_iload hC (pc := 117) 2 rfl dX7_signs_117 ?_
                    refine v_istore hC (pc := 119) (l' := [(5, _), (7, _), (6, _), (4, _), (0, _), (1, _), (2, _), (3, _)]) dX7_signs_119 (by decide) rfl ?_
                    refine v_iload hC (pc := 121) 1 rfl dX7_signs_121 ?_
                    refine v_if_eq hC (pc := 123) (tgt := 134) dX7_signs_123 (by decide) (fun c_123 => ?_) (fun c_123 => ?_)
                    · skip
                      refine v_iload hC (pc := 134) 3 rfl dX7_signs_134 ?_
                      refine v_istore hC (pc := 136) (l' := [(4, _), (5, _), (7, _), (6, _), (0, _), (1, _), (2, _), (3, _)]) dX7_signs_136 (by decide) rfl ?_
                      refine v_iinc hC (pc := 138) (l' := [(6, _), (4, _), (5, _), (7, _), (0, _), (1, _), (2, _), (3, _)]) 3 (v := nI (k + 1)) dX7_signs_138 rfl (nI_inc k) (by decide) rfl ?_
                      refine v_goto hC (pc := 141) (tgt := 46) dX7_signs_141 (by decide) ?_
                      refine v_loc (l' := [(6, _), (5, _), (4, _), (0, _), (1, _), (2, _), (3, _)]) [0, 2, 1, 4, 5, 6, 7] rfl ?_
                      exact ih2
                    · exact absurd c_123 (by decide)
                  · exact absurd c_109 (by decide)
                · exact absurd (bP_f hP) c_97
  refine v_aload_n hC (pc := 0) (k := 0) 0 rfl dX7_signs_0 ?_
  refine v_iload_n hC (pc := 1) (k := 1) 1 rfl dX7_signs_1 ?_
  refine v_callV hC (pc := 2) (As := [_]) dX7_signs_2 rfl (m_isCorner_t _ _ (d := d - 1) (by omega) _ (c := a) (by assumption) hn8 hnc) cv_X7_210 rfl (by decide) rfl (by first | rfl | exact ok_c hq rfl | exact ok_w hq hw | exact ok_w (by omega) (by omega) | exact ok_s (by omega) (by omega) | exact ok_c (by omega) rfl | assumption) (Nat.le_of_ble_eq_true rfl) (by omega) (fun r h' hr => ?_)
  obtain ⟨he9, rfl⟩ := hr
  rw [he9]
  clear he9 h'
  show V _ _ _ (2 + 3) _ (_ :: _) _
  refine v_if_eq hC (pc := 5) (tgt := 28) dX7_signs_5 (by decide) (fun c_5 => ?_) (fun c_5 => ?_)
  · exact absurd c_5 (by decide)
  · skip
    refine v_aload_n hC (pc := 8) (k := 0) 0 rfl dX7_signs_8 ?_
    refine v_iload_n hC (pc := 9) (k := 2) 2 rfl dX7_signs_9 ?_
    refine v_callV hC (pc := 10) (As := [_]) dX7_signs_10 rfl (m_isCorner_t _ _ (d := d - 1) (by omega) _ (c := b) (by assumption) hn8 hnc) cv_X7_210 rfl (by decide) rfl (by first | rfl | exact ok_c hq rfl | exact ok_w hq hw | exact ok_w (by omega) (by omega) | exact ok_s (by omega) (by omega) | exact ok_c (by omega) rfl | assumption) (Nat.le_of_ble_eq_true rfl) (by omega) (fun r h' hr => ?_)
    obtain ⟨he9, rfl⟩ := hr
    rw [he9]
    clear he9 h'
    show V _ _ _ (10 + 3) _ (_ :: _) _
    refine v_if_eq hC (pc := 13) (tgt := 28) dX7_signs_13 (by decide) (fun c_13 => ?_) (fun c_13 => ?_)
    · exact absurd c_13 (by decide)
    · skip
      refine v_iload_n hC (pc := 16) (k := 3) 3 rfl dX7_signs_16 ?_
      refine v_i2l hC (pc := 17) dX7_signs_17 ?_
      refine v_lconst hC (pc := 18) (v := 1) (by decide) dX7_signs_18 ?_
      refine v_ldc2 hC (pc := 19) k_X7_263 dX7_signs_19 ?_
      refine v_callS hC (pc := 22) (As := [_, _, _]) dX7_signs_22 rfl (m_in_t _ _ (d := d - 1) (by omega) _ (nI n1) 1 24 ⟨nI_ge2 hn0 (by omega), nI_nlt hn (by decide)⟩) cs_X7_84 (Nat.le_of_ble_eq_true rfl) (by omega) (fun r h' hr => ?_)
      obtain ⟨he9, rfl⟩ := hr
      rw [he9]
      clear he9 h'
      show V _ _ _ (22 + 3) _ (_ :: _) _
      refine v_if_ne hC (pc := 25) (tgt := 30) dX7_signs_25 (by decide) (fun c_25 => ?_) (fun c_25 => ?_)
      · skip
        refine v_ldcw hC (pc := 30) k_X7_268 dX7_signs_30 ?_
        refine v_istore hC (pc := 33) (l' := [(4, _), (0, _), (1, _), (2, _), (3, _)]) dX7_signs_33 (by decide) rfl ?_
        refine v_bipush hC (pc := 35) (v := (-4)) (by decide +kernel) dX7_signs_35 ?_
        refine v_istore hC (pc := 37) (l' := [(5, _), (4, _), (0, _), (1, _), (2, _), (3, _)]) dX7_signs_37 (by decide) rfl ?_
        refine v_aload_n hC (pc := 39) (k := 0) 2 rfl dX7_signs_39 ?_
        refine v_callV hC (pc := 40) (As := []) dX7_signs_40 rfl (m_starts _ _ (d := d - 1) (by omega) _) cv_X7_219 rfl (by decide) rfl (by first | rfl | exact ok_c hq rfl | exact ok_w hq hw | exact ok_w (by omega) (by omega) | exact ok_s (by omega) (by omega) | exact ok_c (by omega) rfl | assumption) (Nat.le_of_ble_eq_true rfl) (by omega) (fun r h' hr => ?_)
        obtain ⟨rfl, rfl⟩ := hr
        refine v_heap (show _ = stH h from rfl) ?_
        show V _ _ _ (40 + 3) _ _ _
        refine v_iconst hC (pc := 43) (v := 0) (by decide) dX7_signs_43 ?_
        refine v_istore hC (pc := 44) (l' := [(6, _), (5, _), (4, _), (0, _), (1, _), (2, _), (3, _)]) dX7_signs_44 (by decide) rfl ?_
        exact loop (2 ^ nC + 1) 0 (Nat.zero_le _) (by omega)
      · exact absurd c_25 (by decide)

set_option maxRecDepth 20000 in
set_option maxHeartbeats 2000000 in
theorem m_signs_bad (l9 : Launch) (G : WT) {d : Nat} (hd : 3 ≤ d) (h : HP) {nC : Nat} (hn8 : nC ≤ 8) (hnc : h.1 (3, 0, 0) 3 = nI nC) (a b n : Int32) (hbad : ¬ ((¬ a < 0 ∧ ¬ nI nC ≤ a) ∧ (¬ b < 0 ∧ ¬ nI nC ≤ b) ∧ ¬ n < 1 ∧ ¬ 24 < n)) : MS l9 G yX7_signs cX7_signs 8 (some .int) d [vr (3, 0, 0), vi a, vi b, vi n] h (fun r h1 => h1 = h ∧ r = some (vi (-1))) := by
  refine MS_of (by decide +kernel) (Nat.le_of_ble_eq_true rfl) (fun X hC hX => ?_)
  show V X G 8 0 _ [] _
  refine v_aload_n hC (pc := 0) (k := 0) 0 rfl dX7_signs_0 ?_
  refine v_iload_n hC (pc := 1) (k := 1) 1 rfl dX7_signs_1 ?_
  refine v_callV hC (pc := 2) (As := [_]) dX7_signs_2 rfl (m_isCorner _ _ (d := d - 1) (by omega) _ hn8 hnc _) cv_X7_210 rfl (by decide) rfl (by first | rfl | exact ok_c hq rfl | exact ok_w hq hw | exact ok_w (by omega) (by omega) | exact ok_s (by omega) (by omega) | exact ok_c (by omega) rfl | assumption) (Nat.le_of_ble_eq_true rfl) (by omega) (fun r h' hr => ?_)
  obtain ⟨he9, rfl⟩ := hr
  rw [he9]
  clear he9 h'
  show V _ _ _ (2 + 3) _ (_ :: _) _
  refine v_ifb_eq hC (pc := 5) (tgt := 28) dX7_signs_5 (by decide) (fun c_5 => ?_) (fun c_5 => ?_)
  · skip
    refine v_iconst hC (pc := 28) (v := (-1)) (by decide) dX7_signs_28 ?_
    refine v_iret hC hX (pc := 29) dX7_signs_29 ?_
    exact ⟨rfl, rfl⟩
  · skip
    refine v_aload_n hC (pc := 8) (k := 0) 0 rfl dX7_signs_8 ?_
    refine v_iload_n hC (pc := 9) (k := 2) 2 rfl dX7_signs_9 ?_
    refine v_callV hC (pc := 10) (As := [_]) dX7_signs_10 rfl (m_isCorner _ _ (d := d - 1) (by omega) _ hn8 hnc _) cv_X7_210 rfl (by decide) rfl (by first | rfl | exact ok_c hq rfl | exact ok_w hq hw | exact ok_w (by omega) (by omega) | exact ok_s (by omega) (by omega) | exact ok_c (by omega) rfl | assumption) (Nat.le_of_ble_eq_true rfl) (by omega) (fun r h' hr => ?_)
    obtain ⟨he9, rfl⟩ := hr
    rw [he9]
    clear he9 h'
    show V _ _ _ (10 + 3) _ (_ :: _) _
    refine v_ifb_eq hC (pc := 13) (tgt := 28) dX7_signs_13 (by decide) (fun c_13 => ?_) (fun c_13 => ?_)
    · skip
      refine v_iconst hC (pc := 28) (v := (-1)) (by decide) dX7_signs_28 ?_
      refine v_iret hC hX (pc := 29) dX7_signs_29 ?_
      exact ⟨rfl, rfl⟩
    · skip
      refine v_iload_n hC (pc := 16) (k := 3) 3 rfl dX7_signs_16 ?_
      refine v_i2l hC (pc := 17) dX7_signs_17 ?_
      refine v_lconst hC (pc := 18) (v := 1) (by decide) dX7_signs_18 ?_
      refine v_ldc2 hC (pc := 19) k_X7_263 dX7_signs_19 ?_
      refine v_callS hC (pc := 22) (As := [_, _, _]) dX7_signs_22 rfl (m_in _ _ (d := d - 1) (by omega) _ (n) (1) (24)) cs_X7_84 (Nat.le_of_ble_eq_true rfl) (by omega) (fun r h' hr => ?_)
      obtain ⟨he9, rfl⟩ := hr
      rw [he9]
      clear he9 h'
      show V _ _ _ (22 + 3) _ (_ :: _) _
      refine v_ifb_ne hC (pc := 25) (tgt := 30) dX7_signs_25 (by decide) (fun c_25 => ?_) (fun c_25 => ?_)
      · skip
        exact absurd ⟨c_5, c_13, c_25⟩ hbad
      · skip
        refine v_iconst hC (pc := 28) (v := (-1)) (by decide) dX7_signs_28 ?_
        refine v_iret hC hX (pc := 29) dX7_signs_29 ?_
        exact ⟨rfl, rfl⟩

