/-! THE REFERENCE: meet, shake, pairs -/
theorem wa_0 {A : Nat → Int32} {nC a p : Nat} : p = a ↔ wa A nC a 0 p := ⟨fun z => ⟨0, Nat.le_refl _, z⟩, fun ⟨j, y1, y2⟩ => by
  have e : j = 0 := by omega
  subst e
  exact y2⟩
set_option maxRecDepth 20000 in
set_option maxHeartbeats 2000000 in
theorem m_meet_ok (l9 : Launch) (G : WT) {d : Nat} (hd : 5 ≤ d) (h : HP) {nC nW : Nat} (hn8 : nC ≤ 8) (hnc : h.1 (3, 0, 0) 3 = nI nC) (hn4 : nW ≤ 4) (hnw : h.1 (3, 0, 0) 4 = nI nW) (hS : wfS (h.1 (3, 0, 1)) nC) {w v x pw pv : Nat} (hw : w < nW) (hv : v < nW) (hne : ¬ w = v) (hx : x < 2) (hpw : ((stH h).1 (3, 0, 2)) (18 + 6 * w + 0) = nI pw) (hpv : ((stH h).1 (3, 0, 2)) (18 + 6 * v + 0) = nI pv) (hpw8 : pw < nC) (hpv8 : pv < nC) : MS l9 G yX7_meet cX7_meet 8 (some .int) d [vr (3, 0, 0), vi (nI w), vi (nI v), vi (nI x)] h (fun r h1 => scr h h1 ∧ ((∃ k, k ≤ 24 ∧ ∃ c, c < nC ∧ wa ((stH h).1 (3, 0, 2)) nC pw k c ∧ wa ((stH h).1 (3, 0, 2)) nC pv k c ∧ (∀ m, m < c → ¬ (wa ((stH h).1 (3, 0, 2)) nC pw k m ∧ wa ((stH h).1 (3, 0, 2)) nC pv k m)) ∧ (∀ m, m < k → ∀ c, c < nC → ¬ (wa ((stH h).1 (3, 0, 2)) nC pw m c ∧ wa ((stH h).1 (3, 0, 2)) nC pv m c)) ∧ r = some (vi (if x = 0 then nI k else nI c))) ∨ (r = some (vi (-4)) ∧ ∀ m, m ≤ 24 → ∀ c, c < nC → ¬ (wa ((stH h).1 (3, 0, 2)) nC pw m c ∧ wa ((stH h).1 (3, 0, 2)) nC pv m c)))) := by
  refine MS_of (by decide +kernel) (Nat.le_of_ble_eq_true rfl) (fun X hC hX => ?_)
  show V X G 8 0 _ [] _
  have loop : ∀ (n k : Nat) (mv yv : Int32), k ≤ 25 → 26 ≤ k + n → Bs mv (wa ((stH h).1 (3, 0, 2)) nC pw k) → Bs yv (wa ((stH h).1 (3, 0, 2)) nC pv k) → (∀ m, m < k → ∀ c, c < nC → ¬ (wa ((stH h).1 (3, 0, 2)) nC pw m c ∧ wa ((stH h).1 (3, 0, 2)) nC pv m c)) → V X G 8 57 [(6, vi (nI k)), (5, vi yv), (4, vi mv), (0, vr (3, 0, 0)), (1, vi (nI w)), (2, vi (nI v)), (3, vi (nI x))] [] (stH h) := by
    intro n
    induction n with
    | zero => intro k mv yv h1 h2; exact absurd h2 (by omega)
    | succ n ih =>
      intro k mv yv h1 h2 hmv hyv hks
      refine v_iload hC (pc := 57) 0 rfl dX7_meet_57 ?_
      refine v_bipush hC (pc := 59) (v := 24) (by decide +kernel) dX7_meet_59 ?_
      refine v_icmp_gt hC (pc := 61) (tgt := 151) dX7_meet_61 (by decide) (fun c_61 => ?_) (fun c_61 => ?_)
      · skip
        have hk : 24 < k := lp_gt (N := 24) c_61 (by decide) (by omega)
        refine v_bipush hC (pc := 151) (v := (-4)) (by decide +kernel) dX7_meet_151 ?_
        refine v_iret hC hX (pc := 153) dX7_meet_153 ?_
        exact ⟨scr_st h, Or.inr ⟨rfl, fun m hm => hks m (by omega)⟩⟩
      · skip
        have hk : k ≤ 24 := lp_ngt (N := 24) c_61 (by decide) (by omega)
        refine v_iconst hC (pc := 64) (v := 0) (by decide) dX7_meet_64 ?_
        refine v_istore hC (pc := 65) (l' := [(7, _), (6, _), (5, _), (4, _), (0, _), (1, _), (2, _), (3, _)]) dX7_meet_65 (by decide) rfl ?_
        have cl : ∀ (n c : Nat), c ≤ nC → nC + 1 ≤ c + n → (∀ m, m < c → ¬ (wa ((stH h).1 (3, 0, 2)) nC pw k m ∧ wa ((stH h).1 (3, 0, 2)) nC pv k m)) → V X G 8 67 [(7, vi (nI c)), (6, vi (nI k)), (5, vi yv), (4, vi mv), (0, vr (3, 0, 0)), (1, vi (nI w)), (2, vi (nI v)), (3, vi (nI x))] [] (stH h) := by
          intro n
          induction n with
          | zero => intro c h1 h2; exact absurd h2 (by omega)
          | succ n ihc =>
            intro c h1 h2 hcs
            refine v_iload hC (pc := 67) 0 rfl dX7_meet_67 ?_
            refine v_aload_n hC (pc := 69) (k := 0) 4 rfl dX7_meet_69 ?_
            refine v_getI hC (pc := 70) dX7_meet_70 fl_X7_76 rfl (by first | rfl | exact ok_c hq rfl | exact ok_w hq hw | exact ok_w (by omega) (by omega) | exact ok_s (by omega) (by omega) | exact ok_c (by omega) rfl | assumption) rfl (by decide) (by decide) ?_
            refine v_icmp_ge hC (pc := 73) (tgt := 107) dX7_meet_73 (by decide) (fun c_73 => ?_) (fun c_73 => ?_)
            · skip
              have hcn : c = nC := lp_ex (by rw [show (stH h).1 (3, 0, 0) 3 = nI nC from (by rw [stH_o h (by decide)]; exact hnc)] at c_73; exact c_73) h1 (by omega)
              refine v_aload_n hC (pc := 107) (k := 0) 4 rfl dX7_meet_107 ?_
              refine v_iload_n hC (pc := 108) (k := 1) 5 rfl dX7_meet_108 ?_
              refine v_iload hC (pc := 109) 3 rfl dX7_meet_109 ?_
              refine v_aload_n hC (pc := 111) (k := 0) 4 rfl dX7_meet_111 ?_
              refine v_getR hC (pc := 112) dX7_meet_112 fl_X7_13 rfl (by first | rfl | exact ok_c hq rfl | exact ok_w hq hw | exact ok_w (by omega) (by omega) | exact ok_s (by omega) (by omega) | exact ok_c (by omega) rfl | assumption) rfl (by decide) (by decide) rfl ?_
              refine v_bipush hC (pc := 115) (v := 17) (by decide +kernel) dX7_meet_115 ?_
              refine v_iald hC (pc := 117) dX7_meet_117 rfl (by first | rfl | exact ok_c hq rfl | exact ok_w hq hw | exact ok_w (by omega) (by omega) | exact ok_s (by omega) (by omega) | exact ok_c (by omega) rfl | assumption) (vp_nat (n := 17) (by omega) (by decide)) ?_
              refine v_iload hC (pc := 118) 1 rfl dX7_meet_118 ?_
              refine v_iadd hC (pc := 120) dX7_meet_120 ?_
              refine v_callV hC (pc := 121) (As := [_, _, _]) dX7_meet_121 rfl (m_freely _ _ (d := d - 1) (by omega) _ hn8 (by rw [stH_o h (by decide)]; exact hnc) (A := ((stH h).1 (3, 0, 2))) rfl (stH_wfS hn8 hS) (w := w) (by omega) (F := wa ((stH h).1 (3, 0, 2)) nC pw k) hmv _) cv_X7_276 rfl (by decide) rfl (by first | rfl | exact ok_c hq rfl | exact ok_w hq hw | exact ok_w (by omega) (by omega) | exact ok_s (by omega) (by omega) | exact ok_c (by omega) rfl | assumption) (Nat.le_of_ble_eq_true rfl) (by omega) (fun r h' hr => ?_)
              obtain ⟨he9, mv2, rfl, hmv2⟩ := hr
              rw [he9]
              clear he9 h'
              show V _ _ _ (121 + 3) _ (_ :: _) _
              refine v_istore hC (pc := 124) (l' := [(4, _), (7, _), (6, _), (5, _), (0, _), (1, _), (2, _), (3, _)]) dX7_meet_124 (by decide) rfl ?_
              refine v_aload_n hC (pc := 126) (k := 0) 4 rfl dX7_meet_126 ?_
              refine v_iload_n hC (pc := 127) (k := 2) 6 rfl dX7_meet_127 ?_
              refine v_iload hC (pc := 128) 3 rfl dX7_meet_128 ?_
              refine v_aload_n hC (pc := 130) (k := 0) 4 rfl dX7_meet_130 ?_
              refine v_getR hC (pc := 131) dX7_meet_131 fl_X7_13 rfl (by first | rfl | exact ok_c hq rfl | exact ok_w hq hw | exact ok_w (by omega) (by omega) | exact ok_s (by omega) (by omega) | exact ok_c (by omega) rfl | assumption) rfl (by decide) (by decide) rfl ?_
              refine v_bipush hC (pc := 134) (v := 17) (by decide +kernel) dX7_meet_134 ?_
              refine v_iald hC (pc := 136) dX7_meet_136 rfl (by first | rfl | exact ok_c hq rfl | exact ok_w hq hw | exact ok_w (by omega) (by omega) | exact ok_s (by omega) (by omega) | exact ok_c (by omega) rfl | assumption) (vp_nat (n := 17) (by omega) (by decide)) ?_
              refine v_iload hC (pc := 137) 2 rfl dX7_meet_137 ?_
              refine v_iadd hC (pc := 139) dX7_meet_139 ?_
              refine v_callV hC (pc := 140) (As := [_, _, _]) dX7_meet_140 rfl (m_freely _ _ (d := d - 1) (by omega) _ hn8 (by rw [stH_o h (by decide)]; exact hnc) (A := ((stH h).1 (3, 0, 2))) rfl (stH_wfS hn8 hS) (w := v) (by omega) (F := wa ((stH h).1 (3, 0, 2)) nC pv k) hyv _) cv_X7_276 rfl (by decide) rfl (by first | rfl | exact ok_c hq rfl | exact ok_w hq hw | exact ok_w (by omega) (by omega) | exact ok_s (by omega) (by omega) | exact ok_c (by omega) rfl | assumption) (Nat.le_of_ble_eq_true rfl) (by omega) (fun r h' hr => ?_)
              obtain ⟨he9, yv2, rfl, hyv2⟩ := hr
              rw [he9]
              clear he9 h'
              show V _ _ _ (140 + 3) _ (_ :: _) _
              refine v_istore hC (pc := 143) (l' := [(5, _), (4, _), (7, _), (6, _), (0, _), (1, _), (2, _), (3, _)]) dX7_meet_143 (by decide) rfl ?_
              refine v_iinc hC (pc := 145) (l' := [(6, _), (5, _), (4, _), (7, _), (0, _), (1, _), (2, _), (3, _)]) 3 (v := nI (k + 1)) dX7_meet_145 rfl (nI_inc k) (by decide) rfl ?_
              refine v_goto hC (pc := 148) (tgt := 57) dX7_meet_148 (by decide) ?_
              refine v_loc (l' := [(6, _), (5, _), (4, _), (0, _), (1, _), (2, _), (3, _)]) [0, 1, 2, 4, 5, 6, 7] rfl ?_
              exact ih (k + 1) _ _ (by omega) (by omega) (Bs_congr hmv2 su_wa) (Bs_congr hyv2 su_wa) (fun m y c1 y1 => by
                rcases (show m < k ∨ m = k by omega) with q | rfl
                · exact hks m q c1 y1
                · exact hcs c1 (by omega))
            · skip
              have hc : c < nC := lp_in (by rw [show (stH h).1 (3, 0, 0) 3 = nI nC from (by rw [stH_o h (by decide)]; exact hnc)] at c_73; exact c_73) h1 (by omega)
              have hz := Bs_nz (Bs_and (Bs_and hmv hyv) (Bs_one (q := c) (by omega)))
              refine v_iload hC (pc := 76) 3 rfl dX7_meet_76 ?_
              refine v_iload hC (pc := 78) 2 rfl dX7_meet_78 ?_
              refine v_iand hC (pc := 80) dX7_meet_80 ?_
              refine v_iconst hC (pc := 81) (v := 1) (by decide) dX7_meet_81 ?_
              refine v_iload hC (pc := 82) 0 rfl dX7_meet_82 ?_
              refine v_ishl hC (pc := 84) dX7_meet_84 ?_
              refine v_iand hC (pc := 85) dX7_meet_85 ?_
              refine v_if_eq hC (pc := 86) (tgt := 101) dX7_meet_86 (by decide) (fun c_86 => ?_) (fun c_86 => ?_)
              · skip
                have hq : ¬ (wa ((stH h).1 (3, 0, 2)) nC pw k c ∧ wa ((stH h).1 (3, 0, 2)) nC pv k c) := fun z => hz.mp c_86 c ⟨z, rfl⟩
                refine v_iinc hC (pc := 101) (l' := [(7, _), (6, _), (5, _), (4, _), (0, _), (1, _), (2, _), (3, _)]) 0 (v := nI (c + 1)) dX7_meet_101 rfl (nI_inc c) (by decide) rfl ?_
                refine v_goto hC (pc := 104) (tgt := 67) dX7_meet_104 (by decide) ?_
                exact ihc (c + 1) (by omega) (by omega) (fun m y => by
                  rcases (show m < c ∨ m = c by omega) with q | rfl
                  · exact hcs m q
                  · exact hq)
              · skip
                have hq : (wa ((stH h).1 (3, 0, 2)) nC pw k c ∧ wa ((stH h).1 (3, 0, 2)) nC pv k c) := by
                  rcases Classical.em (wa ((stH h).1 (3, 0, 2)) nC pw k c ∧ wa ((stH h).1 (3, 0, 2)) nC pv k c) with y | y
                  · exact y
                  · exact absurd (hz.mpr (fun p z => y (z.2 ▸ z.1))) c_86
                refine v_iload_n hC (pc := 89) (k := 3) 7 rfl dX7_meet_89 ?_
                refine v_if_ne hC (pc := 90) (tgt := 98) dX7_meet_90 (by decide) (fun c_90 => ?_) (fun c_90 => ?_)
                · skip
                  refine v_iload hC (pc := 98) 0 rfl dX7_meet_98 ?_
                  refine v_iret hC hX (pc := 100) dX7_meet_100 ?_
                  refine ⟨scr_st h, Or.inl ⟨k, hk, c, hc, hq.1, hq.2, hcs, hks, ?_⟩⟩
                  first | rw [if_pos (nI_z c_90 (by omega))] | rw [if_neg (fun z => c_90 (by rw [z]; rfl))]
                · skip
                  refine v_iload hC (pc := 93) 1 rfl dX7_meet_93 ?_
                  refine v_goto hC (pc := 95) (tgt := 100) dX7_meet_95 (by decide) ?_
                  refine v_iret hC hX (pc := 100) dX7_meet_100 ?_
                  refine ⟨scr_st h, Or.inl ⟨k, hk, c, hc, hq.1, hq.2, hcs, hks, ?_⟩⟩
                  first | rw [if_pos (nI_z c_90 (by omega))] | rw [if_neg (fun z => c_90 (by rw [z]; rfl))]
        exact cl (nC + 1) 0 (by omega) (by omega) (fun m y => absurd y (Nat.not_lt_zero _))
  refine v_aload_n hC (pc := 0) (k := 0) 0 rfl dX7_meet_0 ?_
  refine v_iload_n hC (pc := 1) (k := 1) 1 rfl dX7_meet_1 ?_
  refine v_callV hC (pc := 2) (As := [_]) dX7_meet_2 rfl (m_isWalker_t _ _ (d := d - 1) (by omega) _ (c := w) (by assumption) hn4 hnw) cv_X7_216 rfl (by decide) rfl (by first | rfl | exact ok_c hq rfl | exact ok_w hq hw | exact ok_w (by omega) (by omega) | exact ok_s (by omega) (by omega) | exact ok_c (by omega) rfl | assumption) (Nat.le_of_ble_eq_true rfl) (by omega) (fun r h' hr => ?_)
  obtain ⟨he9, rfl⟩ := hr
  rw [he9]
  clear he9 h'
  show V _ _ _ (2 + 3) _ (_ :: _) _
  refine v_if_eq hC (pc := 5) (tgt := 28) dX7_meet_5 (by decide) (fun c_5 => ?_) (fun c_5 => ?_)
  · exact absurd c_5 (by decide)
  · skip
    refine v_aload_n hC (pc := 8) (k := 0) 0 rfl dX7_meet_8 ?_
    refine v_iload_n hC (pc := 9) (k := 2) 2 rfl dX7_meet_9 ?_
    refine v_callV hC (pc := 10) (As := [_]) dX7_meet_10 rfl (m_isWalker_t _ _ (d := d - 1) (by omega) _ (c := v) (by assumption) hn4 hnw) cv_X7_216 rfl (by decide) rfl (by first | rfl | exact ok_c hq rfl | exact ok_w hq hw | exact ok_w (by omega) (by omega) | exact ok_s (by omega) (by omega) | exact ok_c (by omega) rfl | assumption) (Nat.le_of_ble_eq_true rfl) (by omega) (fun r h' hr => ?_)
    obtain ⟨he9, rfl⟩ := hr
    rw [he9]
    clear he9 h'
    show V _ _ _ (10 + 3) _ (_ :: _) _
    refine v_if_eq hC (pc := 13) (tgt := 28) dX7_meet_13 (by decide) (fun c_13 => ?_) (fun c_13 => ?_)
    · exact absurd c_13 (by decide)
    · skip
      refine v_iload_n hC (pc := 16) (k := 1) 1 rfl dX7_meet_16 ?_
      refine v_iload_n hC (pc := 17) (k := 2) 2 rfl dX7_meet_17 ?_
      refine v_icmp_eq hC (pc := 18) (tgt := 28) dX7_meet_18 (by decide) (fun c_18 => ?_) (fun c_18 => ?_)
      · exact absurd ((nI_eq (show w < 2 ^ 31 by omega) (show v < 2 ^ 31 by omega)).mp c_18) hne
      · skip
        refine v_iload_n hC (pc := 21) (k := 3) 3 rfl dX7_meet_21 ?_
        refine v_callS hC (pc := 22) (As := [_]) dX7_meet_22 rfl (m_isPart_t _ _ (d := d - 1) (by omega) _ (s := x) (by assumption)) cs_X7_213 (Nat.le_of_ble_eq_true rfl) (by omega) (fun r h' hr => ?_)
        obtain ⟨he9, rfl⟩ := hr
        rw [he9]
        clear he9 h'
        show V _ _ _ (22 + 3) _ (_ :: _) _
        refine v_if_ne hC (pc := 25) (tgt := 30) dX7_meet_25 (by decide) (fun c_25 => ?_) (fun c_25 => ?_)
        · skip
          refine v_aload_n hC (pc := 30) (k := 0) 0 rfl dX7_meet_30 ?_
          refine v_callV hC (pc := 31) (As := []) dX7_meet_31 rfl (m_starts _ _ (d := d - 1) (by omega) _) cv_X7_219 rfl (by decide) rfl (by first | rfl | exact ok_c hq rfl | exact ok_w hq hw | exact ok_w (by omega) (by omega) | exact ok_s (by omega) (by omega) | exact ok_c (by omega) rfl | assumption) (Nat.le_of_ble_eq_true rfl) (by omega) (fun r h' hr => ?_)
          obtain ⟨rfl, rfl⟩ := hr
          refine v_heap (show _ = stH h from rfl) ?_
          show V _ _ _ (31 + 3) _ _ _
          refine v_iconst hC (pc := 34) (v := 1) (by decide) dX7_meet_34 ?_
          refine v_aload_n hC (pc := 35) (k := 0) 0 rfl dX7_meet_35 ?_
          refine v_iload_n hC (pc := 36) (k := 1) 1 rfl dX7_meet_36 ?_
          refine v_iconst hC (pc := 37) (v := 0) (by decide) dX7_meet_37 ?_
          refine v_callV hC (pc := 38) (As := [_, _]) dX7_meet_38 rfl (m_of _ _ (d := d - 1) (by omega) _ (w := w) (by omega) (k := 0) (by decide)) cv_X7_187 rfl (by decide) rfl (by first | rfl | exact ok_c hq rfl | exact ok_w hq hw | exact ok_w (by omega) (by omega) | exact ok_s (by omega) (by omega) | exact ok_c (by omega) rfl | assumption) (Nat.le_of_ble_eq_true rfl) (by omega) (fun r h' hr => ?_)
          obtain ⟨he9, rfl⟩ := hr
          rw [he9]
          clear he9 h'
          show V X G 8 41 _ (vi (((stH h).1 (3, 0, 2)) (18 + 6 * w + 0)) :: _) _
          rw [hpw]
          show V _ _ _ (38 + 3) _ (_ :: _) _
          refine v_ishl hC (pc := 41) dX7_meet_41 ?_
          refine v_istore hC (pc := 42) (l' := [(4, _), (0, _), (1, _), (2, _), (3, _)]) dX7_meet_42 (by decide) rfl ?_
          refine v_iconst hC (pc := 44) (v := 1) (by decide) dX7_meet_44 ?_
          refine v_aload_n hC (pc := 45) (k := 0) 1 rfl dX7_meet_45 ?_
          refine v_iload_n hC (pc := 46) (k := 2) 3 rfl dX7_meet_46 ?_
          refine v_iconst hC (pc := 47) (v := 0) (by decide) dX7_meet_47 ?_
          refine v_callV hC (pc := 48) (As := [_, _]) dX7_meet_48 rfl (m_of _ _ (d := d - 1) (by omega) _ (w := v) (by omega) (k := 0) (by decide)) cv_X7_187 rfl (by decide) rfl (by first | rfl | exact ok_c hq rfl | exact ok_w hq hw | exact ok_w (by omega) (by omega) | exact ok_s (by omega) (by omega) | exact ok_c (by omega) rfl | assumption) (Nat.le_of_ble_eq_true rfl) (by omega) (fun r h' hr => ?_)
          obtain ⟨he9, rfl⟩ := hr
          rw [he9]
          clear he9 h'
          show V X G 8 51 _ (vi (((stH h).1 (3, 0, 2)) (18 + 6 * v + 0)) :: _) _
          rw [hpv]
          show V _ _ _ (48 + 3) _ (_ :: _) _
          refine v_ishl hC (pc := 51) dX7_meet_51 ?_
          refine v_istore hC (pc := 52) (l' := [(5, _), (4, _), (0, _), (1, _), (2, _), (3, _)]) dX7_meet_52 (by decide) rfl ?_
          refine v_iconst hC (pc := 54) (v := 0) (by decide) dX7_meet_54 ?_
          refine v_istore hC (pc := 55) (l' := [(6, _), (5, _), (4, _), (0, _), (1, _), (2, _), (3, _)]) dX7_meet_55 (by decide) rfl ?_
          exact loop 26 0 _ _ (by omega) (by omega) (Bs_congr (Bs_one (by omega)) (fun p => wa_0)) (Bs_congr (Bs_one (by omega)) (fun p => wa_0)) (fun m y => absurd y (Nat.not_lt_zero _))
        · exact absurd c_25 (by decide)

set_option maxRecDepth 20000 in
set_option maxHeartbeats 2000000 in
theorem m_meet_bad (l9 : Launch) (G : WT) {d : Nat} (hd : 3 ≤ d) (h : HP) {nW : Nat} (hn4 : nW ≤ 4) (hnw : h.1 (3, 0, 0) 4 = nI nW) (w v x : Int32) (hbad : ¬ ((¬ w < 0 ∧ ¬ nI nW ≤ w) ∧ (¬ v < 0 ∧ ¬ nI nW ≤ v) ∧ (¬ w = v) ∧ (x = 0 ∨ x = 1))) : MS l9 G yX7_meet cX7_meet 8 (some .int) d [vr (3, 0, 0), vi w, vi v, vi x] h (fun r h1 => h1 = h ∧ r = some (vi (-1))) := by
  refine MS_of (by decide +kernel) (Nat.le_of_ble_eq_true rfl) (fun X hC hX => ?_)
  show V X G 8 0 _ [] _
  refine v_aload_n hC (pc := 0) (k := 0) 0 rfl dX7_meet_0 ?_
  refine v_iload_n hC (pc := 1) (k := 1) 1 rfl dX7_meet_1 ?_
  refine v_callV hC (pc := 2) (As := [_]) dX7_meet_2 rfl (m_isWalker _ _ (d := d - 1) (by omega) _ hn4 hnw _) cv_X7_216 rfl (by decide) rfl (by first | rfl | exact ok_c hq rfl | exact ok_w hq hw | exact ok_w (by omega) (by omega) | exact ok_s (by omega) (by omega) | exact ok_c (by omega) rfl | assumption) (Nat.le_of_ble_eq_true rfl) (by omega) (fun r h' hr => ?_)
  obtain ⟨he9, rfl⟩ := hr
  rw [he9]
  clear he9 h'
  show V _ _ _ (2 + 3) _ (_ :: _) _
  refine v_ifb_eq hC (pc := 5) (tgt := 28) dX7_meet_5 (by decide) (fun c_5 => ?_) (fun c_5 => ?_)
  · skip
    refine v_iconst hC (pc := 28) (v := (-1)) (by decide) dX7_meet_28 ?_
    refine v_iret hC hX (pc := 29) dX7_meet_29 ?_
    exact ⟨rfl, rfl⟩
  · skip
    refine v_aload_n hC (pc := 8) (k := 0) 0 rfl dX7_meet_8 ?_
    refine v_iload_n hC (pc := 9) (k := 2) 2 rfl dX7_meet_9 ?_
    refine v_callV hC (pc := 10) (As := [_]) dX7_meet_10 rfl (m_isWalker _ _ (d := d - 1) (by omega) _ hn4 hnw _) cv_X7_216 rfl (by decide) rfl (by first | rfl | exact ok_c hq rfl | exact ok_w hq hw | exact ok_w (by omega) (by omega) | exact ok_s (by omega) (by omega) | exact ok_c (by omega) rfl | assumption) (Nat.le_of_ble_eq_true rfl) (by omega) (fun r h' hr => ?_)
    obtain ⟨he9, rfl⟩ := hr
    rw [he9]
    clear he9 h'
    show V _ _ _ (10 + 3) _ (_ :: _) _
    refine v_ifb_eq hC (pc := 13) (tgt := 28) dX7_meet_13 (by decide) (fun c_13 => ?_) (fun c_13 => ?_)
    · skip
      refine v_iconst hC (pc := 28) (v := (-1)) (by decide) dX7_meet_28 ?_
      refine v_iret hC hX (pc := 29) dX7_meet_29 ?_
      exact ⟨rfl, rfl⟩
    · skip
      refine v_iload_n hC (pc := 16) (k := 1) 1 rfl dX7_meet_16 ?_
      refine v_iload_n hC (pc := 17) (k := 2) 2 rfl dX7_meet_17 ?_
      refine v_icmp_eq hC (pc := 18) (tgt := 28) dX7_meet_18 (by decide) (fun c_18 => ?_) (fun c_18 => ?_)
      · skip
        refine v_iconst hC (pc := 28) (v := (-1)) (by decide) dX7_meet_28 ?_
        refine v_iret hC hX (pc := 29) dX7_meet_29 ?_
        exact ⟨rfl, rfl⟩
      · skip
        refine v_iload_n hC (pc := 21) (k := 3) 3 rfl dX7_meet_21 ?_
        refine v_callS hC (pc := 22) (As := [_]) dX7_meet_22 rfl (m_isPart _ _ (d := d - 1) (by omega) _ _) cs_X7_213 (Nat.le_of_ble_eq_true rfl) (by omega) (fun r h' hr => ?_)
        obtain ⟨he9, rfl⟩ := hr
        rw [he9]
        clear he9 h'
        show V _ _ _ (22 + 3) _ (_ :: _) _
        refine v_ifb_ne hC (pc := 25) (tgt := 30) dX7_meet_25 (by decide) (fun c_25 => ?_) (fun c_25 => ?_)
        · skip
          exact absurd ⟨c_5, c_13, c_18, c_25⟩ hbad
        · skip
          refine v_iconst hC (pc := 28) (v := (-1)) (by decide) dX7_meet_28 ?_
          refine v_iret hC hX (pc := 29) dX7_meet_29 ?_
          exact ⟨rfl, rfl⟩

set_option maxRecDepth 20000 in
set_option maxHeartbeats 2000000 in
theorem m_shake_ok (l9 : Launch) (G : WT) {d : Nat} (hd : 3 ≤ d) (h : HP) {nW : Nat} (hn4 : nW ≤ 4) (hnw : h.1 (3, 0, 0) 4 = nI nW) {w v : Nat} (hw : w < nW) (hv : v < nW) (hne : ¬ w = v) : MS l9 G yX7_shake cX7_shake 4 (some .int) d [vr (3, 0, 0), vi (nI w), vi (nI v)] h (fun r h1 => h1 = h ∧ ((∃ k, k < 24 ∧ hndF (h.1 (3, 0, 1) (18 + 6 * w + 1)) (h.1 (3, 0, 1) (18 + 6 * w + 2)) (nI k) = hndF (h.1 (3, 0, 1) (18 + 6 * v + 1)) (h.1 (3, 0, 1) (18 + 6 * v + 2)) (nI k) ∧ (∀ m, m < k → ¬ hndF (h.1 (3, 0, 1) (18 + 6 * w + 1)) (h.1 (3, 0, 1) (18 + 6 * w + 2)) (nI m) = hndF (h.1 (3, 0, 1) (18 + 6 * v + 1)) (h.1 (3, 0, 1) (18 + 6 * v + 2)) (nI m)) ∧ r = some (vi (nI k))) ∨ (r = some (vi (-4)) ∧ ∀ m, m < 24 → ¬ hndF (h.1 (3, 0, 1) (18 + 6 * w + 1)) (h.1 (3, 0, 1) (18 + 6 * w + 2)) (nI m) = hndF (h.1 (3, 0, 1) (18 + 6 * v + 1)) (h.1 (3, 0, 1) (18 + 6 * v + 2)) (nI m)))) := by
  refine MS_of (by decide +kernel) (Nat.le_of_ble_eq_true rfl) (fun X hC hX => ?_)
  show V X G 4 0 _ [] _
  have loop : ∀ (n k : Nat), k ≤ 24 → 25 ≤ k + n → (∀ m, m < k → ¬ hndF (h.1 (3, 0, 1) (18 + 6 * w + 1)) (h.1 (3, 0, 1) (18 + 6 * w + 2)) (nI m) = hndF (h.1 (3, 0, 1) (18 + 6 * v + 1)) (h.1 (3, 0, 1) (18 + 6 * v + 2)) (nI m)) → V X G 4 25 [(3, vi (nI k)), (0, vr (3, 0, 0)), (1, vi (nI w)), (2, vi (nI v))] [] h := by
    intro n
    induction n with
    | zero => intro k h1 h2; exact absurd h2 (by omega)
    | succ n ih =>
      intro k h1 h2 hks
      refine v_iload_n hC (pc := 25) (k := 3) 0 rfl dX7_shake_25 ?_
      refine v_bipush hC (pc := 26) (v := 24) (by decide +kernel) dX7_shake_26 ?_
      refine v_icmp_ge hC (pc := 28) (tgt := 54) dX7_shake_28 (by decide) (fun c_28 => ?_) (fun c_28 => ?_)
      · skip
        have hk : k = 24 := lp_ex (N := 24) c_28 h1 (by decide)
        refine v_bipush hC (pc := 54) (v := (-4)) (by decide +kernel) dX7_shake_54 ?_
        refine v_iret hC hX (pc := 56) dX7_shake_56 ?_
        exact ⟨rfl, Or.inr ⟨rfl, fun m hm => hks m (by omega)⟩⟩
      · skip
        have hk : k < 24 := lp_in (N := 24) c_28 h1 (by decide)
        refine v_aload_n hC (pc := 31) (k := 0) 1 rfl dX7_shake_31 ?_
        refine v_iload_n hC (pc := 32) (k := 1) 2 rfl dX7_shake_32 ?_
        refine v_iload_n hC (pc := 33) (k := 3) 0 rfl dX7_shake_33 ?_
        refine v_callV hC (pc := 34) (As := [_, _]) dX7_shake_34 rfl (m_handIn _ _ (d := d - 1) (by omega) _ (w := w) (by omega) _) cv_X7_222 rfl (by decide) rfl (by first | rfl | exact ok_c hq rfl | exact ok_w hq hw | exact ok_w (by omega) (by omega) | exact ok_s (by omega) (by omega) | exact ok_c (by omega) rfl | assumption) (Nat.le_of_ble_eq_true rfl) (by omega) (fun r h' hr => ?_)
        obtain ⟨he9, rfl⟩ := hr
        rw [he9]
        clear he9 h'
        show V _ _ _ (34 + 3) _ (_ :: _) _
        refine v_aload_n hC (pc := 37) (k := 0) 1 rfl dX7_shake_37 ?_
        refine v_iload_n hC (pc := 38) (k := 2) 3 rfl dX7_shake_38 ?_
        refine v_iload_n hC (pc := 39) (k := 3) 0 rfl dX7_shake_39 ?_
        refine v_callV hC (pc := 40) (As := [_, _]) dX7_shake_40 rfl (m_handIn _ _ (d := d - 1) (by omega) _ (w := v) (by omega) _) cv_X7_222 rfl (by decide) rfl (by first | rfl | exact ok_c hq rfl | exact ok_w hq hw | exact ok_w (by omega) (by omega) | exact ok_s (by omega) (by omega) | exact ok_c (by omega) rfl | assumption) (Nat.le_of_ble_eq_true rfl) (by omega) (fun r h' hr => ?_)
        obtain ⟨he9, rfl⟩ := hr
        rw [he9]
        clear he9 h'
        show V _ _ _ (40 + 3) _ (_ :: _) _
        refine v_icmp_ne hC (pc := 43) (tgt := 48) dX7_shake_43 (by decide) (fun c_43 => ?_) (fun c_43 => ?_)
        · skip
          refine v_iinc hC (pc := 48) (l' := [(3, _), (0, _), (1, _), (2, _)]) 0 (v := nI (k + 1)) dX7_shake_48 rfl (nI_inc k) (by decide) rfl ?_
          refine v_goto hC (pc := 51) (tgt := 25) dX7_shake_51 (by decide) ?_
          exact ih (k + 1) (by omega) (by omega) (fun m y => by
            rcases (show m < k ∨ m = k by omega) with q | rfl
            · exact hks m q
            · exact c_43)
        · skip
          refine v_iload_n hC (pc := 46) (k := 3) 0 rfl dX7_shake_46 ?_
          refine v_iret hC hX (pc := 47) dX7_shake_47 ?_
          exact ⟨rfl, Or.inl ⟨k, hk, c_43, hks, rfl⟩⟩
  refine v_aload_n hC (pc := 0) (k := 0) 0 rfl dX7_shake_0 ?_
  refine v_iload_n hC (pc := 1) (k := 1) 1 rfl dX7_shake_1 ?_
  refine v_callV hC (pc := 2) (As := [_]) dX7_shake_2 rfl (m_isWalker_t _ _ (d := d - 1) (by omega) _ (c := w) (by assumption) hn4 hnw) cv_X7_216 rfl (by decide) rfl (by first | rfl | exact ok_c hq rfl | exact ok_w hq hw | exact ok_w (by omega) (by omega) | exact ok_s (by omega) (by omega) | exact ok_c (by omega) rfl | assumption) (Nat.le_of_ble_eq_true rfl) (by omega) (fun r h' hr => ?_)
  obtain ⟨he9, rfl⟩ := hr
  rw [he9]
  clear he9 h'
  show V _ _ _ (2 + 3) _ (_ :: _) _
  refine v_if_eq hC (pc := 5) (tgt := 21) dX7_shake_5 (by decide) (fun c_5 => ?_) (fun c_5 => ?_)
  · exact absurd c_5 (by decide)
  · skip
    refine v_aload_n hC (pc := 8) (k := 0) 0 rfl dX7_shake_8 ?_
    refine v_iload_n hC (pc := 9) (k := 2) 2 rfl dX7_shake_9 ?_
    refine v_callV hC (pc := 10) (As := [_]) dX7_shake_10 rfl (m_isWalker_t _ _ (d := d - 1) (by omega) _ (c := v) (by assumption) hn4 hnw) cv_X7_216 rfl (by decide) rfl (by first | rfl | exact ok_c hq rfl | exact ok_w hq hw | exact ok_w (by omega) (by omega) | exact ok_s (by omega) (by omega) | exact ok_c (by omega) rfl | assumption) (Nat.le_of_ble_eq_true rfl) (by omega) (fun r h' hr => ?_)
    obtain ⟨he9, rfl⟩ := hr
    rw [he9]
    clear he9 h'
    show V _ _ _ (10 + 3) _ (_ :: _) _
    refine v_if_eq hC (pc := 13) (tgt := 21) dX7_shake_13 (by decide) (fun c_13 => ?_) (fun c_13 => ?_)
    · exact absurd c_13 (by decide)
    · skip
      refine v_iload_n hC (pc := 16) (k := 1) 1 rfl dX7_shake_16 ?_
      refine v_iload_n hC (pc := 17) (k := 2) 2 rfl dX7_shake_17 ?_
      refine v_icmp_ne hC (pc := 18) (tgt := 23) dX7_shake_18 (by decide) (fun c_18 => ?_) (fun c_18 => ?_)
      · skip
        refine v_iconst hC (pc := 23) (v := 0) (by decide) dX7_shake_23 ?_
        refine v_istore_n hC (pc := 24) (l' := [(3, _), (0, _), (1, _), (2, _)]) dX7_shake_24 (by decide) rfl ?_
        exact loop 25 0 (by omega) (by omega) (fun m y => absurd y (Nat.not_lt_zero _))
      · exact absurd ((nI_eq (show w < 2 ^ 31 by omega) (show v < 2 ^ 31 by omega)).mp c_18) hne

set_option maxRecDepth 20000 in
set_option maxHeartbeats 2000000 in
theorem m_shake_bad (l9 : Launch) (G : WT) {d : Nat} (hd : 3 ≤ d) (h : HP) {nW : Nat} (hn4 : nW ≤ 4) (hnw : h.1 (3, 0, 0) 4 = nI nW) (w v : Int32) (hbad : ¬ ((¬ w < 0 ∧ ¬ nI nW ≤ w) ∧ (¬ v < 0 ∧ ¬ nI nW ≤ v) ∧ ¬ w = v)) : MS l9 G yX7_shake cX7_shake 4 (some .int) d [vr (3, 0, 0), vi w, vi v] h (fun r h1 => h1 = h ∧ r = some (vi (-1))) := by
  refine MS_of (by decide +kernel) (Nat.le_of_ble_eq_true rfl) (fun X hC hX => ?_)
  show V X G 4 0 _ [] _
  refine v_aload_n hC (pc := 0) (k := 0) 0 rfl dX7_shake_0 ?_
  refine v_iload_n hC (pc := 1) (k := 1) 1 rfl dX7_shake_1 ?_
  refine v_callV hC (pc := 2) (As := [_]) dX7_shake_2 rfl (m_isWalker _ _ (d := d - 1) (by omega) _ hn4 hnw _) cv_X7_216 rfl (by decide) rfl (by first | rfl | exact ok_c hq rfl | exact ok_w hq hw | exact ok_w (by omega) (by omega) | exact ok_s (by omega) (by omega) | exact ok_c (by omega) rfl | assumption) (Nat.le_of_ble_eq_true rfl) (by omega) (fun r h' hr => ?_)
  obtain ⟨he9, rfl⟩ := hr
  rw [he9]
  clear he9 h'
  show V _ _ _ (2 + 3) _ (_ :: _) _
  refine v_ifb_eq hC (pc := 5) (tgt := 21) dX7_shake_5 (by decide) (fun c_5 => ?_) (fun c_5 => ?_)
  · skip
    refine v_iconst hC (pc := 21) (v := (-1)) (by decide) dX7_shake_21 ?_
    refine v_iret hC hX (pc := 22) dX7_shake_22 ?_
    exact ⟨rfl, rfl⟩
  · skip
    refine v_aload_n hC (pc := 8) (k := 0) 0 rfl dX7_shake_8 ?_
    refine v_iload_n hC (pc := 9) (k := 2) 2 rfl dX7_shake_9 ?_
    refine v_callV hC (pc := 10) (As := [_]) dX7_shake_10 rfl (m_isWalker _ _ (d := d - 1) (by omega) _ hn4 hnw _) cv_X7_216 rfl (by decide) rfl (by first | rfl | exact ok_c hq rfl | exact ok_w hq hw | exact ok_w (by omega) (by omega) | exact ok_s (by omega) (by omega) | exact ok_c (by omega) rfl | assumption) (Nat.le_of_ble_eq_true rfl) (by omega) (fun r h' hr => ?_)
    obtain ⟨he9, rfl⟩ := hr
    rw [he9]
    clear he9 h'
    show V _ _ _ (10 + 3) _ (_ :: _) _
    refine v_ifb_eq hC (pc := 13) (tgt := 21) dX7_shake_13 (by decide) (fun c_13 => ?_) (fun c_13 => ?_)
    · skip
      refine v_iconst hC (pc := 21) (v := (-1)) (by decide) dX7_shake_21 ?_
      refine v_iret hC hX (pc := 22) dX7_shake_22 ?_
      exact ⟨rfl, rfl⟩
    · skip
      refine v_iload_n hC (pc := 16) (k := 1) 1 rfl dX7_shake_16 ?_
      refine v_iload_n hC (pc := 17) (k := 2) 2 rfl dX7_shake_17 ?_
      refine v_icmp_ne hC (pc := 18) (tgt := 23) dX7_shake_18 (by decide) (fun c_18 => ?_) (fun c_18 => ?_)
      · skip
        exact absurd ⟨c_5, c_13, c_18⟩ hbad
      · skip
        refine v_iconst hC (pc := 21) (v := (-1)) (by decide) dX7_shake_21 ?_
        refine v_iret hC hX (pc := 22) dX7_shake_22 ?_
        exact ⟨rfl, rfl⟩

set_option maxRecDepth 20000 in
set_option maxHeartbeats 2000000 in
theorem m_pairs_ok (l9 : Launch) (G : WT) {d : Nat} (hd : 3 ≤ d) (h : HP) {nW : Nat} (hn4 : nW ≤ 4) (hnw : h.1 (3, 0, 0) 4 = nI nW) (t : Int32) (ht : ¬ t < 0 ∧ ¬ 24 ≤ t) : MS l9 G yX7_pairs cX7_pairs 4 (some .int) d [vr (3, 0, 0), vi t] h (fun r h1 => h1 = h ∧ r = some (vi (itN (fun w a => a + hndF (h.1 (3, 0, 1) (18 + 6 * w + 1)) (h.1 (3, 0, 1) (18 + 6 * w + 2)) t) nW 0 / 2 + (nI nW - itN (fun w a => a + hndF (h.1 (3, 0, 1) (18 + 6 * w + 1)) (h.1 (3, 0, 1) (18 + 6 * w + 2)) t) nW 0) / 2))) := by
  refine MS_of (by decide +kernel) (Nat.le_of_ble_eq_true rfl) (fun X hC hX => ?_)
  show V X G 4 0 _ [] _
  have loop : ∀ (n k : Nat), k ≤ nW → nW + 1 ≤ k + n → V X G 4 13 [(3, vi (nI k)), (2, vi (itN (fun w a => a + hndF (h.1 (3, 0, 1) (18 + 6 * w + 1)) (h.1 (3, 0, 1) (18 + 6 * w + 2)) t) k 0)), (0, vr (3, 0, 0)), (1, vi t)] [] h := by
    intro n
    induction n with
    | zero => intro k h1 h2; exact absurd h2 (by omega)
    | succ n ih =>
      intro k h1 h2
      refine v_iload_n hC (pc := 13) (k := 3) 0 rfl dX7_pairs_13 ?_
      refine v_aload_n hC (pc := 14) (k := 0) 2 rfl dX7_pairs_14 ?_
      refine v_getI hC (pc := 15) dX7_pairs_15 fl_X7_79 rfl (by first | rfl | exact ok_c hq rfl | exact ok_w hq hw | exact ok_w (by omega) (by omega) | exact ok_s (by omega) (by omega) | exact ok_c (by omega) rfl | assumption) rfl (by decide) (by decide) ?_
      refine v_icmp_ge hC (pc := 18) (tgt := 36) dX7_pairs_18 (by decide) (fun c_18 => ?_) (fun c_18 => ?_)
      · skip
        have hk : k = nW := lp_ex (by rw [hnw] at c_18; exact c_18) h1 (by omega)
        subst hk
        refine v_iload_n hC (pc := 36) (k := 2) 1 rfl dX7_pairs_36 ?_
        refine v_iconst hC (pc := 37) (v := 2) (by decide) dX7_pairs_37 ?_
        refine v_idiv hC (pc := 38) (by decide) dX7_pairs_38 ?_
        refine v_aload_n hC (pc := 39) (k := 0) 2 rfl dX7_pairs_39 ?_
        refine v_getI hC (pc := 40) dX7_pairs_40 fl_X7_79 rfl (by first | rfl | exact ok_c hq rfl | exact ok_w hq hw | exact ok_w (by omega) (by omega) | exact ok_s (by omega) (by omega) | exact ok_c (by omega) rfl | assumption) rfl (by decide) (by decide) ?_
        refine v_iload_n hC (pc := 43) (k := 2) 1 rfl dX7_pairs_43 ?_
        refine v_isub hC (pc := 44) dX7_pairs_44 ?_
        refine v_iconst hC (pc := 45) (v := 2) (by decide) dX7_pairs_45 ?_
        refine v_idiv hC (pc := 46) (by decide) dX7_pairs_46 ?_
        refine v_iadd hC (pc := 47) dX7_pairs_47 ?_
        refine v_iret hC hX (pc := 48) dX7_pairs_48 ?_
        exact ⟨rfl, by rw [← hnw]⟩
      · skip
        have hk : k < nW := lp_in (by rw [hnw] at c_18; exact c_18) h1 (by omega)
        refine v_iload_n hC (pc := 21) (k := 2) 1 rfl dX7_pairs_21 ?_
        refine v_aload_n hC (pc := 22) (k := 0) 2 rfl dX7_pairs_22 ?_
        refine v_iload_n hC (pc := 23) (k := 3) 0 rfl dX7_pairs_23 ?_
        refine v_iload_n hC (pc := 24) (k := 1) 3 rfl dX7_pairs_24 ?_
        refine v_callV hC (pc := 25) (As := [_, _]) dX7_pairs_25 rfl (m_handIn _ _ (d := d - 1) (by omega) _ (w := k) (by omega) _) cv_X7_222 rfl (by decide) rfl (by first | rfl | exact ok_c hq rfl | exact ok_w hq hw | exact ok_w (by omega) (by omega) | exact ok_s (by omega) (by omega) | exact ok_c (by omega) rfl | assumption) (Nat.le_of_ble_eq_true rfl) (by omega) (fun r h' hr => ?_)
        obtain ⟨he9, rfl⟩ := hr
        rw [he9]
        clear he9 h'
        show V _ _ _ (25 + 3) _ (_ :: _) _
        refine v_iadd hC (pc := 28) dX7_pairs_28 ?_
        refine v_istore_n hC (pc := 29) (l' := [(2, _), (3, _), (0, _), (1, _)]) dX7_pairs_29 (by decide) rfl ?_
        refine v_iinc hC (pc := 30) (l' := [(3, _), (2, _), (0, _), (1, _)]) 1 (v := nI (k + 1)) dX7_pairs_30 rfl (nI_inc k) (by decide) rfl ?_
        refine v_goto hC (pc := 33) (tgt := 13) dX7_pairs_33 (by decide) ?_
        exact ih (k + 1) (by omega) (by omega)
  refine v_iload_n hC (pc := 0) (k := 1) 1 rfl dX7_pairs_0 ?_
  refine v_callS hC (pc := 1) (As := [_]) dX7_pairs_1 rfl (m_isHour _ _ (d := d - 1) (by omega) _ _) cs_X7_225 (Nat.le_of_ble_eq_true rfl) (by omega) (fun r h' hr => ?_)
  obtain ⟨he9, rfl⟩ := hr
  rw [he9]
  clear he9 h'
  rw [bI_t ht]
  show V _ _ _ (1 + 3) _ (_ :: _) _
  refine v_if_ne hC (pc := 4) (tgt := 9) dX7_pairs_4 (by decide) (fun c_4 => ?_) (fun c_4 => ?_)
  · skip
    refine v_iconst hC (pc := 9) (v := 0) (by decide) dX7_pairs_9 ?_
    refine v_istore_n hC (pc := 10) (l' := [(2, _), (0, _), (1, _)]) dX7_pairs_10 (by decide) rfl ?_
    refine v_iconst hC (pc := 11) (v := 0) (by decide) dX7_pairs_11 ?_
    refine v_istore_n hC (pc := 12) (l' := [(3, _), (2, _), (0, _), (1, _)]) dX7_pairs_12 (by decide) rfl ?_
    exact loop (nW + 1) 0 (by omega) (by omega)
  · exact absurd c_4 (by decide)

set_option maxRecDepth 20000 in
set_option maxHeartbeats 2000000 in
theorem m_pairs_bad (l9 : Launch) (G : WT) {d : Nat} (hd : 3 ≤ d) (h : HP) (t : Int32) (hbad : ¬ (¬ t < 0 ∧ ¬ 24 ≤ t)) : MS l9 G yX7_pairs cX7_pairs 4 (some .int) d [vr (3, 0, 0), vi t] h (fun r h1 => h1 = h ∧ r = some (vi (-1))) := by
  refine MS_of (by decide +kernel) (Nat.le_of_ble_eq_true rfl) (fun X hC hX => ?_)
  show V X G 4 0 _ [] _
  refine v_iload_n hC (pc := 0) (k := 1) 1 rfl dX7_pairs_0 ?_
  refine v_callS hC (pc := 1) (As := [_]) dX7_pairs_1 rfl (m_isHour _ _ (d := d - 1) (by omega) _ _) cs_X7_225 (Nat.le_of_ble_eq_true rfl) (by omega) (fun r h' hr => ?_)
  obtain ⟨he9, rfl⟩ := hr
  rw [he9]
  clear he9 h'
  show V _ _ _ (1 + 3) _ (_ :: _) _
  refine v_ifb_ne hC (pc := 4) (tgt := 9) dX7_pairs_4 (by decide) (fun c_4 => ?_) (fun c_4 => ?_)
  · skip
    exact absurd c_4 hbad
  · skip
    refine v_iconst hC (pc := 7) (v := (-1)) (by decide) dX7_pairs_7 ?_
    refine v_iret hC hX (pc := 8) dX7_pairs_8 ?_
    exact ⟨rfl, rfl⟩

