/-! THE REFERENCE: reach, when, signs -/
set_option maxRecDepth 20000 in
set_option maxHeartbeats 2000000 in
theorem m_reach_ok (l9 : Launch) (G : WT) {d : Nat} (hd : 5 ≤ d) (h : HP) {nC : Nat} (hn8 : nC ≤ 8) (hnc : h.1 (3, 0, 0) 3 = nI nC) (hS : wfS (h.1 (3, 0, 1)) nC) {a t n1 : Nat} (hac : a < nC) (ht : t < 24) (hn : n1 ≤ 24) : MS l9 G yX7_reach cX7_reach 4 (some .int) d [vr (3, 0, 0), vi (nI a), vi (nI t), vi (nI n1)] h (fun r h1 => scr h h1 ∧ ∃ v, r = some (vi v) ∧ Bs v (wa ((stH h).1 (3, 0, 2)) nC a n1)) := by
  refine MS_of (by decide +kernel) (Nat.le_of_ble_eq_true rfl) (fun X hC hX => ?_)
  show V X G 4 0 _ [] _
  refine v_aload_n hC (pc := 0) (k := 0) 0 rfl dX7_reach_0 ?_
  refine v_iload_n hC (pc := 1) (k := 1) 1 rfl dX7_reach_1 ?_
  refine v_callV hC (pc := 2) (As := [_]) dX7_reach_2 rfl (m_isCorner_t _ _ (d := d - 1) (by omega) _ (c := a) (by assumption) hn8 hnc) cv_X7_210 rfl (by decide) rfl (by first | rfl | exact ok_c hq rfl | exact ok_w hq hw | exact ok_w (by omega) (by omega) | exact ok_s (by omega) (by omega) | exact ok_c (by omega) rfl | assumption) (Nat.le_of_ble_eq_true rfl) (by omega) (fun r h' hr => ?_)
  obtain ⟨he9, rfl⟩ := hr
  rw [he9]
  clear he9 h'
  show V _ _ _ (2 + 3) _ (_ :: _) _
  refine v_if_eq hC (pc := 5) (tgt := 27) dX7_reach_5 (by decide) (fun c_5 => ?_) (fun c_5 => ?_)
  · exact absurd c_5 (by decide)
  · skip
    refine v_iload_n hC (pc := 8) (k := 2) 2 rfl dX7_reach_8 ?_
    refine v_callS hC (pc := 9) (As := [_]) dX7_reach_9 rfl (m_isHour_t _ _ (d := d - 1) (by omega) _ (s := t) (by assumption)) cs_X7_225 (Nat.le_of_ble_eq_true rfl) (by omega) (fun r h' hr => ?_)
    obtain ⟨he9, rfl⟩ := hr
    rw [he9]
    clear he9 h'
    show V _ _ _ (9 + 3) _ (_ :: _) _
    refine v_if_eq hC (pc := 12) (tgt := 27) dX7_reach_12 (by decide) (fun c_12 => ?_) (fun c_12 => ?_)
    · exact absurd c_12 (by decide)
    · skip
      refine v_iload_n hC (pc := 15) (k := 3) 3 rfl dX7_reach_15 ?_
      refine v_i2l hC (pc := 16) dX7_reach_16 ?_
      refine v_lconst hC (pc := 17) (v := 0) (by decide) dX7_reach_17 ?_
      refine v_ldc2 hC (pc := 18) k_X7_263 dX7_reach_18 ?_
      refine v_callS hC (pc := 21) (As := [_, _, _]) dX7_reach_21 rfl (m_in_t _ _ (d := d - 1) (by omega) _ (nI n1) 0 24 ⟨nI_pos (by omega), nI_nlt hn (by decide)⟩) cs_X7_84 (Nat.le_of_ble_eq_true rfl) (by omega) (fun r h' hr => ?_)
      obtain ⟨he9, rfl⟩ := hr
      rw [he9]
      clear he9 h'
      show V _ _ _ (21 + 3) _ (_ :: _) _
      refine v_if_ne hC (pc := 24) (tgt := 29) dX7_reach_24 (by decide) (fun c_24 => ?_) (fun c_24 => ?_)
      · skip
        refine v_aload_n hC (pc := 29) (k := 0) 0 rfl dX7_reach_29 ?_
        refine v_callV hC (pc := 30) (As := []) dX7_reach_30 rfl (m_starts _ _ (d := d - 1) (by omega) _) cv_X7_219 rfl (by decide) rfl (by first | rfl | exact ok_c hq rfl | exact ok_w hq hw | exact ok_w (by omega) (by omega) | exact ok_s (by omega) (by omega) | exact ok_c (by omega) rfl | assumption) (Nat.le_of_ble_eq_true rfl) (by omega) (fun r h' hr => ?_)
        obtain ⟨rfl, rfl⟩ := hr
        refine v_heap (show _ = stH h from rfl) ?_
        show V _ _ _ (30 + 3) _ _ _
        refine v_aload_n hC (pc := 33) (k := 0) 0 rfl dX7_reach_33 ?_
        refine v_iload_n hC (pc := 34) (k := 1) 1 rfl dX7_reach_34 ?_
        refine v_iload_n hC (pc := 35) (k := 2) 2 rfl dX7_reach_35 ?_
        refine v_iload_n hC (pc := 36) (k := 3) 3 rfl dX7_reach_36 ?_
        refine v_aload_n hC (pc := 37) (k := 0) 0 rfl dX7_reach_37 ?_
        refine v_getR hC (pc := 38) dX7_reach_38 fl_X7_7 rfl (by first | rfl | exact ok_c hq rfl | exact ok_w hq hw | exact ok_w (by omega) (by omega) | exact ok_s (by omega) (by omega) | exact ok_c (by omega) rfl | assumption) rfl (by decide) (by decide) rfl ?_
        refine v_bipush hC (pc := 41) (v := 16) (by decide +kernel) dX7_reach_41 ?_
        refine v_iald hC (pc := 43) dX7_reach_43 rfl (by first | rfl | exact ok_c hq rfl | exact ok_w hq hw | exact ok_w (by omega) (by omega) | exact ok_s (by omega) (by omega) | exact ok_c (by omega) rfl | assumption) (vp_nat (n := 16) (by omega) (by decide)) ?_
        refine v_callV hC (pc := 44) (As := [_, _, _, _]) dX7_reach_44 rfl (m_reachBy _ _ (d := d - 1) (by omega) _ hn8 (by rw [stH_o h (by decide)]; exact hnc) (A := ((stH h).1 (3, 0, 2))) rfl (stH_wfS hn8 hS) (a := a) (n1 := n1) (by omega) (by omega) _ _) cv_X7_265 rfl (by decide) rfl (by first | rfl | exact ok_c hq rfl | exact ok_w hq hw | exact ok_w (by omega) (by omega) | exact ok_s (by omega) (by omega) | exact ok_c (by omega) rfl | assumption) (Nat.le_of_ble_eq_true rfl) (by omega) (fun r h' hr => ?_)
        obtain ⟨he9, v, rfl, hv⟩ := hr
        rw [he9]
        clear he9 h'
        show V _ _ _ (44 + 3) _ (_ :: _) _
        refine v_iret hC hX (pc := 47) dX7_reach_47 ?_
        exact ⟨scr_st h, v, rfl, hv⟩
      · exact absurd c_24 (by decide)

set_option maxRecDepth 20000 in
set_option maxHeartbeats 2000000 in
theorem m_reach_bad (l9 : Launch) (G : WT) {d : Nat} (hd : 3 ≤ d) (h : HP) {nC : Nat} (hn8 : nC ≤ 8) (hnc : h.1 (3, 0, 0) 3 = nI nC) (a t n : Int32) (hbad : ¬ ((¬ a < 0 ∧ ¬ nI nC ≤ a) ∧ (¬ t < 0 ∧ ¬ 24 ≤ t) ∧ ¬ n < 0 ∧ ¬ 24 < n)) : MS l9 G yX7_reach cX7_reach 4 (some .int) d [vr (3, 0, 0), vi a, vi t, vi n] h (fun r h1 => h1 = h ∧ r = some (vi (-1))) := by
  refine MS_of (by decide +kernel) (Nat.le_of_ble_eq_true rfl) (fun X hC hX => ?_)
  show V X G 4 0 _ [] _
  refine v_aload_n hC (pc := 0) (k := 0) 0 rfl dX7_reach_0 ?_
  refine v_iload_n hC (pc := 1) (k := 1) 1 rfl dX7_reach_1 ?_
  refine v_callV hC (pc := 2) (As := [_]) dX7_reach_2 rfl (m_isCorner _ _ (d := d - 1) (by omega) _ hn8 hnc _) cv_X7_210 rfl (by decide) rfl (by first | rfl | exact ok_c hq rfl | exact ok_w hq hw | exact ok_w (by omega) (by omega) | exact ok_s (by omega) (by omega) | exact ok_c (by omega) rfl | assumption) (Nat.le_of_ble_eq_true rfl) (by omega) (fun r h' hr => ?_)
  obtain ⟨he9, rfl⟩ := hr
  rw [he9]
  clear he9 h'
  show V _ _ _ (2 + 3) _ (_ :: _) _
  refine v_ifb_eq hC (pc := 5) (tgt := 27) dX7_reach_5 (by decide) (fun c_5 => ?_) (fun c_5 => ?_)
  · skip
    refine v_iconst hC (pc := 27) (v := (-1)) (by decide) dX7_reach_27 ?_
    refine v_iret hC hX (pc := 28) dX7_reach_28 ?_
    exact ⟨rfl, rfl⟩
  · skip
    refine v_iload_n hC (pc := 8) (k := 2) 2 rfl dX7_reach_8 ?_
    refine v_callS hC (pc := 9) (As := [_]) dX7_reach_9 rfl (m_isHour _ _ (d := d - 1) (by omega) _ _) cs_X7_225 (Nat.le_of_ble_eq_true rfl) (by omega) (fun r h' hr => ?_)
    obtain ⟨he9, rfl⟩ := hr
    rw [he9]
    clear he9 h'
    show V _ _ _ (9 + 3) _ (_ :: _) _
    refine v_ifb_eq hC (pc := 12) (tgt := 27) dX7_reach_12 (by decide) (fun c_12 => ?_) (fun c_12 => ?_)
    · skip
      refine v_iconst hC (pc := 27) (v := (-1)) (by decide) dX7_reach_27 ?_
      refine v_iret hC hX (pc := 28) dX7_reach_28 ?_
      exact ⟨rfl, rfl⟩
    · skip
      refine v_iload_n hC (pc := 15) (k := 3) 3 rfl dX7_reach_15 ?_
      refine v_i2l hC (pc := 16) dX7_reach_16 ?_
      refine v_lconst hC (pc := 17) (v := 0) (by decide) dX7_reach_17 ?_
      refine v_ldc2 hC (pc := 18) k_X7_263 dX7_reach_18 ?_
      refine v_callS hC (pc := 21) (As := [_, _, _]) dX7_reach_21 rfl (m_in _ _ (d := d - 1) (by omega) _ (n) (0) (24)) cs_X7_84 (Nat.le_of_ble_eq_true rfl) (by omega) (fun r h' hr => ?_)
      obtain ⟨he9, rfl⟩ := hr
      rw [he9]
      clear he9 h'
      show V _ _ _ (21 + 3) _ (_ :: _) _
      refine v_ifb_ne hC (pc := 24) (tgt := 29) dX7_reach_24 (by decide) (fun c_24 => ?_) (fun c_24 => ?_)
      · skip
        exact absurd ⟨c_5, c_12, c_24⟩ hbad
      · skip
        refine v_iconst hC (pc := 27) (v := (-1)) (by decide) dX7_reach_27 ?_
        refine v_iret hC hX (pc := 28) dX7_reach_28 ?_
        exact ⟨rfl, rfl⟩

theorem least_le (P : Nat → Prop) : ∀ N, ∃ D, D ≤ N ∧ (∀ m, m < D → ¬ P m) ∧ (D < N → P D)
  | 0 => ⟨0, Nat.le_refl _, fun m h => absurd h (Nat.not_lt_zero _), fun h => absurd h (Nat.not_lt_zero _)⟩
  | N + 1 => by
    obtain ⟨D, h1, h2, h3⟩ := least_le P N
    rcases Nat.lt_or_ge D N with q | q
    · exact ⟨D, by omega, h2, fun _ => h3 q⟩
    · have e : D = N := by omega
      subst e
      rcases Classical.em (P D) with p | p
      · exact ⟨D, by omega, h2, fun _ => p⟩
      · refine ⟨D + 1, Nat.le_refl _, fun m hm => ?_, fun z => absurd z (Nat.lt_irrefl _)⟩
        rcases (show m < D ∨ m = D by omega) with y | rfl
        · exact h2 m y
        · exact p
/-- the least so far, the hour found so far -/
def fwI9 (D k : Nat) : Int32 := if k = 0 then 1000000 else if D ≤ 24 then nI D else 1000000
def fdI9 (D k : Nat) : Int32 := if k = 0 then -4 else if D ≤ 24 then 0 else -4
theorem nI_z {x : Nat} (h : nI x = 0) (hx : x < 2 ^ 31) : x = 0 := (nI_eq hx (by decide)).mp h
set_option maxRecDepth 20000 in
set_option maxHeartbeats 2000000 in
theorem m_when_ok (l9 : Launch) (G : WT) {d : Nat} (hd : 5 ≤ d) (h : HP) {nC : Nat} (hn8 : nC ≤ 8) (hnc : h.1 (3, 0, 0) 3 = nI nC) (hS : wfS (h.1 (3, 0, 1)) nC) {a b x : Nat} (hac : a < nC) (hbc : b < nC) (hx : x < 2) : MS l9 G yX7_when cX7_when 8 (some .int) d [vr (3, 0, 0), vi (nI a), vi (nI b), vi (nI x)] h (fun r h1 => scr h h1 ∧ ((∃ D, D ≤ 24 ∧ wa ((stH h).1 (3, 0, 2)) nC a D b ∧ (∀ m, m < D → ¬ wa ((stH h).1 (3, 0, 2)) nC a m b) ∧ r = some (vi (if x = 0 then 0 else nI D))) ∨ (r = some (vi (-4)) ∧ ∀ m, m ≤ 24 → ¬ wa ((stH h).1 (3, 0, 2)) nC a m b))) := by
  refine MS_of (by decide +kernel) (Nat.le_of_ble_eq_true rfl) (fun X hC hX => ?_)
  show V X G 8 0 _ [] _
  obtain ⟨D, hD1, hD2, hD3⟩ := least_le (fun m => wa ((stH h).1 (3, 0, 2)) nC a m b) 25
  have loop : ∀ (n k : Nat), k ≤ 24 → 25 ≤ k + n → V X G 8 41 [(6, vi (nI k)), (5, vi (fdI9 D k)), (4, vi (fwI9 D k)), (0, vr (3, 0, 0)), (1, vi (nI a)), (2, vi (nI b)), (3, vi (nI x))] [] (stH h) := by
    intro n
    induction n with
    | zero => intro k h1 h2; exact absurd h2 (by omega)
    | succ n ih =>
      intro k h1 h2
      refine v_iload hC (pc := 41) 0 rfl dX7_when_41 ?_
      refine v_bipush hC (pc := 43) (v := 24) (by decide +kernel) dX7_when_43 ?_
      refine v_icmp_ge hC (pc := 45) (tgt := 139) dX7_when_45 (by decide) (fun c_45 => ?_) (fun c_45 => ?_)
      · skip
        have hk : k = 24 := lp_ex (N := 24) c_45 h1 (by decide)
        subst hk
        refine v_iload hC (pc := 139) 1 rfl dX7_when_139 ?_
        refine v_bipush hC (pc := 141) (v := (-4)) (by decide +kernel) dX7_when_141 ?_
        refine v_icmp_ne hC (pc := 143) (tgt := 151) dX7_when_143 (by decide) (fun c_143 => ?_) (fun c_143 => ?_)
        · skip
          refine v_iload_n hC (pc := 151) (k := 3) 6 rfl dX7_when_151 ?_
          refine v_if_ne hC (pc := 152) (tgt := 160) dX7_when_152 (by decide) (fun c_152 => ?_) (fun c_152 => ?_)
          · skip
            refine v_iload hC (pc := 160) 2 rfl dX7_when_160 ?_
            refine v_iret hC hX (pc := 162) dX7_when_162 ?_
            refine ⟨scr_st h, ?_⟩
            rcases (show D = 25 ∨ D ≤ 24 by omega) with rfl | hle
            · exact Or.inr ⟨by first | rfl | exact absurd rfl c_143, fun m hm => hD2 m (by omega)⟩
            · refine Or.inl ⟨D, hle, hD3 (by omega), hD2, ?_⟩
              have e0 : fdI9 D 24 = 0 := if_pos hle
              have e1 : fwI9 D 24 = nI D := if_pos hle
              first | (rw [e0] at c_143; exact absurd c_143 (by decide)) | (rw [if_pos (nI_z c_152 (by omega)), e0]; done) | (rw [if_neg (fun z => c_152 (by rw [z]; rfl)), e1])
          · skip
            refine v_iload hC (pc := 155) 1 rfl dX7_when_155 ?_
            refine v_goto hC (pc := 157) (tgt := 162) dX7_when_157 (by decide) ?_
            refine v_iret hC hX (pc := 162) dX7_when_162 ?_
            refine ⟨scr_st h, ?_⟩
            rcases (show D = 25 ∨ D ≤ 24 by omega) with rfl | hle
            · exact Or.inr ⟨by first | rfl | exact absurd rfl c_143, fun m hm => hD2 m (by omega)⟩
            · refine Or.inl ⟨D, hle, hD3 (by omega), hD2, ?_⟩
              have e0 : fdI9 D 24 = 0 := if_pos hle
              have e1 : fwI9 D 24 = nI D := if_pos hle
              first | (rw [e0] at c_143; exact absurd c_143 (by decide)) | (rw [if_pos (nI_z c_152 (by omega)), e0]; done) | (rw [if_neg (fun z => c_152 (by rw [z]; rfl)), e1])
        · skip
          refine v_bipush hC (pc := 146) (v := (-4)) (by decide +kernel) dX7_when_146 ?_
          refine v_goto hC (pc := 148) (tgt := 162) dX7_when_148 (by decide) ?_
          refine v_iret hC hX (pc := 162) dX7_when_162 ?_
          refine ⟨scr_st h, ?_⟩
          rcases (show D = 25 ∨ D ≤ 24 by omega) with rfl | hle
          · exact Or.inr ⟨by first | rfl | exact absurd rfl c_143, fun m hm => hD2 m (by omega)⟩
          · refine Or.inl ⟨D, hle, hD3 (by omega), hD2, ?_⟩
            have e0 : fdI9 D 24 = 0 := if_pos hle
            have e1 : fwI9 D 24 = nI D := if_pos hle
            first | (rw [e0] at c_143; exact absurd c_143 (by decide)) | (rw [if_pos (nI_z c_152 (by omega)), e0]; done) | (rw [if_neg (fun z => c_152 (by rw [z]; rfl)), e1])
      · skip
        have hk : k < 24 := lp_in (N := 24) c_45 h1 (by decide)
        refine v_iconst hC (pc := 48) (v := 0) (by decide) dX7_when_48 ?_
        refine v_istore hC (pc := 49) (l' := [(7, _), (6, _), (5, _), (4, _), (0, _), (1, _), (2, _), (3, _)]) dX7_when_49 (by decide) rfl ?_
        have tail : V X G 8 87 [(7, vi (nI D)), (6, vi (nI k)), (5, vi (fdI9 D k)), (4, vi (fwI9 D k)), (0, vr (3, 0, 0)), (1, vi (nI a)), (2, vi (nI b)), (3, vi (nI x))] [] (stH h) := by
          rcases (show D = 25 ∨ D ≤ 24 by omega) with rfl | hle
          · have ih2 := ih (k + 1) (by omega) (by omega)
            rw [show fdI9 25 (k + 1) = -4 from rfl, show fwI9 25 (k + 1) = 1000000 from rfl] at ih2
            rw [show fdI9 25 k = -4 from by unfold fdI9; split <;> rfl, show fwI9 25 k = 1000000 from by unfold fwI9; split <;> rfl]
            refine v_iload hC (pc := 87) 0 rfl dX7_when_87 ?_
            refine v_bipush hC (pc := 89) (v := 24) (by decide +kernel) dX7_when_89 ?_
            refine v_icmp_gt hC (pc := 91) (tgt := 106) dX7_when_91 (by decide) (fun c_91 => ?_) (fun c_91 => ?_)
            · skip
              refine v_iload hC (pc := 106) 2 rfl dX7_when_106 ?_
              refine v_istore hC (pc := 108) (l' := [(5, _), (7, _), (6, _), (4, _), (0, _), (1, _), (2, _), (3, _)]) dX7_when_108 (by decide) rfl ?_
              refine v_iload hC (pc := 110) 1 rfl dX7_when_110 ?_
              refine v_bipush hC (pc := 112) (v := 24) (by decide +kernel) dX7_when_112 ?_
              refine v_icmp_gt hC (pc := 114) (tgt := 129) dX7_when_114 (by decide) (fun c_114 => ?_) (fun c_114 => ?_)
              · skip
                refine v_iload hC (pc := 129) 3 rfl dX7_when_129 ?_
                refine v_istore hC (pc := 131) (l' := [(4, _), (5, _), (7, _), (6, _), (0, _), (1, _), (2, _), (3, _)]) dX7_when_131 (by decide) rfl ?_
                refine v_iinc hC (pc := 133) (l' := [(6, _), (4, _), (5, _), (7, _), (0, _), (1, _), (2, _), (3, _)]) 3 (v := nI (k + 1)) dX7_when_133 rfl (nI_inc k) (by decide) rfl ?_
                refine v_goto hC (pc := 136) (tgt := 41) dX7_when_136 (by decide) ?_
                refine v_loc (l' := [(6, _), (5, _), (4, _), (0, _), (1, _), (2, _), (3, _)]) [0, 2, 1, 4, 5, 6, 7] rfl ?_
                exact ih2
              · exact absurd (show nI 24 < nI 25 by decide) (Int32.not_lt.mpr (Int32.not_lt.mp c_114))
            · exact absurd (show nI 24 < nI 25 by decide) (Int32.not_lt.mpr (Int32.not_lt.mp c_91))
          · have ih2 := ih (k + 1) (by omega) (by omega)
            rw [show fdI9 D (k + 1) = 0 from if_pos hle, show fwI9 D (k + 1) = nI D from if_pos hle] at ih2
            rcases Nat.eq_zero_or_pos k with rfl | kp
            · rw [show fdI9 D 0 = -4 from rfl, show fwI9 D 0 = 1000000 from rfl]
              rw [show (0 : Int32) = nI 0 from rfl] at ih2
              refine v_iload hC (pc := 87) 0 rfl dX7_when_87 ?_
              refine v_bipush hC (pc := 89) (v := 24) (by decide +kernel) dX7_when_89 ?_
              refine v_icmp_gt hC (pc := 91) (tgt := 106) dX7_when_91 (by decide) (fun c_91 => ?_) (fun c_91 => ?_)
              · exact absurd c_91 (nI_nlt hle (by decide))
              · skip
                refine v_iload hC (pc := 94) 0 rfl dX7_when_94 ?_
                refine v_iload hC (pc := 96) 3 rfl dX7_when_96 ?_
                refine v_icmp_ge hC (pc := 98) (tgt := 106) dX7_when_98 (by decide) (fun c_98 => ?_) (fun c_98 => ?_)
                · exact absurd c_98 (nI_ge (show D < 1000000 by omega) (by decide))
                · skip
                  refine v_iload hC (pc := 101) 1 rfl dX7_when_101 ?_
                  refine v_goto hC (pc := 103) (tgt := 108) dX7_when_103 (by decide) ?_
                  refine v_istore hC (pc := 108) (l' := [(5, _), (7, _), (6, _), (4, _), (0, _), (1, _), (2, _), (3, _)]) dX7_when_108 (by decide) rfl ?_
                  refine v_iload hC (pc := 110) 1 rfl dX7_when_110 ?_
                  refine v_bipush hC (pc := 112) (v := 24) (by decide +kernel) dX7_when_112 ?_
                  refine v_icmp_gt hC (pc := 114) (tgt := 129) dX7_when_114 (by decide) (fun c_114 => ?_) (fun c_114 => ?_)
                  · exact absurd c_114 (nI_nlt hle (by decide))
                  · skip
                    refine v_iload hC (pc := 117) 1 rfl dX7_when_117 ?_
                    refine v_iload hC (pc := 119) 3 rfl dX7_when_119 ?_
                    refine v_icmp_ge hC (pc := 121) (tgt := 129) dX7_when_121 (by decide) (fun c_121 => ?_) (fun c_121 => ?_)
                    · exact absurd c_121 (nI_ge (show D < 1000000 by omega) (by decide))
                    · skip
                      refine v_iload hC (pc := 124) 1 rfl dX7_when_124 ?_
                      refine v_goto hC (pc := 126) (tgt := 131) dX7_when_126 (by decide) ?_
                      refine v_istore hC (pc := 131) (l' := [(4, _), (5, _), (7, _), (6, _), (0, _), (1, _), (2, _), (3, _)]) dX7_when_131 (by decide) rfl ?_
                      refine v_iinc hC (pc := 133) (l' := [(6, _), (4, _), (5, _), (7, _), (0, _), (1, _), (2, _), (3, _)]) 3 (v := nI (0 + 1)) dX7_when_133 rfl (nI_inc 0) (by decide) rfl ?_
                      refine v_goto hC (pc := 136) (tgt := 41) dX7_when_136 (by decide) ?_
                      refine v_loc (l' := [(6, _), (5, _), (4, _), (0, _), (1, _), (2, _), (3, _)]) [0, 2, 1, 4, 5, 6, 7] rfl ?_
                      exact ih2
            · rw [show fdI9 D k = 0 from by unfold fdI9; rw [if_neg (by omega), if_pos hle], show fwI9 D k = nI D from by unfold fwI9; rw [if_neg (by omega), if_pos hle]]
              refine v_iload hC (pc := 87) 0 rfl dX7_when_87 ?_
              refine v_bipush hC (pc := 89) (v := 24) (by decide +kernel) dX7_when_89 ?_
              refine v_icmp_gt hC (pc := 91) (tgt := 106) dX7_when_91 (by decide) (fun c_91 => ?_) (fun c_91 => ?_)
              · exact absurd c_91 (nI_nlt hle (by decide))
              · skip
                refine v_iload hC (pc := 94) 0 rfl dX7_when_94 ?_
                refine v_iload hC (pc := 96) 3 rfl dX7_when_96 ?_
                refine v_icmp_ge hC (pc := 98) (tgt := 106) dX7_when_98 (by decide) (fun c_98 => ?_) (fun c_98 => ?_)
                · skip
                  refine v_iload hC (pc := 106) 2 rfl dX7_when_106 ?_
                  refine v_istore hC (pc := 108) (l' := [(5, _), (7, _), (6, _), (4, _), (0, _), (1, _), (2, _), (3, _)]) dX7_when_108 (by decide) rfl ?_
                  refine v_iload hC (pc := 110) 1 rfl dX7_when_110 ?_
                  refine v_bipush hC (pc := 112) (v := 24) (by decide +kernel) dX7_when_112 ?_
                  refine v_icmp_gt hC (pc := 114) (tgt := 129) dX7_when_114 (by decide) (fun c_114 => ?_) (fun c_114 => ?_)
                  · exact absurd c_114 (nI_nlt hle (by decide))
                  · skip
                    refine v_iload hC (pc := 117) 1 rfl dX7_when_117 ?_
                    refine v_iload hC (pc := 119) 3 rfl dX7_when_119 ?_
                    refine v_icmp_ge hC (pc := 121) (tgt := 129) dX7_when_121 (by decide) (fun c_121 => ?_) (fun c_121 => ?_)
                    · skip
                      refine v_iload hC (pc := 129) 3 rfl dX7_when_129 ?_
                      refine v_istore hC (pc := 131) (l' := [(4, _), (5, _), (7, _), (6, _), (0, _), (1, _), (2, _), (3, _)]) dX7_when_131 (by decide) rfl ?_
                      refine v_iinc hC (pc := 133) (l' := [(6, _), (4, _), (5, _), (7, _), (0, _), (1, _), (2, _), (3, _)]) 3 (v := nI (k + 1)) dX7_when_133 rfl (nI_inc k) (by decide) rfl ?_
                      refine v_goto hC (pc := 136) (tgt := 41) dX7_when_136 (by decide) ?_
                      refine v_loc (l' := [(6, _), (5, _), (4, _), (0, _), (1, _), (2, _), (3, _)]) [0, 2, 1, 4, 5, 6, 7] rfl ?_
                      exact ih2
                    · exact absurd (nI_le (Nat.le_refl D) (by omega)) c_121
                · exact absurd (nI_le (Nat.le_refl D) (by omega)) c_98
        have wl : ∀ (n m : Nat), m ≤ D → 26 ≤ m + n → V X G 8 51 [(7, vi (nI m)), (6, vi (nI k)), (5, vi (fdI9 D k)), (4, vi (fwI9 D k)), (0, vr (3, 0, 0)), (1, vi (nI a)), (2, vi (nI b)), (3, vi (nI x))] [] (stH h) := by
          intro n
          induction n with
          | zero => intro m h1 h2; exact absurd h2 (by omega)
          | succ n ihw =>
            intro m h1 h2
            refine v_iload hC (pc := 51) 0 rfl dX7_when_51 ?_
            refine v_bipush hC (pc := 53) (v := 24) (by decide +kernel) dX7_when_53 ?_
            refine v_icmp_gt hC (pc := 55) (tgt := 87) dX7_when_55 (by decide) (fun c_55 => ?_) (fun c_55 => ?_)
            · skip
              have hm : 24 < m := lp_gt (N := 24) c_55 (by decide) (by omega)
              have hmD : m = D := by omega
              subst hmD
              exact tail
            · skip
              have hm : m ≤ 24 := lp_ngt (N := 24) c_55 (by decide) (by omega)
              refine v_aload_n hC (pc := 58) (k := 0) 4 rfl dX7_when_58 ?_
              refine v_iload_n hC (pc := 59) (k := 1) 5 rfl dX7_when_59 ?_
              refine v_iload hC (pc := 60) 1 rfl dX7_when_60 ?_
              refine v_iload hC (pc := 62) 0 rfl dX7_when_62 ?_
              refine v_aload_n hC (pc := 64) (k := 0) 4 rfl dX7_when_64 ?_
              refine v_getR hC (pc := 65) dX7_when_65 fl_X7_7 rfl (by first | rfl | exact ok_c hq rfl | exact ok_w hq hw | exact ok_w (by omega) (by omega) | exact ok_s (by omega) (by omega) | exact ok_c (by omega) rfl | assumption) rfl (by decide) (by decide) rfl ?_
              refine v_bipush hC (pc := 68) (v := 16) (by decide +kernel) dX7_when_68 ?_
              refine v_iald hC (pc := 70) dX7_when_70 rfl (by first | rfl | exact ok_c hq rfl | exact ok_w hq hw | exact ok_w (by omega) (by omega) | exact ok_s (by omega) (by omega) | exact ok_c (by omega) rfl | assumption) (vp_nat (n := 16) (by omega) (by decide)) ?_
              refine v_callV hC (pc := 71) (As := [_, _, _, _]) dX7_when_71 rfl (m_reachBy _ _ (d := d - 1) (by omega) _ hn8 (by rw [stH_o h (by decide)]; exact hnc) (A := ((stH h).1 (3, 0, 2))) rfl (stH_wfS hn8 hS) (a := a) (n1 := m) (by omega) (by omega) _ _) cv_X7_265 rfl (by decide) rfl (by first | rfl | exact ok_c hq rfl | exact ok_w hq hw | exact ok_w (by omega) (by omega) | exact ok_s (by omega) (by omega) | exact ok_c (by omega) rfl | assumption) (Nat.le_of_ble_eq_true rfl) (by omega) (fun r h' hr => ?_)
              obtain ⟨he9, v, rfl, hv⟩ := hr
              rw [he9]
              clear he9 h'
              show V _ _ _ (71 + 3) _ (_ :: _) _
              refine v_iload_n hC (pc := 74) (k := 2) 6 rfl dX7_when_74 ?_
              refine v_ishr hC (pc := 75) dX7_when_75 ?_
              refine v_iconst hC (pc := 76) (v := 1) (by decide) dX7_when_76 ?_
              refine v_iand hC (pc := 77) dX7_when_77 ?_
              refine v_if_ne hC (pc := 78) (tgt := 87) dX7_when_78 (by decide) (fun c_78 => ?_) (fun c_78 => ?_)
              · skip
                have hmD : m = D := by
                  rcases Nat.lt_or_ge m D with y | y
                  · exact absurd ((Bs_tst hv (by omega)).mp ((and1 _).resolve_left c_78)) (hD2 m y)
                  · omega
                subst hmD
                exact tail
              · skip
                have hmD : m < D := by
                  rcases Nat.lt_or_ge m D with y | y
                  · exact y
                  · have e : m = D := by omega
                    subst e
                    have := (Bs_tst hv (c := b) (by omega)).mpr (hD3 (by omega))
                    rw [c_78] at this
                    exact absurd this (by decide)
                refine v_iinc hC (pc := 81) (l' := [(7, _), (6, _), (5, _), (4, _), (0, _), (1, _), (2, _), (3, _)]) 0 (v := nI (m + 1)) dX7_when_81 rfl (nI_inc m) (by decide) rfl ?_
                refine v_goto hC (pc := 84) (tgt := 51) dX7_when_84 (by decide) ?_
                exact ihw (m + 1) (by omega) (by omega)
        exact wl 26 0 (by omega) (by omega)
  refine v_aload_n hC (pc := 0) (k := 0) 0 rfl dX7_when_0 ?_
  refine v_iload_n hC (pc := 1) (k := 1) 1 rfl dX7_when_1 ?_
  refine v_callV hC (pc := 2) (As := [_]) dX7_when_2 rfl (m_isCorner_t _ _ (d := d - 1) (by omega) _ (c := a) (by assumption) hn8 hnc) cv_X7_210 rfl (by decide) rfl (by first | rfl | exact ok_c hq rfl | exact ok_w hq hw | exact ok_w (by omega) (by omega) | exact ok_s (by omega) (by omega) | exact ok_c (by omega) rfl | assumption) (Nat.le_of_ble_eq_true rfl) (by omega) (fun r h' hr => ?_)
  obtain ⟨he9, rfl⟩ := hr
  rw [he9]
  clear he9 h'
  show V _ _ _ (2 + 3) _ (_ :: _) _
  refine v_if_eq hC (pc := 5) (tgt := 23) dX7_when_5 (by decide) (fun c_5 => ?_) (fun c_5 => ?_)
  · exact absurd c_5 (by decide)
  · skip
    refine v_aload_n hC (pc := 8) (k := 0) 0 rfl dX7_when_8 ?_
    refine v_iload_n hC (pc := 9) (k := 2) 2 rfl dX7_when_9 ?_
    refine v_callV hC (pc := 10) (As := [_]) dX7_when_10 rfl (m_isCorner_t _ _ (d := d - 1) (by omega) _ (c := b) (by assumption) hn8 hnc) cv_X7_210 rfl (by decide) rfl (by first | rfl | exact ok_c hq rfl | exact ok_w hq hw | exact ok_w (by omega) (by omega) | exact ok_s (by omega) (by omega) | exact ok_c (by omega) rfl | assumption) (Nat.le_of_ble_eq_true rfl) (by omega) (fun r h' hr => ?_)
    obtain ⟨he9, rfl⟩ := hr
    rw [he9]
    clear he9 h'
    show V _ _ _ (10 + 3) _ (_ :: _) _
    refine v_if_eq hC (pc := 13) (tgt := 23) dX7_when_13 (by decide) (fun c_13 => ?_) (fun c_13 => ?_)
    · exact absurd c_13 (by decide)
    · skip
      refine v_iload_n hC (pc := 16) (k := 3) 3 rfl dX7_when_16 ?_
      refine v_callS hC (pc := 17) (As := [_]) dX7_when_17 rfl (m_isPart_t _ _ (d := d - 1) (by omega) _ (s := x) (by assumption)) cs_X7_213 (Nat.le_of_ble_eq_true rfl) (by omega) (fun r h' hr => ?_)
      obtain ⟨he9, rfl⟩ := hr
      rw [he9]
      clear he9 h'
      show V _ _ _ (17 + 3) _ (_ :: _) _
      refine v_if_ne hC (pc := 20) (tgt := 25) dX7_when_20 (by decide) (fun c_20 => ?_) (fun c_20 => ?_)
      · skip
        refine v_ldcw hC (pc := 25) k_X7_268 dX7_when_25 ?_
        refine v_istore hC (pc := 28) (l' := [(4, _), (0, _), (1, _), (2, _), (3, _)]) dX7_when_28 (by decide) rfl ?_
        refine v_bipush hC (pc := 30) (v := (-4)) (by decide +kernel) dX7_when_30 ?_
        refine v_istore hC (pc := 32) (l' := [(5, _), (4, _), (0, _), (1, _), (2, _), (3, _)]) dX7_when_32 (by decide) rfl ?_
        refine v_aload_n hC (pc := 34) (k := 0) 2 rfl dX7_when_34 ?_
        refine v_callV hC (pc := 35) (As := []) dX7_when_35 rfl (m_starts _ _ (d := d - 1) (by omega) _) cv_X7_219 rfl (by decide) rfl (by first | rfl | exact ok_c hq rfl | exact ok_w hq hw | exact ok_w (by omega) (by omega) | exact ok_s (by omega) (by omega) | exact ok_c (by omega) rfl | assumption) (Nat.le_of_ble_eq_true rfl) (by omega) (fun r h' hr => ?_)
        obtain ⟨rfl, rfl⟩ := hr
        refine v_heap (show _ = stH h from rfl) ?_
        show V _ _ _ (35 + 3) _ _ _
        refine v_iconst hC (pc := 38) (v := 0) (by decide) dX7_when_38 ?_
        refine v_istore hC (pc := 39) (l' := [(6, _), (5, _), (4, _), (0, _), (1, _), (2, _), (3, _)]) dX7_when_39 (by decide) rfl ?_
        exact loop 25 0 (by omega) (by omega)
      · exact absurd c_20 (by decide)

set_option maxRecDepth 20000 in
set_option maxHeartbeats 2000000 in
theorem m_when_bad (l9 : Launch) (G : WT) {d : Nat} (hd : 3 ≤ d) (h : HP) {nC : Nat} (hn8 : nC ≤ 8) (hnc : h.1 (3, 0, 0) 3 = nI nC) (a b x : Int32) (hbad : ¬ ((¬ a < 0 ∧ ¬ nI nC ≤ a) ∧ (¬ b < 0 ∧ ¬ nI nC ≤ b) ∧ (x = 0 ∨ x = 1))) : MS l9 G yX7_when cX7_when 8 (some .int) d [vr (3, 0, 0), vi a, vi b, vi x] h (fun r h1 => h1 = h ∧ r = some (vi (-1))) := by
  refine MS_of (by decide +kernel) (Nat.le_of_ble_eq_true rfl) (fun X hC hX => ?_)
  show V X G 8 0 _ [] _
  refine v_aload_n hC (pc := 0) (k := 0) 0 rfl dX7_when_0 ?_
  refine v_iload_n hC (pc := 1) (k := 1) 1 rfl dX7_when_1 ?_
  refine v_callV hC (pc := 2) (As := [_]) dX7_when_2 rfl (m_isCorner _ _ (d := d - 1) (by omega) _ hn8 hnc _) cv_X7_210 rfl (by decide) rfl (by first | rfl | exact ok_c hq rfl | exact ok_w hq hw | exact ok_w (by omega) (by omega) | exact ok_s (by omega) (by omega) | exact ok_c (by omega) rfl | assumption) (Nat.le_of_ble_eq_true rfl) (by omega) (fun r h' hr => ?_)
  obtain ⟨he9, rfl⟩ := hr
  rw [he9]
  clear he9 h'
  show V _ _ _ (2 + 3) _ (_ :: _) _
  refine v_ifb_eq hC (pc := 5) (tgt := 23) dX7_when_5 (by decide) (fun c_5 => ?_) (fun c_5 => ?_)
  · skip
    refine v_iconst hC (pc := 23) (v := (-1)) (by decide) dX7_when_23 ?_
    refine v_iret hC hX (pc := 24) dX7_when_24 ?_
    exact ⟨rfl, rfl⟩
  · skip
    refine v_aload_n hC (pc := 8) (k := 0) 0 rfl dX7_when_8 ?_
    refine v_iload_n hC (pc := 9) (k := 2) 2 rfl dX7_when_9 ?_
    refine v_callV hC (pc := 10) (As := [_]) dX7_when_10 rfl (m_isCorner _ _ (d := d - 1) (by omega) _ hn8 hnc _) cv_X7_210 rfl (by decide) rfl (by first | rfl | exact ok_c hq rfl | exact ok_w hq hw | exact ok_w (by omega) (by omega) | exact ok_s (by omega) (by omega) | exact ok_c (by omega) rfl | assumption) (Nat.le_of_ble_eq_true rfl) (by omega) (fun r h' hr => ?_)
    obtain ⟨he9, rfl⟩ := hr
    rw [he9]
    clear he9 h'
    show V _ _ _ (10 + 3) _ (_ :: _) _
    refine v_ifb_eq hC (pc := 13) (tgt := 23) dX7_when_13 (by decide) (fun c_13 => ?_) (fun c_13 => ?_)
    · skip
      refine v_iconst hC (pc := 23) (v := (-1)) (by decide) dX7_when_23 ?_
      refine v_iret hC hX (pc := 24) dX7_when_24 ?_
      exact ⟨rfl, rfl⟩
    · skip
      refine v_iload_n hC (pc := 16) (k := 3) 3 rfl dX7_when_16 ?_
      refine v_callS hC (pc := 17) (As := [_]) dX7_when_17 rfl (m_isPart _ _ (d := d - 1) (by omega) _ _) cs_X7_213 (Nat.le_of_ble_eq_true rfl) (by omega) (fun r h' hr => ?_)
      obtain ⟨he9, rfl⟩ := hr
      rw [he9]
      clear he9 h'
      show V _ _ _ (17 + 3) _ (_ :: _) _
      refine v_ifb_ne hC (pc := 20) (tgt := 25) dX7_when_20 (by decide) (fun c_20 => ?_) (fun c_20 => ?_)
      · skip
        exact absurd ⟨c_5, c_13, c_20⟩ hbad
      · skip
        refine v_iconst hC (pc := 23) (v := (-1)) (by decide) dX7_when_23 ?_
        refine v_iret hC hX (pc := 24) dX7_when_24 ?_
        exact ⟨rfl, rfl⟩

