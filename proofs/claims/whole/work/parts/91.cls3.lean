/-! THE CLASS: ways -/
theorem lt34 {x : Int32} (h : ¬ (34 : Int32) ≤ x) : ¬ (33 : Int32) < x := by
  rw [Int32.le_iff_toInt_le] at h
  rw [Int32.lt_iff_toInt_lt]
  have e1 : (34 : Int32).toInt = 34 := by decide
  have e2 : (33 : Int32).toInt = 33 := by decide
  omega
theorem least_n {P : Nat → Prop} {m : Nat} (h : ∃ n, n ≤ m ∧ P n) : ∃ n, n ≤ m ∧ P n ∧ ∀ k, k < n → ¬ P k := by
  obtain ⟨n, h1, h2⟩ := h
  revert h1 h2
  induction n using Nat.strongRecOn with
  | _ n ih =>
    intro h1 h2
    by_cases q : ∃ k, k < n ∧ P k
    · obtain ⟨k, q1, q2⟩ := q
      exact ih k q1 (by omega) q2
    · exact ⟨n, h1, h2, fun k hk z => q ⟨k, hk, z⟩⟩
set_option maxRecDepth 20000 in
set_option maxHeartbeats 2000000 in
theorem k_reach_ok (l9 : Launch) (G : WT) {d : Nat} (hd : 4 ≤ d) (h : HP) {nC : Nat} (hn8 : nC ≤ 8) (hnc : h.1 (0, 0, 0) 0 = nI nC) {a t n1 : Nat} (hac : a < nC) (ht : t < 24) (hn : n1 ≤ 24) : MS l9 G yX6_reach cX6_reach 4 (some .int) d [vr (1, 0, 0), vi (nI a), vi (nI t), vi (nI n1)] h (fun r h1 => h1 = h ∧ r = some (vi (witF (h.1 (0, 0, 6)) nC n1 (1 <<< (nI a &&& 31))))) := by
  refine MS_of (by decide +kernel) (Nat.le_of_ble_eq_true rfl) (fun X hC hX => ?_)
  show V X G 4 0 _ [] _
  refine v_aload_n hC (pc := 0) (k := 0) 0 rfl dX6_reach_0 ?_
  refine v_getR hC (pc := 1) dX6_reach_1 fl_X6_10 rfl (by first | rfl | exact ok_c hq rfl | exact ok_w hq hw | exact ok_w (by omega) (by omega) | exact ok_s (by omega) (by omega) | exact ok_c (by omega) rfl | assumption) rfl (by decide) (by decide) rfl ?_
  refine v_iload_n hC (pc := 4) (k := 1) 1 rfl dX6_reach_4 ?_
  refine v_callV hC (pc := 5) (As := [_]) dX6_reach_5 rfl (t_hasCorner_t _ _ (d := d - 1) (by omega) (q := 0) (by decide) _ (c := a) (by assumption) (by omega) hnc) cv_X6_105 rfl (by decide) rfl (by first | rfl | exact ok_c hq rfl | exact ok_w hq hw | exact ok_w (by omega) (by omega) | exact ok_s (by omega) (by omega) | exact ok_c (by omega) rfl | assumption) (Nat.le_of_ble_eq_true rfl) (by omega) (fun r h' hr => ?_)
  obtain ⟨he9, rfl⟩ := hr
  rw [he9]
  clear he9 h'
  show V _ _ _ (5 + 3) _ (_ :: _) _
  refine v_if_eq hC (pc := 8) (tgt := 28) dX6_reach_8 (by decide) (fun c_8 => ?_) (fun c_8 => ?_)
  · exact absurd c_8 (by decide)
  · skip
    refine v_iload_n hC (pc := 11) (k := 2) 2 rfl dX6_reach_11 ?_
    refine v_callS hC (pc := 12) (As := [_]) dX6_reach_12 rfl (t_isHour_t _ _ (d := d - 1) (by omega) _ (s := t) (by assumption)) cs_X6_144 (Nat.le_of_ble_eq_true rfl) (by omega) (fun r h' hr => ?_)
    obtain ⟨he9, rfl⟩ := hr
    rw [he9]
    clear he9 h'
    show V _ _ _ (12 + 3) _ (_ :: _) _
    refine v_if_eq hC (pc := 15) (tgt := 28) dX6_reach_15 (by decide) (fun c_15 => ?_) (fun c_15 => ?_)
    · exact absurd c_15 (by decide)
    · skip
      refine v_iload_n hC (pc := 18) (k := 3) 3 rfl dX6_reach_18 ?_
      refine v_if_lt hC (pc := 19) (tgt := 28) dX6_reach_19 (by decide) (fun c_19 => ?_) (fun c_19 => ?_)
      · exact absurd c_19 (nI_pos (by omega))
      · skip
        refine v_iload_n hC (pc := 22) (k := 3) 3 rfl dX6_reach_22 ?_
        refine v_bipush hC (pc := 23) (v := 24) (by decide +kernel) dX6_reach_23 ?_
        refine v_icmp_le hC (pc := 25) (tgt := 30) dX6_reach_25 (by decide) (fun c_25 => ?_) (fun c_25 => ?_)
        · skip
          refine v_aload_n hC (pc := 30) (k := 0) 0 rfl dX6_reach_30 ?_
          refine v_getR hC (pc := 31) dX6_reach_31 fl_X6_10 rfl (by first | rfl | exact ok_c hq rfl | exact ok_w hq hw | exact ok_w (by omega) (by omega) | exact ok_s (by omega) (by omega) | exact ok_c (by omega) rfl | assumption) rfl (by decide) (by decide) rfl ?_
          refine v_iconst hC (pc := 34) (v := 1) (by decide) dX6_reach_34 ?_
          refine v_iload_n hC (pc := 35) (k := 1) 1 rfl dX6_reach_35 ?_
          refine v_ishl hC (pc := 36) dX6_reach_36 ?_
          refine v_iload_n hC (pc := 37) (k := 3) 3 rfl dX6_reach_37 ?_
          refine v_callV hC (pc := 38) (As := [_, _]) dX6_reach_38 rfl (t_within _ _ (d := d - 1) (by omega) (q := 0) (by decide) _ hn8 hnc _ (N := n1) (by omega)) cv_X6_194 rfl (by decide) rfl (by first | rfl | exact ok_c hq rfl | exact ok_w hq hw | exact ok_w (by omega) (by omega) | exact ok_s (by omega) (by omega) | exact ok_c (by omega) rfl | assumption) (Nat.le_of_ble_eq_true rfl) (by omega) (fun r h' hr => ?_)
          obtain ⟨he9, rfl⟩ := hr
          rw [he9]
          clear he9 h'
          show V _ _ _ (38 + 3) _ (_ :: _) _
          refine v_iret hC hX (pc := 41) dX6_reach_41 ?_
          exact ⟨rfl, rfl⟩
        · exact absurd (nI_le hn (by decide)) c_25

set_option maxRecDepth 20000 in
set_option maxHeartbeats 2000000 in
theorem k_reach_bad (l9 : Launch) (G : WT) {d : Nat} (hd : 3 ≤ d) (h : HP) {nC : Nat} (hn8 : nC ≤ 8) (hnc : h.1 (0, 0, 0) 0 = nI nC) (a t n : Int32) (hbad : ¬ ((¬ a < 0 ∧ ¬ nI nC ≤ a) ∧ (¬ t < 0 ∧ ¬ 24 ≤ t) ∧ ¬ n < 0 ∧ ¬ 24 < n)) : MS l9 G yX6_reach cX6_reach 4 (some .int) d [vr (1, 0, 0), vi a, vi t, vi n] h (fun r h1 => h1 = h ∧ r = some (vi (-1))) := by
  refine MS_of (by decide +kernel) (Nat.le_of_ble_eq_true rfl) (fun X hC hX => ?_)
  show V X G 4 0 _ [] _
  refine v_aload_n hC (pc := 0) (k := 0) 0 rfl dX6_reach_0 ?_
  refine v_getR hC (pc := 1) dX6_reach_1 fl_X6_10 rfl (by first | rfl | exact ok_c hq rfl | exact ok_w hq hw | exact ok_w (by omega) (by omega) | exact ok_s (by omega) (by omega) | exact ok_c (by omega) rfl | assumption) rfl (by decide) (by decide) rfl ?_
  refine v_iload_n hC (pc := 4) (k := 1) 1 rfl dX6_reach_4 ?_
  refine v_callV hC (pc := 5) (As := [_]) dX6_reach_5 rfl (t_hasCorner _ _ (d := d - 1) (by omega) (q := 0) (by decide) _ _) cv_X6_105 rfl (by decide) rfl (by first | rfl | exact ok_c hq rfl | exact ok_w hq hw | exact ok_w (by omega) (by omega) | exact ok_s (by omega) (by omega) | exact ok_c (by omega) rfl | assumption) (Nat.le_of_ble_eq_true rfl) (by omega) (fun r h' hr => ?_)
  obtain ⟨he9, rfl⟩ := hr
  rw [he9, hnc]
  clear he9 h'
  show V _ _ _ (5 + 3) _ (_ :: _) _
  refine v_ifb_eq hC (pc := 8) (tgt := 28) dX6_reach_8 (by decide) (fun c_8 => ?_) (fun c_8 => ?_)
  · skip
    refine v_iconst hC (pc := 28) (v := (-1)) (by decide) dX6_reach_28 ?_
    refine v_iret hC hX (pc := 29) dX6_reach_29 ?_
    exact ⟨rfl, rfl⟩
  · skip
    refine v_iload_n hC (pc := 11) (k := 2) 2 rfl dX6_reach_11 ?_
    refine v_callS hC (pc := 12) (As := [_]) dX6_reach_12 rfl (t_isHour _ _ (d := d - 1) (by omega) _ _) cs_X6_144 (Nat.le_of_ble_eq_true rfl) (by omega) (fun r h' hr => ?_)
    obtain ⟨he9, rfl⟩ := hr
    rw [he9]
    clear he9 h'
    show V _ _ _ (12 + 3) _ (_ :: _) _
    refine v_ifb_eq hC (pc := 15) (tgt := 28) dX6_reach_15 (by decide) (fun c_15 => ?_) (fun c_15 => ?_)
    · skip
      refine v_iconst hC (pc := 28) (v := (-1)) (by decide) dX6_reach_28 ?_
      refine v_iret hC hX (pc := 29) dX6_reach_29 ?_
      exact ⟨rfl, rfl⟩
    · skip
      refine v_iload_n hC (pc := 18) (k := 3) 3 rfl dX6_reach_18 ?_
      refine v_if_lt hC (pc := 19) (tgt := 28) dX6_reach_19 (by decide) (fun c_19 => ?_) (fun c_19 => ?_)
      · skip
        refine v_iconst hC (pc := 28) (v := (-1)) (by decide) dX6_reach_28 ?_
        refine v_iret hC hX (pc := 29) dX6_reach_29 ?_
        exact ⟨rfl, rfl⟩
      · skip
        refine v_iload_n hC (pc := 22) (k := 3) 3 rfl dX6_reach_22 ?_
        refine v_bipush hC (pc := 23) (v := 24) (by decide +kernel) dX6_reach_23 ?_
        refine v_icmp_le hC (pc := 25) (tgt := 30) dX6_reach_25 (by decide) (fun c_25 => ?_) (fun c_25 => ?_)
        · skip
          exact absurd (show _ ∧ _ ∧ _ ∧ _ from ⟨c_8, c_15, c_19, Int32.not_lt.mpr c_25⟩) hbad
        · skip
          refine v_iconst hC (pc := 28) (v := (-1)) (by decide) dX6_reach_28 ?_
          refine v_iret hC hX (pc := 29) dX6_reach_29 ?_
          exact ⟨rfl, rfl⟩

theorem dis_g {S : Nat → Int32} {nC : Nat} {a b : Int32} {n : Nat} {r : Option PV} (hD : n ≤ 24 ∧ disF S nC a b n) (hm : ∀ j, j < n → ¬ disF S nC a b j) (z : (∃ i, i ≤ 24 ∧ r = some (vi (nI i)) ∧ disF S nC a b i ∧ ∀ j, j < i → ¬ disF S nC a b j) ∨ (r = some (vi (-1)) ∧ ∀ j, j < 25 → ¬ disF S nC a b j)) : r = some (vi (nI n)) := by
  rcases z with ⟨i, h1, h2, h3, h4⟩ | ⟨h2, h3⟩
  · have : i = n := by
      rcases Nat.lt_trichotomy i n with q | q | q
      · exact absurd h3 (hm i q)
      · exact q
      · exact absurd hD.2 (h4 n q)
    rw [h2, this]
  · exact absurd hD.2 (h3 n (by omega))
theorem dis_n {S : Nat → Int32} {nC : Nat} {a b : Int32} {r : Option PV} (hD : ∀ j, j ≤ 24 → ¬ disF S nC a b j) (z : (∃ i, i ≤ 24 ∧ r = some (vi (nI i)) ∧ disF S nC a b i ∧ ∀ j, j < i → ¬ disF S nC a b j) ∨ (r = some (vi (-1)) ∧ ∀ j, j < 25 → ¬ disF S nC a b j)) : r = some (vi (-1)) := by
  rcases z with ⟨i, h1, h2, h3, h4⟩ | ⟨h2, h3⟩
  · exact absurd h3 (hD i h1)
  · exact h2
set_option maxRecDepth 20000 in
set_option maxHeartbeats 2000000 in
theorem k_when_g (l9 : Launch) (G : WT) {d : Nat} (hd : 5 ≤ d) (h : HP) {nC : Nat} (hn8 : nC ≤ 8) (hnc : h.1 (0, 0, 0) 0 = nI nC) {a b : Nat} (hac : a < nC) (hbc : b < nC) {x n : Nat} (hx : x < 2) (hD : n ≤ 24 ∧ disF (h.1 (0, 0, 6)) nC (nI a) (nI b) n) (hDm : ∀ j, j < n → ¬ disF (h.1 (0, 0, 6)) nC (nI a) (nI b) j) : MS l9 G yX6_when cX6_when 5 (some .int) d [vr (1, 0, 0), vi (nI a), vi (nI b), vi (nI x)] h (fun r h1 => h1 = h ∧ r = some (vi (if x = 0 then 0 else nI n))) := by
  refine MS_of (by decide +kernel) (Nat.le_of_ble_eq_true rfl) (fun X hC hX => ?_)
  show V X G 5 0 _ [] _
  refine v_aload_n hC (pc := 0) (k := 0) 0 rfl dX6_when_0 ?_
  refine v_getR hC (pc := 1) dX6_when_1 fl_X6_10 rfl (by first | rfl | exact ok_c hq rfl | exact ok_w hq hw | exact ok_w (by omega) (by omega) | exact ok_s (by omega) (by omega) | exact ok_c (by omega) rfl | assumption) rfl (by decide) (by decide) rfl ?_
  refine v_iload_n hC (pc := 4) (k := 1) 1 rfl dX6_when_4 ?_
  refine v_callV hC (pc := 5) (As := [_]) dX6_when_5 rfl (t_hasCorner_t _ _ (d := d - 1) (by omega) (q := 0) (by decide) _ (c := a) (by assumption) (by omega) hnc) cv_X6_105 rfl (by decide) rfl (by first | rfl | exact ok_c hq rfl | exact ok_w hq hw | exact ok_w (by omega) (by omega) | exact ok_s (by omega) (by omega) | exact ok_c (by omega) rfl | assumption) (Nat.le_of_ble_eq_true rfl) (by omega) (fun r h' hr => ?_)
  obtain ⟨he9, rfl⟩ := hr
  rw [he9]
  clear he9 h'
  show V _ _ _ (5 + 3) _ (_ :: _) _
  refine v_if_eq hC (pc := 8) (tgt := 29) dX6_when_8 (by decide) (fun c_8 => ?_) (fun c_8 => ?_)
  · exact absurd c_8 (by decide)
  · skip
    refine v_aload_n hC (pc := 11) (k := 0) 0 rfl dX6_when_11 ?_
    refine v_getR hC (pc := 12) dX6_when_12 fl_X6_10 rfl (by first | rfl | exact ok_c hq rfl | exact ok_w hq hw | exact ok_w (by omega) (by omega) | exact ok_s (by omega) (by omega) | exact ok_c (by omega) rfl | assumption) rfl (by decide) (by decide) rfl ?_
    refine v_iload_n hC (pc := 15) (k := 2) 2 rfl dX6_when_15 ?_
    refine v_callV hC (pc := 16) (As := [_]) dX6_when_16 rfl (t_hasCorner_t _ _ (d := d - 1) (by omega) (q := 0) (by decide) _ (c := b) (by assumption) (by omega) hnc) cv_X6_105 rfl (by decide) rfl (by first | rfl | exact ok_c hq rfl | exact ok_w hq hw | exact ok_w (by omega) (by omega) | exact ok_s (by omega) (by omega) | exact ok_c (by omega) rfl | assumption) (Nat.le_of_ble_eq_true rfl) (by omega) (fun r h' hr => ?_)
    obtain ⟨he9, rfl⟩ := hr
    rw [he9]
    clear he9 h'
    show V _ _ _ (16 + 3) _ (_ :: _) _
    refine v_if_eq hC (pc := 19) (tgt := 29) dX6_when_19 (by decide) (fun c_19 => ?_) (fun c_19 => ?_)
    · exact absurd c_19 (by decide)
    · skip
      refine v_iload_n hC (pc := 22) (k := 3) 3 rfl dX6_when_22 ?_
      refine v_callS hC (pc := 23) (As := [_]) dX6_when_23 rfl (t_isZeroOrOne_t _ _ (d := d - 1) (by omega) _ (s := x) (by assumption)) cs_X6_108 (Nat.le_of_ble_eq_true rfl) (by omega) (fun r h' hr => ?_)
      obtain ⟨he9, rfl⟩ := hr
      rw [he9]
      clear he9 h'
      show V _ _ _ (23 + 3) _ (_ :: _) _
      refine v_if_ne hC (pc := 26) (tgt := 31) dX6_when_26 (by decide) (fun c_26 => ?_) (fun c_26 => ?_)
      · skip
        refine v_aload_n hC (pc := 31) (k := 0) 0 rfl dX6_when_31 ?_
        refine v_getR hC (pc := 32) dX6_when_32 fl_X6_10 rfl (by first | rfl | exact ok_c hq rfl | exact ok_w hq hw | exact ok_w (by omega) (by omega) | exact ok_s (by omega) (by omega) | exact ok_c (by omega) rfl | assumption) rfl (by decide) (by decide) rfl ?_
        refine v_iload_n hC (pc := 35) (k := 1) 1 rfl dX6_when_35 ?_
        refine v_iload_n hC (pc := 36) (k := 2) 2 rfl dX6_when_36 ?_
        refine v_callV hC (pc := 37) (As := [_, _]) dX6_when_37 rfl (MS.mono (t_distance _ _ (d := d - 1) (by omega) (q := 0) (by decide) _ hn8 hnc (nI a) (nI b)) (R' := fun r h1 => h1 = h ∧ r = some (vi (nI n))) (fun r h1 z => ⟨z.1, dis_g hD hDm z.2⟩)) cv_X6_197 rfl (by decide) rfl (by first | rfl | exact ok_c hq rfl | exact ok_w hq hw | exact ok_w (by omega) (by omega) | exact ok_s (by omega) (by omega) | exact ok_c (by omega) rfl | assumption) (Nat.le_of_ble_eq_true rfl) (by omega) (fun r h' hr => ?_)
        obtain ⟨he9, rfl⟩ := hr
        rw [he9]
        clear he9 h'
        show V _ _ _ (37 + 3) _ (_ :: _) _
        refine v_istore hC (pc := 40) (l' := [(4, _), (0, _), (1, _), (2, _), (3, _)]) dX6_when_40 (by decide) rfl ?_
        refine v_iload hC (pc := 42) 0 rfl dX6_when_42 ?_
        refine v_if_ge hC (pc := 44) (tgt := 50) dX6_when_44 (by decide) (fun c_44 => ?_) (fun c_44 => ?_)
        · skip
          refine v_iload_n hC (pc := 50) (k := 3) 4 rfl dX6_when_50 ?_
          refine v_if_ne hC (pc := 51) (tgt := 58) dX6_when_51 (by decide) (fun c_51 => ?_) (fun c_51 => ?_)
          · skip
            refine v_iload hC (pc := 58) 0 rfl dX6_when_58 ?_
            refine v_iret hC hX (pc := 60) dX6_when_60 ?_
            refine ⟨rfl, ?_⟩
            first | rw [if_pos ((nI_eq (by omega) (by decide)).mp (show nI x = nI 0 from c_51))] | rw [if_neg (fun z => c_51 (congrArg nI z))]
          · skip
            refine v_iconst hC (pc := 54) (v := 0) (by decide) dX6_when_54 ?_
            refine v_goto hC (pc := 55) (tgt := 60) dX6_when_55 (by decide) ?_
            refine v_iret hC hX (pc := 60) dX6_when_60 ?_
            refine ⟨rfl, ?_⟩
            first | rw [if_pos ((nI_eq (by omega) (by decide)).mp (show nI x = nI 0 from c_51))] | rw [if_neg (fun z => c_51 (congrArg nI z))]
        · exact absurd (nI_pos' (by omega)) c_44
      · exact absurd c_26 (by decide)

set_option maxRecDepth 20000 in
set_option maxHeartbeats 2000000 in
theorem k_when_n (l9 : Launch) (G : WT) {d : Nat} (hd : 5 ≤ d) (h : HP) {nC : Nat} (hn8 : nC ≤ 8) (hnc : h.1 (0, 0, 0) 0 = nI nC) {a b : Nat} (hac : a < nC) (hbc : b < nC) {x : Nat} (hx : x < 2) (hD : ∀ j, j ≤ 24 → ¬ disF (h.1 (0, 0, 6)) nC (nI a) (nI b) j) : MS l9 G yX6_when cX6_when 5 (some .int) d [vr (1, 0, 0), vi (nI a), vi (nI b), vi (nI x)] h (fun r h1 => h1 = h ∧ r = some (vi (-4))) := by
  refine MS_of (by decide +kernel) (Nat.le_of_ble_eq_true rfl) (fun X hC hX => ?_)
  show V X G 5 0 _ [] _
  refine v_aload_n hC (pc := 0) (k := 0) 0 rfl dX6_when_0 ?_
  refine v_getR hC (pc := 1) dX6_when_1 fl_X6_10 rfl (by first | rfl | exact ok_c hq rfl | exact ok_w hq hw | exact ok_w (by omega) (by omega) | exact ok_s (by omega) (by omega) | exact ok_c (by omega) rfl | assumption) rfl (by decide) (by decide) rfl ?_
  refine v_iload_n hC (pc := 4) (k := 1) 1 rfl dX6_when_4 ?_
  refine v_callV hC (pc := 5) (As := [_]) dX6_when_5 rfl (t_hasCorner_t _ _ (d := d - 1) (by omega) (q := 0) (by decide) _ (c := a) (by assumption) (by omega) hnc) cv_X6_105 rfl (by decide) rfl (by first | rfl | exact ok_c hq rfl | exact ok_w hq hw | exact ok_w (by omega) (by omega) | exact ok_s (by omega) (by omega) | exact ok_c (by omega) rfl | assumption) (Nat.le_of_ble_eq_true rfl) (by omega) (fun r h' hr => ?_)
  obtain ⟨he9, rfl⟩ := hr
  rw [he9]
  clear he9 h'
  show V _ _ _ (5 + 3) _ (_ :: _) _
  refine v_if_eq hC (pc := 8) (tgt := 29) dX6_when_8 (by decide) (fun c_8 => ?_) (fun c_8 => ?_)
  · exact absurd c_8 (by decide)
  · skip
    refine v_aload_n hC (pc := 11) (k := 0) 0 rfl dX6_when_11 ?_
    refine v_getR hC (pc := 12) dX6_when_12 fl_X6_10 rfl (by first | rfl | exact ok_c hq rfl | exact ok_w hq hw | exact ok_w (by omega) (by omega) | exact ok_s (by omega) (by omega) | exact ok_c (by omega) rfl | assumption) rfl (by decide) (by decide) rfl ?_
    refine v_iload_n hC (pc := 15) (k := 2) 2 rfl dX6_when_15 ?_
    refine v_callV hC (pc := 16) (As := [_]) dX6_when_16 rfl (t_hasCorner_t _ _ (d := d - 1) (by omega) (q := 0) (by decide) _ (c := b) (by assumption) (by omega) hnc) cv_X6_105 rfl (by decide) rfl (by first | rfl | exact ok_c hq rfl | exact ok_w hq hw | exact ok_w (by omega) (by omega) | exact ok_s (by omega) (by omega) | exact ok_c (by omega) rfl | assumption) (Nat.le_of_ble_eq_true rfl) (by omega) (fun r h' hr => ?_)
    obtain ⟨he9, rfl⟩ := hr
    rw [he9]
    clear he9 h'
    show V _ _ _ (16 + 3) _ (_ :: _) _
    refine v_if_eq hC (pc := 19) (tgt := 29) dX6_when_19 (by decide) (fun c_19 => ?_) (fun c_19 => ?_)
    · exact absurd c_19 (by decide)
    · skip
      refine v_iload_n hC (pc := 22) (k := 3) 3 rfl dX6_when_22 ?_
      refine v_callS hC (pc := 23) (As := [_]) dX6_when_23 rfl (t_isZeroOrOne_t _ _ (d := d - 1) (by omega) _ (s := x) (by assumption)) cs_X6_108 (Nat.le_of_ble_eq_true rfl) (by omega) (fun r h' hr => ?_)
      obtain ⟨he9, rfl⟩ := hr
      rw [he9]
      clear he9 h'
      show V _ _ _ (23 + 3) _ (_ :: _) _
      refine v_if_ne hC (pc := 26) (tgt := 31) dX6_when_26 (by decide) (fun c_26 => ?_) (fun c_26 => ?_)
      · skip
        refine v_aload_n hC (pc := 31) (k := 0) 0 rfl dX6_when_31 ?_
        refine v_getR hC (pc := 32) dX6_when_32 fl_X6_10 rfl (by first | rfl | exact ok_c hq rfl | exact ok_w hq hw | exact ok_w (by omega) (by omega) | exact ok_s (by omega) (by omega) | exact ok_c (by omega) rfl | assumption) rfl (by decide) (by decide) rfl ?_
        refine v_iload_n hC (pc := 35) (k := 1) 1 rfl dX6_when_35 ?_
        refine v_iload_n hC (pc := 36) (k := 2) 2 rfl dX6_when_36 ?_
        refine v_callV hC (pc := 37) (As := [_, _]) dX6_when_37 rfl (MS.mono (t_distance _ _ (d := d - 1) (by omega) (q := 0) (by decide) _ hn8 hnc (nI a) (nI b)) (R' := fun r h1 => h1 = h ∧ r = some (vi (-1))) (fun r h1 z => ⟨z.1, dis_n hD z.2⟩)) cv_X6_197 rfl (by decide) rfl (by first | rfl | exact ok_c hq rfl | exact ok_w hq hw | exact ok_w (by omega) (by omega) | exact ok_s (by omega) (by omega) | exact ok_c (by omega) rfl | assumption) (Nat.le_of_ble_eq_true rfl) (by omega) (fun r h' hr => ?_)
        obtain ⟨he9, rfl⟩ := hr
        rw [he9]
        clear he9 h'
        show V _ _ _ (37 + 3) _ (_ :: _) _
        refine v_istore hC (pc := 40) (l' := [(4, _), (0, _), (1, _), (2, _), (3, _)]) dX6_when_40 (by decide) rfl ?_
        refine v_iload hC (pc := 42) 0 rfl dX6_when_42 ?_
        refine v_if_ge hC (pc := 44) (tgt := 50) dX6_when_44 (by decide) (fun c_44 => ?_) (fun c_44 => ?_)
        · exact absurd c_44 (by decide)
        · skip
          refine v_bipush hC (pc := 47) (v := (-4)) (by decide +kernel) dX6_when_47 ?_
          refine v_iret hC hX (pc := 49) dX6_when_49 ?_
          exact ⟨rfl, rfl⟩
      · exact absurd c_26 (by decide)

set_option maxRecDepth 20000 in
set_option maxHeartbeats 2000000 in
theorem k_when_bad (l9 : Launch) (G : WT) {d : Nat} (hd : 3 ≤ d) (h : HP) {nC : Nat} (hn8 : nC ≤ 8) (hnc : h.1 (0, 0, 0) 0 = nI nC) (a b x : Int32) (hbad : ¬ ((¬ a < 0 ∧ ¬ nI nC ≤ a) ∧ (¬ b < 0 ∧ ¬ nI nC ≤ b) ∧ (x = 0 ∨ x = 1))) : MS l9 G yX6_when cX6_when 5 (some .int) d [vr (1, 0, 0), vi a, vi b, vi x] h (fun r h1 => h1 = h ∧ r = some (vi (-1))) := by
  refine MS_of (by decide +kernel) (Nat.le_of_ble_eq_true rfl) (fun X hC hX => ?_)
  show V X G 5 0 _ [] _
  refine v_aload_n hC (pc := 0) (k := 0) 0 rfl dX6_when_0 ?_
  refine v_getR hC (pc := 1) dX6_when_1 fl_X6_10 rfl (by first | rfl | exact ok_c hq rfl | exact ok_w hq hw | exact ok_w (by omega) (by omega) | exact ok_s (by omega) (by omega) | exact ok_c (by omega) rfl | assumption) rfl (by decide) (by decide) rfl ?_
  refine v_iload_n hC (pc := 4) (k := 1) 1 rfl dX6_when_4 ?_
  refine v_callV hC (pc := 5) (As := [_]) dX6_when_5 rfl (t_hasCorner _ _ (d := d - 1) (by omega) (q := 0) (by decide) _ _) cv_X6_105 rfl (by decide) rfl (by first | rfl | exact ok_c hq rfl | exact ok_w hq hw | exact ok_w (by omega) (by omega) | exact ok_s (by omega) (by omega) | exact ok_c (by omega) rfl | assumption) (Nat.le_of_ble_eq_true rfl) (by omega) (fun r h' hr => ?_)
  obtain ⟨he9, rfl⟩ := hr
  rw [he9, hnc]
  clear he9 h'
  show V _ _ _ (5 + 3) _ (_ :: _) _
  refine v_ifb_eq hC (pc := 8) (tgt := 29) dX6_when_8 (by decide) (fun c_8 => ?_) (fun c_8 => ?_)
  · skip
    refine v_iconst hC (pc := 29) (v := (-1)) (by decide) dX6_when_29 ?_
    refine v_iret hC hX (pc := 30) dX6_when_30 ?_
    exact ⟨rfl, rfl⟩
  · skip
    refine v_aload_n hC (pc := 11) (k := 0) 0 rfl dX6_when_11 ?_
    refine v_getR hC (pc := 12) dX6_when_12 fl_X6_10 rfl (by first | rfl | exact ok_c hq rfl | exact ok_w hq hw | exact ok_w (by omega) (by omega) | exact ok_s (by omega) (by omega) | exact ok_c (by omega) rfl | assumption) rfl (by decide) (by decide) rfl ?_
    refine v_iload_n hC (pc := 15) (k := 2) 2 rfl dX6_when_15 ?_
    refine v_callV hC (pc := 16) (As := [_]) dX6_when_16 rfl (t_hasCorner _ _ (d := d - 1) (by omega) (q := 0) (by decide) _ _) cv_X6_105 rfl (by decide) rfl (by first | rfl | exact ok_c hq rfl | exact ok_w hq hw | exact ok_w (by omega) (by omega) | exact ok_s (by omega) (by omega) | exact ok_c (by omega) rfl | assumption) (Nat.le_of_ble_eq_true rfl) (by omega) (fun r h' hr => ?_)
    obtain ⟨he9, rfl⟩ := hr
    rw [he9, hnc]
    clear he9 h'
    show V _ _ _ (16 + 3) _ (_ :: _) _
    refine v_ifb_eq hC (pc := 19) (tgt := 29) dX6_when_19 (by decide) (fun c_19 => ?_) (fun c_19 => ?_)
    · skip
      refine v_iconst hC (pc := 29) (v := (-1)) (by decide) dX6_when_29 ?_
      refine v_iret hC hX (pc := 30) dX6_when_30 ?_
      exact ⟨rfl, rfl⟩
    · skip
      refine v_iload_n hC (pc := 22) (k := 3) 3 rfl dX6_when_22 ?_
      refine v_callS hC (pc := 23) (As := [_]) dX6_when_23 rfl (t_isZeroOrOne _ _ (d := d - 1) (by omega) _ _) cs_X6_108 (Nat.le_of_ble_eq_true rfl) (by omega) (fun r h' hr => ?_)
      obtain ⟨he9, rfl⟩ := hr
      rw [he9]
      clear he9 h'
      show V _ _ _ (23 + 3) _ (_ :: _) _
      refine v_ifb_ne hC (pc := 26) (tgt := 31) dX6_when_26 (by decide) (fun c_26 => ?_) (fun c_26 => ?_)
      · skip
        exact absurd (show _ ∧ _ ∧ _ from ⟨c_8, c_19, c_26⟩) hbad
      · skip
        refine v_iconst hC (pc := 29) (v := (-1)) (by decide) dX6_when_29 ?_
        refine v_iret hC hX (pc := 30) dX6_when_30 ?_
        exact ⟨rfl, rfl⟩

set_option maxRecDepth 20000 in
set_option maxHeartbeats 2000000 in
theorem k_signs_g (l9 : Launch) (G : WT) {d : Nat} (hd : 5 ≤ d) (h : HP) {nC : Nat} (hn8 : nC ≤ 8) (hnc : h.1 (0, 0, 0) 0 = nI nC) {a b : Nat} (hac : a < nC) (hbc : b < nC) {n1 : Nat} (hn0 : 1 ≤ n1) (hn : n1 ≤ 24) {n : Nat} (hD : n ≤ 24 ∧ disF (h.1 (0, 0, 6)) nC (nI a) (nI b) n) (hDm : ∀ j, j < n → ¬ disF (h.1 (0, 0, 6)) nC (nI a) (nI b) j) : MS l9 G yX6_signs cX6_signs 5 (some .int) d [vr (1, 0, 0), vi (nI a), vi (nI b), vi (nI n1)] h (fun r h1 => h1 = h ∧ r = some (vi (if n ≤ n1 then 0 else -4))) := by
  refine MS_of (by decide +kernel) (Nat.le_of_ble_eq_true rfl) (fun X hC hX => ?_)
  show V X G 5 0 _ [] _
  refine v_aload_n hC (pc := 0) (k := 0) 0 rfl dX6_signs_0 ?_
  refine v_getR hC (pc := 1) dX6_signs_1 fl_X6_10 rfl (by first | rfl | exact ok_c hq rfl | exact ok_w hq hw | exact ok_w (by omega) (by omega) | exact ok_s (by omega) (by omega) | exact ok_c (by omega) rfl | assumption) rfl (by decide) (by decide) rfl ?_
  refine v_iload_n hC (pc := 4) (k := 1) 1 rfl dX6_signs_4 ?_
  refine v_callV hC (pc := 5) (As := [_]) dX6_signs_5 rfl (t_hasCorner_t _ _ (d := d - 1) (by omega) (q := 0) (by decide) _ (c := a) (by assumption) (by omega) hnc) cv_X6_105 rfl (by decide) rfl (by first | rfl | exact ok_c hq rfl | exact ok_w hq hw | exact ok_w (by omega) (by omega) | exact ok_s (by omega) (by omega) | exact ok_c (by omega) rfl | assumption) (Nat.le_of_ble_eq_true rfl) (by omega) (fun r h' hr => ?_)
  obtain ⟨he9, rfl⟩ := hr
  rw [he9]
  clear he9 h'
  show V _ _ _ (5 + 3) _ (_ :: _) _
  refine v_if_eq hC (pc := 8) (tgt := 33) dX6_signs_8 (by decide) (fun c_8 => ?_) (fun c_8 => ?_)
  · exact absurd c_8 (by decide)
  · skip
    refine v_aload_n hC (pc := 11) (k := 0) 0 rfl dX6_signs_11 ?_
    refine v_getR hC (pc := 12) dX6_signs_12 fl_X6_10 rfl (by first | rfl | exact ok_c hq rfl | exact ok_w hq hw | exact ok_w (by omega) (by omega) | exact ok_s (by omega) (by omega) | exact ok_c (by omega) rfl | assumption) rfl (by decide) (by decide) rfl ?_
    refine v_iload_n hC (pc := 15) (k := 2) 2 rfl dX6_signs_15 ?_
    refine v_callV hC (pc := 16) (As := [_]) dX6_signs_16 rfl (t_hasCorner_t _ _ (d := d - 1) (by omega) (q := 0) (by decide) _ (c := b) (by assumption) (by omega) hnc) cv_X6_105 rfl (by decide) rfl (by first | rfl | exact ok_c hq rfl | exact ok_w hq hw | exact ok_w (by omega) (by omega) | exact ok_s (by omega) (by omega) | exact ok_c (by omega) rfl | assumption) (Nat.le_of_ble_eq_true rfl) (by omega) (fun r h' hr => ?_)
    obtain ⟨he9, rfl⟩ := hr
    rw [he9]
    clear he9 h'
    show V _ _ _ (16 + 3) _ (_ :: _) _
    refine v_if_eq hC (pc := 19) (tgt := 33) dX6_signs_19 (by decide) (fun c_19 => ?_) (fun c_19 => ?_)
    · exact absurd c_19 (by decide)
    · skip
      refine v_iload_n hC (pc := 22) (k := 3) 3 rfl dX6_signs_22 ?_
      refine v_iconst hC (pc := 23) (v := 1) (by decide) dX6_signs_23 ?_
      refine v_icmp_lt hC (pc := 24) (tgt := 33) dX6_signs_24 (by decide) (fun c_24 => ?_) (fun c_24 => ?_)
      · exact absurd c_24 (nI_nlt hn0 (by omega))
      · skip
        refine v_iload_n hC (pc := 27) (k := 3) 3 rfl dX6_signs_27 ?_
        refine v_bipush hC (pc := 28) (v := 24) (by decide +kernel) dX6_signs_28 ?_
        refine v_icmp_le hC (pc := 30) (tgt := 35) dX6_signs_30 (by decide) (fun c_30 => ?_) (fun c_30 => ?_)
        · skip
          refine v_aload_n hC (pc := 35) (k := 0) 0 rfl dX6_signs_35 ?_
          refine v_getR hC (pc := 36) dX6_signs_36 fl_X6_10 rfl (by first | rfl | exact ok_c hq rfl | exact ok_w hq hw | exact ok_w (by omega) (by omega) | exact ok_s (by omega) (by omega) | exact ok_c (by omega) rfl | assumption) rfl (by decide) (by decide) rfl ?_
          refine v_iload_n hC (pc := 39) (k := 1) 1 rfl dX6_signs_39 ?_
          refine v_iload_n hC (pc := 40) (k := 2) 2 rfl dX6_signs_40 ?_
          refine v_callV hC (pc := 41) (As := [_, _]) dX6_signs_41 rfl (MS.mono (t_distance _ _ (d := d - 1) (by omega) (q := 0) (by decide) _ hn8 hnc (nI a) (nI b)) (R' := fun r h1 => h1 = h ∧ r = some (vi (nI n))) (fun r h1 z => ⟨z.1, dis_g hD hDm z.2⟩)) cv_X6_197 rfl (by decide) rfl (by first | rfl | exact ok_c hq rfl | exact ok_w hq hw | exact ok_w (by omega) (by omega) | exact ok_s (by omega) (by omega) | exact ok_c (by omega) rfl | assumption) (Nat.le_of_ble_eq_true rfl) (by omega) (fun r h' hr => ?_)
          obtain ⟨he9, rfl⟩ := hr
          rw [he9]
          clear he9 h'
          show V _ _ _ (41 + 3) _ (_ :: _) _
          refine v_istore hC (pc := 44) (l' := [(4, _), (0, _), (1, _), (2, _), (3, _)]) dX6_signs_44 (by decide) rfl ?_
          refine v_iload hC (pc := 46) 0 rfl dX6_signs_46 ?_
          refine v_if_lt hC (pc := 48) (tgt := 57) dX6_signs_48 (by decide) (fun c_48 => ?_) (fun c_48 => ?_)
          · exact absurd c_48 (nI_pos (by omega))
          · skip
            refine v_iload hC (pc := 51) 0 rfl dX6_signs_51 ?_
            refine v_iload_n hC (pc := 53) (k := 3) 4 rfl dX6_signs_53 ?_
            refine v_icmp_le hC (pc := 54) (tgt := 62) dX6_signs_54 (by decide) (fun c_54 => ?_) (fun c_54 => ?_)
            · skip
              refine v_iconst hC (pc := 62) (v := 0) (by decide) dX6_signs_62 ?_
              refine v_iret hC hX (pc := 63) dX6_signs_63 ?_
              refine ⟨rfl, ?_⟩
              first | rw [if_pos ((nI_leI (by omega) (by omega)).mp c_54)] | rw [if_neg (fun z => c_54 (nI_le z (by omega)))]
            · skip
              refine v_bipush hC (pc := 57) (v := (-4)) (by decide +kernel) dX6_signs_57 ?_
              refine v_goto hC (pc := 59) (tgt := 63) dX6_signs_59 (by decide) ?_
              refine v_iret hC hX (pc := 63) dX6_signs_63 ?_
              refine ⟨rfl, ?_⟩
              first | rw [if_pos ((nI_leI (by omega) (by omega)).mp c_54)] | rw [if_neg (fun z => c_54 (nI_le z (by omega)))]
        · exact absurd (nI_le hn (by decide)) c_30

set_option maxRecDepth 20000 in
set_option maxHeartbeats 2000000 in
theorem k_signs_n (l9 : Launch) (G : WT) {d : Nat} (hd : 5 ≤ d) (h : HP) {nC : Nat} (hn8 : nC ≤ 8) (hnc : h.1 (0, 0, 0) 0 = nI nC) {a b : Nat} (hac : a < nC) (hbc : b < nC) {n1 : Nat} (hn0 : 1 ≤ n1) (hn : n1 ≤ 24) (hD : ∀ j, j ≤ 24 → ¬ disF (h.1 (0, 0, 6)) nC (nI a) (nI b) j) : MS l9 G yX6_signs cX6_signs 5 (some .int) d [vr (1, 0, 0), vi (nI a), vi (nI b), vi (nI n1)] h (fun r h1 => h1 = h ∧ r = some (vi (-4))) := by
  refine MS_of (by decide +kernel) (Nat.le_of_ble_eq_true rfl) (fun X hC hX => ?_)
  show V X G 5 0 _ [] _
  refine v_aload_n hC (pc := 0) (k := 0) 0 rfl dX6_signs_0 ?_
  refine v_getR hC (pc := 1) dX6_signs_1 fl_X6_10 rfl (by first | rfl | exact ok_c hq rfl | exact ok_w hq hw | exact ok_w (by omega) (by omega) | exact ok_s (by omega) (by omega) | exact ok_c (by omega) rfl | assumption) rfl (by decide) (by decide) rfl ?_
  refine v_iload_n hC (pc := 4) (k := 1) 1 rfl dX6_signs_4 ?_
  refine v_callV hC (pc := 5) (As := [_]) dX6_signs_5 rfl (t_hasCorner_t _ _ (d := d - 1) (by omega) (q := 0) (by decide) _ (c := a) (by assumption) (by omega) hnc) cv_X6_105 rfl (by decide) rfl (by first | rfl | exact ok_c hq rfl | exact ok_w hq hw | exact ok_w (by omega) (by omega) | exact ok_s (by omega) (by omega) | exact ok_c (by omega) rfl | assumption) (Nat.le_of_ble_eq_true rfl) (by omega) (fun r h' hr => ?_)
  obtain ⟨he9, rfl⟩ := hr
  rw [he9]
  clear he9 h'
  show V _ _ _ (5 + 3) _ (_ :: _) _
  refine v_if_eq hC (pc := 8) (tgt := 33) dX6_signs_8 (by decide) (fun c_8 => ?_) (fun c_8 => ?_)
  · exact absurd c_8 (by decide)
  · skip
    refine v_aload_n hC (pc := 11) (k := 0) 0 rfl dX6_signs_11 ?_
    refine v_getR hC (pc := 12) dX6_signs_12 fl_X6_10 rfl (by first | rfl | exact ok_c hq rfl | exact ok_w hq hw | exact ok_w (by omega) (by omega) | exact ok_s (by omega) (by omega) | exact ok_c (by omega) rfl | assumption) rfl (by decide) (by decide) rfl ?_
    refine v_iload_n hC (pc := 15) (k := 2) 2 rfl dX6_signs_15 ?_
    refine v_callV hC (pc := 16) (As := [_]) dX6_signs_16 rfl (t_hasCorner_t _ _ (d := d - 1) (by omega) (q := 0) (by decide) _ (c := b) (by assumption) (by omega) hnc) cv_X6_105 rfl (by decide) rfl (by first | rfl | exact ok_c hq rfl | exact ok_w hq hw | exact ok_w (by omega) (by omega) | exact ok_s (by omega) (by omega) | exact ok_c (by omega) rfl | assumption) (Nat.le_of_ble_eq_true rfl) (by omega) (fun r h' hr => ?_)
    obtain ⟨he9, rfl⟩ := hr
    rw [he9]
    clear he9 h'
    show V _ _ _ (16 + 3) _ (_ :: _) _
    refine v_if_eq hC (pc := 19) (tgt := 33) dX6_signs_19 (by decide) (fun c_19 => ?_) (fun c_19 => ?_)
    · exact absurd c_19 (by decide)
    · skip
      refine v_iload_n hC (pc := 22) (k := 3) 3 rfl dX6_signs_22 ?_
      refine v_iconst hC (pc := 23) (v := 1) (by decide) dX6_signs_23 ?_
      refine v_icmp_lt hC (pc := 24) (tgt := 33) dX6_signs_24 (by decide) (fun c_24 => ?_) (fun c_24 => ?_)
      · exact absurd c_24 (nI_nlt hn0 (by omega))
      · skip
        refine v_iload_n hC (pc := 27) (k := 3) 3 rfl dX6_signs_27 ?_
        refine v_bipush hC (pc := 28) (v := 24) (by decide +kernel) dX6_signs_28 ?_
        refine v_icmp_le hC (pc := 30) (tgt := 35) dX6_signs_30 (by decide) (fun c_30 => ?_) (fun c_30 => ?_)
        · skip
          refine v_aload_n hC (pc := 35) (k := 0) 0 rfl dX6_signs_35 ?_
          refine v_getR hC (pc := 36) dX6_signs_36 fl_X6_10 rfl (by first | rfl | exact ok_c hq rfl | exact ok_w hq hw | exact ok_w (by omega) (by omega) | exact ok_s (by omega) (by omega) | exact ok_c (by omega) rfl | assumption) rfl (by decide) (by decide) rfl ?_
          refine v_iload_n hC (pc := 39) (k := 1) 1 rfl dX6_signs_39 ?_
          refine v_iload_n hC (pc := 40) (k := 2) 2 rfl dX6_signs_40 ?_
          refine v_callV hC (pc := 41) (As := [_, _]) dX6_signs_41 rfl (MS.mono (t_distance _ _ (d := d - 1) (by omega) (q := 0) (by decide) _ hn8 hnc (nI a) (nI b)) (R' := fun r h1 => h1 = h ∧ r = some (vi (-1))) (fun r h1 z => ⟨z.1, dis_n hD z.2⟩)) cv_X6_197 rfl (by decide) rfl (by first | rfl | exact ok_c hq rfl | exact ok_w hq hw | exact ok_w (by omega) (by omega) | exact ok_s (by omega) (by omega) | exact ok_c (by omega) rfl | assumption) (Nat.le_of_ble_eq_true rfl) (by omega) (fun r h' hr => ?_)
          obtain ⟨he9, rfl⟩ := hr
          rw [he9]
          clear he9 h'
          show V _ _ _ (41 + 3) _ (_ :: _) _
          refine v_istore hC (pc := 44) (l' := [(4, _), (0, _), (1, _), (2, _), (3, _)]) dX6_signs_44 (by decide) rfl ?_
          refine v_iload hC (pc := 46) 0 rfl dX6_signs_46 ?_
          refine v_if_lt hC (pc := 48) (tgt := 57) dX6_signs_48 (by decide) (fun c_48 => ?_) (fun c_48 => ?_)
          · skip
            refine v_bipush hC (pc := 57) (v := (-4)) (by decide +kernel) dX6_signs_57 ?_
            refine v_goto hC (pc := 59) (tgt := 63) dX6_signs_59 (by decide) ?_
            refine v_iret hC hX (pc := 63) dX6_signs_63 ?_
            exact ⟨rfl, rfl⟩
          · exact absurd (show (-1 : Int32) < 0 by decide) c_48
        · exact absurd (nI_le hn (by decide)) c_30

set_option maxRecDepth 20000 in
set_option maxHeartbeats 2000000 in
theorem k_signs_bad (l9 : Launch) (G : WT) {d : Nat} (hd : 3 ≤ d) (h : HP) {nC : Nat} (hn8 : nC ≤ 8) (hnc : h.1 (0, 0, 0) 0 = nI nC) (a b n : Int32) (hbad : ¬ ((¬ a < 0 ∧ ¬ nI nC ≤ a) ∧ (¬ b < 0 ∧ ¬ nI nC ≤ b) ∧ ¬ n < 1 ∧ ¬ 24 < n)) : MS l9 G yX6_signs cX6_signs 5 (some .int) d [vr (1, 0, 0), vi a, vi b, vi n] h (fun r h1 => h1 = h ∧ r = some (vi (-1))) := by
  refine MS_of (by decide +kernel) (Nat.le_of_ble_eq_true rfl) (fun X hC hX => ?_)
  show V X G 5 0 _ [] _
  refine v_aload_n hC (pc := 0) (k := 0) 0 rfl dX6_signs_0 ?_
  refine v_getR hC (pc := 1) dX6_signs_1 fl_X6_10 rfl (by first | rfl | exact ok_c hq rfl | exact ok_w hq hw | exact ok_w (by omega) (by omega) | exact ok_s (by omega) (by omega) | exact ok_c (by omega) rfl | assumption) rfl (by decide) (by decide) rfl ?_
  refine v_iload_n hC (pc := 4) (k := 1) 1 rfl dX6_signs_4 ?_
  refine v_callV hC (pc := 5) (As := [_]) dX6_signs_5 rfl (t_hasCorner _ _ (d := d - 1) (by omega) (q := 0) (by decide) _ _) cv_X6_105 rfl (by decide) rfl (by first | rfl | exact ok_c hq rfl | exact ok_w hq hw | exact ok_w (by omega) (by omega) | exact ok_s (by omega) (by omega) | exact ok_c (by omega) rfl | assumption) (Nat.le_of_ble_eq_true rfl) (by omega) (fun r h' hr => ?_)
  obtain ⟨he9, rfl⟩ := hr
  rw [he9, hnc]
  clear he9 h'
  show V _ _ _ (5 + 3) _ (_ :: _) _
  refine v_ifb_eq hC (pc := 8) (tgt := 33) dX6_signs_8 (by decide) (fun c_8 => ?_) (fun c_8 => ?_)
  · skip
    refine v_iconst hC (pc := 33) (v := (-1)) (by decide) dX6_signs_33 ?_
    refine v_iret hC hX (pc := 34) dX6_signs_34 ?_
    exact ⟨rfl, rfl⟩
  · skip
    refine v_aload_n hC (pc := 11) (k := 0) 0 rfl dX6_signs_11 ?_
    refine v_getR hC (pc := 12) dX6_signs_12 fl_X6_10 rfl (by first | rfl | exact ok_c hq rfl | exact ok_w hq hw | exact ok_w (by omega) (by omega) | exact ok_s (by omega) (by omega) | exact ok_c (by omega) rfl | assumption) rfl (by decide) (by decide) rfl ?_
    refine v_iload_n hC (pc := 15) (k := 2) 2 rfl dX6_signs_15 ?_
    refine v_callV hC (pc := 16) (As := [_]) dX6_signs_16 rfl (t_hasCorner _ _ (d := d - 1) (by omega) (q := 0) (by decide) _ _) cv_X6_105 rfl (by decide) rfl (by first | rfl | exact ok_c hq rfl | exact ok_w hq hw | exact ok_w (by omega) (by omega) | exact ok_s (by omega) (by omega) | exact ok_c (by omega) rfl | assumption) (Nat.le_of_ble_eq_true rfl) (by omega) (fun r h' hr => ?_)
    obtain ⟨he9, rfl⟩ := hr
    rw [he9, hnc]
    clear he9 h'
    show V _ _ _ (16 + 3) _ (_ :: _) _
    refine v_ifb_eq hC (pc := 19) (tgt := 33) dX6_signs_19 (by decide) (fun c_19 => ?_) (fun c_19 => ?_)
    · skip
      refine v_iconst hC (pc := 33) (v := (-1)) (by decide) dX6_signs_33 ?_
      refine v_iret hC hX (pc := 34) dX6_signs_34 ?_
      exact ⟨rfl, rfl⟩
    · skip
      refine v_iload_n hC (pc := 22) (k := 3) 3 rfl dX6_signs_22 ?_
      refine v_iconst hC (pc := 23) (v := 1) (by decide) dX6_signs_23 ?_
      refine v_icmp_lt hC (pc := 24) (tgt := 33) dX6_signs_24 (by decide) (fun c_24 => ?_) (fun c_24 => ?_)
      · skip
        refine v_iconst hC (pc := 33) (v := (-1)) (by decide) dX6_signs_33 ?_
        refine v_iret hC hX (pc := 34) dX6_signs_34 ?_
        exact ⟨rfl, rfl⟩
      · skip
        refine v_iload_n hC (pc := 27) (k := 3) 3 rfl dX6_signs_27 ?_
        refine v_bipush hC (pc := 28) (v := 24) (by decide +kernel) dX6_signs_28 ?_
        refine v_icmp_le hC (pc := 30) (tgt := 35) dX6_signs_30 (by decide) (fun c_30 => ?_) (fun c_30 => ?_)
        · skip
          exact absurd (show _ ∧ _ ∧ _ ∧ _ from ⟨c_8, c_19, c_24, Int32.not_lt.mpr c_30⟩) hbad
        · skip
          refine v_iconst hC (pc := 33) (v := (-1)) (by decide) dX6_signs_33 ?_
          refine v_iret hC hX (pc := 34) dX6_signs_34 ?_
          exact ⟨rfl, rfl⟩

def mtC (h : HP) (nC w n : Nat) : Int32 := witF (h.1 (0, 0, 6)) nC n (1 <<< (h.1 (6, 0, w) 0 &&& 31))
def mtP (h : HP) (nC w v n : Nat) : Prop := ¬ mtC h nC w n &&& mtC h nC v n = 0
set_option maxRecDepth 20000 in
set_option maxHeartbeats 2000000 in
theorem k_meet_0 (l9 : Launch) (G : WT) {d : Nat} (hd : 4 ≤ d) (h : HP) {nC : Nat} (hn8 : nC ≤ 8) (hnc : h.1 (0, 0, 0) 0 = nI nC) {nW : Nat} (hn4 : nW ≤ 4) (hnw : h.1 (0, 0, 0) 4 = nI nW) {w v : Nat} (hw : w < nW) (hv : v < nW) (hne : ¬ w = v) : MS l9 G yX6_meet cX6_meet 7 (some .int) d [vr (1, 0, 0), vi (nI w), vi (nI v), vi (nI 0)] h (fun r h1 => h1 = h ∧ ((∃ n, n ≤ 24 ∧ mtP h nC w v n ∧ (∀ j, j < n → ¬ mtP h nC w v j) ∧ r = some (vi (nI n))) ∨ (r = some (vi (-4)) ∧ ∀ j, j ≤ 24 → ¬ mtP h nC w v j))) := by
  refine MS_of (by decide +kernel) (Nat.le_of_ble_eq_true rfl) (fun X hC hX => ?_)
  show V X G 7 0 _ [] _
  have lp : ∀ (n i : Nat), i ≤ 25 → 26 ≤ i + n → (∀ j, j < i → ¬ mtP h nC w v j) → V X G 7 71 [(6, vi (nI i)), (5, vi (mtC h nC v i)), (4, vi (mtC h nC w i)), (0, vr (1, 0, 0)), (1, vi (nI w)), (2, vi (nI v)), (3, vi (nI 0))] [] h := by
    intro n
    induction n with
    | zero => intro i h1 h2; exact absurd h2 (by omega)
    | succ n ih =>
      intro i h1 h2 ha
      refine v_iload hC (pc := 71) 0 rfl dX6_meet_71 ?_
      refine v_bipush hC (pc := 73) (v := 24) (by decide +kernel) dX6_meet_73 ?_
      refine v_icmp_gt hC (pc := 75) (tgt := 134) dX6_meet_75 (by decide) (fun c_75 => ?_) (fun c_75 => ?_)
      · skip
        have hi : 24 < i := lp_gt c_75 (by decide) (by omega)
        refine v_bipush hC (pc := 134) (v := (-4)) (by decide +kernel) dX6_meet_134 ?_
        refine v_iret hC hX (pc := 136) dX6_meet_136 ?_
        exact ⟨rfl, Or.inr ⟨rfl, fun j hj => ha j (by omega)⟩⟩
      · skip
        have hi : i ≤ 24 := lp_ngt c_75 (by decide) (by omega)
        refine v_iload hC (pc := 78) 2 rfl dX6_meet_78 ?_
        refine v_iload hC (pc := 80) 1 rfl dX6_meet_80 ?_
        refine v_iand hC (pc := 82) dX6_meet_82 ?_
        refine v_if_eq hC (pc := 83) (tgt := 104) dX6_meet_83 (by decide) (fun c_83 => ?_) (fun c_83 => ?_)
        · skip
          refine v_aload_n hC (pc := 104) (k := 0) 3 rfl dX6_meet_104 ?_
          refine v_getR hC (pc := 105) dX6_meet_105 fl_X6_10 rfl (by first | rfl | exact ok_c hq rfl | exact ok_w hq hw | exact ok_w (by omega) (by omega) | exact ok_s (by omega) (by omega) | exact ok_c (by omega) rfl | assumption) rfl (by decide) (by decide) rfl ?_
          refine v_iload hC (pc := 108) 2 rfl dX6_meet_108 ?_
          refine v_iconst hC (pc := 110) (v := 1) (by decide) dX6_meet_110 ?_
          refine v_callV hC (pc := 111) (As := [_, _]) dX6_meet_111 rfl (t_within _ _ (d := d - 1) (by omega) (q := 0) (by decide) _ hn8 hnc _ (N := 1) (by decide)) cv_X6_194 rfl (by decide) rfl (by first | rfl | exact ok_c hq rfl | exact ok_w hq hw | exact ok_w (by omega) (by omega) | exact ok_s (by omega) (by omega) | exact ok_c (by omega) rfl | assumption) (Nat.le_of_ble_eq_true rfl) (by omega) (fun r h' hr => ?_)
          obtain ⟨he9, rfl⟩ := hr
          rw [he9]
          clear he9 h'
          show V _ _ _ (111 + 3) _ (_ :: _) _
          refine v_istore hC (pc := 114) (l' := [(4, _), (6, _), (5, _), (0, _), (1, _), (2, _), (3, _)]) dX6_meet_114 (by decide) rfl ?_
          refine v_aload_n hC (pc := 116) (k := 0) 3 rfl dX6_meet_116 ?_
          refine v_getR hC (pc := 117) dX6_meet_117 fl_X6_10 rfl (by first | rfl | exact ok_c hq rfl | exact ok_w hq hw | exact ok_w (by omega) (by omega) | exact ok_s (by omega) (by omega) | exact ok_c (by omega) rfl | assumption) rfl (by decide) (by decide) rfl ?_
          refine v_iload hC (pc := 120) 2 rfl dX6_meet_120 ?_
          refine v_iconst hC (pc := 122) (v := 1) (by decide) dX6_meet_122 ?_
          refine v_callV hC (pc := 123) (As := [_, _]) dX6_meet_123 rfl (t_within _ _ (d := d - 1) (by omega) (q := 0) (by decide) _ hn8 hnc _ (N := 1) (by decide)) cv_X6_194 rfl (by decide) rfl (by first | rfl | exact ok_c hq rfl | exact ok_w hq hw | exact ok_w (by omega) (by omega) | exact ok_s (by omega) (by omega) | exact ok_c (by omega) rfl | assumption) (Nat.le_of_ble_eq_true rfl) (by omega) (fun r h' hr => ?_)
          obtain ⟨he9, rfl⟩ := hr
          rw [he9]
          clear he9 h'
          show V _ _ _ (123 + 3) _ (_ :: _) _
          refine v_istore hC (pc := 126) (l' := [(5, _), (4, _), (6, _), (0, _), (1, _), (2, _), (3, _)]) dX6_meet_126 (by decide) rfl ?_
          refine v_iinc hC (pc := 128) (l' := [(6, _), (5, _), (4, _), (0, _), (1, _), (2, _), (3, _)]) 2 (v := nI (i + 1)) dX6_meet_128 rfl (nI_inc i) (by decide) rfl ?_
          refine v_goto hC (pc := 131) (tgt := 71) dX6_meet_131 (by decide) ?_
          refine ih (i + 1) (by omega) (by omega) (fun j hj => ?_)
          rcases (show j < i ∨ j = i by omega) with q | rfl
          · exact ha j q
          · exact fun z => z c_83
        · skip
          refine v_iload_n hC (pc := 86) (k := 3) 6 rfl dX6_meet_86 ?_
          refine v_if_ne hC (pc := 87) (tgt := 95) dX6_meet_87 (by decide) (fun c_87 => ?_) (fun c_87 => ?_)
          · exact absurd rfl c_87
          · skip
            refine v_iload hC (pc := 90) 0 rfl dX6_meet_90 ?_
            refine v_goto hC (pc := 92) (tgt := 103) dX6_meet_92 (by decide) ?_
            refine v_iret hC hX (pc := 103) dX6_meet_103 ?_
            exact ⟨rfl, Or.inl ⟨i, by omega, c_83, ha, rfl⟩⟩
  refine v_aload_n hC (pc := 0) (k := 0) 0 rfl dX6_meet_0 ?_
  refine v_getR hC (pc := 1) dX6_meet_1 fl_X6_10 rfl (by first | rfl | exact ok_c hq rfl | exact ok_w hq hw | exact ok_w (by omega) (by omega) | exact ok_s (by omega) (by omega) | exact ok_c (by omega) rfl | assumption) rfl (by decide) (by decide) rfl ?_
  refine v_iload_n hC (pc := 4) (k := 1) 1 rfl dX6_meet_4 ?_
  refine v_callV hC (pc := 5) (As := [_]) dX6_meet_5 rfl (t_hasWalker_t _ _ (d := d - 1) (by omega) (q := 0) (by decide) _ (c := w) (by assumption) (by omega) hnw) cv_X6_115 rfl (by decide) rfl (by first | rfl | exact ok_c hq rfl | exact ok_w hq hw | exact ok_w (by omega) (by omega) | exact ok_s (by omega) (by omega) | exact ok_c (by omega) rfl | assumption) (Nat.le_of_ble_eq_true rfl) (by omega) (fun r h' hr => ?_)
  obtain ⟨he9, rfl⟩ := hr
  rw [he9]
  clear he9 h'
  show V _ _ _ (5 + 3) _ (_ :: _) _
  refine v_if_eq hC (pc := 8) (tgt := 34) dX6_meet_8 (by decide) (fun c_8 => ?_) (fun c_8 => ?_)
  · exact absurd c_8 (by decide)
  · skip
    refine v_aload_n hC (pc := 11) (k := 0) 0 rfl dX6_meet_11 ?_
    refine v_getR hC (pc := 12) dX6_meet_12 fl_X6_10 rfl (by first | rfl | exact ok_c hq rfl | exact ok_w hq hw | exact ok_w (by omega) (by omega) | exact ok_s (by omega) (by omega) | exact ok_c (by omega) rfl | assumption) rfl (by decide) (by decide) rfl ?_
    refine v_iload_n hC (pc := 15) (k := 2) 2 rfl dX6_meet_15 ?_
    refine v_callV hC (pc := 16) (As := [_]) dX6_meet_16 rfl (t_hasWalker_t _ _ (d := d - 1) (by omega) (q := 0) (by decide) _ (c := v) (by assumption) (by omega) hnw) cv_X6_115 rfl (by decide) rfl (by first | rfl | exact ok_c hq rfl | exact ok_w hq hw | exact ok_w (by omega) (by omega) | exact ok_s (by omega) (by omega) | exact ok_c (by omega) rfl | assumption) (Nat.le_of_ble_eq_true rfl) (by omega) (fun r h' hr => ?_)
    obtain ⟨he9, rfl⟩ := hr
    rw [he9]
    clear he9 h'
    show V _ _ _ (16 + 3) _ (_ :: _) _
    refine v_if_eq hC (pc := 19) (tgt := 34) dX6_meet_19 (by decide) (fun c_19 => ?_) (fun c_19 => ?_)
    · exact absurd c_19 (by decide)
    · skip
      refine v_iload_n hC (pc := 22) (k := 1) 1 rfl dX6_meet_22 ?_
      refine v_iload_n hC (pc := 23) (k := 2) 2 rfl dX6_meet_23 ?_
      refine v_icmp_eq hC (pc := 24) (tgt := 34) dX6_meet_24 (by decide) (fun c_24 => ?_) (fun c_24 => ?_)
      · exact absurd ((nI_eq (by omega) (by omega)).mp c_24) hne
      · skip
        refine v_iload_n hC (pc := 27) (k := 3) 3 rfl dX6_meet_27 ?_
        refine v_callS hC (pc := 28) (As := [_]) dX6_meet_28 rfl (t_isZeroOrOne_t _ _ (d := d - 1) (by omega) _ (s := 0) (by decide)) cs_X6_108 (Nat.le_of_ble_eq_true rfl) (by omega) (fun r h' hr => ?_)
        obtain ⟨he9, rfl⟩ := hr
        rw [he9]
        clear he9 h'
        show V _ _ _ (28 + 3) _ (_ :: _) _
        refine v_if_ne hC (pc := 31) (tgt := 36) dX6_meet_31 (by decide) (fun c_31 => ?_) (fun c_31 => ?_)
        · skip
          refine v_iconst hC (pc := 36) (v := 1) (by decide) dX6_meet_36 ?_
          refine v_aload_n hC (pc := 37) (k := 0) 0 rfl dX6_meet_37 ?_
          refine v_getR hC (pc := 38) dX6_meet_38 fl_X6_10 rfl (by first | rfl | exact ok_c hq rfl | exact ok_w hq hw | exact ok_w (by omega) (by omega) | exact ok_s (by omega) (by omega) | exact ok_c (by omega) rfl | assumption) rfl (by decide) (by decide) rfl ?_
          refine v_getR hC (pc := 41) dX6_meet_41 fl_X6_118 rfl (by first | rfl | exact ok_c hq rfl | exact ok_w hq hw | exact ok_w (by omega) (by omega) | exact ok_s (by omega) (by omega) | exact ok_c (by omega) rfl | assumption) rfl (by decide) (by decide) rfl ?_
          refine v_iload_n hC (pc := 44) (k := 1) 1 rfl dX6_meet_44 ?_
          refine v_aald hC (pc := 45) (j := (6, 0, w)) 5 dX6_meet_45 rfl (by decide) (fun _ => rfl) (by first | rfl | exact ok_c hq rfl | exact ok_w hq hw | exact ok_w (by omega) (by omega) | exact ok_s (by omega) (by omega) | exact ok_c (by omega) rfl | assumption) (vp_nat (n := w) (by omega) (by decide)) (by rw [nI_clamp (show w < 2 ^ 31 by omega)]; rfl) ?_
          refine v_getI hC (pc := 46) dX6_meet_46 fl_X6_122 rfl (by first | rfl | exact ok_c hq rfl | exact ok_w hq hw | exact ok_w (by omega) (by omega) | exact ok_s (by omega) (by omega) | exact ok_c (by omega) rfl | assumption) rfl (by decide) (by decide) ?_
          refine v_ishl hC (pc := 49) dX6_meet_49 ?_
          refine v_istore hC (pc := 50) (l' := [(4, _), (0, _), (1, _), (2, _), (3, _)]) dX6_meet_50 (by decide) rfl ?_
          refine v_iconst hC (pc := 52) (v := 1) (by decide) dX6_meet_52 ?_
          refine v_aload_n hC (pc := 53) (k := 0) 1 rfl dX6_meet_53 ?_
          refine v_getR hC (pc := 54) dX6_meet_54 fl_X6_10 rfl (by first | rfl | exact ok_c hq rfl | exact ok_w hq hw | exact ok_w (by omega) (by omega) | exact ok_s (by omega) (by omega) | exact ok_c (by omega) rfl | assumption) rfl (by decide) (by decide) rfl ?_
          refine v_getR hC (pc := 57) dX6_meet_57 fl_X6_118 rfl (by first | rfl | exact ok_c hq rfl | exact ok_w hq hw | exact ok_w (by omega) (by omega) | exact ok_s (by omega) (by omega) | exact ok_c (by omega) rfl | assumption) rfl (by decide) (by decide) rfl ?_
          refine v_iload_n hC (pc := 60) (k := 2) 3 rfl dX6_meet_60 ?_
          refine v_aald hC (pc := 61) (j := (6, 0, v)) 5 dX6_meet_61 rfl (by decide) (fun _ => rfl) (by first | rfl | exact ok_c hq rfl | exact ok_w hq hw | exact ok_w (by omega) (by omega) | exact ok_s (by omega) (by omega) | exact ok_c (by omega) rfl | assumption) (vp_nat (n := v) (by omega) (by decide)) (by rw [nI_clamp (show v < 2 ^ 31 by omega)]; rfl) ?_
          refine v_getI hC (pc := 62) dX6_meet_62 fl_X6_122 rfl (by first | rfl | exact ok_c hq rfl | exact ok_w hq hw | exact ok_w (by omega) (by omega) | exact ok_s (by omega) (by omega) | exact ok_c (by omega) rfl | assumption) rfl (by decide) (by decide) ?_
          refine v_ishl hC (pc := 65) dX6_meet_65 ?_
          refine v_istore hC (pc := 66) (l' := [(5, _), (4, _), (0, _), (1, _), (2, _), (3, _)]) dX6_meet_66 (by decide) rfl ?_
          refine v_iconst hC (pc := 68) (v := 0) (by decide) dX6_meet_68 ?_
          refine v_istore hC (pc := 69) (l' := [(6, _), (5, _), (4, _), (0, _), (1, _), (2, _), (3, _)]) dX6_meet_69 (by decide) rfl ?_
          exact lp 26 0 (by omega) (by omega) (fun j hj => absurd hj (Nat.not_lt_zero _))
        · exact absurd c_31 (by decide)

set_option maxRecDepth 20000 in
set_option maxHeartbeats 2000000 in
theorem k_meet_1 (l9 : Launch) (G : WT) {d : Nat} (hd : 4 ≤ d) (h : HP) {nC : Nat} (hn8 : nC ≤ 8) (hnc : h.1 (0, 0, 0) 0 = nI nC) {nW : Nat} (hn4 : nW ≤ 4) (hnw : h.1 (0, 0, 0) 4 = nI nW) {w v : Nat} (hw : w < nW) (hv : v < nW) (hne : ¬ w = v) : MS l9 G yX6_meet cX6_meet 7 (some .int) d [vr (1, 0, 0), vi (nI w), vi (nI v), vi (nI 1)] h (fun r h1 => h1 = h ∧ ((∃ n, n ≤ 24 ∧ mtP h nC w v n ∧ (∀ j, j < n → ¬ mtP h nC w v j) ∧ ((∃ i, i < 8 ∧ r = some (vi (nI i)) ∧ ((mtC h nC w n &&& mtC h nC v n) >>> (nI i &&& 31)) &&& 1 = 1 ∧ ∀ j, j < i → ¬ ((mtC h nC w n &&& mtC h nC v n) >>> (nI j &&& 31)) &&& 1 = 1) ∨ (r = some (vi (-4)) ∧ ∀ j, j < 8 → ¬ ((mtC h nC w n &&& mtC h nC v n) >>> (nI j &&& 31)) &&& 1 = 1))) ∨ (r = some (vi (-4)) ∧ ∀ j, j ≤ 24 → ¬ mtP h nC w v j))) := by
  refine MS_of (by decide +kernel) (Nat.le_of_ble_eq_true rfl) (fun X hC hX => ?_)
  show V X G 7 0 _ [] _
  have lp : ∀ (n i : Nat), i ≤ 25 → 26 ≤ i + n → (∀ j, j < i → ¬ mtP h nC w v j) → V X G 7 71 [(6, vi (nI i)), (5, vi (mtC h nC v i)), (4, vi (mtC h nC w i)), (0, vr (1, 0, 0)), (1, vi (nI w)), (2, vi (nI v)), (3, vi (nI 1))] [] h := by
    intro n
    induction n with
    | zero => intro i h1 h2; exact absurd h2 (by omega)
    | succ n ih =>
      intro i h1 h2 ha
      refine v_iload hC (pc := 71) 0 rfl dX6_meet_71 ?_
      refine v_bipush hC (pc := 73) (v := 24) (by decide +kernel) dX6_meet_73 ?_
      refine v_icmp_gt hC (pc := 75) (tgt := 134) dX6_meet_75 (by decide) (fun c_75 => ?_) (fun c_75 => ?_)
      · skip
        have hi : 24 < i := lp_gt c_75 (by decide) (by omega)
        refine v_bipush hC (pc := 134) (v := (-4)) (by decide +kernel) dX6_meet_134 ?_
        refine v_iret hC hX (pc := 136) dX6_meet_136 ?_
        exact ⟨rfl, Or.inr ⟨rfl, fun j hj => ha j (by omega)⟩⟩
      · skip
        have hi : i ≤ 24 := lp_ngt c_75 (by decide) (by omega)
        refine v_iload hC (pc := 78) 2 rfl dX6_meet_78 ?_
        refine v_iload hC (pc := 80) 1 rfl dX6_meet_80 ?_
        refine v_iand hC (pc := 82) dX6_meet_82 ?_
        refine v_if_eq hC (pc := 83) (tgt := 104) dX6_meet_83 (by decide) (fun c_83 => ?_) (fun c_83 => ?_)
        · skip
          refine v_aload_n hC (pc := 104) (k := 0) 3 rfl dX6_meet_104 ?_
          refine v_getR hC (pc := 105) dX6_meet_105 fl_X6_10 rfl (by first | rfl | exact ok_c hq rfl | exact ok_w hq hw | exact ok_w (by omega) (by omega) | exact ok_s (by omega) (by omega) | exact ok_c (by omega) rfl | assumption) rfl (by decide) (by decide) rfl ?_
          refine v_iload hC (pc := 108) 2 rfl dX6_meet_108 ?_
          refine v_iconst hC (pc := 110) (v := 1) (by decide) dX6_meet_110 ?_
          refine v_callV hC (pc := 111) (As := [_, _]) dX6_meet_111 rfl (t_within _ _ (d := d - 1) (by omega) (q := 0) (by decide) _ hn8 hnc _ (N := 1) (by decide)) cv_X6_194 rfl (by decide) rfl (by first | rfl | exact ok_c hq rfl | exact ok_w hq hw | exact ok_w (by omega) (by omega) | exact ok_s (by omega) (by omega) | exact ok_c (by omega) rfl | assumption) (Nat.le_of_ble_eq_true rfl) (by omega) (fun r h' hr => ?_)
          obtain ⟨he9, rfl⟩ := hr
          rw [he9]
          clear he9 h'
          show V _ _ _ (111 + 3) _ (_ :: _) _
          refine v_istore hC (pc := 114) (l' := [(4, _), (6, _), (5, _), (0, _), (1, _), (2, _), (3, _)]) dX6_meet_114 (by decide) rfl ?_
          refine v_aload_n hC (pc := 116) (k := 0) 3 rfl dX6_meet_116 ?_
          refine v_getR hC (pc := 117) dX6_meet_117 fl_X6_10 rfl (by first | rfl | exact ok_c hq rfl | exact ok_w hq hw | exact ok_w (by omega) (by omega) | exact ok_s (by omega) (by omega) | exact ok_c (by omega) rfl | assumption) rfl (by decide) (by decide) rfl ?_
          refine v_iload hC (pc := 120) 2 rfl dX6_meet_120 ?_
          refine v_iconst hC (pc := 122) (v := 1) (by decide) dX6_meet_122 ?_
          refine v_callV hC (pc := 123) (As := [_, _]) dX6_meet_123 rfl (t_within _ _ (d := d - 1) (by omega) (q := 0) (by decide) _ hn8 hnc _ (N := 1) (by decide)) cv_X6_194 rfl (by decide) rfl (by first | rfl | exact ok_c hq rfl | exact ok_w hq hw | exact ok_w (by omega) (by omega) | exact ok_s (by omega) (by omega) | exact ok_c (by omega) rfl | assumption) (Nat.le_of_ble_eq_true rfl) (by omega) (fun r h' hr => ?_)
          obtain ⟨he9, rfl⟩ := hr
          rw [he9]
          clear he9 h'
          show V _ _ _ (123 + 3) _ (_ :: _) _
          refine v_istore hC (pc := 126) (l' := [(5, _), (4, _), (6, _), (0, _), (1, _), (2, _), (3, _)]) dX6_meet_126 (by decide) rfl ?_
          refine v_iinc hC (pc := 128) (l' := [(6, _), (5, _), (4, _), (0, _), (1, _), (2, _), (3, _)]) 2 (v := nI (i + 1)) dX6_meet_128 rfl (nI_inc i) (by decide) rfl ?_
          refine v_goto hC (pc := 131) (tgt := 71) dX6_meet_131 (by decide) ?_
          refine ih (i + 1) (by omega) (by omega) (fun j hj => ?_)
          rcases (show j < i ∨ j = i by omega) with q | rfl
          · exact ha j q
          · exact fun z => z c_83
        · skip
          refine v_iload_n hC (pc := 86) (k := 3) 6 rfl dX6_meet_86 ?_
          refine v_if_ne hC (pc := 87) (tgt := 95) dX6_meet_87 (by decide) (fun c_87 => ?_) (fun c_87 => ?_)
          · skip
            refine v_iload hC (pc := 95) 2 rfl dX6_meet_95 ?_
            refine v_iload hC (pc := 97) 1 rfl dX6_meet_97 ?_
            refine v_iand hC (pc := 99) dX6_meet_99 ?_
            refine v_callS hC (pc := 100) (As := [_]) dX6_meet_100 rfl (t_lowestOf _ _ (d := d - 1) (by omega) _ _) cs_X6_200 (Nat.le_of_ble_eq_true rfl) (by omega) (fun r h' hr => ?_)
            obtain ⟨he9, hr9⟩ := hr
            rw [he9]
            clear he9 h'
            obtain ⟨v9, rfl⟩ : ∃ v9, r = some (vi v9) := hr9.elim (fun ⟨i9, _, z, _⟩ => ⟨_, z⟩) (fun z => ⟨_, z.1⟩)
            show V _ _ _ (100 + 3) _ (_ :: _) _
            refine v_iret hC hX (pc := 103) dX6_meet_103 ?_
            exact ⟨rfl, Or.inl ⟨i, by omega, c_83, ha, hr9⟩⟩
          · exact absurd c_87 (by decide)
  refine v_aload_n hC (pc := 0) (k := 0) 0 rfl dX6_meet_0 ?_
  refine v_getR hC (pc := 1) dX6_meet_1 fl_X6_10 rfl (by first | rfl | exact ok_c hq rfl | exact ok_w hq hw | exact ok_w (by omega) (by omega) | exact ok_s (by omega) (by omega) | exact ok_c (by omega) rfl | assumption) rfl (by decide) (by decide) rfl ?_
  refine v_iload_n hC (pc := 4) (k := 1) 1 rfl dX6_meet_4 ?_
  refine v_callV hC (pc := 5) (As := [_]) dX6_meet_5 rfl (t_hasWalker_t _ _ (d := d - 1) (by omega) (q := 0) (by decide) _ (c := w) (by assumption) (by omega) hnw) cv_X6_115 rfl (by decide) rfl (by first | rfl | exact ok_c hq rfl | exact ok_w hq hw | exact ok_w (by omega) (by omega) | exact ok_s (by omega) (by omega) | exact ok_c (by omega) rfl | assumption) (Nat.le_of_ble_eq_true rfl) (by omega) (fun r h' hr => ?_)
  obtain ⟨he9, rfl⟩ := hr
  rw [he9]
  clear he9 h'
  show V _ _ _ (5 + 3) _ (_ :: _) _
  refine v_if_eq hC (pc := 8) (tgt := 34) dX6_meet_8 (by decide) (fun c_8 => ?_) (fun c_8 => ?_)
  · exact absurd c_8 (by decide)
  · skip
    refine v_aload_n hC (pc := 11) (k := 0) 0 rfl dX6_meet_11 ?_
    refine v_getR hC (pc := 12) dX6_meet_12 fl_X6_10 rfl (by first | rfl | exact ok_c hq rfl | exact ok_w hq hw | exact ok_w (by omega) (by omega) | exact ok_s (by omega) (by omega) | exact ok_c (by omega) rfl | assumption) rfl (by decide) (by decide) rfl ?_
    refine v_iload_n hC (pc := 15) (k := 2) 2 rfl dX6_meet_15 ?_
    refine v_callV hC (pc := 16) (As := [_]) dX6_meet_16 rfl (t_hasWalker_t _ _ (d := d - 1) (by omega) (q := 0) (by decide) _ (c := v) (by assumption) (by omega) hnw) cv_X6_115 rfl (by decide) rfl (by first | rfl | exact ok_c hq rfl | exact ok_w hq hw | exact ok_w (by omega) (by omega) | exact ok_s (by omega) (by omega) | exact ok_c (by omega) rfl | assumption) (Nat.le_of_ble_eq_true rfl) (by omega) (fun r h' hr => ?_)
    obtain ⟨he9, rfl⟩ := hr
    rw [he9]
    clear he9 h'
    show V _ _ _ (16 + 3) _ (_ :: _) _
    refine v_if_eq hC (pc := 19) (tgt := 34) dX6_meet_19 (by decide) (fun c_19 => ?_) (fun c_19 => ?_)
    · exact absurd c_19 (by decide)
    · skip
      refine v_iload_n hC (pc := 22) (k := 1) 1 rfl dX6_meet_22 ?_
      refine v_iload_n hC (pc := 23) (k := 2) 2 rfl dX6_meet_23 ?_
      refine v_icmp_eq hC (pc := 24) (tgt := 34) dX6_meet_24 (by decide) (fun c_24 => ?_) (fun c_24 => ?_)
      · exact absurd ((nI_eq (by omega) (by omega)).mp c_24) hne
      · skip
        refine v_iload_n hC (pc := 27) (k := 3) 3 rfl dX6_meet_27 ?_
        refine v_callS hC (pc := 28) (As := [_]) dX6_meet_28 rfl (t_isZeroOrOne_t _ _ (d := d - 1) (by omega) _ (s := 1) (by decide)) cs_X6_108 (Nat.le_of_ble_eq_true rfl) (by omega) (fun r h' hr => ?_)
        obtain ⟨he9, rfl⟩ := hr
        rw [he9]
        clear he9 h'
        show V _ _ _ (28 + 3) _ (_ :: _) _
        refine v_if_ne hC (pc := 31) (tgt := 36) dX6_meet_31 (by decide) (fun c_31 => ?_) (fun c_31 => ?_)
        · skip
          refine v_iconst hC (pc := 36) (v := 1) (by decide) dX6_meet_36 ?_
          refine v_aload_n hC (pc := 37) (k := 0) 0 rfl dX6_meet_37 ?_
          refine v_getR hC (pc := 38) dX6_meet_38 fl_X6_10 rfl (by first | rfl | exact ok_c hq rfl | exact ok_w hq hw | exact ok_w (by omega) (by omega) | exact ok_s (by omega) (by omega) | exact ok_c (by omega) rfl | assumption) rfl (by decide) (by decide) rfl ?_
          refine v_getR hC (pc := 41) dX6_meet_41 fl_X6_118 rfl (by first | rfl | exact ok_c hq rfl | exact ok_w hq hw | exact ok_w (by omega) (by omega) | exact ok_s (by omega) (by omega) | exact ok_c (by omega) rfl | assumption) rfl (by decide) (by decide) rfl ?_
          refine v_iload_n hC (pc := 44) (k := 1) 1 rfl dX6_meet_44 ?_
          refine v_aald hC (pc := 45) (j := (6, 0, w)) 5 dX6_meet_45 rfl (by decide) (fun _ => rfl) (by first | rfl | exact ok_c hq rfl | exact ok_w hq hw | exact ok_w (by omega) (by omega) | exact ok_s (by omega) (by omega) | exact ok_c (by omega) rfl | assumption) (vp_nat (n := w) (by omega) (by decide)) (by rw [nI_clamp (show w < 2 ^ 31 by omega)]; rfl) ?_
          refine v_getI hC (pc := 46) dX6_meet_46 fl_X6_122 rfl (by first | rfl | exact ok_c hq rfl | exact ok_w hq hw | exact ok_w (by omega) (by omega) | exact ok_s (by omega) (by omega) | exact ok_c (by omega) rfl | assumption) rfl (by decide) (by decide) ?_
          refine v_ishl hC (pc := 49) dX6_meet_49 ?_
          refine v_istore hC (pc := 50) (l' := [(4, _), (0, _), (1, _), (2, _), (3, _)]) dX6_meet_50 (by decide) rfl ?_
          refine v_iconst hC (pc := 52) (v := 1) (by decide) dX6_meet_52 ?_
          refine v_aload_n hC (pc := 53) (k := 0) 1 rfl dX6_meet_53 ?_
          refine v_getR hC (pc := 54) dX6_meet_54 fl_X6_10 rfl (by first | rfl | exact ok_c hq rfl | exact ok_w hq hw | exact ok_w (by omega) (by omega) | exact ok_s (by omega) (by omega) | exact ok_c (by omega) rfl | assumption) rfl (by decide) (by decide) rfl ?_
          refine v_getR hC (pc := 57) dX6_meet_57 fl_X6_118 rfl (by first | rfl | exact ok_c hq rfl | exact ok_w hq hw | exact ok_w (by omega) (by omega) | exact ok_s (by omega) (by omega) | exact ok_c (by omega) rfl | assumption) rfl (by decide) (by decide) rfl ?_
          refine v_iload_n hC (pc := 60) (k := 2) 3 rfl dX6_meet_60 ?_
          refine v_aald hC (pc := 61) (j := (6, 0, v)) 5 dX6_meet_61 rfl (by decide) (fun _ => rfl) (by first | rfl | exact ok_c hq rfl | exact ok_w hq hw | exact ok_w (by omega) (by omega) | exact ok_s (by omega) (by omega) | exact ok_c (by omega) rfl | assumption) (vp_nat (n := v) (by omega) (by decide)) (by rw [nI_clamp (show v < 2 ^ 31 by omega)]; rfl) ?_
          refine v_getI hC (pc := 62) dX6_meet_62 fl_X6_122 rfl (by first | rfl | exact ok_c hq rfl | exact ok_w hq hw | exact ok_w (by omega) (by omega) | exact ok_s (by omega) (by omega) | exact ok_c (by omega) rfl | assumption) rfl (by decide) (by decide) ?_
          refine v_ishl hC (pc := 65) dX6_meet_65 ?_
          refine v_istore hC (pc := 66) (l' := [(5, _), (4, _), (0, _), (1, _), (2, _), (3, _)]) dX6_meet_66 (by decide) rfl ?_
          refine v_iconst hC (pc := 68) (v := 0) (by decide) dX6_meet_68 ?_
          refine v_istore hC (pc := 69) (l' := [(6, _), (5, _), (4, _), (0, _), (1, _), (2, _), (3, _)]) dX6_meet_69 (by decide) rfl ?_
          exact lp 26 0 (by omega) (by omega) (fun j hj => absurd hj (Nat.not_lt_zero _))
        · exact absurd c_31 (by decide)

set_option maxRecDepth 20000 in
set_option maxHeartbeats 2000000 in
theorem k_meet_bad (l9 : Launch) (G : WT) {d : Nat} (hd : 3 ≤ d) (h : HP) {nW : Nat} (hn4 : nW ≤ 4) (hnw : h.1 (0, 0, 0) 4 = nI nW) (w v x : Int32) (hbad : ¬ ((¬ w < 0 ∧ ¬ nI nW ≤ w) ∧ (¬ v < 0 ∧ ¬ nI nW ≤ v) ∧ (¬ w = v) ∧ (x = 0 ∨ x = 1))) : MS l9 G yX6_meet cX6_meet 7 (some .int) d [vr (1, 0, 0), vi w, vi v, vi x] h (fun r h1 => h1 = h ∧ r = some (vi (-1))) := by
  refine MS_of (by decide +kernel) (Nat.le_of_ble_eq_true rfl) (fun X hC hX => ?_)
  show V X G 7 0 _ [] _
  refine v_aload_n hC (pc := 0) (k := 0) 0 rfl dX6_meet_0 ?_
  refine v_getR hC (pc := 1) dX6_meet_1 fl_X6_10 rfl (by first | rfl | exact ok_c hq rfl | exact ok_w hq hw | exact ok_w (by omega) (by omega) | exact ok_s (by omega) (by omega) | exact ok_c (by omega) rfl | assumption) rfl (by decide) (by decide) rfl ?_
  refine v_iload_n hC (pc := 4) (k := 1) 1 rfl dX6_meet_4 ?_
  refine v_callV hC (pc := 5) (As := [_]) dX6_meet_5 rfl (t_hasWalker _ _ (d := d - 1) (by omega) (q := 0) (by decide) _ _) cv_X6_115 rfl (by decide) rfl (by first | rfl | exact ok_c hq rfl | exact ok_w hq hw | exact ok_w (by omega) (by omega) | exact ok_s (by omega) (by omega) | exact ok_c (by omega) rfl | assumption) (Nat.le_of_ble_eq_true rfl) (by omega) (fun r h' hr => ?_)
  obtain ⟨he9, rfl⟩ := hr
  rw [he9, hnw]
  clear he9 h'
  show V _ _ _ (5 + 3) _ (_ :: _) _
  refine v_ifb_eq hC (pc := 8) (tgt := 34) dX6_meet_8 (by decide) (fun c_8 => ?_) (fun c_8 => ?_)
  · skip
    refine v_iconst hC (pc := 34) (v := (-1)) (by decide) dX6_meet_34 ?_
    refine v_iret hC hX (pc := 35) dX6_meet_35 ?_
    exact ⟨rfl, rfl⟩
  · skip
    refine v_aload_n hC (pc := 11) (k := 0) 0 rfl dX6_meet_11 ?_
    refine v_getR hC (pc := 12) dX6_meet_12 fl_X6_10 rfl (by first | rfl | exact ok_c hq rfl | exact ok_w hq hw | exact ok_w (by omega) (by omega) | exact ok_s (by omega) (by omega) | exact ok_c (by omega) rfl | assumption) rfl (by decide) (by decide) rfl ?_
    refine v_iload_n hC (pc := 15) (k := 2) 2 rfl dX6_meet_15 ?_
    refine v_callV hC (pc := 16) (As := [_]) dX6_meet_16 rfl (t_hasWalker _ _ (d := d - 1) (by omega) (q := 0) (by decide) _ _) cv_X6_115 rfl (by decide) rfl (by first | rfl | exact ok_c hq rfl | exact ok_w hq hw | exact ok_w (by omega) (by omega) | exact ok_s (by omega) (by omega) | exact ok_c (by omega) rfl | assumption) (Nat.le_of_ble_eq_true rfl) (by omega) (fun r h' hr => ?_)
    obtain ⟨he9, rfl⟩ := hr
    rw [he9, hnw]
    clear he9 h'
    show V _ _ _ (16 + 3) _ (_ :: _) _
    refine v_ifb_eq hC (pc := 19) (tgt := 34) dX6_meet_19 (by decide) (fun c_19 => ?_) (fun c_19 => ?_)
    · skip
      refine v_iconst hC (pc := 34) (v := (-1)) (by decide) dX6_meet_34 ?_
      refine v_iret hC hX (pc := 35) dX6_meet_35 ?_
      exact ⟨rfl, rfl⟩
    · skip
      refine v_iload_n hC (pc := 22) (k := 1) 1 rfl dX6_meet_22 ?_
      refine v_iload_n hC (pc := 23) (k := 2) 2 rfl dX6_meet_23 ?_
      refine v_icmp_eq hC (pc := 24) (tgt := 34) dX6_meet_24 (by decide) (fun c_24 => ?_) (fun c_24 => ?_)
      · skip
        refine v_iconst hC (pc := 34) (v := (-1)) (by decide) dX6_meet_34 ?_
        refine v_iret hC hX (pc := 35) dX6_meet_35 ?_
        exact ⟨rfl, rfl⟩
      · skip
        refine v_iload_n hC (pc := 27) (k := 3) 3 rfl dX6_meet_27 ?_
        refine v_callS hC (pc := 28) (As := [_]) dX6_meet_28 rfl (t_isZeroOrOne _ _ (d := d - 1) (by omega) _ _) cs_X6_108 (Nat.le_of_ble_eq_true rfl) (by omega) (fun r h' hr => ?_)
        obtain ⟨he9, rfl⟩ := hr
        rw [he9]
        clear he9 h'
        show V _ _ _ (28 + 3) _ (_ :: _) _
        refine v_ifb_ne hC (pc := 31) (tgt := 36) dX6_meet_31 (by decide) (fun c_31 => ?_) (fun c_31 => ?_)
        · skip
          exact absurd (show _ ∧ _ ∧ _ ∧ _ from ⟨c_8, c_19, c_24, c_31⟩) hbad
        · skip
          refine v_iconst hC (pc := 34) (v := (-1)) (by decide) dX6_meet_34 ?_
          refine v_iret hC hX (pc := 35) dX6_meet_35 ?_
          exact ⟨rfl, rfl⟩

noncomputable def wyK (L : Nat → Nat → Nat → Option Nat) (hr ohr a b : Nat) (f : Nat → Int32) (r : Option PV) : Prop := wyR L hr ohr a b f r
def FrW (h h1 : HP) : Prop := (∀ i, i ≠ (1, 0, 6) → h1.1 i = h.1 i) ∧ ∀ k, k ≠ (1, 0, 7) → h1.2 k = h.2 k
theorem FrW_m {h h1 : HP} {hr ohr : Int32} (e : h1.1 = (upI (upI h (1, 0, 6) 1 hr) (1, 0, 6) 2 ohr).1) (e2 : ∀ k, k ≠ (1, 0, 7) → h1.2 k = h.2 k) : FrW h h1 := ⟨fun i hi => by rw [e, upI_ne _ _ _ hi, upI_ne _ _ _ hi], e2⟩
theorem rch_u {L : Nat → Nat → Nat → Option Nat} {hr ohr a g n m : Nat} (h1 : rchF L hr ohr a n g) (h2 : ∀ k, k < n → ¬ rchF L hr ohr a k g) (h3 : rchF L hr ohr a m g) (h4 : ∀ k, k < m → ¬ rchF L hr ohr a k g) : m = n := by
  rcases Nat.lt_trichotomy m n with q | q | q
  · exact absurd h3 (h2 m q)
  · exact q
  · exact absurd h1 (h4 n q)
theorem t_sh_g (l9 : Launch) (G : WT) {d : Nat} (hd : 5 ≤ d) (h : HP) {L : Nat → Nat → Nat → Option Nat} (hL : LdOK (h.1 (0, 0, 6)) (h.1 (0, 0, 0) 1) L) {hr0 ohr : Nat} (hb1 : hr0 < 1000) (hb2 : ohr < 1000) {a b : Nat} (ha : a < 8) (hb : b < 8) {n : Nat} (hn24 : n ≤ 24) (hre : rchF L hr0 ohr a n (b * 8 + b)) (hnr : ∀ k, k < n → ¬ rchF L hr0 ohr a k (b * 8 + b)) : MS l9 G yX5_shortest cX5_shortest 7 (some .int) d [vr (1, 0, 6), vr (0, 0, 0), vi (nI a), vi (nI b), vi (nI hr0), vi (nI ohr)] h (fun r h1 => r = some (vi (nI n)) ∧ (∀ j, j ≤ n → ∀ p, p < 64 → (bl (h1.2 (1, 0, 7) j) p ↔ rchF L hr0 ohr a j p)) ∧ FrW h h1 ∧ h1.1 (1, 0, 6) 1 = nI hr0 ∧ h1.1 (1, 0, 6) 2 = nI ohr) :=
  MS.mono (t_shortest l9 G hd (q := 0) (by decide) h hL hb1 hb2 ha hb) (fun r h1 z => by
    rcases z with ⟨m, m1, m2, m3, m4, m5, m6, m7⟩ | ⟨m2, m3, m6, m7⟩
    · have e := rch_u hre hnr m3 m4
      subst e
      exact ⟨m2, m5, FrW_m m6 m7, by rw [m6]; simp [upI], by rw [m6]; simp [upI]⟩
    · exact absurd hre (m3 n hn24))
theorem t_sh_n (l9 : Launch) (G : WT) {d : Nat} (hd : 5 ≤ d) (h : HP) {L : Nat → Nat → Nat → Option Nat} (hL : LdOK (h.1 (0, 0, 6)) (h.1 (0, 0, 0) 1) L) {hr0 ohr : Nat} (hb1 : hr0 < 1000) (hb2 : ohr < 1000) {a b : Nat} (ha : a < 8) (hb : b < 8) (hnr : ∀ k, k ≤ 24 → ¬ rchF L hr0 ohr a k (b * 8 + b)) : MS l9 G yX5_shortest cX5_shortest 7 (some .int) d [vr (1, 0, 6), vr (0, 0, 0), vi (nI a), vi (nI b), vi (nI hr0), vi (nI ohr)] h (fun r h1 => r = some (vi (-4)) ∧ FrW h h1) :=
  MS.mono (t_shortest l9 G hd (q := 0) (by decide) h hL hb1 hb2 ha hb) (fun r h1 z => by
    rcases z with ⟨m, m1, m2, m3, m4, m5, m6, m7⟩ | ⟨m2, m3, m6, m7⟩
    · exact absurd m3 (hnr m m1)
    · exact ⟨m2, FrW_m m6 m7⟩)
set_option maxRecDepth 20000 in
set_option maxHeartbeats 2000000 in
theorem k_ask_0 (l9 : Launch) (G : WT) {d : Nat} (hd : 6 ≤ d) (h : HP) {L : Nat → Nat → Nat → Option Nat} (hL : LdOK (h.1 (0, 0, 6)) (h.1 (0, 0, 0) 1) L) {hr0 ohr : Nat} (hb1 : hr0 < 1000) (hb2 : ohr < 1000) {a b : Nat} (ha : a < 8) (hb : b < 8) {n : Nat} (hn24 : n ≤ 24) (hre : rchF L hr0 ohr a n (b * 8 + b)) (hnr : ∀ k, k < n → ¬ rchF L hr0 ohr a k (b * 8 + b)) : MS l9 G yX6_askWord cX6_askWord 7 (some .int) d [vr (1, 0, 0), vi (nI a), vi (nI b), vi (nI hr0), vi (nI ohr), vi 0] h (fun r h1 => r = some (vi (nI n)) ∧ FrW h h1) := by
  refine MS_of (by decide +kernel) (Nat.le_of_ble_eq_true rfl) (fun X hC hX => ?_)
  show V X G 7 0 _ [] _
  refine v_aload_n hC (pc := 0) (k := 0) 0 rfl dX6_askWord_0 ?_
  refine v_getR hC (pc := 1) dX6_askWord_1 fl_X6_40 rfl (by first | rfl | exact ok_c hq rfl | exact ok_w hq hw | exact ok_w (by omega) (by omega) | exact ok_s (by omega) (by omega) | exact ok_c (by omega) rfl | assumption) rfl (by decide) (by decide) rfl ?_
  refine v_aload_n hC (pc := 4) (k := 0) 0 rfl dX6_askWord_4 ?_
  refine v_getR hC (pc := 5) dX6_askWord_5 fl_X6_10 rfl (by first | rfl | exact ok_c hq rfl | exact ok_w hq hw | exact ok_w (by omega) (by omega) | exact ok_s (by omega) (by omega) | exact ok_c (by omega) rfl | assumption) rfl (by decide) (by decide) rfl ?_
  refine v_iload_n hC (pc := 8) (k := 1) 1 rfl dX6_askWord_8 ?_
  refine v_iload_n hC (pc := 9) (k := 2) 2 rfl dX6_askWord_9 ?_
  refine v_iload_n hC (pc := 10) (k := 3) 3 rfl dX6_askWord_10 ?_
  refine v_iload hC (pc := 11) 4 rfl dX6_askWord_11 ?_
  refine v_callV hC (pc := 13) (As := [_, _, _, _, _]) dX6_askWord_13 rfl (t_sh_g _ _ (d := d - 1) (by omega) _ hL hb1 hb2 ha hb hn24 hre hnr) cv_X6_284 rfl (by decide) rfl (by first | rfl | exact ok_c hq rfl | exact ok_w hq hw | exact ok_w (by omega) (by omega) | exact ok_s (by omega) (by omega) | exact ok_c (by omega) rfl | assumption) (Nat.le_of_ble_eq_true rfl) (by omega) (fun r h' hr => ?_)
  obtain ⟨rfl, hrows, hfr, hw1, hw2⟩ := hr
  generalize h' = u at hrows hfr hw1 hw2 ⊢
  show V _ _ _ (13 + 3) _ (_ :: _) _
  refine v_istore hC (pc := 16) (l' := [(6, _), (0, _), (1, _), (2, _), (3, _), (4, _), (5, _)]) dX6_askWord_16 (by decide) rfl ?_
  refine v_iload hC (pc := 18) 6 rfl dX6_askWord_18 ?_
  refine v_if_eq hC (pc := 20) (tgt := 28) dX6_askWord_20 (by decide) (fun c_20 => ?_) (fun c_20 => ?_)
  · skip
    refine v_iload hC (pc := 28) 0 rfl dX6_askWord_28 ?_
    refine v_iret hC hX (pc := 30) dX6_askWord_30 ?_
    exact ⟨rfl, hfr⟩
  · exact absurd rfl c_20

set_option maxRecDepth 20000 in
set_option maxHeartbeats 2000000 in
theorem k_ask_n (l9 : Launch) (G : WT) {d : Nat} (hd : 6 ≤ d) (h : HP) {L : Nat → Nat → Nat → Option Nat} (hL : LdOK (h.1 (0, 0, 6)) (h.1 (0, 0, 0) 1) L) {hr0 ohr : Nat} (hb1 : hr0 < 1000) (hb2 : ohr < 1000) {a b : Nat} (ha : a < 8) (hb : b < 8) (x : Int32) (hnr : ∀ k, k ≤ 24 → ¬ rchF L hr0 ohr a k (b * 8 + b)) : MS l9 G yX6_askWord cX6_askWord 7 (some .int) d [vr (1, 0, 0), vi (nI a), vi (nI b), vi (nI hr0), vi (nI ohr), vi x] h (fun r h1 => r = some (vi (-4)) ∧ FrW h h1) := by
  refine MS_of (by decide +kernel) (Nat.le_of_ble_eq_true rfl) (fun X hC hX => ?_)
  show V X G 7 0 _ [] _
  refine v_aload_n hC (pc := 0) (k := 0) 0 rfl dX6_askWord_0 ?_
  refine v_getR hC (pc := 1) dX6_askWord_1 fl_X6_40 rfl (by first | rfl | exact ok_c hq rfl | exact ok_w hq hw | exact ok_w (by omega) (by omega) | exact ok_s (by omega) (by omega) | exact ok_c (by omega) rfl | assumption) rfl (by decide) (by decide) rfl ?_
  refine v_aload_n hC (pc := 4) (k := 0) 0 rfl dX6_askWord_4 ?_
  refine v_getR hC (pc := 5) dX6_askWord_5 fl_X6_10 rfl (by first | rfl | exact ok_c hq rfl | exact ok_w hq hw | exact ok_w (by omega) (by omega) | exact ok_s (by omega) (by omega) | exact ok_c (by omega) rfl | assumption) rfl (by decide) (by decide) rfl ?_
  refine v_iload_n hC (pc := 8) (k := 1) 1 rfl dX6_askWord_8 ?_
  refine v_iload_n hC (pc := 9) (k := 2) 2 rfl dX6_askWord_9 ?_
  refine v_iload_n hC (pc := 10) (k := 3) 3 rfl dX6_askWord_10 ?_
  refine v_iload hC (pc := 11) 4 rfl dX6_askWord_11 ?_
  refine v_callV hC (pc := 13) (As := [_, _, _, _, _]) dX6_askWord_13 rfl (t_sh_n _ _ (d := d - 1) (by omega) _ hL hb1 hb2 ha hb hnr) cv_X6_284 rfl (by decide) rfl (by first | rfl | exact ok_c hq rfl | exact ok_w hq hw | exact ok_w (by omega) (by omega) | exact ok_s (by omega) (by omega) | exact ok_c (by omega) rfl | assumption) (Nat.le_of_ble_eq_true rfl) (by omega) (fun r h' hr => ?_)
  obtain ⟨rfl, hfr⟩ := hr
  generalize h' = u at hfr ⊢
  show V _ _ _ (13 + 3) _ (_ :: _) _
  refine v_istore hC (pc := 16) (l' := [(6, _), (0, _), (1, _), (2, _), (3, _), (4, _), (5, _)]) dX6_askWord_16 (by decide) rfl ?_
  refine v_iload hC (pc := 18) 6 rfl dX6_askWord_18 ?_
  refine v_if_eq hC (pc := 20) (tgt := 28) dX6_askWord_20 (by decide) (fun c_20 => ?_) (fun c_20 => ?_)
  · skip
    refine v_iload hC (pc := 28) 0 rfl dX6_askWord_28 ?_
    refine v_iret hC hX (pc := 30) dX6_askWord_30 ?_
    exact ⟨rfl, hfr⟩
  · skip
    refine v_iload hC (pc := 23) 0 rfl dX6_askWord_23 ?_
    refine v_if_ge hC (pc := 25) (tgt := 31) dX6_askWord_25 (by decide) (fun c_25 => ?_) (fun c_25 => ?_)
    · exact absurd c_25 (by decide)
    · skip
      refine v_iload hC (pc := 28) 0 rfl dX6_askWord_28 ?_
      refine v_iret hC hX (pc := 30) dX6_askWord_30 ?_
      exact ⟨rfl, hfr⟩

set_option maxRecDepth 20000 in
set_option maxHeartbeats 2000000 in
theorem k_ask_i (l9 : Launch) (G : WT) {d : Nat} (hd : 6 ≤ d) (h : HP) {L : Nat → Nat → Nat → Option Nat} (hL : LdOK (h.1 (0, 0, 6)) (h.1 (0, 0, 0) 1) L) {hr0 ohr : Nat} (hb1 : hr0 < 1000) (hb2 : ohr < 1000) {a b : Nat} (ha : a < 8) (hb : b < 8) {n : Nat} (hn24 : n ≤ 24) (hre : rchF L hr0 ohr a n (b * 8 + b)) (hnr : ∀ k, k < n → ¬ rchF L hr0 ohr a k (b * 8 + b)) {i : Nat} (hin : i < n) : MS l9 G yX6_askWord cX6_askWord 7 (some .int) d [vr (1, 0, 0), vi (nI a), vi (nI b), vi (nI hr0), vi (nI ohr), vi (nI (10 + i))] h (fun r h1 => r = some (vi (nI (ltF L hr0 ohr (b * 8 + b) n i (curF L hr0 ohr (b * 8 + b) n a i)))) ∧ FrW h h1) := by
  refine MS_of (by decide +kernel) (Nat.le_of_ble_eq_true rfl) (fun X hC hX => ?_)
  show V X G 7 0 _ [] _
  refine v_aload_n hC (pc := 0) (k := 0) 0 rfl dX6_askWord_0 ?_
  refine v_getR hC (pc := 1) dX6_askWord_1 fl_X6_40 rfl (by first | rfl | exact ok_c hq rfl | exact ok_w hq hw | exact ok_w (by omega) (by omega) | exact ok_s (by omega) (by omega) | exact ok_c (by omega) rfl | assumption) rfl (by decide) (by decide) rfl ?_
  refine v_aload_n hC (pc := 4) (k := 0) 0 rfl dX6_askWord_4 ?_
  refine v_getR hC (pc := 5) dX6_askWord_5 fl_X6_10 rfl (by first | rfl | exact ok_c hq rfl | exact ok_w hq hw | exact ok_w (by omega) (by omega) | exact ok_s (by omega) (by omega) | exact ok_c (by omega) rfl | assumption) rfl (by decide) (by decide) rfl ?_
  refine v_iload_n hC (pc := 8) (k := 1) 1 rfl dX6_askWord_8 ?_
  refine v_iload_n hC (pc := 9) (k := 2) 2 rfl dX6_askWord_9 ?_
  refine v_iload_n hC (pc := 10) (k := 3) 3 rfl dX6_askWord_10 ?_
  refine v_iload hC (pc := 11) 4 rfl dX6_askWord_11 ?_
  refine v_callV hC (pc := 13) (As := [_, _, _, _, _]) dX6_askWord_13 rfl (t_sh_g _ _ (d := d - 1) (by omega) _ hL hb1 hb2 ha hb hn24 hre hnr) cv_X6_284 rfl (by decide) rfl (by first | rfl | exact ok_c hq rfl | exact ok_w hq hw | exact ok_w (by omega) (by omega) | exact ok_s (by omega) (by omega) | exact ok_c (by omega) rfl | assumption) (Nat.le_of_ble_eq_true rfl) (by omega) (fun r h' hr => ?_)
  obtain ⟨rfl, hrows, hfr, hw1, hw2⟩ := hr
  generalize h' = u at hrows hfr hw1 hw2 ⊢
  show V _ _ _ (13 + 3) _ (_ :: _) _
  refine v_istore hC (pc := 16) (l' := [(6, _), (0, _), (1, _), (2, _), (3, _), (4, _), (5, _)]) dX6_askWord_16 (by decide) rfl ?_
  refine v_iload hC (pc := 18) 6 rfl dX6_askWord_18 ?_
  refine v_if_eq hC (pc := 20) (tgt := 28) dX6_askWord_20 (by decide) (fun c_20 => ?_) (fun c_20 => ?_)
  · exact absurd ((nI_eq (by omega) (by decide)).mp (show nI (10 + i) = nI 0 from c_20)) (by omega)
  · skip
    refine v_iload hC (pc := 23) 0 rfl dX6_askWord_23 ?_
    refine v_if_ge hC (pc := 25) (tgt := 31) dX6_askWord_25 (by decide) (fun c_25 => ?_) (fun c_25 => ?_)
    · skip
      refine v_iload hC (pc := 31) 6 rfl dX6_askWord_31 ?_
      refine v_bipush hC (pc := 33) (v := 10) (by decide +kernel) dX6_askWord_33 ?_
      refine v_isub hC (pc := 35) dX6_askWord_35 ?_
      rw [show nI (10 + i) - 10 = nI i from by rw [show (10 : Int32) = nI 10 from rfl, pk_sub (by omega), Nat.add_sub_cancel_left]]
      refine v_iload hC (pc := 36) 0 rfl dX6_askWord_36 ?_
      refine v_icmp_ge hC (pc := 38) (tgt := 64) dX6_askWord_38 (by decide) (fun c_38 => ?_) (fun c_38 => ?_)
      · exact absurd (nI_lt hin (by omega)) (Int32.not_lt.mpr c_38)
      · skip
        refine v_aload_n hC (pc := 41) (k := 0) 1 rfl dX6_askWord_41 ?_
        refine v_getR hC (pc := 42) dX6_askWord_42 fl_X6_40 rfl (by first | rfl | exact ok_c hq rfl | exact ok_w hq hw | exact ok_w (by omega) (by omega) | exact ok_s (by omega) (by omega) | exact ok_c (by omega) rfl | assumption) rfl (by decide) (by decide) rfl ?_
        refine v_aload_n hC (pc := 45) (k := 0) 1 rfl dX6_askWord_45 ?_
        refine v_getR hC (pc := 46) dX6_askWord_46 fl_X6_10 rfl (by first | rfl | exact ok_c hq rfl | exact ok_w hq hw | exact ok_w (by omega) (by omega) | exact ok_s (by omega) (by omega) | exact ok_c (by omega) rfl | assumption) rfl (by decide) (by decide) rfl ?_
        refine v_iload_n hC (pc := 49) (k := 1) 2 rfl dX6_askWord_49 ?_
        refine v_iload_n hC (pc := 50) (k := 2) 3 rfl dX6_askWord_50 ?_
        refine v_iload hC (pc := 51) 0 rfl dX6_askWord_51 ?_
        refine v_iload hC (pc := 53) 6 rfl dX6_askWord_53 ?_
        refine v_bipush hC (pc := 55) (v := 10) (by decide +kernel) dX6_askWord_55 ?_
        refine v_isub hC (pc := 57) dX6_askWord_57 ?_
        rw [show nI (10 + i) - 10 = nI i from by rw [show (10 : Int32) = nI 10 from rfl, pk_sub (by omega), Nat.add_sub_cancel_left]]
        refine v_callV hC (pc := 58) (As := [_, _, _, _, _]) dX6_askWord_58 rfl (t_letterOf _ _ (d := d - 1) (by omega) (q := 0) (by decide) u (by rw [hfr.1 (0, 0, 6) (by decide), hfr.1 (0, 0, 0) (by decide)]; exact hL) hb1 hb2 hw1 hw2 ha hb hn24 hin hre hrows) cv_X6_288 rfl (by decide) rfl (by first | rfl | exact ok_c hq rfl | exact ok_w hq hw | exact ok_w (by omega) (by omega) | exact ok_s (by omega) (by omega) | exact ok_c (by omega) rfl | assumption) (Nat.le_of_ble_eq_true rfl) (by omega) (fun r h' hr => ?_)
        obtain ⟨rfl, hg1, hg2⟩ := hr
        generalize h' = u2 at hg1 hg2 ⊢
        show V _ _ _ (58 + 3) _ (_ :: _) _
        refine v_goto hC (pc := 61) (tgt := 66) dX6_askWord_61 (by decide) ?_
        refine v_iret hC hX (pc := 66) dX6_askWord_66 ?_
        exact ⟨rfl, fun i hi => by rw [hg1]; exact hfr.1 i hi, fun k hk => (hg2 k hk).trans (hfr.2 k hk)⟩
    · exact absurd (nI_pos' (by omega)) c_25

set_option maxRecDepth 20000 in
set_option maxHeartbeats 2000000 in
theorem k_ask_j (l9 : Launch) (G : WT) {d : Nat} (hd : 6 ≤ d) (h : HP) {L : Nat → Nat → Nat → Option Nat} (hL : LdOK (h.1 (0, 0, 6)) (h.1 (0, 0, 0) 1) L) {hr0 ohr : Nat} (hb1 : hr0 < 1000) (hb2 : ohr < 1000) {a b : Nat} (ha : a < 8) (hb : b < 8) {n : Nat} (hn24 : n ≤ 24) (hre : rchF L hr0 ohr a n (b * 8 + b)) (hnr : ∀ k, k < n → ¬ rchF L hr0 ohr a k (b * 8 + b)) {i : Nat} (hi : i < 24) (hin : ¬ i < n) : MS l9 G yX6_askWord cX6_askWord 7 (some .int) d [vr (1, 0, 0), vi (nI a), vi (nI b), vi (nI hr0), vi (nI ohr), vi (nI (10 + i))] h (fun r h1 => r = some (vi (-4)) ∧ FrW h h1) := by
  refine MS_of (by decide +kernel) (Nat.le_of_ble_eq_true rfl) (fun X hC hX => ?_)
  show V X G 7 0 _ [] _
  refine v_aload_n hC (pc := 0) (k := 0) 0 rfl dX6_askWord_0 ?_
  refine v_getR hC (pc := 1) dX6_askWord_1 fl_X6_40 rfl (by first | rfl | exact ok_c hq rfl | exact ok_w hq hw | exact ok_w (by omega) (by omega) | exact ok_s (by omega) (by omega) | exact ok_c (by omega) rfl | assumption) rfl (by decide) (by decide) rfl ?_
  refine v_aload_n hC (pc := 4) (k := 0) 0 rfl dX6_askWord_4 ?_
  refine v_getR hC (pc := 5) dX6_askWord_5 fl_X6_10 rfl (by first | rfl | exact ok_c hq rfl | exact ok_w hq hw | exact ok_w (by omega) (by omega) | exact ok_s (by omega) (by omega) | exact ok_c (by omega) rfl | assumption) rfl (by decide) (by decide) rfl ?_
  refine v_iload_n hC (pc := 8) (k := 1) 1 rfl dX6_askWord_8 ?_
  refine v_iload_n hC (pc := 9) (k := 2) 2 rfl dX6_askWord_9 ?_
  refine v_iload_n hC (pc := 10) (k := 3) 3 rfl dX6_askWord_10 ?_
  refine v_iload hC (pc := 11) 4 rfl dX6_askWord_11 ?_
  refine v_callV hC (pc := 13) (As := [_, _, _, _, _]) dX6_askWord_13 rfl (t_sh_g _ _ (d := d - 1) (by omega) _ hL hb1 hb2 ha hb hn24 hre hnr) cv_X6_284 rfl (by decide) rfl (by first | rfl | exact ok_c hq rfl | exact ok_w hq hw | exact ok_w (by omega) (by omega) | exact ok_s (by omega) (by omega) | exact ok_c (by omega) rfl | assumption) (Nat.le_of_ble_eq_true rfl) (by omega) (fun r h' hr => ?_)
  obtain ⟨rfl, hrows, hfr, hw1, hw2⟩ := hr
  generalize h' = u at hrows hfr hw1 hw2 ⊢
  show V _ _ _ (13 + 3) _ (_ :: _) _
  refine v_istore hC (pc := 16) (l' := [(6, _), (0, _), (1, _), (2, _), (3, _), (4, _), (5, _)]) dX6_askWord_16 (by decide) rfl ?_
  refine v_iload hC (pc := 18) 6 rfl dX6_askWord_18 ?_
  refine v_if_eq hC (pc := 20) (tgt := 28) dX6_askWord_20 (by decide) (fun c_20 => ?_) (fun c_20 => ?_)
  · exact absurd ((nI_eq (by omega) (by decide)).mp (show nI (10 + i) = nI 0 from c_20)) (by omega)
  · skip
    refine v_iload hC (pc := 23) 0 rfl dX6_askWord_23 ?_
    refine v_if_ge hC (pc := 25) (tgt := 31) dX6_askWord_25 (by decide) (fun c_25 => ?_) (fun c_25 => ?_)
    · skip
      refine v_iload hC (pc := 31) 6 rfl dX6_askWord_31 ?_
      refine v_bipush hC (pc := 33) (v := 10) (by decide +kernel) dX6_askWord_33 ?_
      refine v_isub hC (pc := 35) dX6_askWord_35 ?_
      rw [show nI (10 + i) - 10 = nI i from by rw [show (10 : Int32) = nI 10 from rfl, pk_sub (by omega), Nat.add_sub_cancel_left]]
      refine v_iload hC (pc := 36) 0 rfl dX6_askWord_36 ?_
      refine v_icmp_ge hC (pc := 38) (tgt := 64) dX6_askWord_38 (by decide) (fun c_38 => ?_) (fun c_38 => ?_)
      · skip
        refine v_bipush hC (pc := 64) (v := (-4)) (by decide +kernel) dX6_askWord_64 ?_
        refine v_iret hC hX (pc := 66) dX6_askWord_66 ?_
        exact ⟨rfl, hfr⟩
      · exact absurd (nI_le (show n ≤ i by omega) (by omega)) c_38
    · exact absurd (nI_pos' (by omega)) c_25

set_option maxRecDepth 20000 in
set_option maxHeartbeats 2000000 in
theorem k_way_0 (l9 : Launch) (G : WT) {d : Nat} (hd : 7 ≤ d) (h : HP) {nC : Nat} (hn8 : nC ≤ 8) (hnc : h.1 (0, 0, 0) 0 = nI nC) {L : Nat → Nat → Nat → Option Nat} (hL : LdOK (h.1 (0, 0, 6)) (h.1 (0, 0, 0) 1) L) {hr0 : Nat} (hh : hr0 < 24) {a b : Nat} (hac : a < nC) (hbc : b < nC) : MS l9 G yX6_way cX6_way 5 (some .int) d [vr (1, 0, 0), vi (nI a), vi (nI b), vi (nI hr0), vi 0] h (fun r h1 => FrW h h1 ∧ wyR L hr0 hr0 a b (fun n => nI n) r) := by
  refine MS_of (by decide +kernel) (Nat.le_of_ble_eq_true rfl) (fun X hC hX => ?_)
  show V X G 5 0 _ [] _
  by_cases hex : ∃ n, n ≤ 24 ∧ rchF L hr0 hr0 a n (b * 8 + b)
  · obtain ⟨n, hn24, hre, hnr⟩ := least_n hex
    refine v_aload_n hC (pc := 0) (k := 0) 0 rfl dX6_way_0 ?_
    refine v_getR hC (pc := 1) dX6_way_1 fl_X6_10 rfl (by first | rfl | exact ok_c hq rfl | exact ok_w hq hw | exact ok_w (by omega) (by omega) | exact ok_s (by omega) (by omega) | exact ok_c (by omega) rfl | assumption) rfl (by decide) (by decide) rfl ?_
    refine v_iload_n hC (pc := 4) (k := 1) 1 rfl dX6_way_4 ?_
    refine v_callV hC (pc := 5) (As := [_]) dX6_way_5 rfl (t_hasCorner_t _ _ (d := d - 1) (by omega) (q := 0) (by decide) _ (c := a) (by assumption) (by omega) hnc) cv_X6_105 rfl (by decide) rfl (by first | rfl | exact ok_c hq rfl | exact ok_w hq hw | exact ok_w (by omega) (by omega) | exact ok_s (by omega) (by omega) | exact ok_c (by omega) rfl | assumption) (Nat.le_of_ble_eq_true rfl) (by omega) (fun r h' hr => ?_)
    obtain ⟨he9, rfl⟩ := hr
    rw [he9]
    clear he9 h'
    show V _ _ _ (5 + 3) _ (_ :: _) _
    refine v_if_eq hC (pc := 8) (tgt := 37) dX6_way_8 (by decide) (fun c_8 => ?_) (fun c_8 => ?_)
    · exact absurd c_8 (by decide)
    · skip
      refine v_aload_n hC (pc := 11) (k := 0) 0 rfl dX6_way_11 ?_
      refine v_getR hC (pc := 12) dX6_way_12 fl_X6_10 rfl (by first | rfl | exact ok_c hq rfl | exact ok_w hq hw | exact ok_w (by omega) (by omega) | exact ok_s (by omega) (by omega) | exact ok_c (by omega) rfl | assumption) rfl (by decide) (by decide) rfl ?_
      refine v_iload_n hC (pc := 15) (k := 2) 2 rfl dX6_way_15 ?_
      refine v_callV hC (pc := 16) (As := [_]) dX6_way_16 rfl (t_hasCorner_t _ _ (d := d - 1) (by omega) (q := 0) (by decide) _ (c := b) (by assumption) (by omega) hnc) cv_X6_105 rfl (by decide) rfl (by first | rfl | exact ok_c hq rfl | exact ok_w hq hw | exact ok_w (by omega) (by omega) | exact ok_s (by omega) (by omega) | exact ok_c (by omega) rfl | assumption) (Nat.le_of_ble_eq_true rfl) (by omega) (fun r h' hr => ?_)
      obtain ⟨he9, rfl⟩ := hr
      rw [he9]
      clear he9 h'
      show V _ _ _ (16 + 3) _ (_ :: _) _
      refine v_if_eq hC (pc := 19) (tgt := 37) dX6_way_19 (by decide) (fun c_19 => ?_) (fun c_19 => ?_)
      · exact absurd c_19 (by decide)
      · skip
        refine v_iload_n hC (pc := 22) (k := 3) 3 rfl dX6_way_22 ?_
        refine v_callS hC (pc := 23) (As := [_]) dX6_way_23 rfl (t_isHour_t _ _ (d := d - 1) (by omega) _ (s := hr0) (by assumption)) cs_X6_144 (Nat.le_of_ble_eq_true rfl) (by omega) (fun r h' hr => ?_)
        obtain ⟨he9, rfl⟩ := hr
        rw [he9]
        clear he9 h'
        show V _ _ _ (23 + 3) _ (_ :: _) _
        refine v_if_eq hC (pc := 26) (tgt := 37) dX6_way_26 (by decide) (fun c_26 => ?_) (fun c_26 => ?_)
        · exact absurd c_26 (by decide)
        · skip
          refine v_iload hC (pc := 29) 4 rfl dX6_way_29 ?_
          refine v_callS hC (pc := 31) (As := [_]) dX6_way_31 rfl (t_isWordAsk _ _ (d := d - 1) (by omega) _ _) cs_X6_187 (Nat.le_of_ble_eq_true rfl) (by omega) (fun r h' hr => ?_)
          obtain ⟨he9, rfl⟩ := hr
          rw [he9, bI_t (Or.inl rfl)]
          clear he9 h'
          show V _ _ _ (31 + 3) _ (_ :: _) _
          refine v_if_ne hC (pc := 34) (tgt := 39) dX6_way_34 (by decide) (fun c_34 => ?_) (fun c_34 => ?_)
          · skip
            refine v_aload_n hC (pc := 39) (k := 0) 0 rfl dX6_way_39 ?_
            refine v_iload_n hC (pc := 40) (k := 1) 1 rfl dX6_way_40 ?_
            refine v_iload_n hC (pc := 41) (k := 2) 2 rfl dX6_way_41 ?_
            refine v_iload_n hC (pc := 42) (k := 3) 3 rfl dX6_way_42 ?_
            refine v_iload_n hC (pc := 43) (k := 3) 3 rfl dX6_way_43 ?_
            refine v_iload hC (pc := 44) 4 rfl dX6_way_44 ?_
            refine v_callV hC (pc := 46) (As := [_, _, _, _, _]) dX6_way_46 rfl (k_ask_0 _ _ (d := d - 1) (by omega) _ hL (hr0 := hr0) (ohr := hr0) (by omega) (by omega) (a := a) (b := b) (by omega) (by omega) hn24 hre hnr) cv_X6_190 rfl (by decide) rfl (by first | rfl | exact ok_c hq rfl | exact ok_w hq hw | exact ok_w (by omega) (by omega) | exact ok_s (by omega) (by omega) | exact ok_c (by omega) rfl | assumption) (Nat.le_of_ble_eq_true rfl) (by omega) (fun r h' hr => ?_)
            obtain ⟨rfl, hfr⟩ := hr
            show V _ _ _ (46 + 3) _ (_ :: _) _
            refine v_iret hC hX (pc := 49) dX6_way_49 ?_
            exact ⟨hfr, Or.inl ⟨n, hn24, hre, hnr, rfl⟩⟩
          · exact absurd c_34 (by decide)
  · have hnr : ∀ k, k ≤ 24 → ¬ rchF L hr0 hr0 a k (b * 8 + b) := fun k hk z => hex ⟨k, hk, z⟩
    refine v_aload_n hC (pc := 0) (k := 0) 0 rfl dX6_way_0 ?_
    refine v_getR hC (pc := 1) dX6_way_1 fl_X6_10 rfl (by first | rfl | exact ok_c hq rfl | exact ok_w hq hw | exact ok_w (by omega) (by omega) | exact ok_s (by omega) (by omega) | exact ok_c (by omega) rfl | assumption) rfl (by decide) (by decide) rfl ?_
    refine v_iload_n hC (pc := 4) (k := 1) 1 rfl dX6_way_4 ?_
    refine v_callV hC (pc := 5) (As := [_]) dX6_way_5 rfl (t_hasCorner_t _ _ (d := d - 1) (by omega) (q := 0) (by decide) _ (c := a) (by assumption) (by omega) hnc) cv_X6_105 rfl (by decide) rfl (by first | rfl | exact ok_c hq rfl | exact ok_w hq hw | exact ok_w (by omega) (by omega) | exact ok_s (by omega) (by omega) | exact ok_c (by omega) rfl | assumption) (Nat.le_of_ble_eq_true rfl) (by omega) (fun r h' hr => ?_)
    obtain ⟨he9, rfl⟩ := hr
    rw [he9]
    clear he9 h'
    show V _ _ _ (5 + 3) _ (_ :: _) _
    refine v_if_eq hC (pc := 8) (tgt := 37) dX6_way_8 (by decide) (fun c_8 => ?_) (fun c_8 => ?_)
    · exact absurd c_8 (by decide)
    · skip
      refine v_aload_n hC (pc := 11) (k := 0) 0 rfl dX6_way_11 ?_
      refine v_getR hC (pc := 12) dX6_way_12 fl_X6_10 rfl (by first | rfl | exact ok_c hq rfl | exact ok_w hq hw | exact ok_w (by omega) (by omega) | exact ok_s (by omega) (by omega) | exact ok_c (by omega) rfl | assumption) rfl (by decide) (by decide) rfl ?_
      refine v_iload_n hC (pc := 15) (k := 2) 2 rfl dX6_way_15 ?_
      refine v_callV hC (pc := 16) (As := [_]) dX6_way_16 rfl (t_hasCorner_t _ _ (d := d - 1) (by omega) (q := 0) (by decide) _ (c := b) (by assumption) (by omega) hnc) cv_X6_105 rfl (by decide) rfl (by first | rfl | exact ok_c hq rfl | exact ok_w hq hw | exact ok_w (by omega) (by omega) | exact ok_s (by omega) (by omega) | exact ok_c (by omega) rfl | assumption) (Nat.le_of_ble_eq_true rfl) (by omega) (fun r h' hr => ?_)
      obtain ⟨he9, rfl⟩ := hr
      rw [he9]
      clear he9 h'
      show V _ _ _ (16 + 3) _ (_ :: _) _
      refine v_if_eq hC (pc := 19) (tgt := 37) dX6_way_19 (by decide) (fun c_19 => ?_) (fun c_19 => ?_)
      · exact absurd c_19 (by decide)
      · skip
        refine v_iload_n hC (pc := 22) (k := 3) 3 rfl dX6_way_22 ?_
        refine v_callS hC (pc := 23) (As := [_]) dX6_way_23 rfl (t_isHour_t _ _ (d := d - 1) (by omega) _ (s := hr0) (by assumption)) cs_X6_144 (Nat.le_of_ble_eq_true rfl) (by omega) (fun r h' hr => ?_)
        obtain ⟨he9, rfl⟩ := hr
        rw [he9]
        clear he9 h'
        show V _ _ _ (23 + 3) _ (_ :: _) _
        refine v_if_eq hC (pc := 26) (tgt := 37) dX6_way_26 (by decide) (fun c_26 => ?_) (fun c_26 => ?_)
        · exact absurd c_26 (by decide)
        · skip
          refine v_iload hC (pc := 29) 4 rfl dX6_way_29 ?_
          refine v_callS hC (pc := 31) (As := [_]) dX6_way_31 rfl (t_isWordAsk _ _ (d := d - 1) (by omega) _ _) cs_X6_187 (Nat.le_of_ble_eq_true rfl) (by omega) (fun r h' hr => ?_)
          obtain ⟨he9, rfl⟩ := hr
          rw [he9, bI_t (Or.inl rfl)]
          clear he9 h'
          show V _ _ _ (31 + 3) _ (_ :: _) _
          refine v_if_ne hC (pc := 34) (tgt := 39) dX6_way_34 (by decide) (fun c_34 => ?_) (fun c_34 => ?_)
          · skip
            refine v_aload_n hC (pc := 39) (k := 0) 0 rfl dX6_way_39 ?_
            refine v_iload_n hC (pc := 40) (k := 1) 1 rfl dX6_way_40 ?_
            refine v_iload_n hC (pc := 41) (k := 2) 2 rfl dX6_way_41 ?_
            refine v_iload_n hC (pc := 42) (k := 3) 3 rfl dX6_way_42 ?_
            refine v_iload_n hC (pc := 43) (k := 3) 3 rfl dX6_way_43 ?_
            refine v_iload hC (pc := 44) 4 rfl dX6_way_44 ?_
            refine v_callV hC (pc := 46) (As := [_, _, _, _, _]) dX6_way_46 rfl (k_ask_n _ _ (d := d - 1) (by omega) _ hL (hr0 := hr0) (ohr := hr0) (by omega) (by omega) (a := a) (b := b) (by omega) (by omega) (0) hnr) cv_X6_190 rfl (by decide) rfl (by first | rfl | exact ok_c hq rfl | exact ok_w hq hw | exact ok_w (by omega) (by omega) | exact ok_s (by omega) (by omega) | exact ok_c (by omega) rfl | assumption) (Nat.le_of_ble_eq_true rfl) (by omega) (fun r h' hr => ?_)
            obtain ⟨rfl, hfr⟩ := hr
            show V _ _ _ (46 + 3) _ (_ :: _) _
            refine v_iret hC hX (pc := 49) dX6_way_49 ?_
            exact ⟨hfr, Or.inr ⟨rfl, hnr⟩⟩
          · exact absurd c_34 (by decide)

set_option maxRecDepth 20000 in
set_option maxHeartbeats 2000000 in
theorem k_way_i (l9 : Launch) (G : WT) {d : Nat} (hd : 7 ≤ d) (h : HP) {nC : Nat} (hn8 : nC ≤ 8) (hnc : h.1 (0, 0, 0) 0 = nI nC) {L : Nat → Nat → Nat → Option Nat} (hL : LdOK (h.1 (0, 0, 6)) (h.1 (0, 0, 0) 1) L) {hr0 : Nat} (hh : hr0 < 24) {a b : Nat} (hac : a < nC) (hbc : b < nC) {i : Nat} (hi : i < 24) : MS l9 G yX6_way cX6_way 5 (some .int) d [vr (1, 0, 0), vi (nI a), vi (nI b), vi (nI hr0), vi (nI (10 + i))] h (fun r h1 => FrW h h1 ∧ wyR L hr0 hr0 a b (fun n => ltV L hr0 hr0 a (b * 8 + b) n i) r) := by
  refine MS_of (by decide +kernel) (Nat.le_of_ble_eq_true rfl) (fun X hC hX => ?_)
  show V X G 5 0 _ [] _
  by_cases hex : ∃ n, n ≤ 24 ∧ rchF L hr0 hr0 a n (b * 8 + b)
  · obtain ⟨n, hn24, hre, hnr⟩ := least_n hex
    by_cases hin : i < n
    · skip
      refine v_aload_n hC (pc := 0) (k := 0) 0 rfl dX6_way_0 ?_
      refine v_getR hC (pc := 1) dX6_way_1 fl_X6_10 rfl (by first | rfl | exact ok_c hq rfl | exact ok_w hq hw | exact ok_w (by omega) (by omega) | exact ok_s (by omega) (by omega) | exact ok_c (by omega) rfl | assumption) rfl (by decide) (by decide) rfl ?_
      refine v_iload_n hC (pc := 4) (k := 1) 1 rfl dX6_way_4 ?_
      refine v_callV hC (pc := 5) (As := [_]) dX6_way_5 rfl (t_hasCorner_t _ _ (d := d - 1) (by omega) (q := 0) (by decide) _ (c := a) (by assumption) (by omega) hnc) cv_X6_105 rfl (by decide) rfl (by first | rfl | exact ok_c hq rfl | exact ok_w hq hw | exact ok_w (by omega) (by omega) | exact ok_s (by omega) (by omega) | exact ok_c (by omega) rfl | assumption) (Nat.le_of_ble_eq_true rfl) (by omega) (fun r h' hr => ?_)
      obtain ⟨he9, rfl⟩ := hr
      rw [he9]
      clear he9 h'
      show V _ _ _ (5 + 3) _ (_ :: _) _
      refine v_if_eq hC (pc := 8) (tgt := 37) dX6_way_8 (by decide) (fun c_8 => ?_) (fun c_8 => ?_)
      · exact absurd c_8 (by decide)
      · skip
        refine v_aload_n hC (pc := 11) (k := 0) 0 rfl dX6_way_11 ?_
        refine v_getR hC (pc := 12) dX6_way_12 fl_X6_10 rfl (by first | rfl | exact ok_c hq rfl | exact ok_w hq hw | exact ok_w (by omega) (by omega) | exact ok_s (by omega) (by omega) | exact ok_c (by omega) rfl | assumption) rfl (by decide) (by decide) rfl ?_
        refine v_iload_n hC (pc := 15) (k := 2) 2 rfl dX6_way_15 ?_
        refine v_callV hC (pc := 16) (As := [_]) dX6_way_16 rfl (t_hasCorner_t _ _ (d := d - 1) (by omega) (q := 0) (by decide) _ (c := b) (by assumption) (by omega) hnc) cv_X6_105 rfl (by decide) rfl (by first | rfl | exact ok_c hq rfl | exact ok_w hq hw | exact ok_w (by omega) (by omega) | exact ok_s (by omega) (by omega) | exact ok_c (by omega) rfl | assumption) (Nat.le_of_ble_eq_true rfl) (by omega) (fun r h' hr => ?_)
        obtain ⟨he9, rfl⟩ := hr
        rw [he9]
        clear he9 h'
        show V _ _ _ (16 + 3) _ (_ :: _) _
        refine v_if_eq hC (pc := 19) (tgt := 37) dX6_way_19 (by decide) (fun c_19 => ?_) (fun c_19 => ?_)
        · exact absurd c_19 (by decide)
        · skip
          refine v_iload_n hC (pc := 22) (k := 3) 3 rfl dX6_way_22 ?_
          refine v_callS hC (pc := 23) (As := [_]) dX6_way_23 rfl (t_isHour_t _ _ (d := d - 1) (by omega) _ (s := hr0) (by assumption)) cs_X6_144 (Nat.le_of_ble_eq_true rfl) (by omega) (fun r h' hr => ?_)
          obtain ⟨he9, rfl⟩ := hr
          rw [he9]
          clear he9 h'
          show V _ _ _ (23 + 3) _ (_ :: _) _
          refine v_if_eq hC (pc := 26) (tgt := 37) dX6_way_26 (by decide) (fun c_26 => ?_) (fun c_26 => ?_)
          · exact absurd c_26 (by decide)
          · skip
            refine v_iload hC (pc := 29) 4 rfl dX6_way_29 ?_
            refine v_callS hC (pc := 31) (As := [_]) dX6_way_31 rfl (t_isWordAsk _ _ (d := d - 1) (by omega) _ _) cs_X6_187 (Nat.le_of_ble_eq_true rfl) (by omega) (fun r h' hr => ?_)
            obtain ⟨he9, rfl⟩ := hr
            rw [he9, bI_t (Or.inr ⟨nI_nlt (show 10 ≤ 10 + i by omega) (by omega), nI_ge (show 10 + i < 34 by omega) (by decide)⟩)]
            clear he9 h'
            show V _ _ _ (31 + 3) _ (_ :: _) _
            refine v_if_ne hC (pc := 34) (tgt := 39) dX6_way_34 (by decide) (fun c_34 => ?_) (fun c_34 => ?_)
            · skip
              refine v_aload_n hC (pc := 39) (k := 0) 0 rfl dX6_way_39 ?_
              refine v_iload_n hC (pc := 40) (k := 1) 1 rfl dX6_way_40 ?_
              refine v_iload_n hC (pc := 41) (k := 2) 2 rfl dX6_way_41 ?_
              refine v_iload_n hC (pc := 42) (k := 3) 3 rfl dX6_way_42 ?_
              refine v_iload_n hC (pc := 43) (k := 3) 3 rfl dX6_way_43 ?_
              refine v_iload hC (pc := 44) 4 rfl dX6_way_44 ?_
              refine v_callV hC (pc := 46) (As := [_, _, _, _, _]) dX6_way_46 rfl (k_ask_i _ _ (d := d - 1) (by omega) _ hL (hr0 := hr0) (ohr := hr0) (by omega) (by omega) (a := a) (b := b) (by omega) (by omega) hn24 hre hnr hin) cv_X6_190 rfl (by decide) rfl (by first | rfl | exact ok_c hq rfl | exact ok_w hq hw | exact ok_w (by omega) (by omega) | exact ok_s (by omega) (by omega) | exact ok_c (by omega) rfl | assumption) (Nat.le_of_ble_eq_true rfl) (by omega) (fun r h' hr => ?_)
              obtain ⟨rfl, hfr⟩ := hr
              show V _ _ _ (46 + 3) _ (_ :: _) _
              refine v_iret hC hX (pc := 49) dX6_way_49 ?_
              exact ⟨hfr, Or.inl ⟨n, hn24, hre, hnr, by unfold ltV; dsimp only; rw [if_pos hin]⟩⟩
            · exact absurd c_34 (by decide)
    · skip
      refine v_aload_n hC (pc := 0) (k := 0) 0 rfl dX6_way_0 ?_
      refine v_getR hC (pc := 1) dX6_way_1 fl_X6_10 rfl (by first | rfl | exact ok_c hq rfl | exact ok_w hq hw | exact ok_w (by omega) (by omega) | exact ok_s (by omega) (by omega) | exact ok_c (by omega) rfl | assumption) rfl (by decide) (by decide) rfl ?_
      refine v_iload_n hC (pc := 4) (k := 1) 1 rfl dX6_way_4 ?_
      refine v_callV hC (pc := 5) (As := [_]) dX6_way_5 rfl (t_hasCorner_t _ _ (d := d - 1) (by omega) (q := 0) (by decide) _ (c := a) (by assumption) (by omega) hnc) cv_X6_105 rfl (by decide) rfl (by first | rfl | exact ok_c hq rfl | exact ok_w hq hw | exact ok_w (by omega) (by omega) | exact ok_s (by omega) (by omega) | exact ok_c (by omega) rfl | assumption) (Nat.le_of_ble_eq_true rfl) (by omega) (fun r h' hr => ?_)
      obtain ⟨he9, rfl⟩ := hr
      rw [he9]
      clear he9 h'
      show V _ _ _ (5 + 3) _ (_ :: _) _
      refine v_if_eq hC (pc := 8) (tgt := 37) dX6_way_8 (by decide) (fun c_8 => ?_) (fun c_8 => ?_)
      · exact absurd c_8 (by decide)
      · skip
        refine v_aload_n hC (pc := 11) (k := 0) 0 rfl dX6_way_11 ?_
        refine v_getR hC (pc := 12) dX6_way_12 fl_X6_10 rfl (by first | rfl | exact ok_c hq rfl | exact ok_w hq hw | exact ok_w (by omega) (by omega) | exact ok_s (by omega) (by omega) | exact ok_c (by omega) rfl | assumption) rfl (by decide) (by decide) rfl ?_
        refine v_iload_n hC (pc := 15) (k := 2) 2 rfl dX6_way_15 ?_
        refine v_callV hC (pc := 16) (As := [_]) dX6_way_16 rfl (t_hasCorner_t _ _ (d := d - 1) (by omega) (q := 0) (by decide) _ (c := b) (by assumption) (by omega) hnc) cv_X6_105 rfl (by decide) rfl (by first | rfl | exact ok_c hq rfl | exact ok_w hq hw | exact ok_w (by omega) (by omega) | exact ok_s (by omega) (by omega) | exact ok_c (by omega) rfl | assumption) (Nat.le_of_ble_eq_true rfl) (by omega) (fun r h' hr => ?_)
        obtain ⟨he9, rfl⟩ := hr
        rw [he9]
        clear he9 h'
        show V _ _ _ (16 + 3) _ (_ :: _) _
        refine v_if_eq hC (pc := 19) (tgt := 37) dX6_way_19 (by decide) (fun c_19 => ?_) (fun c_19 => ?_)
        · exact absurd c_19 (by decide)
        · skip
          refine v_iload_n hC (pc := 22) (k := 3) 3 rfl dX6_way_22 ?_
          refine v_callS hC (pc := 23) (As := [_]) dX6_way_23 rfl (t_isHour_t _ _ (d := d - 1) (by omega) _ (s := hr0) (by assumption)) cs_X6_144 (Nat.le_of_ble_eq_true rfl) (by omega) (fun r h' hr => ?_)
          obtain ⟨he9, rfl⟩ := hr
          rw [he9]
          clear he9 h'
          show V _ _ _ (23 + 3) _ (_ :: _) _
          refine v_if_eq hC (pc := 26) (tgt := 37) dX6_way_26 (by decide) (fun c_26 => ?_) (fun c_26 => ?_)
          · exact absurd c_26 (by decide)
          · skip
            refine v_iload hC (pc := 29) 4 rfl dX6_way_29 ?_
            refine v_callS hC (pc := 31) (As := [_]) dX6_way_31 rfl (t_isWordAsk _ _ (d := d - 1) (by omega) _ _) cs_X6_187 (Nat.le_of_ble_eq_true rfl) (by omega) (fun r h' hr => ?_)
            obtain ⟨he9, rfl⟩ := hr
            rw [he9, bI_t (Or.inr ⟨nI_nlt (show 10 ≤ 10 + i by omega) (by omega), nI_ge (show 10 + i < 34 by omega) (by decide)⟩)]
            clear he9 h'
            show V _ _ _ (31 + 3) _ (_ :: _) _
            refine v_if_ne hC (pc := 34) (tgt := 39) dX6_way_34 (by decide) (fun c_34 => ?_) (fun c_34 => ?_)
            · skip
              refine v_aload_n hC (pc := 39) (k := 0) 0 rfl dX6_way_39 ?_
              refine v_iload_n hC (pc := 40) (k := 1) 1 rfl dX6_way_40 ?_
              refine v_iload_n hC (pc := 41) (k := 2) 2 rfl dX6_way_41 ?_
              refine v_iload_n hC (pc := 42) (k := 3) 3 rfl dX6_way_42 ?_
              refine v_iload_n hC (pc := 43) (k := 3) 3 rfl dX6_way_43 ?_
              refine v_iload hC (pc := 44) 4 rfl dX6_way_44 ?_
              refine v_callV hC (pc := 46) (As := [_, _, _, _, _]) dX6_way_46 rfl (k_ask_j _ _ (d := d - 1) (by omega) _ hL (hr0 := hr0) (ohr := hr0) (by omega) (by omega) (a := a) (b := b) (by omega) (by omega) hn24 hre hnr hi hin) cv_X6_190 rfl (by decide) rfl (by first | rfl | exact ok_c hq rfl | exact ok_w hq hw | exact ok_w (by omega) (by omega) | exact ok_s (by omega) (by omega) | exact ok_c (by omega) rfl | assumption) (Nat.le_of_ble_eq_true rfl) (by omega) (fun r h' hr => ?_)
              obtain ⟨rfl, hfr⟩ := hr
              show V _ _ _ (46 + 3) _ (_ :: _) _
              refine v_iret hC hX (pc := 49) dX6_way_49 ?_
              exact ⟨hfr, Or.inl ⟨n, hn24, hre, hnr, by unfold ltV; dsimp only; rw [if_neg hin]⟩⟩
            · exact absurd c_34 (by decide)
  · have hnr : ∀ k, k ≤ 24 → ¬ rchF L hr0 hr0 a k (b * 8 + b) := fun k hk z => hex ⟨k, hk, z⟩
    refine v_aload_n hC (pc := 0) (k := 0) 0 rfl dX6_way_0 ?_
    refine v_getR hC (pc := 1) dX6_way_1 fl_X6_10 rfl (by first | rfl | exact ok_c hq rfl | exact ok_w hq hw | exact ok_w (by omega) (by omega) | exact ok_s (by omega) (by omega) | exact ok_c (by omega) rfl | assumption) rfl (by decide) (by decide) rfl ?_
    refine v_iload_n hC (pc := 4) (k := 1) 1 rfl dX6_way_4 ?_
    refine v_callV hC (pc := 5) (As := [_]) dX6_way_5 rfl (t_hasCorner_t _ _ (d := d - 1) (by omega) (q := 0) (by decide) _ (c := a) (by assumption) (by omega) hnc) cv_X6_105 rfl (by decide) rfl (by first | rfl | exact ok_c hq rfl | exact ok_w hq hw | exact ok_w (by omega) (by omega) | exact ok_s (by omega) (by omega) | exact ok_c (by omega) rfl | assumption) (Nat.le_of_ble_eq_true rfl) (by omega) (fun r h' hr => ?_)
    obtain ⟨he9, rfl⟩ := hr
    rw [he9]
    clear he9 h'
    show V _ _ _ (5 + 3) _ (_ :: _) _
    refine v_if_eq hC (pc := 8) (tgt := 37) dX6_way_8 (by decide) (fun c_8 => ?_) (fun c_8 => ?_)
    · exact absurd c_8 (by decide)
    · skip
      refine v_aload_n hC (pc := 11) (k := 0) 0 rfl dX6_way_11 ?_
      refine v_getR hC (pc := 12) dX6_way_12 fl_X6_10 rfl (by first | rfl | exact ok_c hq rfl | exact ok_w hq hw | exact ok_w (by omega) (by omega) | exact ok_s (by omega) (by omega) | exact ok_c (by omega) rfl | assumption) rfl (by decide) (by decide) rfl ?_
      refine v_iload_n hC (pc := 15) (k := 2) 2 rfl dX6_way_15 ?_
      refine v_callV hC (pc := 16) (As := [_]) dX6_way_16 rfl (t_hasCorner_t _ _ (d := d - 1) (by omega) (q := 0) (by decide) _ (c := b) (by assumption) (by omega) hnc) cv_X6_105 rfl (by decide) rfl (by first | rfl | exact ok_c hq rfl | exact ok_w hq hw | exact ok_w (by omega) (by omega) | exact ok_s (by omega) (by omega) | exact ok_c (by omega) rfl | assumption) (Nat.le_of_ble_eq_true rfl) (by omega) (fun r h' hr => ?_)
      obtain ⟨he9, rfl⟩ := hr
      rw [he9]
      clear he9 h'
      show V _ _ _ (16 + 3) _ (_ :: _) _
      refine v_if_eq hC (pc := 19) (tgt := 37) dX6_way_19 (by decide) (fun c_19 => ?_) (fun c_19 => ?_)
      · exact absurd c_19 (by decide)
      · skip
        refine v_iload_n hC (pc := 22) (k := 3) 3 rfl dX6_way_22 ?_
        refine v_callS hC (pc := 23) (As := [_]) dX6_way_23 rfl (t_isHour_t _ _ (d := d - 1) (by omega) _ (s := hr0) (by assumption)) cs_X6_144 (Nat.le_of_ble_eq_true rfl) (by omega) (fun r h' hr => ?_)
        obtain ⟨he9, rfl⟩ := hr
        rw [he9]
        clear he9 h'
        show V _ _ _ (23 + 3) _ (_ :: _) _
        refine v_if_eq hC (pc := 26) (tgt := 37) dX6_way_26 (by decide) (fun c_26 => ?_) (fun c_26 => ?_)
        · exact absurd c_26 (by decide)
        · skip
          refine v_iload hC (pc := 29) 4 rfl dX6_way_29 ?_
          refine v_callS hC (pc := 31) (As := [_]) dX6_way_31 rfl (t_isWordAsk _ _ (d := d - 1) (by omega) _ _) cs_X6_187 (Nat.le_of_ble_eq_true rfl) (by omega) (fun r h' hr => ?_)
          obtain ⟨he9, rfl⟩ := hr
          rw [he9, bI_t (Or.inr ⟨nI_nlt (show 10 ≤ 10 + i by omega) (by omega), nI_ge (show 10 + i < 34 by omega) (by decide)⟩)]
          clear he9 h'
          show V _ _ _ (31 + 3) _ (_ :: _) _
          refine v_if_ne hC (pc := 34) (tgt := 39) dX6_way_34 (by decide) (fun c_34 => ?_) (fun c_34 => ?_)
          · skip
            refine v_aload_n hC (pc := 39) (k := 0) 0 rfl dX6_way_39 ?_
            refine v_iload_n hC (pc := 40) (k := 1) 1 rfl dX6_way_40 ?_
            refine v_iload_n hC (pc := 41) (k := 2) 2 rfl dX6_way_41 ?_
            refine v_iload_n hC (pc := 42) (k := 3) 3 rfl dX6_way_42 ?_
            refine v_iload_n hC (pc := 43) (k := 3) 3 rfl dX6_way_43 ?_
            refine v_iload hC (pc := 44) 4 rfl dX6_way_44 ?_
            refine v_callV hC (pc := 46) (As := [_, _, _, _, _]) dX6_way_46 rfl (k_ask_n _ _ (d := d - 1) (by omega) _ hL (hr0 := hr0) (ohr := hr0) (by omega) (by omega) (a := a) (b := b) (by omega) (by omega) (nI (10 + i)) hnr) cv_X6_190 rfl (by decide) rfl (by first | rfl | exact ok_c hq rfl | exact ok_w hq hw | exact ok_w (by omega) (by omega) | exact ok_s (by omega) (by omega) | exact ok_c (by omega) rfl | assumption) (Nat.le_of_ble_eq_true rfl) (by omega) (fun r h' hr => ?_)
            obtain ⟨rfl, hfr⟩ := hr
            show V _ _ _ (46 + 3) _ (_ :: _) _
            refine v_iret hC hX (pc := 49) dX6_way_49 ?_
            exact ⟨hfr, Or.inr ⟨rfl, hnr⟩⟩
          · exact absurd c_34 (by decide)

set_option maxRecDepth 20000 in
set_option maxHeartbeats 2000000 in
theorem k_way_bad (l9 : Launch) (G : WT) {d : Nat} (hd : 3 ≤ d) (h : HP) {nC : Nat} (hn8 : nC ≤ 8) (hnc : h.1 (0, 0, 0) 0 = nI nC) (a b t x : Int32) (hbad : ¬ ((¬ a < 0 ∧ ¬ nI nC ≤ a) ∧ (¬ b < 0 ∧ ¬ nI nC ≤ b) ∧ (¬ t < 0 ∧ ¬ 24 ≤ t) ∧ (x = 0 ∨ ¬ x < 10 ∧ ¬ 33 < x))) : MS l9 G yX6_way cX6_way 5 (some .int) d [vr (1, 0, 0), vi a, vi b, vi t, vi x] h (fun r h1 => h1 = h ∧ r = some (vi (-1))) := by
  refine MS_of (by decide +kernel) (Nat.le_of_ble_eq_true rfl) (fun X hC hX => ?_)
  show V X G 5 0 _ [] _
  refine v_aload_n hC (pc := 0) (k := 0) 0 rfl dX6_way_0 ?_
  refine v_getR hC (pc := 1) dX6_way_1 fl_X6_10 rfl (by first | rfl | exact ok_c hq rfl | exact ok_w hq hw | exact ok_w (by omega) (by omega) | exact ok_s (by omega) (by omega) | exact ok_c (by omega) rfl | assumption) rfl (by decide) (by decide) rfl ?_
  refine v_iload_n hC (pc := 4) (k := 1) 1 rfl dX6_way_4 ?_
  refine v_callV hC (pc := 5) (As := [_]) dX6_way_5 rfl (t_hasCorner _ _ (d := d - 1) (by omega) (q := 0) (by decide) _ _) cv_X6_105 rfl (by decide) rfl (by first | rfl | exact ok_c hq rfl | exact ok_w hq hw | exact ok_w (by omega) (by omega) | exact ok_s (by omega) (by omega) | exact ok_c (by omega) rfl | assumption) (Nat.le_of_ble_eq_true rfl) (by omega) (fun r h' hr => ?_)
  obtain ⟨he9, rfl⟩ := hr
  rw [he9, hnc]
  clear he9 h'
  show V _ _ _ (5 + 3) _ (_ :: _) _
  refine v_ifb_eq hC (pc := 8) (tgt := 37) dX6_way_8 (by decide) (fun c_8 => ?_) (fun c_8 => ?_)
  · skip
    refine v_iconst hC (pc := 37) (v := (-1)) (by decide) dX6_way_37 ?_
    refine v_iret hC hX (pc := 38) dX6_way_38 ?_
    exact ⟨rfl, rfl⟩
  · skip
    refine v_aload_n hC (pc := 11) (k := 0) 0 rfl dX6_way_11 ?_
    refine v_getR hC (pc := 12) dX6_way_12 fl_X6_10 rfl (by first | rfl | exact ok_c hq rfl | exact ok_w hq hw | exact ok_w (by omega) (by omega) | exact ok_s (by omega) (by omega) | exact ok_c (by omega) rfl | assumption) rfl (by decide) (by decide) rfl ?_
    refine v_iload_n hC (pc := 15) (k := 2) 2 rfl dX6_way_15 ?_
    refine v_callV hC (pc := 16) (As := [_]) dX6_way_16 rfl (t_hasCorner _ _ (d := d - 1) (by omega) (q := 0) (by decide) _ _) cv_X6_105 rfl (by decide) rfl (by first | rfl | exact ok_c hq rfl | exact ok_w hq hw | exact ok_w (by omega) (by omega) | exact ok_s (by omega) (by omega) | exact ok_c (by omega) rfl | assumption) (Nat.le_of_ble_eq_true rfl) (by omega) (fun r h' hr => ?_)
    obtain ⟨he9, rfl⟩ := hr
    rw [he9, hnc]
    clear he9 h'
    show V _ _ _ (16 + 3) _ (_ :: _) _
    refine v_ifb_eq hC (pc := 19) (tgt := 37) dX6_way_19 (by decide) (fun c_19 => ?_) (fun c_19 => ?_)
    · skip
      refine v_iconst hC (pc := 37) (v := (-1)) (by decide) dX6_way_37 ?_
      refine v_iret hC hX (pc := 38) dX6_way_38 ?_
      exact ⟨rfl, rfl⟩
    · skip
      refine v_iload_n hC (pc := 22) (k := 3) 3 rfl dX6_way_22 ?_
      refine v_callS hC (pc := 23) (As := [_]) dX6_way_23 rfl (t_isHour _ _ (d := d - 1) (by omega) _ _) cs_X6_144 (Nat.le_of_ble_eq_true rfl) (by omega) (fun r h' hr => ?_)
      obtain ⟨he9, rfl⟩ := hr
      rw [he9]
      clear he9 h'
      show V _ _ _ (23 + 3) _ (_ :: _) _
      refine v_ifb_eq hC (pc := 26) (tgt := 37) dX6_way_26 (by decide) (fun c_26 => ?_) (fun c_26 => ?_)
      · skip
        refine v_iconst hC (pc := 37) (v := (-1)) (by decide) dX6_way_37 ?_
        refine v_iret hC hX (pc := 38) dX6_way_38 ?_
        exact ⟨rfl, rfl⟩
      · skip
        refine v_iload hC (pc := 29) 4 rfl dX6_way_29 ?_
        refine v_callS hC (pc := 31) (As := [_]) dX6_way_31 rfl (t_isWordAsk _ _ (d := d - 1) (by omega) _ _) cs_X6_187 (Nat.le_of_ble_eq_true rfl) (by omega) (fun r h' hr => ?_)
        obtain ⟨he9, rfl⟩ := hr
        rw [he9]
        clear he9 h'
        show V _ _ _ (31 + 3) _ (_ :: _) _
        refine v_ifb_ne hC (pc := 34) (tgt := 39) dX6_way_34 (by decide) (fun c_34 => ?_) (fun c_34 => ?_)
        · skip
          exact absurd (show _ ∧ _ ∧ _ ∧ _ from ⟨c_8, c_19, c_26, c_34.elim Or.inl (fun z => Or.inr ⟨z.1, lt34 z.2⟩)⟩) hbad
        · skip
          refine v_iconst hC (pc := 37) (v := (-1)) (by decide) dX6_way_37 ?_
          refine v_iret hC hX (pc := 38) dX6_way_38 ?_
          exact ⟨rfl, rfl⟩

set_option maxRecDepth 20000 in
set_option maxHeartbeats 2000000 in
theorem k_both_0 (l9 : Launch) (G : WT) {d : Nat} (hd : 7 ≤ d) (h : HP) {nC : Nat} (hn8 : nC ≤ 8) (hnc : h.1 (0, 0, 0) 0 = nI nC) {L : Nat → Nat → Nat → Option Nat} (hL : LdOK (h.1 (0, 0, 6)) (h.1 (0, 0, 0) 1) L) {hr0 : Nat} (hh : hr0 < 24) {a b : Nat} (hac : a < nC) (hbc : b < nC) : MS l9 G yX6_both cX6_both 5 (some .int) d [vr (1, 0, 0), vi (nI a), vi (nI b), vi (nI hr0), vi 0] h (fun r h1 => FrW h h1 ∧ wyR L hr0 (hr0 + 12) a b (fun n => nI n) r) := by
  refine MS_of (by decide +kernel) (Nat.le_of_ble_eq_true rfl) (fun X hC hX => ?_)
  show V X G 5 0 _ [] _
  by_cases hex : ∃ n, n ≤ 24 ∧ rchF L hr0 (hr0 + 12) a n (b * 8 + b)
  · obtain ⟨n, hn24, hre, hnr⟩ := least_n hex
    refine v_aload_n hC (pc := 0) (k := 0) 0 rfl dX6_both_0 ?_
    refine v_getR hC (pc := 1) dX6_both_1 fl_X6_10 rfl (by first | rfl | exact ok_c hq rfl | exact ok_w hq hw | exact ok_w (by omega) (by omega) | exact ok_s (by omega) (by omega) | exact ok_c (by omega) rfl | assumption) rfl (by decide) (by decide) rfl ?_
    refine v_iload_n hC (pc := 4) (k := 1) 1 rfl dX6_both_4 ?_
    refine v_callV hC (pc := 5) (As := [_]) dX6_both_5 rfl (t_hasCorner_t _ _ (d := d - 1) (by omega) (q := 0) (by decide) _ (c := a) (by assumption) (by omega) hnc) cv_X6_105 rfl (by decide) rfl (by first | rfl | exact ok_c hq rfl | exact ok_w hq hw | exact ok_w (by omega) (by omega) | exact ok_s (by omega) (by omega) | exact ok_c (by omega) rfl | assumption) (Nat.le_of_ble_eq_true rfl) (by omega) (fun r h' hr => ?_)
    obtain ⟨he9, rfl⟩ := hr
    rw [he9]
    clear he9 h'
    show V _ _ _ (5 + 3) _ (_ :: _) _
    refine v_if_eq hC (pc := 8) (tgt := 37) dX6_both_8 (by decide) (fun c_8 => ?_) (fun c_8 => ?_)
    · exact absurd c_8 (by decide)
    · skip
      refine v_aload_n hC (pc := 11) (k := 0) 0 rfl dX6_both_11 ?_
      refine v_getR hC (pc := 12) dX6_both_12 fl_X6_10 rfl (by first | rfl | exact ok_c hq rfl | exact ok_w hq hw | exact ok_w (by omega) (by omega) | exact ok_s (by omega) (by omega) | exact ok_c (by omega) rfl | assumption) rfl (by decide) (by decide) rfl ?_
      refine v_iload_n hC (pc := 15) (k := 2) 2 rfl dX6_both_15 ?_
      refine v_callV hC (pc := 16) (As := [_]) dX6_both_16 rfl (t_hasCorner_t _ _ (d := d - 1) (by omega) (q := 0) (by decide) _ (c := b) (by assumption) (by omega) hnc) cv_X6_105 rfl (by decide) rfl (by first | rfl | exact ok_c hq rfl | exact ok_w hq hw | exact ok_w (by omega) (by omega) | exact ok_s (by omega) (by omega) | exact ok_c (by omega) rfl | assumption) (Nat.le_of_ble_eq_true rfl) (by omega) (fun r h' hr => ?_)
      obtain ⟨he9, rfl⟩ := hr
      rw [he9]
      clear he9 h'
      show V _ _ _ (16 + 3) _ (_ :: _) _
      refine v_if_eq hC (pc := 19) (tgt := 37) dX6_both_19 (by decide) (fun c_19 => ?_) (fun c_19 => ?_)
      · exact absurd c_19 (by decide)
      · skip
        refine v_iload_n hC (pc := 22) (k := 3) 3 rfl dX6_both_22 ?_
        refine v_callS hC (pc := 23) (As := [_]) dX6_both_23 rfl (t_isHour_t _ _ (d := d - 1) (by omega) _ (s := hr0) (by assumption)) cs_X6_144 (Nat.le_of_ble_eq_true rfl) (by omega) (fun r h' hr => ?_)
        obtain ⟨he9, rfl⟩ := hr
        rw [he9]
        clear he9 h'
        show V _ _ _ (23 + 3) _ (_ :: _) _
        refine v_if_eq hC (pc := 26) (tgt := 37) dX6_both_26 (by decide) (fun c_26 => ?_) (fun c_26 => ?_)
        · exact absurd c_26 (by decide)
        · skip
          refine v_iload hC (pc := 29) 4 rfl dX6_both_29 ?_
          refine v_callS hC (pc := 31) (As := [_]) dX6_both_31 rfl (t_isWordAsk _ _ (d := d - 1) (by omega) _ _) cs_X6_187 (Nat.le_of_ble_eq_true rfl) (by omega) (fun r h' hr => ?_)
          obtain ⟨he9, rfl⟩ := hr
          rw [he9, bI_t (Or.inl rfl)]
          clear he9 h'
          show V _ _ _ (31 + 3) _ (_ :: _) _
          refine v_if_ne hC (pc := 34) (tgt := 39) dX6_both_34 (by decide) (fun c_34 => ?_) (fun c_34 => ?_)
          · skip
            refine v_aload_n hC (pc := 39) (k := 0) 0 rfl dX6_both_39 ?_
            refine v_iload_n hC (pc := 40) (k := 1) 1 rfl dX6_both_40 ?_
            refine v_iload_n hC (pc := 41) (k := 2) 2 rfl dX6_both_41 ?_
            refine v_iload_n hC (pc := 42) (k := 3) 3 rfl dX6_both_42 ?_
            refine v_iload_n hC (pc := 43) (k := 3) 3 rfl dX6_both_43 ?_
            refine v_bipush hC (pc := 44) (v := 12) (by decide +kernel) dX6_both_44 ?_
            refine v_iadd hC (pc := 46) dX6_both_46 ?_
            refine v_iload hC (pc := 47) 4 rfl dX6_both_47 ?_
            rw [show nI hr0 + 12 = nI (hr0 + 12) from nI_add hr0 12]
            refine v_callV hC (pc := 49) (As := [_, _, _, _, _]) dX6_both_49 rfl (k_ask_0 _ _ (d := d - 1) (by omega) _ hL (hr0 := hr0) (ohr := (hr0 + 12)) (by omega) (by omega) (a := a) (b := b) (by omega) (by omega) hn24 hre hnr) cv_X6_190 rfl (by decide) rfl (by first | rfl | exact ok_c hq rfl | exact ok_w hq hw | exact ok_w (by omega) (by omega) | exact ok_s (by omega) (by omega) | exact ok_c (by omega) rfl | assumption) (Nat.le_of_ble_eq_true rfl) (by omega) (fun r h' hr => ?_)
            obtain ⟨rfl, hfr⟩ := hr
            show V _ _ _ (49 + 3) _ (_ :: _) _
            refine v_iret hC hX (pc := 52) dX6_both_52 ?_
            exact ⟨hfr, Or.inl ⟨n, hn24, hre, hnr, rfl⟩⟩
          · exact absurd c_34 (by decide)
  · have hnr : ∀ k, k ≤ 24 → ¬ rchF L hr0 (hr0 + 12) a k (b * 8 + b) := fun k hk z => hex ⟨k, hk, z⟩
    refine v_aload_n hC (pc := 0) (k := 0) 0 rfl dX6_both_0 ?_
    refine v_getR hC (pc := 1) dX6_both_1 fl_X6_10 rfl (by first | rfl | exact ok_c hq rfl | exact ok_w hq hw | exact ok_w (by omega) (by omega) | exact ok_s (by omega) (by omega) | exact ok_c (by omega) rfl | assumption) rfl (by decide) (by decide) rfl ?_
    refine v_iload_n hC (pc := 4) (k := 1) 1 rfl dX6_both_4 ?_
    refine v_callV hC (pc := 5) (As := [_]) dX6_both_5 rfl (t_hasCorner_t _ _ (d := d - 1) (by omega) (q := 0) (by decide) _ (c := a) (by assumption) (by omega) hnc) cv_X6_105 rfl (by decide) rfl (by first | rfl | exact ok_c hq rfl | exact ok_w hq hw | exact ok_w (by omega) (by omega) | exact ok_s (by omega) (by omega) | exact ok_c (by omega) rfl | assumption) (Nat.le_of_ble_eq_true rfl) (by omega) (fun r h' hr => ?_)
    obtain ⟨he9, rfl⟩ := hr
    rw [he9]
    clear he9 h'
    show V _ _ _ (5 + 3) _ (_ :: _) _
    refine v_if_eq hC (pc := 8) (tgt := 37) dX6_both_8 (by decide) (fun c_8 => ?_) (fun c_8 => ?_)
    · exact absurd c_8 (by decide)
    · skip
      refine v_aload_n hC (pc := 11) (k := 0) 0 rfl dX6_both_11 ?_
      refine v_getR hC (pc := 12) dX6_both_12 fl_X6_10 rfl (by first | rfl | exact ok_c hq rfl | exact ok_w hq hw | exact ok_w (by omega) (by omega) | exact ok_s (by omega) (by omega) | exact ok_c (by omega) rfl | assumption) rfl (by decide) (by decide) rfl ?_
      refine v_iload_n hC (pc := 15) (k := 2) 2 rfl dX6_both_15 ?_
      refine v_callV hC (pc := 16) (As := [_]) dX6_both_16 rfl (t_hasCorner_t _ _ (d := d - 1) (by omega) (q := 0) (by decide) _ (c := b) (by assumption) (by omega) hnc) cv_X6_105 rfl (by decide) rfl (by first | rfl | exact ok_c hq rfl | exact ok_w hq hw | exact ok_w (by omega) (by omega) | exact ok_s (by omega) (by omega) | exact ok_c (by omega) rfl | assumption) (Nat.le_of_ble_eq_true rfl) (by omega) (fun r h' hr => ?_)
      obtain ⟨he9, rfl⟩ := hr
      rw [he9]
      clear he9 h'
      show V _ _ _ (16 + 3) _ (_ :: _) _
      refine v_if_eq hC (pc := 19) (tgt := 37) dX6_both_19 (by decide) (fun c_19 => ?_) (fun c_19 => ?_)
      · exact absurd c_19 (by decide)
      · skip
        refine v_iload_n hC (pc := 22) (k := 3) 3 rfl dX6_both_22 ?_
        refine v_callS hC (pc := 23) (As := [_]) dX6_both_23 rfl (t_isHour_t _ _ (d := d - 1) (by omega) _ (s := hr0) (by assumption)) cs_X6_144 (Nat.le_of_ble_eq_true rfl) (by omega) (fun r h' hr => ?_)
        obtain ⟨he9, rfl⟩ := hr
        rw [he9]
        clear he9 h'
        show V _ _ _ (23 + 3) _ (_ :: _) _
        refine v_if_eq hC (pc := 26) (tgt := 37) dX6_both_26 (by decide) (fun c_26 => ?_) (fun c_26 => ?_)
        · exact absurd c_26 (by decide)
        · skip
          refine v_iload hC (pc := 29) 4 rfl dX6_both_29 ?_
          refine v_callS hC (pc := 31) (As := [_]) dX6_both_31 rfl (t_isWordAsk _ _ (d := d - 1) (by omega) _ _) cs_X6_187 (Nat.le_of_ble_eq_true rfl) (by omega) (fun r h' hr => ?_)
          obtain ⟨he9, rfl⟩ := hr
          rw [he9, bI_t (Or.inl rfl)]
          clear he9 h'
          show V _ _ _ (31 + 3) _ (_ :: _) _
          refine v_if_ne hC (pc := 34) (tgt := 39) dX6_both_34 (by decide) (fun c_34 => ?_) (fun c_34 => ?_)
          · skip
            refine v_aload_n hC (pc := 39) (k := 0) 0 rfl dX6_both_39 ?_
            refine v_iload_n hC (pc := 40) (k := 1) 1 rfl dX6_both_40 ?_
            refine v_iload_n hC (pc := 41) (k := 2) 2 rfl dX6_both_41 ?_
            refine v_iload_n hC (pc := 42) (k := 3) 3 rfl dX6_both_42 ?_
            refine v_iload_n hC (pc := 43) (k := 3) 3 rfl dX6_both_43 ?_
            refine v_bipush hC (pc := 44) (v := 12) (by decide +kernel) dX6_both_44 ?_
            refine v_iadd hC (pc := 46) dX6_both_46 ?_
            refine v_iload hC (pc := 47) 4 rfl dX6_both_47 ?_
            rw [show nI hr0 + 12 = nI (hr0 + 12) from nI_add hr0 12]
            refine v_callV hC (pc := 49) (As := [_, _, _, _, _]) dX6_both_49 rfl (k_ask_n _ _ (d := d - 1) (by omega) _ hL (hr0 := hr0) (ohr := (hr0 + 12)) (by omega) (by omega) (a := a) (b := b) (by omega) (by omega) (0) hnr) cv_X6_190 rfl (by decide) rfl (by first | rfl | exact ok_c hq rfl | exact ok_w hq hw | exact ok_w (by omega) (by omega) | exact ok_s (by omega) (by omega) | exact ok_c (by omega) rfl | assumption) (Nat.le_of_ble_eq_true rfl) (by omega) (fun r h' hr => ?_)
            obtain ⟨rfl, hfr⟩ := hr
            show V _ _ _ (49 + 3) _ (_ :: _) _
            refine v_iret hC hX (pc := 52) dX6_both_52 ?_
            exact ⟨hfr, Or.inr ⟨rfl, hnr⟩⟩
          · exact absurd c_34 (by decide)

set_option maxRecDepth 20000 in
set_option maxHeartbeats 2000000 in
theorem k_both_i (l9 : Launch) (G : WT) {d : Nat} (hd : 7 ≤ d) (h : HP) {nC : Nat} (hn8 : nC ≤ 8) (hnc : h.1 (0, 0, 0) 0 = nI nC) {L : Nat → Nat → Nat → Option Nat} (hL : LdOK (h.1 (0, 0, 6)) (h.1 (0, 0, 0) 1) L) {hr0 : Nat} (hh : hr0 < 24) {a b : Nat} (hac : a < nC) (hbc : b < nC) {i : Nat} (hi : i < 24) : MS l9 G yX6_both cX6_both 5 (some .int) d [vr (1, 0, 0), vi (nI a), vi (nI b), vi (nI hr0), vi (nI (10 + i))] h (fun r h1 => FrW h h1 ∧ wyR L hr0 (hr0 + 12) a b (fun n => ltV L hr0 (hr0 + 12) a (b * 8 + b) n i) r) := by
  refine MS_of (by decide +kernel) (Nat.le_of_ble_eq_true rfl) (fun X hC hX => ?_)
  show V X G 5 0 _ [] _
  by_cases hex : ∃ n, n ≤ 24 ∧ rchF L hr0 (hr0 + 12) a n (b * 8 + b)
  · obtain ⟨n, hn24, hre, hnr⟩ := least_n hex
    by_cases hin : i < n
    · skip
      refine v_aload_n hC (pc := 0) (k := 0) 0 rfl dX6_both_0 ?_
      refine v_getR hC (pc := 1) dX6_both_1 fl_X6_10 rfl (by first | rfl | exact ok_c hq rfl | exact ok_w hq hw | exact ok_w (by omega) (by omega) | exact ok_s (by omega) (by omega) | exact ok_c (by omega) rfl | assumption) rfl (by decide) (by decide) rfl ?_
      refine v_iload_n hC (pc := 4) (k := 1) 1 rfl dX6_both_4 ?_
      refine v_callV hC (pc := 5) (As := [_]) dX6_both_5 rfl (t_hasCorner_t _ _ (d := d - 1) (by omega) (q := 0) (by decide) _ (c := a) (by assumption) (by omega) hnc) cv_X6_105 rfl (by decide) rfl (by first | rfl | exact ok_c hq rfl | exact ok_w hq hw | exact ok_w (by omega) (by omega) | exact ok_s (by omega) (by omega) | exact ok_c (by omega) rfl | assumption) (Nat.le_of_ble_eq_true rfl) (by omega) (fun r h' hr => ?_)
      obtain ⟨he9, rfl⟩ := hr
      rw [he9]
      clear he9 h'
      show V _ _ _ (5 + 3) _ (_ :: _) _
      refine v_if_eq hC (pc := 8) (tgt := 37) dX6_both_8 (by decide) (fun c_8 => ?_) (fun c_8 => ?_)
      · exact absurd c_8 (by decide)
      · skip
        refine v_aload_n hC (pc := 11) (k := 0) 0 rfl dX6_both_11 ?_
        refine v_getR hC (pc := 12) dX6_both_12 fl_X6_10 rfl (by first | rfl | exact ok_c hq rfl | exact ok_w hq hw | exact ok_w (by omega) (by omega) | exact ok_s (by omega) (by omega) | exact ok_c (by omega) rfl | assumption) rfl (by decide) (by decide) rfl ?_
        refine v_iload_n hC (pc := 15) (k := 2) 2 rfl dX6_both_15 ?_
        refine v_callV hC (pc := 16) (As := [_]) dX6_both_16 rfl (t_hasCorner_t _ _ (d := d - 1) (by omega) (q := 0) (by decide) _ (c := b) (by assumption) (by omega) hnc) cv_X6_105 rfl (by decide) rfl (by first | rfl | exact ok_c hq rfl | exact ok_w hq hw | exact ok_w (by omega) (by omega) | exact ok_s (by omega) (by omega) | exact ok_c (by omega) rfl | assumption) (Nat.le_of_ble_eq_true rfl) (by omega) (fun r h' hr => ?_)
        obtain ⟨he9, rfl⟩ := hr
        rw [he9]
        clear he9 h'
        show V _ _ _ (16 + 3) _ (_ :: _) _
        refine v_if_eq hC (pc := 19) (tgt := 37) dX6_both_19 (by decide) (fun c_19 => ?_) (fun c_19 => ?_)
        · exact absurd c_19 (by decide)
        · skip
          refine v_iload_n hC (pc := 22) (k := 3) 3 rfl dX6_both_22 ?_
          refine v_callS hC (pc := 23) (As := [_]) dX6_both_23 rfl (t_isHour_t _ _ (d := d - 1) (by omega) _ (s := hr0) (by assumption)) cs_X6_144 (Nat.le_of_ble_eq_true rfl) (by omega) (fun r h' hr => ?_)
          obtain ⟨he9, rfl⟩ := hr
          rw [he9]
          clear he9 h'
          show V _ _ _ (23 + 3) _ (_ :: _) _
          refine v_if_eq hC (pc := 26) (tgt := 37) dX6_both_26 (by decide) (fun c_26 => ?_) (fun c_26 => ?_)
          · exact absurd c_26 (by decide)
          · skip
            refine v_iload hC (pc := 29) 4 rfl dX6_both_29 ?_
            refine v_callS hC (pc := 31) (As := [_]) dX6_both_31 rfl (t_isWordAsk _ _ (d := d - 1) (by omega) _ _) cs_X6_187 (Nat.le_of_ble_eq_true rfl) (by omega) (fun r h' hr => ?_)
            obtain ⟨he9, rfl⟩ := hr
            rw [he9, bI_t (Or.inr ⟨nI_nlt (show 10 ≤ 10 + i by omega) (by omega), nI_ge (show 10 + i < 34 by omega) (by decide)⟩)]
            clear he9 h'
            show V _ _ _ (31 + 3) _ (_ :: _) _
            refine v_if_ne hC (pc := 34) (tgt := 39) dX6_both_34 (by decide) (fun c_34 => ?_) (fun c_34 => ?_)
            · skip
              refine v_aload_n hC (pc := 39) (k := 0) 0 rfl dX6_both_39 ?_
              refine v_iload_n hC (pc := 40) (k := 1) 1 rfl dX6_both_40 ?_
              refine v_iload_n hC (pc := 41) (k := 2) 2 rfl dX6_both_41 ?_
              refine v_iload_n hC (pc := 42) (k := 3) 3 rfl dX6_both_42 ?_
              refine v_iload_n hC (pc := 43) (k := 3) 3 rfl dX6_both_43 ?_
              refine v_bipush hC (pc := 44) (v := 12) (by decide +kernel) dX6_both_44 ?_
              refine v_iadd hC (pc := 46) dX6_both_46 ?_
              refine v_iload hC (pc := 47) 4 rfl dX6_both_47 ?_
              rw [show nI hr0 + 12 = nI (hr0 + 12) from nI_add hr0 12]
              refine v_callV hC (pc := 49) (As := [_, _, _, _, _]) dX6_both_49 rfl (k_ask_i _ _ (d := d - 1) (by omega) _ hL (hr0 := hr0) (ohr := (hr0 + 12)) (by omega) (by omega) (a := a) (b := b) (by omega) (by omega) hn24 hre hnr hin) cv_X6_190 rfl (by decide) rfl (by first | rfl | exact ok_c hq rfl | exact ok_w hq hw | exact ok_w (by omega) (by omega) | exact ok_s (by omega) (by omega) | exact ok_c (by omega) rfl | assumption) (Nat.le_of_ble_eq_true rfl) (by omega) (fun r h' hr => ?_)
              obtain ⟨rfl, hfr⟩ := hr
              show V _ _ _ (49 + 3) _ (_ :: _) _
              refine v_iret hC hX (pc := 52) dX6_both_52 ?_
              exact ⟨hfr, Or.inl ⟨n, hn24, hre, hnr, by unfold ltV; dsimp only; rw [if_pos hin]⟩⟩
            · exact absurd c_34 (by decide)
    · skip
      refine v_aload_n hC (pc := 0) (k := 0) 0 rfl dX6_both_0 ?_
      refine v_getR hC (pc := 1) dX6_both_1 fl_X6_10 rfl (by first | rfl | exact ok_c hq rfl | exact ok_w hq hw | exact ok_w (by omega) (by omega) | exact ok_s (by omega) (by omega) | exact ok_c (by omega) rfl | assumption) rfl (by decide) (by decide) rfl ?_
      refine v_iload_n hC (pc := 4) (k := 1) 1 rfl dX6_both_4 ?_
      refine v_callV hC (pc := 5) (As := [_]) dX6_both_5 rfl (t_hasCorner_t _ _ (d := d - 1) (by omega) (q := 0) (by decide) _ (c := a) (by assumption) (by omega) hnc) cv_X6_105 rfl (by decide) rfl (by first | rfl | exact ok_c hq rfl | exact ok_w hq hw | exact ok_w (by omega) (by omega) | exact ok_s (by omega) (by omega) | exact ok_c (by omega) rfl | assumption) (Nat.le_of_ble_eq_true rfl) (by omega) (fun r h' hr => ?_)
      obtain ⟨he9, rfl⟩ := hr
      rw [he9]
      clear he9 h'
      show V _ _ _ (5 + 3) _ (_ :: _) _
      refine v_if_eq hC (pc := 8) (tgt := 37) dX6_both_8 (by decide) (fun c_8 => ?_) (fun c_8 => ?_)
      · exact absurd c_8 (by decide)
      · skip
        refine v_aload_n hC (pc := 11) (k := 0) 0 rfl dX6_both_11 ?_
        refine v_getR hC (pc := 12) dX6_both_12 fl_X6_10 rfl (by first | rfl | exact ok_c hq rfl | exact ok_w hq hw | exact ok_w (by omega) (by omega) | exact ok_s (by omega) (by omega) | exact ok_c (by omega) rfl | assumption) rfl (by decide) (by decide) rfl ?_
        refine v_iload_n hC (pc := 15) (k := 2) 2 rfl dX6_both_15 ?_
        refine v_callV hC (pc := 16) (As := [_]) dX6_both_16 rfl (t_hasCorner_t _ _ (d := d - 1) (by omega) (q := 0) (by decide) _ (c := b) (by assumption) (by omega) hnc) cv_X6_105 rfl (by decide) rfl (by first | rfl | exact ok_c hq rfl | exact ok_w hq hw | exact ok_w (by omega) (by omega) | exact ok_s (by omega) (by omega) | exact ok_c (by omega) rfl | assumption) (Nat.le_of_ble_eq_true rfl) (by omega) (fun r h' hr => ?_)
        obtain ⟨he9, rfl⟩ := hr
        rw [he9]
        clear he9 h'
        show V _ _ _ (16 + 3) _ (_ :: _) _
        refine v_if_eq hC (pc := 19) (tgt := 37) dX6_both_19 (by decide) (fun c_19 => ?_) (fun c_19 => ?_)
        · exact absurd c_19 (by decide)
        · skip
          refine v_iload_n hC (pc := 22) (k := 3) 3 rfl dX6_both_22 ?_
          refine v_callS hC (pc := 23) (As := [_]) dX6_both_23 rfl (t_isHour_t _ _ (d := d - 1) (by omega) _ (s := hr0) (by assumption)) cs_X6_144 (Nat.le_of_ble_eq_true rfl) (by omega) (fun r h' hr => ?_)
          obtain ⟨he9, rfl⟩ := hr
          rw [he9]
          clear he9 h'
          show V _ _ _ (23 + 3) _ (_ :: _) _
          refine v_if_eq hC (pc := 26) (tgt := 37) dX6_both_26 (by decide) (fun c_26 => ?_) (fun c_26 => ?_)
          · exact absurd c_26 (by decide)
          · skip
            refine v_iload hC (pc := 29) 4 rfl dX6_both_29 ?_
            refine v_callS hC (pc := 31) (As := [_]) dX6_both_31 rfl (t_isWordAsk _ _ (d := d - 1) (by omega) _ _) cs_X6_187 (Nat.le_of_ble_eq_true rfl) (by omega) (fun r h' hr => ?_)
            obtain ⟨he9, rfl⟩ := hr
            rw [he9, bI_t (Or.inr ⟨nI_nlt (show 10 ≤ 10 + i by omega) (by omega), nI_ge (show 10 + i < 34 by omega) (by decide)⟩)]
            clear he9 h'
            show V _ _ _ (31 + 3) _ (_ :: _) _
            refine v_if_ne hC (pc := 34) (tgt := 39) dX6_both_34 (by decide) (fun c_34 => ?_) (fun c_34 => ?_)
            · skip
              refine v_aload_n hC (pc := 39) (k := 0) 0 rfl dX6_both_39 ?_
              refine v_iload_n hC (pc := 40) (k := 1) 1 rfl dX6_both_40 ?_
              refine v_iload_n hC (pc := 41) (k := 2) 2 rfl dX6_both_41 ?_
              refine v_iload_n hC (pc := 42) (k := 3) 3 rfl dX6_both_42 ?_
              refine v_iload_n hC (pc := 43) (k := 3) 3 rfl dX6_both_43 ?_
              refine v_bipush hC (pc := 44) (v := 12) (by decide +kernel) dX6_both_44 ?_
              refine v_iadd hC (pc := 46) dX6_both_46 ?_
              refine v_iload hC (pc := 47) 4 rfl dX6_both_47 ?_
              rw [show nI hr0 + 12 = nI (hr0 + 12) from nI_add hr0 12]
              refine v_callV hC (pc := 49) (As := [_, _, _, _, _]) dX6_both_49 rfl (k_ask_j _ _ (d := d - 1) (by omega) _ hL (hr0 := hr0) (ohr := (hr0 + 12)) (by omega) (by omega) (a := a) (b := b) (by omega) (by omega) hn24 hre hnr hi hin) cv_X6_190 rfl (by decide) rfl (by first | rfl | exact ok_c hq rfl | exact ok_w hq hw | exact ok_w (by omega) (by omega) | exact ok_s (by omega) (by omega) | exact ok_c (by omega) rfl | assumption) (Nat.le_of_ble_eq_true rfl) (by omega) (fun r h' hr => ?_)
              obtain ⟨rfl, hfr⟩ := hr
              show V _ _ _ (49 + 3) _ (_ :: _) _
              refine v_iret hC hX (pc := 52) dX6_both_52 ?_
              exact ⟨hfr, Or.inl ⟨n, hn24, hre, hnr, by unfold ltV; dsimp only; rw [if_neg hin]⟩⟩
            · exact absurd c_34 (by decide)
  · have hnr : ∀ k, k ≤ 24 → ¬ rchF L hr0 (hr0 + 12) a k (b * 8 + b) := fun k hk z => hex ⟨k, hk, z⟩
    refine v_aload_n hC (pc := 0) (k := 0) 0 rfl dX6_both_0 ?_
    refine v_getR hC (pc := 1) dX6_both_1 fl_X6_10 rfl (by first | rfl | exact ok_c hq rfl | exact ok_w hq hw | exact ok_w (by omega) (by omega) | exact ok_s (by omega) (by omega) | exact ok_c (by omega) rfl | assumption) rfl (by decide) (by decide) rfl ?_
    refine v_iload_n hC (pc := 4) (k := 1) 1 rfl dX6_both_4 ?_
    refine v_callV hC (pc := 5) (As := [_]) dX6_both_5 rfl (t_hasCorner_t _ _ (d := d - 1) (by omega) (q := 0) (by decide) _ (c := a) (by assumption) (by omega) hnc) cv_X6_105 rfl (by decide) rfl (by first | rfl | exact ok_c hq rfl | exact ok_w hq hw | exact ok_w (by omega) (by omega) | exact ok_s (by omega) (by omega) | exact ok_c (by omega) rfl | assumption) (Nat.le_of_ble_eq_true rfl) (by omega) (fun r h' hr => ?_)
    obtain ⟨he9, rfl⟩ := hr
    rw [he9]
    clear he9 h'
    show V _ _ _ (5 + 3) _ (_ :: _) _
    refine v_if_eq hC (pc := 8) (tgt := 37) dX6_both_8 (by decide) (fun c_8 => ?_) (fun c_8 => ?_)
    · exact absurd c_8 (by decide)
    · skip
      refine v_aload_n hC (pc := 11) (k := 0) 0 rfl dX6_both_11 ?_
      refine v_getR hC (pc := 12) dX6_both_12 fl_X6_10 rfl (by first | rfl | exact ok_c hq rfl | exact ok_w hq hw | exact ok_w (by omega) (by omega) | exact ok_s (by omega) (by omega) | exact ok_c (by omega) rfl | assumption) rfl (by decide) (by decide) rfl ?_
      refine v_iload_n hC (pc := 15) (k := 2) 2 rfl dX6_both_15 ?_
      refine v_callV hC (pc := 16) (As := [_]) dX6_both_16 rfl (t_hasCorner_t _ _ (d := d - 1) (by omega) (q := 0) (by decide) _ (c := b) (by assumption) (by omega) hnc) cv_X6_105 rfl (by decide) rfl (by first | rfl | exact ok_c hq rfl | exact ok_w hq hw | exact ok_w (by omega) (by omega) | exact ok_s (by omega) (by omega) | exact ok_c (by omega) rfl | assumption) (Nat.le_of_ble_eq_true rfl) (by omega) (fun r h' hr => ?_)
      obtain ⟨he9, rfl⟩ := hr
      rw [he9]
      clear he9 h'
      show V _ _ _ (16 + 3) _ (_ :: _) _
      refine v_if_eq hC (pc := 19) (tgt := 37) dX6_both_19 (by decide) (fun c_19 => ?_) (fun c_19 => ?_)
      · exact absurd c_19 (by decide)
      · skip
        refine v_iload_n hC (pc := 22) (k := 3) 3 rfl dX6_both_22 ?_
        refine v_callS hC (pc := 23) (As := [_]) dX6_both_23 rfl (t_isHour_t _ _ (d := d - 1) (by omega) _ (s := hr0) (by assumption)) cs_X6_144 (Nat.le_of_ble_eq_true rfl) (by omega) (fun r h' hr => ?_)
        obtain ⟨he9, rfl⟩ := hr
        rw [he9]
        clear he9 h'
        show V _ _ _ (23 + 3) _ (_ :: _) _
        refine v_if_eq hC (pc := 26) (tgt := 37) dX6_both_26 (by decide) (fun c_26 => ?_) (fun c_26 => ?_)
        · exact absurd c_26 (by decide)
        · skip
          refine v_iload hC (pc := 29) 4 rfl dX6_both_29 ?_
          refine v_callS hC (pc := 31) (As := [_]) dX6_both_31 rfl (t_isWordAsk _ _ (d := d - 1) (by omega) _ _) cs_X6_187 (Nat.le_of_ble_eq_true rfl) (by omega) (fun r h' hr => ?_)
          obtain ⟨he9, rfl⟩ := hr
          rw [he9, bI_t (Or.inr ⟨nI_nlt (show 10 ≤ 10 + i by omega) (by omega), nI_ge (show 10 + i < 34 by omega) (by decide)⟩)]
          clear he9 h'
          show V _ _ _ (31 + 3) _ (_ :: _) _
          refine v_if_ne hC (pc := 34) (tgt := 39) dX6_both_34 (by decide) (fun c_34 => ?_) (fun c_34 => ?_)
          · skip
            refine v_aload_n hC (pc := 39) (k := 0) 0 rfl dX6_both_39 ?_
            refine v_iload_n hC (pc := 40) (k := 1) 1 rfl dX6_both_40 ?_
            refine v_iload_n hC (pc := 41) (k := 2) 2 rfl dX6_both_41 ?_
            refine v_iload_n hC (pc := 42) (k := 3) 3 rfl dX6_both_42 ?_
            refine v_iload_n hC (pc := 43) (k := 3) 3 rfl dX6_both_43 ?_
            refine v_bipush hC (pc := 44) (v := 12) (by decide +kernel) dX6_both_44 ?_
            refine v_iadd hC (pc := 46) dX6_both_46 ?_
            refine v_iload hC (pc := 47) 4 rfl dX6_both_47 ?_
            rw [show nI hr0 + 12 = nI (hr0 + 12) from nI_add hr0 12]
            refine v_callV hC (pc := 49) (As := [_, _, _, _, _]) dX6_both_49 rfl (k_ask_n _ _ (d := d - 1) (by omega) _ hL (hr0 := hr0) (ohr := (hr0 + 12)) (by omega) (by omega) (a := a) (b := b) (by omega) (by omega) (nI (10 + i)) hnr) cv_X6_190 rfl (by decide) rfl (by first | rfl | exact ok_c hq rfl | exact ok_w hq hw | exact ok_w (by omega) (by omega) | exact ok_s (by omega) (by omega) | exact ok_c (by omega) rfl | assumption) (Nat.le_of_ble_eq_true rfl) (by omega) (fun r h' hr => ?_)
            obtain ⟨rfl, hfr⟩ := hr
            show V _ _ _ (49 + 3) _ (_ :: _) _
            refine v_iret hC hX (pc := 52) dX6_both_52 ?_
            exact ⟨hfr, Or.inr ⟨rfl, hnr⟩⟩
          · exact absurd c_34 (by decide)

set_option maxRecDepth 20000 in
set_option maxHeartbeats 2000000 in
theorem k_both_bad (l9 : Launch) (G : WT) {d : Nat} (hd : 3 ≤ d) (h : HP) {nC : Nat} (hn8 : nC ≤ 8) (hnc : h.1 (0, 0, 0) 0 = nI nC) (a b t x : Int32) (hbad : ¬ ((¬ a < 0 ∧ ¬ nI nC ≤ a) ∧ (¬ b < 0 ∧ ¬ nI nC ≤ b) ∧ (¬ t < 0 ∧ ¬ 24 ≤ t) ∧ (x = 0 ∨ ¬ x < 10 ∧ ¬ 33 < x))) : MS l9 G yX6_both cX6_both 5 (some .int) d [vr (1, 0, 0), vi a, vi b, vi t, vi x] h (fun r h1 => h1 = h ∧ r = some (vi (-1))) := by
  refine MS_of (by decide +kernel) (Nat.le_of_ble_eq_true rfl) (fun X hC hX => ?_)
  show V X G 5 0 _ [] _
  refine v_aload_n hC (pc := 0) (k := 0) 0 rfl dX6_both_0 ?_
  refine v_getR hC (pc := 1) dX6_both_1 fl_X6_10 rfl (by first | rfl | exact ok_c hq rfl | exact ok_w hq hw | exact ok_w (by omega) (by omega) | exact ok_s (by omega) (by omega) | exact ok_c (by omega) rfl | assumption) rfl (by decide) (by decide) rfl ?_
  refine v_iload_n hC (pc := 4) (k := 1) 1 rfl dX6_both_4 ?_
  refine v_callV hC (pc := 5) (As := [_]) dX6_both_5 rfl (t_hasCorner _ _ (d := d - 1) (by omega) (q := 0) (by decide) _ _) cv_X6_105 rfl (by decide) rfl (by first | rfl | exact ok_c hq rfl | exact ok_w hq hw | exact ok_w (by omega) (by omega) | exact ok_s (by omega) (by omega) | exact ok_c (by omega) rfl | assumption) (Nat.le_of_ble_eq_true rfl) (by omega) (fun r h' hr => ?_)
  obtain ⟨he9, rfl⟩ := hr
  rw [he9, hnc]
  clear he9 h'
  show V _ _ _ (5 + 3) _ (_ :: _) _
  refine v_ifb_eq hC (pc := 8) (tgt := 37) dX6_both_8 (by decide) (fun c_8 => ?_) (fun c_8 => ?_)
  · skip
    refine v_iconst hC (pc := 37) (v := (-1)) (by decide) dX6_both_37 ?_
    refine v_iret hC hX (pc := 38) dX6_both_38 ?_
    exact ⟨rfl, rfl⟩
  · skip
    refine v_aload_n hC (pc := 11) (k := 0) 0 rfl dX6_both_11 ?_
    refine v_getR hC (pc := 12) dX6_both_12 fl_X6_10 rfl (by first | rfl | exact ok_c hq rfl | exact ok_w hq hw | exact ok_w (by omega) (by omega) | exact ok_s (by omega) (by omega) | exact ok_c (by omega) rfl | assumption) rfl (by decide) (by decide) rfl ?_
    refine v_iload_n hC (pc := 15) (k := 2) 2 rfl dX6_both_15 ?_
    refine v_callV hC (pc := 16) (As := [_]) dX6_both_16 rfl (t_hasCorner _ _ (d := d - 1) (by omega) (q := 0) (by decide) _ _) cv_X6_105 rfl (by decide) rfl (by first | rfl | exact ok_c hq rfl | exact ok_w hq hw | exact ok_w (by omega) (by omega) | exact ok_s (by omega) (by omega) | exact ok_c (by omega) rfl | assumption) (Nat.le_of_ble_eq_true rfl) (by omega) (fun r h' hr => ?_)
    obtain ⟨he9, rfl⟩ := hr
    rw [he9, hnc]
    clear he9 h'
    show V _ _ _ (16 + 3) _ (_ :: _) _
    refine v_ifb_eq hC (pc := 19) (tgt := 37) dX6_both_19 (by decide) (fun c_19 => ?_) (fun c_19 => ?_)
    · skip
      refine v_iconst hC (pc := 37) (v := (-1)) (by decide) dX6_both_37 ?_
      refine v_iret hC hX (pc := 38) dX6_both_38 ?_
      exact ⟨rfl, rfl⟩
    · skip
      refine v_iload_n hC (pc := 22) (k := 3) 3 rfl dX6_both_22 ?_
      refine v_callS hC (pc := 23) (As := [_]) dX6_both_23 rfl (t_isHour _ _ (d := d - 1) (by omega) _ _) cs_X6_144 (Nat.le_of_ble_eq_true rfl) (by omega) (fun r h' hr => ?_)
      obtain ⟨he9, rfl⟩ := hr
      rw [he9]
      clear he9 h'
      show V _ _ _ (23 + 3) _ (_ :: _) _
      refine v_ifb_eq hC (pc := 26) (tgt := 37) dX6_both_26 (by decide) (fun c_26 => ?_) (fun c_26 => ?_)
      · skip
        refine v_iconst hC (pc := 37) (v := (-1)) (by decide) dX6_both_37 ?_
        refine v_iret hC hX (pc := 38) dX6_both_38 ?_
        exact ⟨rfl, rfl⟩
      · skip
        refine v_iload hC (pc := 29) 4 rfl dX6_both_29 ?_
        refine v_callS hC (pc := 31) (As := [_]) dX6_both_31 rfl (t_isWordAsk _ _ (d := d - 1) (by omega) _ _) cs_X6_187 (Nat.le_of_ble_eq_true rfl) (by omega) (fun r h' hr => ?_)
        obtain ⟨he9, rfl⟩ := hr
        rw [he9]
        clear he9 h'
        show V _ _ _ (31 + 3) _ (_ :: _) _
        refine v_ifb_ne hC (pc := 34) (tgt := 39) dX6_both_34 (by decide) (fun c_34 => ?_) (fun c_34 => ?_)
        · skip
          exact absurd (show _ ∧ _ ∧ _ ∧ _ from ⟨c_8, c_19, c_26, c_34.elim Or.inl (fun z => Or.inr ⟨z.1, lt34 z.2⟩)⟩) hbad
        · skip
          refine v_iconst hC (pc := 37) (v := (-1)) (by decide) dX6_both_37 ?_
          refine v_iret hC hX (pc := 38) dX6_both_38 ?_
          exact ⟨rfl, rfl⟩

