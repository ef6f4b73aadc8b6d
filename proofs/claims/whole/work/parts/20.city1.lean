/-! CITY, WALKER: reads -/
set_option maxRecDepth 20000 in
set_option maxHeartbeats 2000000 in
theorem t_hasCorner (l9 : Launch) (G : WT) {d : Nat} (hd : 1 ≤ d) {q : Nat} (hq : q < 5) (h : HP) (c : Int32) : MS l9 G yX0_hasCorner cX0_hasCorner 2 (some .boolean) d [vr (0, q, 0), vi c] h (fun r h1 => h1 = h ∧ r = some (vi (bI (¬ c < 0 ∧ ¬ h.1 (0, q, 0) 0 ≤ c)))) := by
  refine MS_of (by decide +kernel) (Nat.le_of_ble_eq_true rfl) (fun X hC hX => ?_)
  show V X G 2 0 _ [] _
  refine v_iload_n hC (pc := 0) (k := 1) 1 rfl dX0_hasCorner_0 ?_
  refine v_if_lt hC (pc := 1) (tgt := 16) dX0_hasCorner_1 (by decide) (fun c_1 => ?_) (fun c_1 => ?_)
  · skip
    refine v_iconst hC (pc := 16) (v := 0) (by decide) dX0_hasCorner_16 ?_
    refine v_zret hC hX (pc := 17) dX0_hasCorner_17 (nar_b (by first | exact Or.inl rfl | exact Or.inr rfl | exact bI_01 _)) ?_
    first | (refine rb_t ?_; exact ⟨c_1⟩) | (refine rb_t ?_; simp only [c_1, not_true_eq_false, not_false_eq_true, and_self, and_true, true_and, and_false, false_and, or_true, true_or, or_false, false_or, if_true, if_false, ↓reduceIte, ite_true, ite_false]; done) | (refine rb_f ?_; simp only [c_1, not_true_eq_false, not_false_eq_true, and_self, and_true, true_and, and_false, false_and, or_true, true_or, or_false, false_or, if_true, if_false, ↓reduceIte, ite_true, ite_false]; done)
  · skip
    refine v_iload_n hC (pc := 4) (k := 1) 1 rfl dX0_hasCorner_4 ?_
    refine v_aload_n hC (pc := 5) (k := 0) 0 rfl dX0_hasCorner_5 ?_
    refine v_getI hC (pc := 6) dX0_hasCorner_6 fl_X0_40 rfl (by first | rfl | exact ok_c hq rfl | exact ok_w hq hw | exact ok_w (by omega) (by omega) | exact ok_s (by omega) (by omega) | exact ok_c (by omega) rfl | assumption) rfl (by decide) (by decide) ?_
    refine v_icmp_ge hC (pc := 9) (tgt := 16) dX0_hasCorner_9 (by decide) (fun c_9 => ?_) (fun c_9 => ?_)
    · skip
      refine v_iconst hC (pc := 16) (v := 0) (by decide) dX0_hasCorner_16 ?_
      refine v_zret hC hX (pc := 17) dX0_hasCorner_17 (nar_b (by first | exact Or.inl rfl | exact Or.inr rfl | exact bI_01 _)) ?_
      first | (refine rb_t ?_; exact ⟨c_1, c_9⟩) | (refine rb_t ?_; simp only [c_1, c_9, not_true_eq_false, not_false_eq_true, and_self, and_true, true_and, and_false, false_and, or_true, true_or, or_false, false_or, if_true, if_false, ↓reduceIte, ite_true, ite_false]; done) | (refine rb_f ?_; simp only [c_1, c_9, not_true_eq_false, not_false_eq_true, and_self, and_true, true_and, and_false, false_and, or_true, true_or, or_false, false_or, if_true, if_false, ↓reduceIte, ite_true, ite_false]; done)
    · skip
      refine v_iconst hC (pc := 12) (v := 1) (by decide) dX0_hasCorner_12 ?_
      refine v_goto hC (pc := 13) (tgt := 17) dX0_hasCorner_13 (by decide) ?_
      refine v_zret hC hX (pc := 17) dX0_hasCorner_17 (nar_b (by first | exact Or.inl rfl | exact Or.inr rfl | exact bI_01 _)) ?_
      first | (refine rb_t ?_; exact ⟨c_1, c_9⟩) | (refine rb_t ?_; simp only [c_1, c_9, not_true_eq_false, not_false_eq_true, and_self, and_true, true_and, and_false, false_and, or_true, true_or, or_false, false_or, if_true, if_false, ↓reduceIte, ite_true, ite_false]; done) | (refine rb_f ?_; simp only [c_1, c_9, not_true_eq_false, not_false_eq_true, and_self, and_true, true_and, and_false, false_and, or_true, true_or, or_false, false_or, if_true, if_false, ↓reduceIte, ite_true, ite_false]; done)

set_option maxRecDepth 20000 in
set_option maxHeartbeats 2000000 in
theorem t_hasWalker (l9 : Launch) (G : WT) {d : Nat} (hd : 1 ≤ d) {q : Nat} (hq : q < 5) (h : HP) (c : Int32) : MS l9 G yX0_hasWalker cX0_hasWalker 2 (some .boolean) d [vr (0, q, 0), vi c] h (fun r h1 => h1 = h ∧ r = some (vi (bI (¬ c < 0 ∧ ¬ h.1 (0, q, 0) 4 ≤ c)))) := by
  refine MS_of (by decide +kernel) (Nat.le_of_ble_eq_true rfl) (fun X hC hX => ?_)
  show V X G 2 0 _ [] _
  refine v_iload_n hC (pc := 0) (k := 1) 1 rfl dX0_hasWalker_0 ?_
  refine v_if_lt hC (pc := 1) (tgt := 16) dX0_hasWalker_1 (by decide) (fun c_1 => ?_) (fun c_1 => ?_)
  · skip
    refine v_iconst hC (pc := 16) (v := 0) (by decide) dX0_hasWalker_16 ?_
    refine v_zret hC hX (pc := 17) dX0_hasWalker_17 (nar_b (by first | exact Or.inl rfl | exact Or.inr rfl | exact bI_01 _)) ?_
    first | (refine rb_t ?_; exact ⟨c_1⟩) | (refine rb_t ?_; simp only [c_1, not_true_eq_false, not_false_eq_true, and_self, and_true, true_and, and_false, false_and, or_true, true_or, or_false, false_or, if_true, if_false, ↓reduceIte, ite_true, ite_false]; done) | (refine rb_f ?_; simp only [c_1, not_true_eq_false, not_false_eq_true, and_self, and_true, true_and, and_false, false_and, or_true, true_or, or_false, false_or, if_true, if_false, ↓reduceIte, ite_true, ite_false]; done)
  · skip
    refine v_iload_n hC (pc := 4) (k := 1) 1 rfl dX0_hasWalker_4 ?_
    refine v_aload_n hC (pc := 5) (k := 0) 0 rfl dX0_hasWalker_5 ?_
    refine v_getI hC (pc := 6) dX0_hasWalker_6 fl_X0_59 rfl (by first | rfl | exact ok_c hq rfl | exact ok_w hq hw | exact ok_w (by omega) (by omega) | exact ok_s (by omega) (by omega) | exact ok_c (by omega) rfl | assumption) rfl (by decide) (by decide) ?_
    refine v_icmp_ge hC (pc := 9) (tgt := 16) dX0_hasWalker_9 (by decide) (fun c_9 => ?_) (fun c_9 => ?_)
    · skip
      refine v_iconst hC (pc := 16) (v := 0) (by decide) dX0_hasWalker_16 ?_
      refine v_zret hC hX (pc := 17) dX0_hasWalker_17 (nar_b (by first | exact Or.inl rfl | exact Or.inr rfl | exact bI_01 _)) ?_
      first | (refine rb_t ?_; exact ⟨c_1, c_9⟩) | (refine rb_t ?_; simp only [c_1, c_9, not_true_eq_false, not_false_eq_true, and_self, and_true, true_and, and_false, false_and, or_true, true_or, or_false, false_or, if_true, if_false, ↓reduceIte, ite_true, ite_false]; done) | (refine rb_f ?_; simp only [c_1, c_9, not_true_eq_false, not_false_eq_true, and_self, and_true, true_and, and_false, false_and, or_true, true_or, or_false, false_or, if_true, if_false, ↓reduceIte, ite_true, ite_false]; done)
    · skip
      refine v_iconst hC (pc := 12) (v := 1) (by decide) dX0_hasWalker_12 ?_
      refine v_goto hC (pc := 13) (tgt := 17) dX0_hasWalker_13 (by decide) ?_
      refine v_zret hC hX (pc := 17) dX0_hasWalker_17 (nar_b (by first | exact Or.inl rfl | exact Or.inr rfl | exact bI_01 _)) ?_
      first | (refine rb_t ?_; exact ⟨c_1, c_9⟩) | (refine rb_t ?_; simp only [c_1, c_9, not_true_eq_false, not_false_eq_true, and_self, and_true, true_and, and_false, false_and, or_true, true_or, or_false, false_or, if_true, if_false, ↓reduceIte, ite_true, ite_false]; done) | (refine rb_f ?_; simp only [c_1, c_9, not_true_eq_false, not_false_eq_true, and_self, and_true, true_and, and_false, false_and, or_true, true_or, or_false, false_or, if_true, if_false, ↓reduceIte, ite_true, ite_false]; done)

set_option maxRecDepth 20000 in
set_option maxHeartbeats 2000000 in
theorem t_hasSign (l9 : Launch) (G : WT) {d : Nat} (hd : 1 ≤ d) {q : Nat} (hq : q < 5) (h : HP) (c : Int32) : MS l9 G yX0_hasSign cX0_hasSign 2 (some .boolean) d [vr (0, q, 0), vi c] h (fun r h1 => h1 = h ∧ r = some (vi (bI ((h.1 (0, q, 0) 1 >>> (c &&& 31)) &&& 1 = 1)))) := by
  refine MS_of (by decide +kernel) (Nat.le_of_ble_eq_true rfl) (fun X hC hX => ?_)
  show V X G 2 0 _ [] _
  refine v_aload_n hC (pc := 0) (k := 0) 0 rfl dX0_hasSign_0 ?_
  refine v_getI hC (pc := 1) dX0_hasSign_1 fl_X0_50 rfl (by first | rfl | exact ok_c hq rfl | exact ok_w hq hw | exact ok_w (by omega) (by omega) | exact ok_s (by omega) (by omega) | exact ok_c (by omega) rfl | assumption) rfl (by decide) (by decide) ?_
  refine v_iload_n hC (pc := 4) (k := 1) 1 rfl dX0_hasSign_4 ?_
  refine v_ishr hC (pc := 5) dX0_hasSign_5 ?_
  refine v_iconst hC (pc := 6) (v := 1) (by decide) dX0_hasSign_6 ?_
  refine v_iand hC (pc := 7) dX0_hasSign_7 ?_
  refine v_iconst hC (pc := 8) (v := 1) (by decide) dX0_hasSign_8 ?_
  refine v_icmp_ne hC (pc := 9) (tgt := 16) dX0_hasSign_9 (by decide) (fun c_9 => ?_) (fun c_9 => ?_)
  · skip
    refine v_iconst hC (pc := 16) (v := 0) (by decide) dX0_hasSign_16 ?_
    refine v_zret hC hX (pc := 17) dX0_hasSign_17 (nar_b (by first | exact Or.inl rfl | exact Or.inr rfl | exact bI_01 _)) ?_
    first | (refine rb_t ?_; exact ⟨c_9⟩) | (refine rb_t ?_; simp only [c_9, not_true_eq_false, not_false_eq_true, and_self, and_true, true_and, and_false, false_and, or_true, true_or, or_false, false_or, if_true, if_false, ↓reduceIte, ite_true, ite_false]; done) | (refine rb_f ?_; simp only [c_9, not_true_eq_false, not_false_eq_true, and_self, and_true, true_and, and_false, false_and, or_true, true_or, or_false, false_or, if_true, if_false, ↓reduceIte, ite_true, ite_false]; done)
  · skip
    refine v_iconst hC (pc := 12) (v := 1) (by decide) dX0_hasSign_12 ?_
    refine v_goto hC (pc := 13) (tgt := 17) dX0_hasSign_13 (by decide) ?_
    refine v_zret hC hX (pc := 17) dX0_hasSign_17 (nar_b (by first | exact Or.inl rfl | exact Or.inr rfl | exact bI_01 _)) ?_
    first | (refine rb_t ?_; exact ⟨c_9⟩) | (refine rb_t ?_; simp only [c_9, not_true_eq_false, not_false_eq_true, and_self, and_true, true_and, and_false, false_and, or_true, true_or, or_false, false_or, if_true, if_false, ↓reduceIte, ite_true, ite_false]; done) | (refine rb_f ?_; simp only [c_9, not_true_eq_false, not_false_eq_true, and_self, and_true, true_and, and_false, false_and, or_true, true_or, or_false, false_or, if_true, if_false, ↓reduceIte, ite_true, ite_false]; done)

/-- the street at a place -/
def strF (S : Nat → Int32) (at0 : Int32) : Int32 := if ¬ at0 < 0 ∧ ¬ 16 ≤ at0 then S at0.toNatClampNeg else -4
set_option maxRecDepth 20000 in
set_option maxHeartbeats 2000000 in
theorem t_streetOf (l9 : Launch) (G : WT) {d : Nat} (hd : 1 ≤ d) {q : Nat} (hq : q < 5) (h : HP) (c side : Int32) : MS l9 G yX0_streetOf cX0_streetOf 4 (some .int) d [vr (0, q, 0), vi c, vi side] h (fun r h1 => h1 = h ∧ r = some (vi (strF (h.1 (0, q, 6)) (2 * c + side)))) := by
  refine MS_of (by decide +kernel) (Nat.le_of_ble_eq_true rfl) (fun X hC hX => ?_)
  show V X G 4 0 _ [] _
  refine v_iconst hC (pc := 0) (v := 2) (by decide) dX0_streetOf_0 ?_
  refine v_iload_n hC (pc := 1) (k := 1) 1 rfl dX0_streetOf_1 ?_
  refine v_imul hC (pc := 2) dX0_streetOf_2 ?_
  refine v_iload_n hC (pc := 3) (k := 2) 2 rfl dX0_streetOf_3 ?_
  refine v_iadd hC (pc := 4) dX0_streetOf_4 ?_
  refine v_istore_n hC (pc := 5) (l' := [(3, _), (0, _), (1, _), (2, _)]) dX0_streetOf_5 (by decide) rfl ?_
  refine v_iload_n hC (pc := 6) (k := 3) 0 rfl dX0_streetOf_6 ?_
  refine v_if_lt hC (pc := 7) (tgt := 28) dX0_streetOf_7 (by decide) (fun c_7 => ?_) (fun c_7 => ?_)
  · skip
    refine v_bipush hC (pc := 28) (v := (-4)) (by decide +kernel) dX0_streetOf_28 ?_
    refine v_iret hC hX (pc := 30) dX0_streetOf_30 ?_
    exact ⟨rfl, by simp only [c_7, strF, not_true_eq_false, not_false_eq_true, and_self, and_true, true_and, and_false, false_and, or_true, true_or, or_false, false_or, if_true, if_false, ↓reduceIte, ite_true, ite_false]⟩
  · skip
    refine v_iload_n hC (pc := 10) (k := 3) 0 rfl dX0_streetOf_10 ?_
    refine v_aload_n hC (pc := 11) (k := 0) 1 rfl dX0_streetOf_11 ?_
    refine v_getR hC (pc := 12) dX0_streetOf_12 fl_X0_9 rfl (by first | rfl | exact ok_c hq rfl | exact ok_w hq hw | exact ok_w (by omega) (by omega) | exact ok_s (by omega) (by omega) | exact ok_c (by omega) rfl | assumption) rfl (by decide) (by decide) rfl ?_
    refine v_alen hC (pc := 15) 0 dX0_streetOf_15 rfl (fun _ => rfl) (by first | exact Or.inl rfl | exact Or.inr rfl) (by first | rfl | exact ok_c hq rfl | exact ok_w hq hw | exact ok_w (by omega) (by omega) | exact ok_s (by omega) (by omega) | exact ok_c (by omega) rfl | assumption) (v := 16) (by decide) ?_
    refine v_icmp_ge hC (pc := 16) (tgt := 28) dX0_streetOf_16 (by decide) (fun c_16 => ?_) (fun c_16 => ?_)
    · skip
      refine v_bipush hC (pc := 28) (v := (-4)) (by decide +kernel) dX0_streetOf_28 ?_
      refine v_iret hC hX (pc := 30) dX0_streetOf_30 ?_
      exact ⟨rfl, by simp only [c_7, c_16, strF, not_true_eq_false, not_false_eq_true, and_self, and_true, true_and, and_false, false_and, or_true, true_or, or_false, false_or, if_true, if_false, ↓reduceIte, ite_true, ite_false]⟩
    · skip
      refine v_aload_n hC (pc := 19) (k := 0) 1 rfl dX0_streetOf_19 ?_
      refine v_getR hC (pc := 20) dX0_streetOf_20 fl_X0_9 rfl (by first | rfl | exact ok_c hq rfl | exact ok_w hq hw | exact ok_w (by omega) (by omega) | exact ok_s (by omega) (by omega) | exact ok_c (by omega) rfl | assumption) rfl (by decide) (by decide) rfl ?_
      refine v_iload_n hC (pc := 23) (k := 3) 0 rfl dX0_streetOf_23 ?_
      refine v_iald hC (pc := 24) dX0_streetOf_24 rfl (by first | rfl | exact ok_c hq rfl | exact ok_w hq hw | exact ok_w (by omega) (by omega) | exact ok_s (by omega) (by omega) | exact ok_c (by omega) rfl | assumption) (vp_lt c_7 c_16 (by decide)) ?_
      refine v_goto hC (pc := 25) (tgt := 30) dX0_streetOf_25 (by decide) ?_
      refine v_iret hC hX (pc := 30) dX0_streetOf_30 ?_
      exact ⟨rfl, by simp only [c_7, c_16, strF, not_true_eq_false, not_false_eq_true, and_self, and_true, true_and, and_false, false_and, or_true, true_or, or_false, false_or, if_true, if_false, ↓reduceIte, ite_true, ite_false]⟩

set_option maxRecDepth 20000 in
set_option maxHeartbeats 2000000 in
theorem t_isTurned (l9 : Launch) (G : WT) {d : Nat} (hd : 1 ≤ d) (h : HP) (x : Int32) : MS l9 G yX6_isTurned cX6_isTurned 1 (some .boolean) d [vi x] h (fun r h1 => h1 = h ∧ r = some (vi (bI (¬ x - x / 24 * 24 < 12)))) := by
  refine MS_of (by decide +kernel) (Nat.le_of_ble_eq_true rfl) (fun X hC hX => ?_)
  show V X G 1 0 _ [] _
  refine v_iload_n hC (pc := 0) (k := 0) 0 rfl dX6_isTurned_0 ?_
  refine v_bipush hC (pc := 1) (v := 24) (by decide +kernel) dX6_isTurned_1 ?_
  refine v_irem hC (pc := 3) (by decide) dX6_isTurned_3 ?_
  refine v_bipush hC (pc := 4) (v := 12) (by decide +kernel) dX6_isTurned_4 ?_
  refine v_icmp_lt hC (pc := 6) (tgt := 13) dX6_isTurned_6 (by decide) (fun c_6 => ?_) (fun c_6 => ?_)
  · skip
    refine v_iconst hC (pc := 13) (v := 0) (by decide) dX6_isTurned_13 ?_
    refine v_zret hC hX (pc := 14) dX6_isTurned_14 (nar_b (by first | exact Or.inl rfl | exact Or.inr rfl | exact bI_01 _)) ?_
    first | (refine rb_t ?_; exact ⟨c_6⟩) | (refine rb_t ?_; simp only [c_6, not_true_eq_false, not_false_eq_true, and_self, and_true, true_and, and_false, false_and, or_true, true_or, or_false, false_or, if_true, if_false, ↓reduceIte, ite_true, ite_false]; done) | (refine rb_f ?_; simp only [c_6, not_true_eq_false, not_false_eq_true, and_self, and_true, true_and, and_false, false_and, or_true, true_or, or_false, false_or, if_true, if_false, ↓reduceIte, ite_true, ite_false]; done)
  · skip
    refine v_iconst hC (pc := 9) (v := 1) (by decide) dX6_isTurned_9 ?_
    refine v_goto hC (pc := 10) (tgt := 14) dX6_isTurned_10 (by decide) ?_
    refine v_zret hC hX (pc := 14) dX6_isTurned_14 (nar_b (by first | exact Or.inl rfl | exact Or.inr rfl | exact bI_01 _)) ?_
    first | (refine rb_t ?_; exact ⟨c_6⟩) | (refine rb_t ?_; simp only [c_6, not_true_eq_false, not_false_eq_true, and_self, and_true, true_and, and_false, false_and, or_true, true_or, or_false, false_or, if_true, if_false, ↓reduceIte, ite_true, ite_false]; done) | (refine rb_f ?_; simp only [c_6, not_true_eq_false, not_false_eq_true, and_self, and_true, true_and, and_false, false_and, or_true, true_or, or_false, false_or, if_true, if_false, ↓reduceIte, ite_true, ite_false]; done)

/-- the hour is turned -/
def trnF (x : Int32) : Prop := ¬ x - x / 24 * 24 < 12
/-- where one comes to, by streets and signs -/
def othF (sg c hour kp : Int32) : Prop := (¬ hour - hour / 24 * 24 < 12) ∧ kp = 0 ∧ ¬ (sg >>> (c &&& 31)) &&& 1 = 1
def ledF (S : Nat → Int32) (sg c side hour kp : Int32) : Int32 := strF S (2 * c + if (¬ hour - hour / 24 * 24 < 12) ∧ kp = 0 ∧ ¬ (sg >>> (c &&& 31)) &&& 1 = 1 then 1 - side else side)
set_option maxRecDepth 20000 in
set_option maxHeartbeats 2000000 in
theorem t_leadsTo (l9 : Launch) (G : WT) {d : Nat} (hd : 2 ≤ d) {q : Nat} (hq : q < 5) (h : HP) (c side hour kp : Int32) : MS l9 G yX0_leadsTo cX0_leadsTo 6 (some .int) d [vr (0, q, 0), vi c, vi side, vi hour, vi kp] h (fun r h1 => h1 = h ∧ r = some (vi (ledF (h.1 (0, q, 6)) (h.1 (0, q, 0) 1) c side hour kp))) := by
  refine MS_of (by decide +kernel) (Nat.le_of_ble_eq_true rfl) (fun X hC hX => ?_)
  show V X G 6 0 _ [] _
  refine v_iload_n hC (pc := 0) (k := 3) 3 rfl dX0_leadsTo_0 ?_
  refine v_callN hC (pc := 1) (As := [_]) dX0_leadsTo_1 rfl (t_isTurned _ _ (d := d - 1) (by omega) _ _) cn_X0_78 (Nat.le_of_ble_eq_true rfl) (by omega) (fun r h' hr => ?_)
  obtain ⟨rfl, rfl⟩ := hr
  show V _ _ _ (1 + 3) _ (_ :: _) _
  refine v_ifb_eq hC (pc := 4) (tgt := 24) dX0_leadsTo_4 (by decide) (fun c_4 => ?_) (fun c_4 => ?_)
  · skip
    refine v_iconst hC (pc := 24) (v := 0) (by decide) dX0_leadsTo_24 ?_
    refine v_istore hC (pc := 25) (l' := [(5, _), (0, _), (1, _), (2, _), (3, _), (4, _)]) dX0_leadsTo_25 (by decide) rfl ?_
    refine v_aload_n hC (pc := 27) (k := 0) 1 rfl dX0_leadsTo_27 ?_
    refine v_iload_n hC (pc := 28) (k := 1) 2 rfl dX0_leadsTo_28 ?_
    refine v_iload hC (pc := 29) 0 rfl dX0_leadsTo_29 ?_
    refine v_if_eq hC (pc := 31) (tgt := 40) dX0_leadsTo_31 (by decide) (fun c_31 => ?_) (fun c_31 => ?_)
    · skip
      refine v_iload_n hC (pc := 40) (k := 2) 3 rfl dX0_leadsTo_40 ?_
      refine v_callV hC (pc := 41) (As := [_, _]) dX0_leadsTo_41 rfl (t_streetOf _ _ (d := d - 1) (by omega) hq _ _ _) cv_X0_85 rfl (by decide) rfl (by first | rfl | exact ok_c hq rfl | exact ok_w hq hw | exact ok_w (by omega) (by omega) | exact ok_s (by omega) (by omega) | exact ok_c (by omega) rfl | assumption) (Nat.le_of_ble_eq_true rfl) (by omega) (fun r h' hr => ?_)
      obtain ⟨rfl, rfl⟩ := hr
      show V _ _ _ (41 + 3) _ (_ :: _) _
      refine v_iret hC hX (pc := 44) dX0_leadsTo_44 ?_
      exact ⟨rfl, by simp only [c_4, c_31, ledF, not_true_eq_false, not_false_eq_true, and_self, and_true, true_and, and_false, false_and, or_true, true_or, or_false, false_or, if_true, if_false, ↓reduceIte, ite_true, ite_false]⟩
    · exact absurd c_31 (by decide)
  · skip
    refine v_iload hC (pc := 7) 4 rfl dX0_leadsTo_7 ?_
    refine v_if_ne hC (pc := 9) (tgt := 24) dX0_leadsTo_9 (by decide) (fun c_9 => ?_) (fun c_9 => ?_)
    · skip
      refine v_iconst hC (pc := 24) (v := 0) (by decide) dX0_leadsTo_24 ?_
      refine v_istore hC (pc := 25) (l' := [(5, _), (0, _), (1, _), (2, _), (3, _), (4, _)]) dX0_leadsTo_25 (by decide) rfl ?_
      refine v_aload_n hC (pc := 27) (k := 0) 1 rfl dX0_leadsTo_27 ?_
      refine v_iload_n hC (pc := 28) (k := 1) 2 rfl dX0_leadsTo_28 ?_
      refine v_iload hC (pc := 29) 0 rfl dX0_leadsTo_29 ?_
      refine v_if_eq hC (pc := 31) (tgt := 40) dX0_leadsTo_31 (by decide) (fun c_31 => ?_) (fun c_31 => ?_)
      · skip
        refine v_iload_n hC (pc := 40) (k := 2) 3 rfl dX0_leadsTo_40 ?_
        refine v_callV hC (pc := 41) (As := [_, _]) dX0_leadsTo_41 rfl (t_streetOf _ _ (d := d - 1) (by omega) hq _ _ _) cv_X0_85 rfl (by decide) rfl (by first | rfl | exact ok_c hq rfl | exact ok_w hq hw | exact ok_w (by omega) (by omega) | exact ok_s (by omega) (by omega) | exact ok_c (by omega) rfl | assumption) (Nat.le_of_ble_eq_true rfl) (by omega) (fun r h' hr => ?_)
        obtain ⟨rfl, rfl⟩ := hr
        show V _ _ _ (41 + 3) _ (_ :: _) _
        refine v_iret hC hX (pc := 44) dX0_leadsTo_44 ?_
        exact ⟨rfl, by simp only [c_4, c_9, c_31, ledF, not_true_eq_false, not_false_eq_true, and_self, and_true, true_and, and_false, false_and, or_true, true_or, or_false, false_or, if_true, if_false, ↓reduceIte, ite_true, ite_false]⟩
      · exact absurd c_31 (by decide)
    · skip
      refine v_aload_n hC (pc := 12) (k := 0) 0 rfl dX0_leadsTo_12 ?_
      refine v_iload_n hC (pc := 13) (k := 1) 1 rfl dX0_leadsTo_13 ?_
      refine v_callV hC (pc := 14) (As := [_]) dX0_leadsTo_14 rfl (t_hasSign _ _ (d := d - 1) (by omega) hq _ _) cv_X0_82 rfl (by decide) rfl (by first | rfl | exact ok_c hq rfl | exact ok_w hq hw | exact ok_w (by omega) (by omega) | exact ok_s (by omega) (by omega) | exact ok_c (by omega) rfl | assumption) (Nat.le_of_ble_eq_true rfl) (by omega) (fun r h' hr => ?_)
      obtain ⟨rfl, rfl⟩ := hr
      show V _ _ _ (14 + 3) _ (_ :: _) _
      refine v_ifb_ne hC (pc := 17) (tgt := 24) dX0_leadsTo_17 (by decide) (fun c_17 => ?_) (fun c_17 => ?_)
      · skip
        refine v_iconst hC (pc := 24) (v := 0) (by decide) dX0_leadsTo_24 ?_
        refine v_istore hC (pc := 25) (l' := [(5, _), (0, _), (1, _), (2, _), (3, _), (4, _)]) dX0_leadsTo_25 (by decide) rfl ?_
        refine v_aload_n hC (pc := 27) (k := 0) 1 rfl dX0_leadsTo_27 ?_
        refine v_iload_n hC (pc := 28) (k := 1) 2 rfl dX0_leadsTo_28 ?_
        refine v_iload hC (pc := 29) 0 rfl dX0_leadsTo_29 ?_
        refine v_if_eq hC (pc := 31) (tgt := 40) dX0_leadsTo_31 (by decide) (fun c_31 => ?_) (fun c_31 => ?_)
        · skip
          refine v_iload_n hC (pc := 40) (k := 2) 3 rfl dX0_leadsTo_40 ?_
          refine v_callV hC (pc := 41) (As := [_, _]) dX0_leadsTo_41 rfl (t_streetOf _ _ (d := d - 1) (by omega) hq _ _ _) cv_X0_85 rfl (by decide) rfl (by first | rfl | exact ok_c hq rfl | exact ok_w hq hw | exact ok_w (by omega) (by omega) | exact ok_s (by omega) (by omega) | exact ok_c (by omega) rfl | assumption) (Nat.le_of_ble_eq_true rfl) (by omega) (fun r h' hr => ?_)
          obtain ⟨rfl, rfl⟩ := hr
          show V _ _ _ (41 + 3) _ (_ :: _) _
          refine v_iret hC hX (pc := 44) dX0_leadsTo_44 ?_
          exact ⟨rfl, by simp only [c_4, c_9, c_17, c_31, ledF, not_true_eq_false, not_false_eq_true, and_self, and_true, true_and, and_false, false_and, or_true, true_or, or_false, false_or, if_true, if_false, ↓reduceIte, ite_true, ite_false]⟩
        · exact absurd c_31 (by decide)
      · skip
        refine v_iconst hC (pc := 20) (v := 1) (by decide) dX0_leadsTo_20 ?_
        refine v_goto hC (pc := 21) (tgt := 25) dX0_leadsTo_21 (by decide) ?_
        refine v_istore hC (pc := 25) (l' := [(5, _), (0, _), (1, _), (2, _), (3, _), (4, _)]) dX0_leadsTo_25 (by decide) rfl ?_
        refine v_aload_n hC (pc := 27) (k := 0) 1 rfl dX0_leadsTo_27 ?_
        refine v_iload_n hC (pc := 28) (k := 1) 2 rfl dX0_leadsTo_28 ?_
        refine v_iload hC (pc := 29) 0 rfl dX0_leadsTo_29 ?_
        refine v_if_eq hC (pc := 31) (tgt := 40) dX0_leadsTo_31 (by decide) (fun c_31 => ?_) (fun c_31 => ?_)
        · exact absurd c_31 (by decide)
        · skip
          refine v_iconst hC (pc := 34) (v := 1) (by decide) dX0_leadsTo_34 ?_
          refine v_iload_n hC (pc := 35) (k := 2) 3 rfl dX0_leadsTo_35 ?_
          refine v_isub hC (pc := 36) dX0_leadsTo_36 ?_
          refine v_goto hC (pc := 37) (tgt := 41) dX0_leadsTo_37 (by decide) ?_
          refine v_callV hC (pc := 41) (As := [_, _]) dX0_leadsTo_41 rfl (t_streetOf _ _ (d := d - 1) (by omega) hq _ _ _) cv_X0_85 rfl (by decide) rfl (by first | rfl | exact ok_c hq rfl | exact ok_w hq hw | exact ok_w (by omega) (by omega) | exact ok_s (by omega) (by omega) | exact ok_c (by omega) rfl | assumption) (Nat.le_of_ble_eq_true rfl) (by omega) (fun r h' hr => ?_)
          obtain ⟨rfl, rfl⟩ := hr
          show V _ _ _ (41 + 3) _ (_ :: _) _
          refine v_iret hC hX (pc := 44) dX0_leadsTo_44 ?_
          exact ⟨rfl, by simp only [c_4, c_9, c_17, c_31, ledF, not_true_eq_false, not_false_eq_true, and_self, and_true, true_and, and_false, false_and, or_true, true_or, or_false, false_or, if_true, if_false, ↓reduceIte, ite_true, ite_false]⟩

def comF (S : Nat → Int32) (sg c side hour kp : Int32) : Int32 := if ledF S sg c side hour kp = -4 then c else ledF S sg c side hour kp
set_option maxRecDepth 20000 in
set_option maxHeartbeats 2000000 in
theorem t_comesTo (l9 : Launch) (G : WT) {d : Nat} (hd : 3 ≤ d) {q : Nat} (hq : q < 5) (h : HP) (c side hour kp : Int32) : MS l9 G yX0_comesTo cX0_comesTo 6 (some .int) d [vr (0, q, 0), vi c, vi side, vi hour, vi kp] h (fun r h1 => h1 = h ∧ r = some (vi (comF (h.1 (0, q, 6)) (h.1 (0, q, 0) 1) c side hour kp))) := by
  refine MS_of (by decide +kernel) (Nat.le_of_ble_eq_true rfl) (fun X hC hX => ?_)
  show V X G 6 0 _ [] _
  refine v_aload_n hC (pc := 0) (k := 0) 0 rfl dX0_comesTo_0 ?_
  refine v_iload_n hC (pc := 1) (k := 1) 1 rfl dX0_comesTo_1 ?_
  refine v_iload_n hC (pc := 2) (k := 2) 2 rfl dX0_comesTo_2 ?_
  refine v_iload_n hC (pc := 3) (k := 3) 3 rfl dX0_comesTo_3 ?_
  refine v_iload hC (pc := 4) 4 rfl dX0_comesTo_4 ?_
  refine v_callV hC (pc := 6) (As := [_, _, _, _]) dX0_comesTo_6 rfl (t_leadsTo _ _ (d := d - 1) (by omega) hq _ _ _ _ _) cv_X0_89 rfl (by decide) rfl (by first | rfl | exact ok_c hq rfl | exact ok_w hq hw | exact ok_w (by omega) (by omega) | exact ok_s (by omega) (by omega) | exact ok_c (by omega) rfl | assumption) (Nat.le_of_ble_eq_true rfl) (by omega) (fun r h' hr => ?_)
  obtain ⟨rfl, rfl⟩ := hr
  show V _ _ _ (6 + 3) _ (_ :: _) _
  refine v_istore hC (pc := 9) (l' := [(5, _), (0, _), (1, _), (2, _), (3, _), (4, _)]) dX0_comesTo_9 (by decide) rfl ?_
  refine v_iload hC (pc := 11) 0 rfl dX0_comesTo_11 ?_
  refine v_bipush hC (pc := 13) (v := (-4)) (by decide +kernel) dX0_comesTo_13 ?_
  refine v_icmp_ne hC (pc := 15) (tgt := 22) dX0_comesTo_15 (by decide) (fun c_15 => ?_) (fun c_15 => ?_)
  · skip
    refine v_iload hC (pc := 22) 0 rfl dX0_comesTo_22 ?_
    refine v_iret hC hX (pc := 24) dX0_comesTo_24 ?_
    exact ⟨rfl, by simp only [c_15, comF, not_true_eq_false, not_false_eq_true, and_self, and_true, true_and, and_false, false_and, or_true, true_or, or_false, false_or, if_true, if_false, ↓reduceIte, ite_true, ite_false]⟩
  · skip
    refine v_iload_n hC (pc := 18) (k := 1) 2 rfl dX0_comesTo_18 ?_
    refine v_goto hC (pc := 19) (tgt := 24) dX0_comesTo_19 (by decide) ?_
    refine v_iret hC hX (pc := 24) dX0_comesTo_24 ?_
    exact ⟨rfl, by simp only [c_15, comF, not_true_eq_false, not_false_eq_true, and_self, and_true, true_and, and_false, false_and, or_true, true_or, or_false, false_or, if_true, if_false, ↓reduceIte, ite_true, ite_false]⟩

set_option maxRecDepth 20000 in
set_option maxHeartbeats 2000000 in
theorem t_lettersLeft (l9 : Launch) (G : WT) {d : Nat} (hd : 1 ≤ d) {q w : Nat} (hq : q < 5) (hw : w < 4) (h : HP) : MS l9 G yX4_lettersLeft cX4_lettersLeft 1 (some .int) d [vr (6, q, w)] h (fun r h1 => h1 = h ∧ r = some (vi (h.1 (6, q, w) 4 - h.1 (6, q, w) 5))) := by
  refine MS_of (by decide +kernel) (Nat.le_of_ble_eq_true rfl) (fun X hC hX => ?_)
  show V X G 1 0 _ [] _
  refine v_aload_n hC (pc := 0) (k := 0) 0 rfl dX4_lettersLeft_0 ?_
  refine v_getI hC (pc := 1) dX4_lettersLeft_1 fl_X4_23 rfl (by first | rfl | exact ok_c hq rfl | exact ok_w hq hw | exact ok_w (by omega) (by omega) | exact ok_s (by omega) (by omega) | exact ok_c (by omega) rfl | assumption) rfl (by decide) (by decide) ?_
  refine v_aload_n hC (pc := 4) (k := 0) 0 rfl dX4_lettersLeft_4 ?_
  refine v_getI hC (pc := 5) dX4_lettersLeft_5 fl_X4_26 rfl (by first | rfl | exact ok_c hq rfl | exact ok_w hq hw | exact ok_w (by omega) (by omega) | exact ok_s (by omega) (by omega) | exact ok_c (by omega) rfl | assumption) rfl (by decide) (by decide) ?_
  refine v_isub hC (pc := 8) dX4_lettersLeft_8 ?_
  refine v_iret hC hX (pc := 9) dX4_lettersLeft_9 ?_
  exact ⟨rfl, rfl⟩

set_option maxRecDepth 20000 in
set_option maxHeartbeats 2000000 in
theorem t_letterAt (l9 : Launch) (G : WT) {d : Nat} (hd : 1 ≤ d) {q w : Nat} (hq : q < 5) (hw : w < 4) (h : HP) (i : Int32) : MS l9 G yX4_letterAt cX4_letterAt 2 (some .int) d [vr (6, q, w), vi i] h (fun r h1 => h1 = h ∧ r = some (vi ((h.1 (6, q, w) 3 >>> (i &&& 31)) &&& 1))) := by
  refine MS_of (by decide +kernel) (Nat.le_of_ble_eq_true rfl) (fun X hC hX => ?_)
  show V X G 2 0 _ [] _
  refine v_aload_n hC (pc := 0) (k := 0) 0 rfl dX4_letterAt_0 ?_
  refine v_getI hC (pc := 1) dX4_letterAt_1 fl_X4_20 rfl (by first | rfl | exact ok_c hq rfl | exact ok_w hq hw | exact ok_w (by omega) (by omega) | exact ok_s (by omega) (by omega) | exact ok_c (by omega) rfl | assumption) rfl (by decide) (by decide) ?_
  refine v_iload_n hC (pc := 4) (k := 1) 1 rfl dX4_letterAt_4 ?_
  refine v_ishr hC (pc := 5) dX4_letterAt_5 ?_
  refine v_iconst hC (pc := 6) (v := 1) (by decide) dX4_letterAt_6 ?_
  refine v_iand hC (pc := 7) dX4_letterAt_7 ?_
  refine v_iret hC hX (pc := 8) dX4_letterAt_8 ?_
  exact ⟨rfl, rfl⟩

def hndF (hand kp hour : Int32) : Int32 := if (¬ hour - hour / 24 * 24 < 12) ∧ kp = 0 then 1 - hand else hand
set_option maxRecDepth 20000 in
set_option maxHeartbeats 2000000 in
theorem t_handIn (l9 : Launch) (G : WT) {d : Nat} (hd : 2 ≤ d) {q w : Nat} (hq : q < 5) (hw : w < 4) (h : HP) (hour : Int32) : MS l9 G yX4_handIn cX4_handIn 2 (some .int) d [vr (6, q, w), vi hour] h (fun r h1 => h1 = h ∧ r = some (vi (hndF (h.1 (6, q, w) 1) (h.1 (6, q, w) 2) hour))) := by
  refine MS_of (by decide +kernel) (Nat.le_of_ble_eq_true rfl) (fun X hC hX => ?_)
  show V X G 2 0 _ [] _
  refine v_iload_n hC (pc := 0) (k := 1) 1 rfl dX4_handIn_0 ?_
  refine v_callN hC (pc := 1) (As := [_]) dX4_handIn_1 rfl (t_isTurned _ _ (d := d - 1) (by omega) _ _) cn_X4_29 (Nat.le_of_ble_eq_true rfl) (by omega) (fun r h' hr => ?_)
  obtain ⟨rfl, rfl⟩ := hr
  show V _ _ _ (1 + 3) _ (_ :: _) _
  refine v_ifb_eq hC (pc := 4) (tgt := 23) dX4_handIn_4 (by decide) (fun c_4 => ?_) (fun c_4 => ?_)
  · skip
    refine v_aload_n hC (pc := 23) (k := 0) 0 rfl dX4_handIn_23 ?_
    refine v_getI hC (pc := 24) dX4_handIn_24 fl_X4_13 rfl (by first | rfl | exact ok_c hq rfl | exact ok_w hq hw | exact ok_w (by omega) (by omega) | exact ok_s (by omega) (by omega) | exact ok_c (by omega) rfl | assumption) rfl (by decide) (by decide) ?_
    refine v_iret hC hX (pc := 27) dX4_handIn_27 ?_
    exact ⟨rfl, by simp only [c_4, hndF, not_true_eq_false, not_false_eq_true, and_self, and_true, true_and, and_false, false_and, or_true, true_or, or_false, false_or, if_true, if_false, ↓reduceIte, ite_true, ite_false]⟩
  · skip
    refine v_aload_n hC (pc := 7) (k := 0) 0 rfl dX4_handIn_7 ?_
    refine v_getZ hC (pc := 8) dX4_handIn_8 fl_X4_16 rfl (by first | rfl | exact ok_c hq rfl | exact ok_w hq hw | exact ok_w (by omega) (by omega) | exact ok_s (by omega) (by omega) | exact ok_c (by omega) rfl | assumption) rfl (by decide) (by decide) ?_
    refine v_if_ne hC (pc := 11) (tgt := 23) dX4_handIn_11 (by decide) (fun c_11 => ?_) (fun c_11 => ?_)
    · skip
      refine v_aload_n hC (pc := 23) (k := 0) 0 rfl dX4_handIn_23 ?_
      refine v_getI hC (pc := 24) dX4_handIn_24 fl_X4_13 rfl (by first | rfl | exact ok_c hq rfl | exact ok_w hq hw | exact ok_w (by omega) (by omega) | exact ok_s (by omega) (by omega) | exact ok_c (by omega) rfl | assumption) rfl (by decide) (by decide) ?_
      refine v_iret hC hX (pc := 27) dX4_handIn_27 ?_
      exact ⟨rfl, by simp only [c_4, c_11, hndF, not_true_eq_false, not_false_eq_true, and_self, and_true, true_and, and_false, false_and, or_true, true_or, or_false, false_or, if_true, if_false, ↓reduceIte, ite_true, ite_false]⟩
    · skip
      refine v_iconst hC (pc := 14) (v := 1) (by decide) dX4_handIn_14 ?_
      refine v_aload_n hC (pc := 15) (k := 0) 0 rfl dX4_handIn_15 ?_
      refine v_getI hC (pc := 16) dX4_handIn_16 fl_X4_13 rfl (by first | rfl | exact ok_c hq rfl | exact ok_w hq hw | exact ok_w (by omega) (by omega) | exact ok_s (by omega) (by omega) | exact ok_c (by omega) rfl | assumption) rfl (by decide) (by decide) ?_
      refine v_isub hC (pc := 19) dX4_handIn_19 ?_
      refine v_goto hC (pc := 20) (tgt := 27) dX4_handIn_20 (by decide) ?_
      refine v_iret hC hX (pc := 27) dX4_handIn_27 ?_
      exact ⟨rfl, by simp only [c_4, c_11, hndF, not_true_eq_false, not_false_eq_true, and_self, and_true, true_and, and_false, false_and, or_true, true_or, or_false, false_or, if_true, if_false, ↓reduceIte, ite_true, ite_false]⟩

/-- where one goes in the i-th hour from now: his route, its length, how many letters are gone -/
def nxtF (S : Nat → Int32) (sg hr rt ln gn c i kp : Int32) : Int32 := if i < ln - gn then comF S sg c ((rt >>> ((gn + i) &&& 31)) &&& 1) (hr + i) kp else c
def nxtH (h : HP) (q w : Nat) (c i kp : Int32) : Int32 := nxtF (h.1 (0, q, 6)) (h.1 (0, q, 0) 1) (h.1 (0, q, 0) 2) (h.1 (6, q, w) 3) (h.1 (6, q, w) 4) (h.1 (6, q, w) 5) c i kp
set_option maxRecDepth 20000 in
set_option maxHeartbeats 2000000 in
theorem t_nextPlace (l9 : Launch) (G : WT) {d : Nat} (hd : 4 ≤ d) {q w : Nat} (hq : q < 5) (hw : w < 4) (h : HP) (c i kp : Int32) : MS l9 G yX0_nextPlace cX0_nextPlace 5 (some .int) d [vr (0, q, 0), vr (6, q, w), vi c, vi i, vi kp] h (fun r h1 => h1 = h ∧ r = some (vi (nxtH h q w c i kp))) := by
  refine MS_of (by decide +kernel) (Nat.le_of_ble_eq_true rfl) (fun X hC hX => ?_)
  show V X G 5 0 _ [] _
  refine v_iload_n hC (pc := 0) (k := 3) 3 rfl dX0_nextPlace_0 ?_
  refine v_aload_n hC (pc := 1) (k := 1) 1 rfl dX0_nextPlace_1 ?_
  refine v_callV hC (pc := 2) (As := []) dX0_nextPlace_2 rfl (t_lettersLeft _ _ (d := d - 1) (by omega) hq hw _) cv_X0_93 rfl (by decide) rfl (by first | rfl | exact ok_c hq rfl | exact ok_w hq hw | exact ok_w (by omega) (by omega) | exact ok_s (by omega) (by omega) | exact ok_c (by omega) rfl | assumption) (Nat.le_of_ble_eq_true rfl) (by omega) (fun r h' hr => ?_)
  obtain ⟨rfl, rfl⟩ := hr
  show V _ _ _ (2 + 3) _ (_ :: _) _
  refine v_icmp_lt hC (pc := 5) (tgt := 10) dX0_nextPlace_5 (by decide) (fun c_5 => ?_) (fun c_5 => ?_)
  · skip
    refine v_aload_n hC (pc := 10) (k := 0) 0 rfl dX0_nextPlace_10 ?_
    refine v_iload_n hC (pc := 11) (k := 2) 2 rfl dX0_nextPlace_11 ?_
    refine v_aload_n hC (pc := 12) (k := 1) 1 rfl dX0_nextPlace_12 ?_
    refine v_aload_n hC (pc := 13) (k := 1) 1 rfl dX0_nextPlace_13 ?_
    refine v_getI hC (pc := 14) dX0_nextPlace_14 fl_X0_97 rfl (by first | rfl | exact ok_c hq rfl | exact ok_w hq hw | exact ok_w (by omega) (by omega) | exact ok_s (by omega) (by omega) | exact ok_c (by omega) rfl | assumption) rfl (by decide) (by decide) ?_
    refine v_iload_n hC (pc := 17) (k := 3) 3 rfl dX0_nextPlace_17 ?_
    refine v_iadd hC (pc := 18) dX0_nextPlace_18 ?_
    refine v_callV hC (pc := 19) (As := [_]) dX0_nextPlace_19 rfl (t_letterAt _ _ (d := d - 1) (by omega) hq hw _ _) cv_X0_100 rfl (by decide) rfl (by first | rfl | exact ok_c hq rfl | exact ok_w hq hw | exact ok_w (by omega) (by omega) | exact ok_s (by omega) (by omega) | exact ok_c (by omega) rfl | assumption) (Nat.le_of_ble_eq_true rfl) (by omega) (fun r h' hr => ?_)
    obtain ⟨rfl, rfl⟩ := hr
    show V _ _ _ (19 + 3) _ (_ :: _) _
    refine v_aload_n hC (pc := 22) (k := 0) 0 rfl dX0_nextPlace_22 ?_
    refine v_getI hC (pc := 23) dX0_nextPlace_23 fl_X0_53 rfl (by first | rfl | exact ok_c hq rfl | exact ok_w hq hw | exact ok_w (by omega) (by omega) | exact ok_s (by omega) (by omega) | exact ok_c (by omega) rfl | assumption) rfl (by decide) (by decide) ?_
    refine v_iload_n hC (pc := 26) (k := 3) 3 rfl dX0_nextPlace_26 ?_
    refine v_iadd hC (pc := 27) dX0_nextPlace_27 ?_
    refine v_iload hC (pc := 28) 4 rfl dX0_nextPlace_28 ?_
    refine v_callV hC (pc := 30) (As := [_, _, _, _]) dX0_nextPlace_30 rfl (t_comesTo _ _ (d := d - 1) (by omega) hq _ _ _ _ _) cv_X0_104 rfl (by decide) rfl (by first | rfl | exact ok_c hq rfl | exact ok_w hq hw | exact ok_w (by omega) (by omega) | exact ok_s (by omega) (by omega) | exact ok_c (by omega) rfl | assumption) (Nat.le_of_ble_eq_true rfl) (by omega) (fun r h' hr => ?_)
    obtain ⟨rfl, rfl⟩ := hr
    show V _ _ _ (30 + 3) _ (_ :: _) _
    refine v_iret hC hX (pc := 33) dX0_nextPlace_33 ?_
    exact ⟨rfl, by simp only [c_5, nxtH, nxtF, not_true_eq_false, not_false_eq_true, and_self, and_true, true_and, and_false, false_and, or_true, true_or, or_false, false_or, if_true, if_false, ↓reduceIte, ite_true, ite_false]⟩
  · skip
    refine v_iload_n hC (pc := 8) (k := 2) 2 rfl dX0_nextPlace_8 ?_
    refine v_iret hC hX (pc := 9) dX0_nextPlace_9 ?_
    exact ⟨rfl, by simp only [c_5, nxtH, nxtF, not_true_eq_false, not_false_eq_true, and_self, and_true, true_and, and_false, false_and, or_true, true_or, or_false, false_or, if_true, if_false, ↓reduceIte, ite_true, ite_false]⟩

set_option maxRecDepth 20000 in
set_option maxHeartbeats 2000000 in
theorem t_placeBehind (l9 : Launch) (G : WT) {d : Nat} (hd : 5 ≤ d) {q w : Nat} (hq : q < 5) (hw : w < 4) (h : HP) (c0 kp : Int32) {N : Nat} (hN : N < 1000) : MS l9 G yX0_placeBehind cX0_placeBehind 7 (some .int) d [vr (0, q, 0), vr (6, q, w), vi c0, vi (nI N), vi kp] h (fun r h1 => h1 = h ∧ r = some (vi (itN (fun i c => nxtH h q w c (nI i) kp) N c0))) := by
  refine MS_of (by decide +kernel) (Nat.le_of_ble_eq_true rfl) (fun X hC hX => ?_)
  show V X G 7 0 _ [] _
  have loop : ∀ (n i : Nat) (a : Int32), i ≤ N → N + 1 ≤ i + n → a = itN (fun i c => nxtH h q w c (nI i) kp) i c0 → V X G 7 6 [(6, vi (nI i)), (5, vi a), (0, vr (0, q, 0)), (1, vr (6, q, w)), (2, vi c0), (3, vi (nI N)), (4, vi kp)] [] h := by
    intro n
    induction n with
    | zero => intro i a h1 h2; exact absurd h2 (by omega)
    | succ n ih =>
      intro i a hi0 h2 ha
      refine v_iload hC (pc := 6) 0 rfl dX0_placeBehind_6 ?_
      refine v_iload_n hC (pc := 8) (k := 3) 5 rfl dX0_placeBehind_8 ?_
      refine v_icmp_ge hC (pc := 9) (tgt := 31) dX0_placeBehind_9 (by decide) (fun c_9 => ?_) (fun c_9 => ?_)
      · skip
        have hi : i = N := lp_ex c_9 hi0 (by omega)
        refine v_iload hC (pc := 31) 1 rfl dX0_placeBehind_31 ?_
        refine v_iret hC hX (pc := 33) dX0_placeBehind_33 ?_
        exact ⟨rfl, by rw [ha, hi]⟩
      · skip
        have hi : i < N := lp_in c_9 hi0 (by omega)
        refine v_aload_n hC (pc := 12) (k := 0) 2 rfl dX0_placeBehind_12 ?_
        refine v_aload_n hC (pc := 13) (k := 1) 3 rfl dX0_placeBehind_13 ?_
        refine v_iload hC (pc := 14) 1 rfl dX0_placeBehind_14 ?_
        refine v_iload hC (pc := 16) 0 rfl dX0_placeBehind_16 ?_
        refine v_iload hC (pc := 18) 6 rfl dX0_placeBehind_18 ?_
        refine v_callV hC (pc := 20) (As := [_, _, _, _]) dX0_placeBehind_20 rfl (t_nextPlace _ _ (d := d - 1) (by omega) hq hw _ _ _ _) cv_X0_107 rfl (by decide) rfl (by first | rfl | exact ok_c hq rfl | exact ok_w hq hw | exact ok_w (by omega) (by omega) | exact ok_s (by omega) (by omega) | exact ok_c (by omega) rfl | assumption) (Nat.le_of_ble_eq_true rfl) (by omega) (fun r h' hr => ?_)
        obtain ⟨rfl, rfl⟩ := hr
        show V _ _ _ (20 + 3) _ (_ :: _) _
        refine v_istore hC (pc := 23) (l' := [(5, _), (6, _), (0, _), (1, _), (2, _), (3, _), (4, _)]) dX0_placeBehind_23 (by decide) rfl ?_
        refine v_iinc hC (pc := 25) (l' := [(6, _), (5, _), (0, _), (1, _), (2, _), (3, _), (4, _)]) 1 (v := nI (i + 1)) dX0_placeBehind_25 rfl (nI_inc i) (by decide) rfl ?_
        refine v_goto hC (pc := 28) (tgt := 6) dX0_placeBehind_28 (by decide) ?_
        exact ih (i + 1) _ (by omega) (by omega) (by rw [itN_s, ← ha])
  refine v_iload_n hC (pc := 0) (k := 2) 2 rfl dX0_placeBehind_0 ?_
  refine v_istore hC (pc := 1) (l' := [(5, _), (0, _), (1, _), (2, _), (3, _), (4, _)]) dX0_placeBehind_1 (by decide) rfl ?_
  refine v_iconst hC (pc := 3) (v := 0) (by decide) dX0_placeBehind_3 ?_
  refine v_istore hC (pc := 4) (l' := [(6, _), (5, _), (0, _), (1, _), (2, _), (3, _), (4, _)]) dX0_placeBehind_4 (by decide) rfl ?_
  exact loop (N + 1) 0 _ (Nat.zero_le _) (by omega) rfl

set_option maxRecDepth 20000 in
set_option maxHeartbeats 2000000 in
theorem t_setStreet (l9 : Launch) (G : WT) {d : Nat} (hd : 1 ≤ d) {q : Nat} (hq : q < 5) (h : HP) (c side to : Int32) : MS l9 G yX0_setStreet cX0_setStreet 5 none d [vr (0, q, 0), vi c, vi side, vi to] h (fun r h1 => r = none ∧ h1 = if ¬ 2 * c + side < 0 ∧ ¬ 16 ≤ 2 * c + side then upI h (0, q, 6) (2 * c + side).toNatClampNeg to else h) := by
  refine MS_of (by decide +kernel) (Nat.le_of_ble_eq_true rfl) (fun X hC hX => ?_)
  show V X G 5 0 _ [] _
  refine v_iconst hC (pc := 0) (v := 2) (by decide) dX0_setStreet_0 ?_
  refine v_iload_n hC (pc := 1) (k := 1) 1 rfl dX0_setStreet_1 ?_
  refine v_imul hC (pc := 2) dX0_setStreet_2 ?_
  refine v_iload_n hC (pc := 3) (k := 2) 2 rfl dX0_setStreet_3 ?_
  refine v_iadd hC (pc := 4) dX0_setStreet_4 ?_
  refine v_istore hC (pc := 5) (l' := [(4, _), (0, _), (1, _), (2, _), (3, _)]) dX0_setStreet_5 (by decide) rfl ?_
  refine v_iload hC (pc := 7) 0 rfl dX0_setStreet_7 ?_
  refine v_if_lt hC (pc := 9) (tgt := 30) dX0_setStreet_9 (by decide) (fun c_9 => ?_) (fun c_9 => ?_)
  · skip
    refine v_vret hC hX (pc := 30) dX0_setStreet_30 ?_
    exact ⟨rfl, by simp only [c_9, not_true_eq_false, not_false_eq_true, and_self, and_true, true_and, and_false, false_and, or_true, true_or, or_false, false_or, if_true, if_false, ↓reduceIte, ite_true, ite_false]⟩
  · skip
    refine v_iload hC (pc := 12) 0 rfl dX0_setStreet_12 ?_
    refine v_aload_n hC (pc := 14) (k := 0) 1 rfl dX0_setStreet_14 ?_
    refine v_getR hC (pc := 15) dX0_setStreet_15 fl_X0_9 rfl (by first | rfl | exact ok_c hq rfl | exact ok_w hq hw | exact ok_w (by omega) (by omega) | exact ok_s (by omega) (by omega) | exact ok_c (by omega) rfl | assumption) rfl (by decide) (by decide) rfl ?_
    refine v_alen hC (pc := 18) 0 dX0_setStreet_18 rfl (fun _ => rfl) (by first | exact Or.inl rfl | exact Or.inr rfl) (by first | rfl | exact ok_c hq rfl | exact ok_w hq hw | exact ok_w (by omega) (by omega) | exact ok_s (by omega) (by omega) | exact ok_c (by omega) rfl | assumption) (v := 16) (by decide) ?_
    refine v_icmp_ge hC (pc := 19) (tgt := 30) dX0_setStreet_19 (by decide) (fun c_19 => ?_) (fun c_19 => ?_)
    · skip
      refine v_vret hC hX (pc := 30) dX0_setStreet_30 ?_
      exact ⟨rfl, by simp only [c_9, c_19, not_true_eq_false, not_false_eq_true, and_self, and_true, true_and, and_false, false_and, or_true, true_or, or_false, false_or, if_true, if_false, ↓reduceIte, ite_true, ite_false]⟩
    · skip
      refine v_aload_n hC (pc := 22) (k := 0) 1 rfl dX0_setStreet_22 ?_
      refine v_getR hC (pc := 23) dX0_setStreet_23 fl_X0_9 rfl (by first | rfl | exact ok_c hq rfl | exact ok_w hq hw | exact ok_w (by omega) (by omega) | exact ok_s (by omega) (by omega) | exact ok_c (by omega) rfl | assumption) rfl (by decide) (by decide) rfl ?_
      refine v_iload hC (pc := 26) 0 rfl dX0_setStreet_26 ?_
      refine v_iload_n hC (pc := 28) (k := 3) 4 rfl dX0_setStreet_28 ?_
      refine v_iast hC (pc := 29) dX0_setStreet_29 rfl (by first | rfl | exact ok_c hq rfl | exact ok_w hq hw | exact ok_w (by omega) (by omega) | exact ok_s (by omega) (by omega) | exact ok_c (by omega) rfl | assumption) (vp_lt c_9 c_19 (by decide)) ?_
      refine v_vret hC hX (pc := 30) dX0_setStreet_30 ?_
      exact ⟨rfl, by simp only [c_9, c_19, not_true_eq_false, not_false_eq_true, and_self, and_true, true_and, and_false, false_and, or_true, true_or, or_false, false_or, if_true, if_false, ↓reduceIte, ite_true, ite_false]⟩

set_option maxRecDepth 20000 in
set_option maxHeartbeats 2000000 in
theorem t_glovesFor (l9 : Launch) (G : WT) {d : Nat} (hd : 1 ≤ d) {q : Nat} (hq : q < 5) (h : HP) {g : Nat} (hg : g < 2) (tn : Int32) : MS l9 G yX0_glovesFor cX0_glovesFor 3 (some .int) d [vr (0, q, 0), vi (nI g), vi tn] h (fun r h1 => h1 = h ∧ r = some (vi (h.1 (0, q, 8) (if tn = 0 then g else 1 - g) + h.1 (0, q, 8) (2 + g)))) := by
  refine MS_of (by decide +kernel) (Nat.le_of_ble_eq_true rfl) (fun X hC hX => ?_)
  show V X G 3 0 _ [] _
  have e1 : 1 - nI g = nI (1 - g) := by rw [show (1 : Int32) = nI 1 from rfl, pk_sub (by omega)]
  have e2 : 2 + nI g = nI (2 + g) := by rw [show (2 : Int32) = nI 2 from rfl, nI_add]
  refine v_aload_n hC (pc := 0) (k := 0) 0 rfl dX0_glovesFor_0 ?_
  refine v_getR hC (pc := 1) dX0_glovesFor_1 fl_X0_22 rfl (by first | rfl | exact ok_c hq rfl | exact ok_w hq hw | exact ok_w (by omega) (by omega) | exact ok_s (by omega) (by omega) | exact ok_c (by omega) rfl | assumption) rfl (by decide) (by decide) rfl ?_
  refine v_iload_n hC (pc := 4) (k := 2) 2 rfl dX0_glovesFor_4 ?_
  refine v_if_eq hC (pc := 5) (tgt := 14) dX0_glovesFor_5 (by decide) (fun c_5 => ?_) (fun c_5 => ?_)
  · skip
    refine v_iload_n hC (pc := 14) (k := 1) 1 rfl dX0_glovesFor_14 ?_
    refine v_iald hC (pc := 15) dX0_glovesFor_15 rfl (by first | rfl | exact ok_c hq rfl | exact ok_w hq hw | exact ok_w (by omega) (by omega) | exact ok_s (by omega) (by omega) | exact ok_c (by omega) rfl | assumption) (by first | exact vp_nat (by omega) (by decide) | (rw [e1]; exact vp_nat (by omega) (by decide))) ?_
    refine v_aload_n hC (pc := 16) (k := 0) 0 rfl dX0_glovesFor_16 ?_
    refine v_getR hC (pc := 17) dX0_glovesFor_17 fl_X0_22 rfl (by first | rfl | exact ok_c hq rfl | exact ok_w hq hw | exact ok_w (by omega) (by omega) | exact ok_s (by omega) (by omega) | exact ok_c (by omega) rfl | assumption) rfl (by decide) (by decide) rfl ?_
    refine v_iconst hC (pc := 20) (v := 2) (by decide) dX0_glovesFor_20 ?_
    refine v_iload_n hC (pc := 21) (k := 1) 1 rfl dX0_glovesFor_21 ?_
    refine v_iadd hC (pc := 22) dX0_glovesFor_22 ?_
    refine v_iald hC (pc := 23) dX0_glovesFor_23 rfl (by first | rfl | exact ok_c hq rfl | exact ok_w hq hw | exact ok_w (by omega) (by omega) | exact ok_s (by omega) (by omega) | exact ok_c (by omega) rfl | assumption) (by rw [e2]; exact vp_nat (by omega) (by decide)) ?_
    refine v_iadd hC (pc := 24) dX0_glovesFor_24 ?_
    refine v_iret hC hX (pc := 25) dX0_glovesFor_25 ?_
    exact ⟨rfl, by simp only [c_5, not_true_eq_false, not_false_eq_true, and_self, and_true, true_and, and_false, false_and, or_true, true_or, or_false, false_or, if_true, if_false, ↓reduceIte, ite_true, ite_false, nI_clamp (show g < 2 ^ 31 by omega), e1, e2, nI_clamp (show 1 - g < 2 ^ 31 by omega), nI_clamp (show 2 + g < 2 ^ 31 by omega)]⟩
  · skip
    refine v_iconst hC (pc := 8) (v := 1) (by decide) dX0_glovesFor_8 ?_
    refine v_iload_n hC (pc := 9) (k := 1) 1 rfl dX0_glovesFor_9 ?_
    refine v_isub hC (pc := 10) dX0_glovesFor_10 ?_
    refine v_goto hC (pc := 11) (tgt := 15) dX0_glovesFor_11 (by decide) ?_
    refine v_iald hC (pc := 15) dX0_glovesFor_15 rfl (by first | rfl | exact ok_c hq rfl | exact ok_w hq hw | exact ok_w (by omega) (by omega) | exact ok_s (by omega) (by omega) | exact ok_c (by omega) rfl | assumption) (by first | exact vp_nat (by omega) (by decide) | (rw [e1]; exact vp_nat (by omega) (by decide))) ?_
    refine v_aload_n hC (pc := 16) (k := 0) 0 rfl dX0_glovesFor_16 ?_
    refine v_getR hC (pc := 17) dX0_glovesFor_17 fl_X0_22 rfl (by first | rfl | exact ok_c hq rfl | exact ok_w hq hw | exact ok_w (by omega) (by omega) | exact ok_s (by omega) (by omega) | exact ok_c (by omega) rfl | assumption) rfl (by decide) (by decide) rfl ?_
    refine v_iconst hC (pc := 20) (v := 2) (by decide) dX0_glovesFor_20 ?_
    refine v_iload_n hC (pc := 21) (k := 1) 1 rfl dX0_glovesFor_21 ?_
    refine v_iadd hC (pc := 22) dX0_glovesFor_22 ?_
    refine v_iald hC (pc := 23) dX0_glovesFor_23 rfl (by first | rfl | exact ok_c hq rfl | exact ok_w hq hw | exact ok_w (by omega) (by omega) | exact ok_s (by omega) (by omega) | exact ok_c (by omega) rfl | assumption) (by rw [e2]; exact vp_nat (by omega) (by decide)) ?_
    refine v_iadd hC (pc := 24) dX0_glovesFor_24 ?_
    refine v_iret hC hX (pc := 25) dX0_glovesFor_25 ?_
    exact ⟨rfl, by simp only [c_5, not_true_eq_false, not_false_eq_true, and_self, and_true, true_and, and_false, false_and, or_true, true_or, or_false, false_or, if_true, if_false, ↓reduceIte, ite_true, ite_false, nI_clamp (show g < 2 ^ 31 by omega), e1, e2, nI_clamp (show 1 - g < 2 ^ 31 by omega), nI_clamp (show 2 + g < 2 ^ 31 by omega)]⟩

def bitF (K c : Int32) : Int32 := if ¬ c < 0 ∧ ¬ K ≤ c then 1 <<< (c &&& 31) else 0
set_option maxRecDepth 20000 in
set_option maxHeartbeats 2000000 in
theorem t_bitOf (l9 : Launch) (G : WT) {d : Nat} (hd : 2 ≤ d) {q : Nat} (hq : q < 5) (h : HP) (c : Int32) : MS l9 G yX0_bitOf cX0_bitOf 2 (some .int) d [vr (0, q, 0), vi c] h (fun r h1 => h1 = h ∧ r = some (vi (bitF (h.1 (0, q, 0) 0) c))) := by
  refine MS_of (by decide +kernel) (Nat.le_of_ble_eq_true rfl) (fun X hC hX => ?_)
  show V X G 2 0 _ [] _
  refine v_aload_n hC (pc := 0) (k := 0) 0 rfl dX0_bitOf_0 ?_
  refine v_iload_n hC (pc := 1) (k := 1) 1 rfl dX0_bitOf_1 ?_
  refine v_callV hC (pc := 2) (As := [_]) dX0_bitOf_2 rfl (t_hasCorner _ _ (d := d - 1) (by omega) hq _ _) cv_X0_134 rfl (by decide) rfl (by first | rfl | exact ok_c hq rfl | exact ok_w hq hw | exact ok_w (by omega) (by omega) | exact ok_s (by omega) (by omega) | exact ok_c (by omega) rfl | assumption) (Nat.le_of_ble_eq_true rfl) (by omega) (fun r h' hr => ?_)
  obtain ⟨rfl, rfl⟩ := hr
  show V _ _ _ (2 + 3) _ (_ :: _) _
  refine v_ifb_eq hC (pc := 5) (tgt := 14) dX0_bitOf_5 (by decide) (fun c_5 => ?_) (fun c_5 => ?_)
  · skip
    refine v_iconst hC (pc := 14) (v := 0) (by decide) dX0_bitOf_14 ?_
    refine v_iret hC hX (pc := 15) dX0_bitOf_15 ?_
    exact ⟨rfl, by simp only [c_5, bitF, not_true_eq_false, not_false_eq_true, and_self, and_true, true_and, and_false, false_and, or_true, true_or, or_false, false_or, if_true, if_false, ↓reduceIte, ite_true, ite_false]⟩
  · skip
    refine v_iconst hC (pc := 8) (v := 1) (by decide) dX0_bitOf_8 ?_
    refine v_iload_n hC (pc := 9) (k := 1) 1 rfl dX0_bitOf_9 ?_
    refine v_ishl hC (pc := 10) dX0_bitOf_10 ?_
    refine v_goto hC (pc := 11) (tgt := 15) dX0_bitOf_11 (by decide) ?_
    refine v_iret hC hX (pc := 15) dX0_bitOf_15 ?_
    exact ⟨rfl, by simp only [c_5, bitF, not_true_eq_false, not_false_eq_true, and_self, and_true, true_and, and_false, false_and, or_true, true_or, or_false, false_or, if_true, if_false, ↓reduceIte, ite_true, ite_false]⟩

