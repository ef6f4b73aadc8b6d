/-! THE REFERENCE: small things -/
theorem lcmp_lt {x y : Int64} : lg_cmp x y < 0 ↔ x < y := by
  unfold lg_cmp
  constructor
  · intro h
    by_cases h1 : y < x
    · rw [if_pos h1] at h; exact absurd h (by decide)
    · rw [if_neg h1] at h
      by_cases h2 : x = y
      · rw [if_pos h2] at h; exact absurd h (by decide)
      · rcases Int64.lt_or_eq_of_le (Int64.not_lt.mp h1) with z | z
        · exact z
        · exact absurd z h2
  · intro h
    have h1 : ¬ y < x := fun z => Int64.lt_irrefl (Int64.lt_trans h z)
    have h2 : ¬ x = y := fun z => by rw [z] at h; exact Int64.lt_irrefl h
    rw [if_neg h1, if_neg h2]; decide
theorem lcmp_gt {x y : Int64} : 0 < lg_cmp x y ↔ y < x := by
  unfold lg_cmp
  constructor
  · intro h
    by_cases h1 : y < x
    · exact h1
    · rw [if_neg h1] at h
      by_cases h2 : x = y
      · rw [if_pos h2] at h; exact absurd h (by decide)
      · rw [if_neg h2] at h; exact absurd h (by decide)
  · intro h
    rw [if_pos h]; decide
theorem wide_lt (a b : Int32) : a.toInt64 < b.toInt64 ↔ a < b := by
  rw [Int64.lt_iff_toInt_lt, Int32.lt_iff_toInt_lt, Int32.toInt_toInt64, Int32.toInt_toInt64]
/-- between two bounds, looked at as longs -/
def btw (x lo hi : Int32) : Prop := ¬ x < lo ∧ ¬ hi < x
theorem le_pred {x : Int32} {n : Nat} (hn : n < 1000) : nI n - 1 < x ↔ nI n ≤ x := by
  have e : (nI n - 1).toInt = (n : Int) - 1 := by
    rcases Nat.eq_zero_or_pos n with rfl | h
    · decide
    · rw [show (1 : Int32) = nI 1 from rfl, pk_sub h, nI_toInt (by omega)]; omega
  rw [Int32.lt_iff_toInt_lt, Int32.le_iff_toInt_le, e, nI_toInt (by omega)]
  omega
theorem and1 (x : Int32) : x &&& 1 = 0 ∨ x &&& 1 = 1 := by
  obtain ⟨j, hj, e⟩ := pk_andE x (m := 1) 1 (by decide)
  rw [e]
  rcases (show j = 0 ∨ j = 1 by omega) with rfl | rfl
  · exact Or.inl rfl
  · exact Or.inr rfl
theorem and1_ne {x : Int32} : ¬ x &&& 1 = 1 ↔ x &&& 1 = 0 := by
  rcases and1 x with e | e <;> rw [e] <;> decide
theorem and1_nat (x : Int32) : ∃ s, s < 2 ∧ x &&& 1 = nI s := by
  rcases and1 x with e | e
  · exact ⟨0, by decide, e⟩
  · exact ⟨1, by decide, e⟩
set_option maxRecDepth 20000 in
set_option maxHeartbeats 2000000 in
theorem m_in (l9 : Launch) (G : WT) {d : Nat} (hd : 1 ≤ d) (h : HP) (x lo hi : Int32) : MS l9 G yX7_in cX7_in 6 (some .boolean) d [vl x.toInt64, vl lo.toInt64, vl hi.toInt64] h (fun r h1 => h1 = h ∧ r = some (vi (bI (¬ x < lo ∧ ¬ hi < x)))) := by
  refine MS_of (by decide +kernel) (Nat.le_of_ble_eq_true rfl) (fun X hC hX => ?_)
  show V X G 6 0 _ [] _
  refine v_lload_n hC (pc := 0) (k := 0) 0 rfl dX7_in_0 ?_
  refine v_lload_n hC (pc := 1) (k := 2) 1 rfl dX7_in_1 ?_
  refine v_lcmp hC (pc := 2) dX7_in_2 ?_
  refine v_if_lt hC (pc := 3) (tgt := 17) dX7_in_3 (by decide) (fun c_3 => ?_) (fun c_3 => ?_)
  · skip
    refine v_iconst hC (pc := 17) (v := 0) (by decide) dX7_in_17 ?_
    refine v_zret hC hX (pc := 18) dX7_in_18 (nar_b (by first | exact Or.inl rfl | exact Or.inr rfl | exact bI_01 _)) ?_
    refine ⟨rfl, ?_⟩
    first | (rw [bI_f (fun z => z.1 ((wide_lt _ _).mp (lcmp_lt.mp c_3)))]; done) | (rw [bI_f (fun z => z.2 ((wide_lt _ _).mp (lcmp_gt.mp c_10)))]; done) | (rw [bI_t ⟨fun z => c_3 (lcmp_lt.mpr ((wide_lt _ _).mpr z)), fun z => c_10 (lcmp_gt.mpr ((wide_lt _ _).mpr z))⟩]; done)
  · skip
    refine v_lload_n hC (pc := 6) (k := 0) 0 rfl dX7_in_6 ?_
    refine v_lload hC (pc := 7) 2 rfl dX7_in_7 ?_
    refine v_lcmp hC (pc := 9) dX7_in_9 ?_
    refine v_if_gt hC (pc := 10) (tgt := 17) dX7_in_10 (by decide) (fun c_10 => ?_) (fun c_10 => ?_)
    · skip
      refine v_iconst hC (pc := 17) (v := 0) (by decide) dX7_in_17 ?_
      refine v_zret hC hX (pc := 18) dX7_in_18 (nar_b (by first | exact Or.inl rfl | exact Or.inr rfl | exact bI_01 _)) ?_
      refine ⟨rfl, ?_⟩
      first | (rw [bI_f (fun z => z.1 ((wide_lt _ _).mp (lcmp_lt.mp c_3)))]; done) | (rw [bI_f (fun z => z.2 ((wide_lt _ _).mp (lcmp_gt.mp c_10)))]; done) | (rw [bI_t ⟨fun z => c_3 (lcmp_lt.mpr ((wide_lt _ _).mpr z)), fun z => c_10 (lcmp_gt.mpr ((wide_lt _ _).mpr z))⟩]; done)
    · skip
      refine v_iconst hC (pc := 13) (v := 1) (by decide) dX7_in_13 ?_
      refine v_goto hC (pc := 14) (tgt := 18) dX7_in_14 (by decide) ?_
      refine v_zret hC hX (pc := 18) dX7_in_18 (nar_b (by first | exact Or.inl rfl | exact Or.inr rfl | exact bI_01 _)) ?_
      refine ⟨rfl, ?_⟩
      first | (rw [bI_f (fun z => z.1 ((wide_lt _ _).mp (lcmp_lt.mp c_3)))]; done) | (rw [bI_f (fun z => z.2 ((wide_lt _ _).mp (lcmp_gt.mp c_10)))]; done) | (rw [bI_t ⟨fun z => c_3 (lcmp_lt.mpr ((wide_lt _ _).mpr z)), fun z => c_10 (lcmp_gt.mpr ((wide_lt _ _).mpr z))⟩]; done)

def flgF (x : Int32) : Int32 := if x = 0 then 0 else 1
set_option maxRecDepth 20000 in
set_option maxHeartbeats 2000000 in
theorem m_flag (l9 : Launch) (G : WT) {d : Nat} (hd : 1 ≤ d) (h : HP) (x : Int32) : MS l9 G yX7_flag cX7_flag 1 (some .int) d [vi x] h (fun r h1 => h1 = h ∧ r = some (vi (flgF x))) := by
  refine MS_of (by decide +kernel) (Nat.le_of_ble_eq_true rfl) (fun X hC hX => ?_)
  show V X G 1 0 _ [] _
  refine v_iload_n hC (pc := 0) (k := 0) 0 rfl dX7_flag_0 ?_
  refine v_if_eq hC (pc := 1) (tgt := 8) dX7_flag_1 (by decide) (fun c_1 => ?_) (fun c_1 => ?_)
  · skip
    refine v_iconst hC (pc := 8) (v := 0) (by decide) dX7_flag_8 ?_
    refine v_iret hC hX (pc := 9) dX7_flag_9 ?_
    exact ⟨rfl, by simp only [c_1, flgF, not_true_eq_false, not_false_eq_true, and_self, and_true, true_and, and_false, false_and, or_true, true_or, or_false, false_or, if_true, if_false, ↓reduceIte, ite_true, ite_false]⟩
  · skip
    refine v_iconst hC (pc := 4) (v := 1) (by decide) dX7_flag_4 ?_
    refine v_goto hC (pc := 5) (tgt := 9) dX7_flag_5 (by decide) ?_
    refine v_iret hC hX (pc := 9) dX7_flag_9 ?_
    exact ⟨rfl, by simp only [c_1, flgF, not_true_eq_false, not_false_eq_true, and_self, and_true, true_and, and_false, false_and, or_true, true_or, or_false, false_or, if_true, if_false, ↓reduceIte, ite_true, ite_false]⟩

theorem flg_b (p : Prop) [Decidable p] : flgF (bI p) = bI p := by
  rcases bI_01 p with e | e <;> rw [e] <;> rfl
set_option maxRecDepth 20000 in
set_option maxHeartbeats 2000000 in
theorem m_isCorner (l9 : Launch) (G : WT) {d : Nat} (hd : 2 ≤ d) (h : HP) {nC : Nat} (hn8 : nC ≤ 8) (hnc : h.1 (3, 0, 0) 3 = nI nC) (c : Int32) : MS l9 G yX7_isCorner cX7_isCorner 2 (some .boolean) d [vr (3, 0, 0), vi c] h (fun r h1 => h1 = h ∧ r = some (vi (bI (¬ c < 0 ∧ ¬ nI nC ≤ c)))) := by
  refine MS_of (by decide +kernel) (Nat.le_of_ble_eq_true rfl) (fun X hC hX => ?_)
  show V X G 2 0 _ [] _
  refine v_iload_n hC (pc := 0) (k := 1) 1 rfl dX7_isCorner_0 ?_
  refine v_i2l hC (pc := 1) dX7_isCorner_1 ?_
  refine v_lconst hC (pc := 2) (v := 0) (by decide) dX7_isCorner_2 ?_
  refine v_aload_n hC (pc := 3) (k := 0) 0 rfl dX7_isCorner_3 ?_
  refine v_getI hC (pc := 4) dX7_isCorner_4 fl_X7_76 rfl (by first | rfl | exact ok_c hq rfl | exact ok_w hq hw | exact ok_w (by omega) (by omega) | exact ok_s (by omega) (by omega) | exact ok_c (by omega) rfl | assumption) rfl (by decide) (by decide) ?_
  refine v_iconst hC (pc := 7) (v := 1) (by decide) dX7_isCorner_7 ?_
  rw [hnc]
  refine v_isub hC (pc := 8) dX7_isCorner_8 ?_
  refine v_i2l hC (pc := 9) dX7_isCorner_9 ?_
  refine v_callS hC (pc := 10) (As := [_, _, _]) dX7_isCorner_10 rfl (m_in _ _ (d := d - 1) (by omega) _ (c) (0) (nI nC - 1)) cs_X7_84 (Nat.le_of_ble_eq_true rfl) (by omega) (fun r h' hr => ?_)
  obtain ⟨he9, rfl⟩ := hr
  rw [he9]
  clear he9 h'
  show V _ _ _ (10 + 3) _ (_ :: _) _
  refine v_zret hC hX (pc := 13) dX7_isCorner_13 (nar_b (by first | exact Or.inl rfl | exact Or.inr rfl | exact bI_01 _)) ?_
  exact ⟨rfl, congrArg (fun x => some (vi x)) (bI_cong (by rw [le_pred (show nC < 1000 by omega)]))⟩

set_option maxRecDepth 20000 in
set_option maxHeartbeats 2000000 in
theorem m_isWalker (l9 : Launch) (G : WT) {d : Nat} (hd : 2 ≤ d) (h : HP) {nW : Nat} (hn4 : nW ≤ 4) (hnw : h.1 (3, 0, 0) 4 = nI nW) (c : Int32) : MS l9 G yX7_isWalker cX7_isWalker 2 (some .boolean) d [vr (3, 0, 0), vi c] h (fun r h1 => h1 = h ∧ r = some (vi (bI (¬ c < 0 ∧ ¬ nI nW ≤ c)))) := by
  refine MS_of (by decide +kernel) (Nat.le_of_ble_eq_true rfl) (fun X hC hX => ?_)
  show V X G 2 0 _ [] _
  refine v_iload_n hC (pc := 0) (k := 1) 1 rfl dX7_isWalker_0 ?_
  refine v_i2l hC (pc := 1) dX7_isWalker_1 ?_
  refine v_lconst hC (pc := 2) (v := 0) (by decide) dX7_isWalker_2 ?_
  refine v_aload_n hC (pc := 3) (k := 0) 0 rfl dX7_isWalker_3 ?_
  refine v_getI hC (pc := 4) dX7_isWalker_4 fl_X7_79 rfl (by first | rfl | exact ok_c hq rfl | exact ok_w hq hw | exact ok_w (by omega) (by omega) | exact ok_s (by omega) (by omega) | exact ok_c (by omega) rfl | assumption) rfl (by decide) (by decide) ?_
  refine v_iconst hC (pc := 7) (v := 1) (by decide) dX7_isWalker_7 ?_
  rw [hnw]
  refine v_isub hC (pc := 8) dX7_isWalker_8 ?_
  refine v_i2l hC (pc := 9) dX7_isWalker_9 ?_
  refine v_callS hC (pc := 10) (As := [_, _, _]) dX7_isWalker_10 rfl (m_in _ _ (d := d - 1) (by omega) _ (c) (0) (nI nW - 1)) cs_X7_84 (Nat.le_of_ble_eq_true rfl) (by omega) (fun r h' hr => ?_)
  obtain ⟨he9, rfl⟩ := hr
  rw [he9]
  clear he9 h'
  show V _ _ _ (10 + 3) _ (_ :: _) _
  refine v_zret hC hX (pc := 13) dX7_isWalker_13 (nar_b (by first | exact Or.inl rfl | exact Or.inr rfl | exact bI_01 _)) ?_
  exact ⟨rfl, congrArg (fun x => some (vi x)) (bI_cong (by rw [le_pred (show nW < 1000 by omega)]))⟩

theorem lt_pred_lit {x : Int32} (n : Nat) (hn : 0 < n ∧ n < 1000) : nI (n - 1) < x ↔ nI n ≤ x := by
  rw [Int32.lt_iff_toInt_lt, Int32.le_iff_toInt_le, nI_toInt (by omega), nI_toInt (by omega)]
  omega
theorem part_iff {n : Int32} : (¬ n < 0 ∧ ¬ 1 < n) ↔ (n = 0 ∨ n = 1) := by
  constructor
  · rintro ⟨h1, h2⟩
    obtain ⟨j, hj, rfl⟩ := nI_of h1
    have : j ≤ 1 := by
      rcases Nat.lt_or_ge 1 j with q | q
      · exact absurd (nI_lt q hj) h2
      · exact q
    rcases (show j = 0 ∨ j = 1 by omega) with rfl | rfl
    · exact Or.inl rfl
    · exact Or.inr rfl
  · rintro (rfl | rfl) <;> decide
set_option maxRecDepth 20000 in
set_option maxHeartbeats 2000000 in
theorem m_isHour (l9 : Launch) (G : WT) {d : Nat} (hd : 2 ≤ d) (h : HP) (n : Int32) : MS l9 G yX7_isHour cX7_isHour 1 (some .boolean) d [vi n] h (fun r h1 => h1 = h ∧ r = some (vi (bI (¬ n < 0 ∧ ¬ 24 ≤ n)))) := by
  refine MS_of (by decide +kernel) (Nat.le_of_ble_eq_true rfl) (fun X hC hX => ?_)
  show V X G 1 0 _ [] _
  refine v_iload_n hC (pc := 0) (k := 0) 0 rfl dX7_isHour_0 ?_
  refine v_i2l hC (pc := 1) dX7_isHour_1 ?_
  refine v_lconst hC (pc := 2) (v := 0) (by decide) dX7_isHour_2 ?_
  refine v_ldc2 hC (pc := 3) k_X7_177 dX7_isHour_3 ?_
  refine v_callS hC (pc := 6) (As := [_, _, _]) dX7_isHour_6 rfl (m_in _ _ (d := d - 1) (by omega) _ (n) (0) (23)) cs_X7_84 (Nat.le_of_ble_eq_true rfl) (by omega) (fun r h' hr => ?_)
  obtain ⟨he9, rfl⟩ := hr
  rw [he9]
  clear he9 h'
  show V _ _ _ (6 + 3) _ (_ :: _) _
  refine v_zret hC hX (pc := 9) dX7_isHour_9 (nar_b (by first | exact Or.inl rfl | exact Or.inr rfl | exact bI_01 _)) ?_
  exact ⟨rfl, congrArg (fun x => some (vi x)) (bI_cong (and_congr_right (fun _ => not_congr (lt_pred_lit 24 (by decide)))))⟩

set_option maxRecDepth 20000 in
set_option maxHeartbeats 2000000 in
theorem m_isPart (l9 : Launch) (G : WT) {d : Nat} (hd : 2 ≤ d) (h : HP) (n : Int32) : MS l9 G yX7_isPart cX7_isPart 1 (some .boolean) d [vi n] h (fun r h1 => h1 = h ∧ r = some (vi (bI (n = 0 ∨ n = 1)))) := by
  refine MS_of (by decide +kernel) (Nat.le_of_ble_eq_true rfl) (fun X hC hX => ?_)
  show V X G 1 0 _ [] _
  refine v_iload_n hC (pc := 0) (k := 0) 0 rfl dX7_isPart_0 ?_
  refine v_i2l hC (pc := 1) dX7_isPart_1 ?_
  refine v_lconst hC (pc := 2) (v := 0) (by decide) dX7_isPart_2 ?_
  refine v_lconst hC (pc := 3) (v := 1) (by decide) dX7_isPart_3 ?_
  refine v_callS hC (pc := 4) (As := [_, _, _]) dX7_isPart_4 rfl (m_in _ _ (d := d - 1) (by omega) _ (n) (0) (1)) cs_X7_84 (Nat.le_of_ble_eq_true rfl) (by omega) (fun r h' hr => ?_)
  obtain ⟨he9, rfl⟩ := hr
  rw [he9]
  clear he9 h'
  show V _ _ _ (4 + 3) _ (_ :: _) _
  refine v_zret hC hX (pc := 7) dX7_isPart_7 (nar_b (by first | exact Or.inl rfl | exact Or.inr rfl | exact bI_01 _)) ?_
  exact ⟨rfl, congrArg (fun x => some (vi x)) (bI_cong part_iff)⟩

set_option maxRecDepth 20000 in
set_option maxHeartbeats 2000000 in
theorem m_isTurned (l9 : Launch) (G : WT) {d : Nat} (hd : 1 ≤ d) (h : HP) (x : Int32) : MS l9 G yX7_isTurned cX7_isTurned 1 (some .boolean) d [vi x] h (fun r h1 => h1 = h ∧ r = some (vi (bI (¬ x - x / 24 * 24 < 12)))) := by
  refine MS_of (by decide +kernel) (Nat.le_of_ble_eq_true rfl) (fun X hC hX => ?_)
  show V X G 1 0 _ [] _
  refine v_iload_n hC (pc := 0) (k := 0) 0 rfl dX7_isTurned_0 ?_
  refine v_bipush hC (pc := 1) (v := 24) (by decide +kernel) dX7_isTurned_1 ?_
  refine v_irem hC (pc := 3) (by decide) dX7_isTurned_3 ?_
  refine v_bipush hC (pc := 4) (v := 12) (by decide +kernel) dX7_isTurned_4 ?_
  refine v_icmp_lt hC (pc := 6) (tgt := 13) dX7_isTurned_6 (by decide) (fun c_6 => ?_) (fun c_6 => ?_)
  · skip
    refine v_iconst hC (pc := 13) (v := 0) (by decide) dX7_isTurned_13 ?_
    refine v_zret hC hX (pc := 14) dX7_isTurned_14 (nar_b (by first | exact Or.inl rfl | exact Or.inr rfl | exact bI_01 _)) ?_
    first | (refine rb_t ?_; exact ⟨c_6⟩) | (refine rb_t ?_; simp only [c_6, not_true_eq_false, not_false_eq_true, and_self, and_true, true_and, and_false, false_and, or_true, true_or, or_false, false_or, if_true, if_false, ↓reduceIte, ite_true, ite_false]; done) | (refine rb_f ?_; simp only [c_6, not_true_eq_false, not_false_eq_true, and_self, and_true, true_and, and_false, false_and, or_true, true_or, or_false, false_or, if_true, if_false, ↓reduceIte, ite_true, ite_false]; done)
  · skip
    refine v_iconst hC (pc := 9) (v := 1) (by decide) dX7_isTurned_9 ?_
    refine v_goto hC (pc := 10) (tgt := 14) dX7_isTurned_10 (by decide) ?_
    refine v_zret hC hX (pc := 14) dX7_isTurned_14 (nar_b (by first | exact Or.inl rfl | exact Or.inr rfl | exact bI_01 _)) ?_
    first | (refine rb_t ?_; exact ⟨c_6⟩) | (refine rb_t ?_; simp only [c_6, not_true_eq_false, not_false_eq_true, and_self, and_true, true_and, and_false, false_and, or_true, true_or, or_false, false_or, if_true, if_false, ↓reduceIte, ite_true, ite_false]; done) | (refine rb_f ?_; simp only [c_6, not_true_eq_false, not_false_eq_true, and_self, and_true, true_and, and_false, false_and, or_true, true_or, or_false, false_or, if_true, if_false, ↓reduceIte, ite_true, ite_false]; done)

set_option maxRecDepth 20000 in
set_option maxHeartbeats 2000000 in
theorem m_of (l9 : Launch) (G : WT) {d : Nat} (hd : 1 ≤ d) (h : HP) {w k : Nat} (hw : w < 4) (hk : k < 6) : MS l9 G yX7_of cX7_of 3 (some .int) d [vr (3, 0, 0), vi (nI w), vi (nI k)] h (fun r h1 => h1 = h ∧ r = some (vi (h.1 (3, 0, 2) (18 + 6 * w + k)))) := by
  refine MS_of (by decide +kernel) (Nat.le_of_ble_eq_true rfl) (fun X hC hX => ?_)
  show V X G 3 0 _ [] _
  refine v_aload_n hC (pc := 0) (k := 0) 0 rfl dX7_of_0 ?_
  refine v_getR hC (pc := 1) dX7_of_1 fl_X7_13 rfl (by first | rfl | exact ok_c hq rfl | exact ok_w hq hw | exact ok_w (by omega) (by omega) | exact ok_s (by omega) (by omega) | exact ok_c (by omega) rfl | assumption) rfl (by decide) (by decide) rfl ?_
  refine v_bipush hC (pc := 4) (v := 18) (by decide +kernel) dX7_of_4 ?_
  refine v_bipush hC (pc := 6) (v := 6) (by decide +kernel) dX7_of_6 ?_
  refine v_iload_n hC (pc := 8) (k := 1) 1 rfl dX7_of_8 ?_
  refine v_imul hC (pc := 9) dX7_of_9 ?_
  refine v_iadd hC (pc := 10) dX7_of_10 ?_
  refine v_iload_n hC (pc := 11) (k := 2) 2 rfl dX7_of_11 ?_
  refine v_iadd hC (pc := 12) dX7_of_12 ?_
  rw [show (18 : Int32) = nI 18 from rfl, show (6 : Int32) = nI 6 from rfl, pk_mul, nI_add, nI_add]
  refine v_iald hC (pc := 13) dX7_of_13 rfl (by first | rfl | exact ok_c hq rfl | exact ok_w hq hw | exact ok_w (by omega) (by omega) | exact ok_s (by omega) (by omega) | exact ok_c (by omega) rfl | assumption) (vp_nat (by omega) (by decide)) ?_
  refine v_iret hC hX (pc := 14) dX7_of_14 ?_
  exact ⟨rfl, by rw [nI_clamp (show 18 + 6 * w + k < 2 ^ 31 by omega)]⟩

set_option maxRecDepth 20000 in
set_option maxHeartbeats 2000000 in
theorem m_becomesOf (l9 : Launch) (G : WT) {d : Nat} (hd : 1 ≤ d) (h : HP) {w k : Nat} (hw : w < 4) (hk : k < 6) (v : Int32) : MS l9 G yX7_becomesOf cX7_becomesOf 4 none d [vr (3, 0, 0), vi (nI w), vi (nI k), vi v] h (fun r h1 => r = none ∧ h1 = upI h (3, 0, 2) (18 + 6 * w + k) v) := by
  refine MS_of (by decide +kernel) (Nat.le_of_ble_eq_true rfl) (fun X hC hX => ?_)
  show V X G 4 0 _ [] _
  refine v_aload_n hC (pc := 0) (k := 0) 0 rfl dX7_becomesOf_0 ?_
  refine v_getR hC (pc := 1) dX7_becomesOf_1 fl_X7_13 rfl (by first | rfl | exact ok_c hq rfl | exact ok_w hq hw | exact ok_w (by omega) (by omega) | exact ok_s (by omega) (by omega) | exact ok_c (by omega) rfl | assumption) rfl (by decide) (by decide) rfl ?_
  refine v_bipush hC (pc := 4) (v := 18) (by decide +kernel) dX7_becomesOf_4 ?_
  refine v_bipush hC (pc := 6) (v := 6) (by decide +kernel) dX7_becomesOf_6 ?_
  refine v_iload_n hC (pc := 8) (k := 1) 1 rfl dX7_becomesOf_8 ?_
  refine v_imul hC (pc := 9) dX7_becomesOf_9 ?_
  refine v_iadd hC (pc := 10) dX7_becomesOf_10 ?_
  refine v_iload_n hC (pc := 11) (k := 2) 2 rfl dX7_becomesOf_11 ?_
  refine v_iadd hC (pc := 12) dX7_becomesOf_12 ?_
  rw [show (18 : Int32) = nI 18 from rfl, show (6 : Int32) = nI 6 from rfl, pk_mul, nI_add, nI_add]
  refine v_iload_n hC (pc := 13) (k := 3) 3 rfl dX7_becomesOf_13 ?_
  refine v_iast hC (pc := 14) dX7_becomesOf_14 rfl (by first | rfl | exact ok_c hq rfl | exact ok_w hq hw | exact ok_w (by omega) (by omega) | exact ok_s (by omega) (by omega) | exact ok_c (by omega) rfl | assumption) (vp_nat (by omega) (by decide)) ?_
  refine v_vret hC hX (pc := 15) dX7_becomesOf_15 ?_
  exact ⟨rfl, by rw [nI_clamp (show 18 + 6 * w + k < 2 ^ 31 by omega)]⟩

set_option maxRecDepth 20000 in
set_option maxHeartbeats 2000000 in
theorem m_becomes (l9 : Launch) (G : WT) {d : Nat} (hd : 1 ≤ d) (h : HP) {k : Nat} (hk : k < 240) (v : Int32) : MS l9 G yX7_becomes cX7_becomes 4 (some .int) d [vr (3, 0, 0), vi (nI k), vi v] h (fun r h1 => r = some (vi (h.1 (3, 0, 1) k)) ∧ h1 = upI h (3, 0, 1) k v) := by
  refine MS_of (by decide +kernel) (Nat.le_of_ble_eq_true rfl) (fun X hC hX => ?_)
  show V X G 4 0 _ [] _
  refine v_aload_n hC (pc := 0) (k := 0) 0 rfl dX7_becomes_0 ?_
  refine v_getR hC (pc := 1) dX7_becomes_1 fl_X7_7 rfl (by first | rfl | exact ok_c hq rfl | exact ok_w hq hw | exact ok_w (by omega) (by omega) | exact ok_s (by omega) (by omega) | exact ok_c (by omega) rfl | assumption) rfl (by decide) (by decide) rfl ?_
  refine v_iload_n hC (pc := 4) (k := 1) 1 rfl dX7_becomes_4 ?_
  refine v_iald hC (pc := 5) dX7_becomes_5 rfl (by first | rfl | exact ok_c hq rfl | exact ok_w hq hw | exact ok_w (by omega) (by omega) | exact ok_s (by omega) (by omega) | exact ok_c (by omega) rfl | assumption) (vp_nat (by omega) (by decide)) ?_
  refine v_istore_n hC (pc := 6) (l' := [(3, _), (0, _), (1, _), (2, _)]) dX7_becomes_6 (by decide) rfl ?_
  refine v_aload_n hC (pc := 7) (k := 0) 1 rfl dX7_becomes_7 ?_
  refine v_getR hC (pc := 8) dX7_becomes_8 fl_X7_7 rfl (by first | rfl | exact ok_c hq rfl | exact ok_w hq hw | exact ok_w (by omega) (by omega) | exact ok_s (by omega) (by omega) | exact ok_c (by omega) rfl | assumption) rfl (by decide) (by decide) rfl ?_
  refine v_iload_n hC (pc := 11) (k := 1) 2 rfl dX7_becomes_11 ?_
  refine v_iload_n hC (pc := 12) (k := 2) 3 rfl dX7_becomes_12 ?_
  refine v_iast hC (pc := 13) dX7_becomes_13 rfl (by first | rfl | exact ok_c hq rfl | exact ok_w hq hw | exact ok_w (by omega) (by omega) | exact ok_s (by omega) (by omega) | exact ok_c (by omega) rfl | assumption) (vp_nat (by omega) (by decide)) ?_
  refine v_iload_n hC (pc := 14) (k := 3) 0 rfl dX7_becomes_14 ?_
  refine v_iret hC hX (pc := 15) dX7_becomes_15 ?_
  exact ⟨by rw [nI_clamp (show k < 2 ^ 31 by omega)], by rw [nI_clamp (show k < 2 ^ 31 by omega)]⟩

/-- where one comes to, out of a row -/
def ldM (A : Nat → Int32) (c s : Nat) (hour kp sg : Int32) : Int32 := A (8 * (if (¬ hour - hour / 24 * 24 < 12) ∧ kp = 0 ∧ (sg >>> (nI c &&& 31)) &&& 1 = 0 then 1 - s else s) + c)
def goM (A : Nat → Int32) (c s : Nat) (hour kp : Int32) : Int32 := if ldM A c s hour kp (A 16) = -4 then nI c else ldM A c s hour kp (A 16)
set_option maxRecDepth 20000 in
set_option maxHeartbeats 2000000 in
theorem m_leadsBy (l9 : Launch) (G : WT) {d : Nat} (hd : 2 ≤ d) (h : HP) {c s : Nat} (hc : c < 8) (hs : s < 2) (hour kp sg : Int32) : MS l9 G yX7_leadsBy cX7_leadsBy 7 (some .int) d [vr (3, 0, 0), vi (nI c), vi (nI s), vi hour, vi kp, vi sg] h (fun r h1 => h1 = h ∧ r = some (vi (ldM (h.1 (3, 0, 2)) c s hour kp sg))) := by
  refine MS_of (by decide +kernel) (Nat.le_of_ble_eq_true rfl) (fun X hC hX => ?_)
  show V X G 7 0 _ [] _
  refine v_iload_n hC (pc := 0) (k := 3) 3 rfl dX7_leadsBy_0 ?_
  refine v_callS hC (pc := 1) (As := [_]) dX7_leadsBy_1 rfl (m_isTurned _ _ (d := d - 1) (by omega) _ _) cs_X7_179 (Nat.le_of_ble_eq_true rfl) (by omega) (fun r h' hr => ?_)
  obtain ⟨he9, rfl⟩ := hr
  rw [he9]
  clear he9 h'
  show V _ _ _ (1 + 3) _ (_ :: _) _
  refine v_ifb_eq hC (pc := 4) (tgt := 25) dX7_leadsBy_4 (by decide) (fun c_4 => ?_) (fun c_4 => ?_)
  · skip
    refine v_iconst hC (pc := 25) (v := 0) (by decide) dX7_leadsBy_25 ?_
    refine v_istore hC (pc := 26) (l' := [(6, _), (0, _), (1, _), (2, _), (3, _), (4, _), (5, _)]) dX7_leadsBy_26 (by decide) rfl ?_
    refine v_aload_n hC (pc := 28) (k := 0) 1 rfl dX7_leadsBy_28 ?_
    refine v_getR hC (pc := 29) dX7_leadsBy_29 fl_X7_13 rfl (by first | rfl | exact ok_c hq rfl | exact ok_w hq hw | exact ok_w (by omega) (by omega) | exact ok_s (by omega) (by omega) | exact ok_c (by omega) rfl | assumption) rfl (by decide) (by decide) rfl ?_
    refine v_iconst hC (pc := 32) (v := 0) (by decide) dX7_leadsBy_32 ?_
    refine v_bipush hC (pc := 33) (v := 8) (by decide +kernel) dX7_leadsBy_33 ?_
    refine v_iload hC (pc := 35) 0 rfl dX7_leadsBy_35 ?_
    refine v_if_eq hC (pc := 37) (tgt := 46) dX7_leadsBy_37 (by decide) (fun c_37 => ?_) (fun c_37 => ?_)
    · skip
      refine v_iload_n hC (pc := 46) (k := 2) 3 rfl dX7_leadsBy_46 ?_
      refine v_imul hC (pc := 47) dX7_leadsBy_47 ?_
      refine v_iadd hC (pc := 48) dX7_leadsBy_48 ?_
      refine v_iload_n hC (pc := 49) (k := 1) 2 rfl dX7_leadsBy_49 ?_
      refine v_iadd hC (pc := 50) dX7_leadsBy_50 ?_
      first | rw [show (1 : Int32) - nI s = nI (1 - s) from by rw [show (1 : Int32) = nI 1 from rfl, pk_sub (show s ≤ 1 by omega)]] | skip
      rw [show (0 : Int32) + (8 : Int32) * _ + nI c = nI (0 + 8 * _ + c) from by rw [show (0 : Int32) = nI 0 from rfl, show (8 : Int32) = nI 8 from rfl, pk_mul, nI_add, nI_add]]
      refine v_iald hC (pc := 51) dX7_leadsBy_51 rfl (by first | rfl | exact ok_c hq rfl | exact ok_w hq hw | exact ok_w (by omega) (by omega) | exact ok_s (by omega) (by omega) | exact ok_c (by omega) rfl | assumption) (vp_nat (by omega) (by decide)) ?_
      refine v_iret hC hX (pc := 52) dX7_leadsBy_52 ?_
      refine ⟨rfl, ?_⟩
      rw [nI_clamp (by omega)]
      unfold ldM
      first | (rw [if_pos (by first | exact ⟨c_4, c_9, c_18⟩ | exact ⟨c_4, c_9, Classical.not_not.mp c_18⟩)]; simp only [Nat.zero_add]; done) | (rw [if_neg (by first | exact fun z => c_4 z.1 | exact fun z => c_9 z.2.1 | exact fun z => c_18 z.2.2)]; simp only [Nat.zero_add]; done)
    · exact absurd c_37 (by decide)
  · skip
    refine v_iload hC (pc := 7) 4 rfl dX7_leadsBy_7 ?_
    refine v_if_ne hC (pc := 9) (tgt := 25) dX7_leadsBy_9 (by decide) (fun c_9 => ?_) (fun c_9 => ?_)
    · skip
      refine v_iconst hC (pc := 25) (v := 0) (by decide) dX7_leadsBy_25 ?_
      refine v_istore hC (pc := 26) (l' := [(6, _), (0, _), (1, _), (2, _), (3, _), (4, _), (5, _)]) dX7_leadsBy_26 (by decide) rfl ?_
      refine v_aload_n hC (pc := 28) (k := 0) 1 rfl dX7_leadsBy_28 ?_
      refine v_getR hC (pc := 29) dX7_leadsBy_29 fl_X7_13 rfl (by first | rfl | exact ok_c hq rfl | exact ok_w hq hw | exact ok_w (by omega) (by omega) | exact ok_s (by omega) (by omega) | exact ok_c (by omega) rfl | assumption) rfl (by decide) (by decide) rfl ?_
      refine v_iconst hC (pc := 32) (v := 0) (by decide) dX7_leadsBy_32 ?_
      refine v_bipush hC (pc := 33) (v := 8) (by decide +kernel) dX7_leadsBy_33 ?_
      refine v_iload hC (pc := 35) 0 rfl dX7_leadsBy_35 ?_
      refine v_if_eq hC (pc := 37) (tgt := 46) dX7_leadsBy_37 (by decide) (fun c_37 => ?_) (fun c_37 => ?_)
      · skip
        refine v_iload_n hC (pc := 46) (k := 2) 3 rfl dX7_leadsBy_46 ?_
        refine v_imul hC (pc := 47) dX7_leadsBy_47 ?_
        refine v_iadd hC (pc := 48) dX7_leadsBy_48 ?_
        refine v_iload_n hC (pc := 49) (k := 1) 2 rfl dX7_leadsBy_49 ?_
        refine v_iadd hC (pc := 50) dX7_leadsBy_50 ?_
        first | rw [show (1 : Int32) - nI s = nI (1 - s) from by rw [show (1 : Int32) = nI 1 from rfl, pk_sub (show s ≤ 1 by omega)]] | skip
        rw [show (0 : Int32) + (8 : Int32) * _ + nI c = nI (0 + 8 * _ + c) from by rw [show (0 : Int32) = nI 0 from rfl, show (8 : Int32) = nI 8 from rfl, pk_mul, nI_add, nI_add]]
        refine v_iald hC (pc := 51) dX7_leadsBy_51 rfl (by first | rfl | exact ok_c hq rfl | exact ok_w hq hw | exact ok_w (by omega) (by omega) | exact ok_s (by omega) (by omega) | exact ok_c (by omega) rfl | assumption) (vp_nat (by omega) (by decide)) ?_
        refine v_iret hC hX (pc := 52) dX7_leadsBy_52 ?_
        refine ⟨rfl, ?_⟩
        rw [nI_clamp (by omega)]
        unfold ldM
        first | (rw [if_pos (by first | exact ⟨c_4, c_9, c_18⟩ | exact ⟨c_4, c_9, Classical.not_not.mp c_18⟩)]; simp only [Nat.zero_add]; done) | (rw [if_neg (by first | exact fun z => c_4 z.1 | exact fun z => c_9 z.2.1 | exact fun z => c_18 z.2.2)]; simp only [Nat.zero_add]; done)
      · exact absurd c_37 (by decide)
    · skip
      refine v_iload hC (pc := 12) 5 rfl dX7_leadsBy_12 ?_
      refine v_iload_n hC (pc := 14) (k := 1) 1 rfl dX7_leadsBy_14 ?_
      refine v_ishr hC (pc := 15) dX7_leadsBy_15 ?_
      refine v_iconst hC (pc := 16) (v := 1) (by decide) dX7_leadsBy_16 ?_
      refine v_iand hC (pc := 17) dX7_leadsBy_17 ?_
      refine v_if_ne hC (pc := 18) (tgt := 25) dX7_leadsBy_18 (by decide) (fun c_18 => ?_) (fun c_18 => ?_)
      · skip
        refine v_iconst hC (pc := 25) (v := 0) (by decide) dX7_leadsBy_25 ?_
        refine v_istore hC (pc := 26) (l' := [(6, _), (0, _), (1, _), (2, _), (3, _), (4, _), (5, _)]) dX7_leadsBy_26 (by decide) rfl ?_
        refine v_aload_n hC (pc := 28) (k := 0) 1 rfl dX7_leadsBy_28 ?_
        refine v_getR hC (pc := 29) dX7_leadsBy_29 fl_X7_13 rfl (by first | rfl | exact ok_c hq rfl | exact ok_w hq hw | exact ok_w (by omega) (by omega) | exact ok_s (by omega) (by omega) | exact ok_c (by omega) rfl | assumption) rfl (by decide) (by decide) rfl ?_
        refine v_iconst hC (pc := 32) (v := 0) (by decide) dX7_leadsBy_32 ?_
        refine v_bipush hC (pc := 33) (v := 8) (by decide +kernel) dX7_leadsBy_33 ?_
        refine v_iload hC (pc := 35) 0 rfl dX7_leadsBy_35 ?_
        refine v_if_eq hC (pc := 37) (tgt := 46) dX7_leadsBy_37 (by decide) (fun c_37 => ?_) (fun c_37 => ?_)
        · skip
          refine v_iload_n hC (pc := 46) (k := 2) 3 rfl dX7_leadsBy_46 ?_
          refine v_imul hC (pc := 47) dX7_leadsBy_47 ?_
          refine v_iadd hC (pc := 48) dX7_leadsBy_48 ?_
          refine v_iload_n hC (pc := 49) (k := 1) 2 rfl dX7_leadsBy_49 ?_
          refine v_iadd hC (pc := 50) dX7_leadsBy_50 ?_
          first | rw [show (1 : Int32) - nI s = nI (1 - s) from by rw [show (1 : Int32) = nI 1 from rfl, pk_sub (show s ≤ 1 by omega)]] | skip
          rw [show (0 : Int32) + (8 : Int32) * _ + nI c = nI (0 + 8 * _ + c) from by rw [show (0 : Int32) = nI 0 from rfl, show (8 : Int32) = nI 8 from rfl, pk_mul, nI_add, nI_add]]
          refine v_iald hC (pc := 51) dX7_leadsBy_51 rfl (by first | rfl | exact ok_c hq rfl | exact ok_w hq hw | exact ok_w (by omega) (by omega) | exact ok_s (by omega) (by omega) | exact ok_c (by omega) rfl | assumption) (vp_nat (by omega) (by decide)) ?_
          refine v_iret hC hX (pc := 52) dX7_leadsBy_52 ?_
          refine ⟨rfl, ?_⟩
          rw [nI_clamp (by omega)]
          unfold ldM
          first | (rw [if_pos (by first | exact ⟨c_4, c_9, c_18⟩ | exact ⟨c_4, c_9, Classical.not_not.mp c_18⟩)]; simp only [Nat.zero_add]; done) | (rw [if_neg (by first | exact fun z => c_4 z.1 | exact fun z => c_9 z.2.1 | exact fun z => c_18 z.2.2)]; simp only [Nat.zero_add]; done)
        · exact absurd c_37 (by decide)
      · skip
        refine v_iconst hC (pc := 21) (v := 1) (by decide) dX7_leadsBy_21 ?_
        refine v_goto hC (pc := 22) (tgt := 26) dX7_leadsBy_22 (by decide) ?_
        refine v_istore hC (pc := 26) (l' := [(6, _), (0, _), (1, _), (2, _), (3, _), (4, _), (5, _)]) dX7_leadsBy_26 (by decide) rfl ?_
        refine v_aload_n hC (pc := 28) (k := 0) 1 rfl dX7_leadsBy_28 ?_
        refine v_getR hC (pc := 29) dX7_leadsBy_29 fl_X7_13 rfl (by first | rfl | exact ok_c hq rfl | exact ok_w hq hw | exact ok_w (by omega) (by omega) | exact ok_s (by omega) (by omega) | exact ok_c (by omega) rfl | assumption) rfl (by decide) (by decide) rfl ?_
        refine v_iconst hC (pc := 32) (v := 0) (by decide) dX7_leadsBy_32 ?_
        refine v_bipush hC (pc := 33) (v := 8) (by decide +kernel) dX7_leadsBy_33 ?_
        refine v_iload hC (pc := 35) 0 rfl dX7_leadsBy_35 ?_
        refine v_if_eq hC (pc := 37) (tgt := 46) dX7_leadsBy_37 (by decide) (fun c_37 => ?_) (fun c_37 => ?_)
        · exact absurd c_37 (by decide)
        · skip
          refine v_iconst hC (pc := 40) (v := 1) (by decide) dX7_leadsBy_40 ?_
          refine v_iload_n hC (pc := 41) (k := 2) 3 rfl dX7_leadsBy_41 ?_
          refine v_isub hC (pc := 42) dX7_leadsBy_42 ?_
          refine v_goto hC (pc := 43) (tgt := 47) dX7_leadsBy_43 (by decide) ?_
          refine v_imul hC (pc := 47) dX7_leadsBy_47 ?_
          refine v_iadd hC (pc := 48) dX7_leadsBy_48 ?_
          refine v_iload_n hC (pc := 49) (k := 1) 2 rfl dX7_leadsBy_49 ?_
          refine v_iadd hC (pc := 50) dX7_leadsBy_50 ?_
          first | rw [show (1 : Int32) - nI s = nI (1 - s) from by rw [show (1 : Int32) = nI 1 from rfl, pk_sub (show s ≤ 1 by omega)]] | skip
          rw [show (0 : Int32) + (8 : Int32) * _ + nI c = nI (0 + 8 * _ + c) from by rw [show (0 : Int32) = nI 0 from rfl, show (8 : Int32) = nI 8 from rfl, pk_mul, nI_add, nI_add]]
          refine v_iald hC (pc := 51) dX7_leadsBy_51 rfl (by first | rfl | exact ok_c hq rfl | exact ok_w hq hw | exact ok_w (by omega) (by omega) | exact ok_s (by omega) (by omega) | exact ok_c (by omega) rfl | assumption) (vp_nat (by omega) (by decide)) ?_
          refine v_iret hC hX (pc := 52) dX7_leadsBy_52 ?_
          refine ⟨rfl, ?_⟩
          rw [nI_clamp (by omega)]
          unfold ldM
          first | (rw [if_pos (by first | exact ⟨c_4, c_9, c_18⟩ | exact ⟨c_4, c_9, Classical.not_not.mp c_18⟩)]; simp only [Nat.zero_add]; done) | (rw [if_neg (by first | exact fun z => c_4 z.1 | exact fun z => c_9 z.2.1 | exact fun z => c_18 z.2.2)]; simp only [Nat.zero_add]; done)

set_option maxRecDepth 20000 in
set_option maxHeartbeats 2000000 in
theorem m_goesFrom (l9 : Launch) (G : WT) {d : Nat} (hd : 3 ≤ d) (h : HP) {c s : Nat} (hc : c < 8) (hs : s < 2) (hour kp : Int32) : MS l9 G yX7_goesFrom cX7_goesFrom 6 (some .int) d [vr (3, 0, 0), vi (nI c), vi (nI s), vi hour, vi kp] h (fun r h1 => h1 = h ∧ r = some (vi (goM (h.1 (3, 0, 2)) c s hour kp))) := by
  refine MS_of (by decide +kernel) (Nat.le_of_ble_eq_true rfl) (fun X hC hX => ?_)
  show V X G 6 0 _ [] _
  refine v_aload_n hC (pc := 0) (k := 0) 0 rfl dX7_goesFrom_0 ?_
  refine v_iload_n hC (pc := 1) (k := 1) 1 rfl dX7_goesFrom_1 ?_
  refine v_iload_n hC (pc := 2) (k := 2) 2 rfl dX7_goesFrom_2 ?_
  refine v_iload_n hC (pc := 3) (k := 3) 3 rfl dX7_goesFrom_3 ?_
  refine v_iload hC (pc := 4) 4 rfl dX7_goesFrom_4 ?_
  refine v_aload_n hC (pc := 6) (k := 0) 0 rfl dX7_goesFrom_6 ?_
  refine v_getR hC (pc := 7) dX7_goesFrom_7 fl_X7_13 rfl (by first | rfl | exact ok_c hq rfl | exact ok_w hq hw | exact ok_w (by omega) (by omega) | exact ok_s (by omega) (by omega) | exact ok_c (by omega) rfl | assumption) rfl (by decide) (by decide) rfl ?_
  refine v_bipush hC (pc := 10) (v := 16) (by decide +kernel) dX7_goesFrom_10 ?_
  refine v_iald hC (pc := 12) dX7_goesFrom_12 rfl (by first | rfl | exact ok_c hq rfl | exact ok_w hq hw | exact ok_w (by omega) (by omega) | exact ok_s (by omega) (by omega) | exact ok_c (by omega) rfl | assumption) (vp_nat (n := 16) (by omega) (by decide)) ?_
  show V X G 6 13 _ (vi (h.1 (3, 0, 2) 16) :: _) _
  refine v_callV hC (pc := 13) (As := [_, _, _, _, _]) dX7_goesFrom_13 rfl (m_leadsBy _ _ (d := d - 1) (by omega) _ hc hs _ _ _) cv_X7_183 rfl (by decide) rfl (by first | rfl | exact ok_c hq rfl | exact ok_w hq hw | exact ok_w (by omega) (by omega) | exact ok_s (by omega) (by omega) | exact ok_c (by omega) rfl | assumption) (Nat.le_of_ble_eq_true rfl) (by omega) (fun r h' hr => ?_)
  obtain ⟨he9, rfl⟩ := hr
  rw [he9]
  clear he9 h'
  show V _ _ _ (13 + 3) _ (_ :: _) _
  refine v_istore hC (pc := 16) (l' := [(5, _), (0, _), (1, _), (2, _), (3, _), (4, _)]) dX7_goesFrom_16 (by decide) rfl ?_
  refine v_iload hC (pc := 18) 0 rfl dX7_goesFrom_18 ?_
  refine v_bipush hC (pc := 20) (v := (-4)) (by decide +kernel) dX7_goesFrom_20 ?_
  refine v_icmp_ne hC (pc := 22) (tgt := 29) dX7_goesFrom_22 (by decide) (fun c_22 => ?_) (fun c_22 => ?_)
  · skip
    refine v_iload hC (pc := 29) 0 rfl dX7_goesFrom_29 ?_
    refine v_iret hC hX (pc := 31) dX7_goesFrom_31 ?_
    exact ⟨rfl, by simp only [c_22, goM, not_true_eq_false, not_false_eq_true, and_self, and_true, true_and, and_false, false_and, or_true, true_or, or_false, false_or, if_true, if_false, ↓reduceIte, ite_true, ite_false]⟩
  · skip
    refine v_iload_n hC (pc := 25) (k := 1) 2 rfl dX7_goesFrom_25 ?_
    refine v_goto hC (pc := 26) (tgt := 31) dX7_goesFrom_26 (by decide) ?_
    refine v_iret hC hX (pc := 31) dX7_goesFrom_31 ?_
    exact ⟨rfl, by simp only [c_22, goM, not_true_eq_false, not_false_eq_true, and_self, and_true, true_and, and_false, false_and, or_true, true_or, or_false, false_or, if_true, if_false, ↓reduceIte, ite_true, ite_false]⟩

set_option maxRecDepth 20000 in
set_option maxHeartbeats 2000000 in
theorem m_leftOf (l9 : Launch) (G : WT) {d : Nat} (hd : 2 ≤ d) (h : HP) {w : Nat} (hw : w < 4) : MS l9 G yX7_leftOf cX7_leftOf 2 (some .int) d [vr (3, 0, 0), vi (nI w)] h (fun r h1 => h1 = h ∧ r = some (vi (h.1 (3, 0, 2) (18 + 6 * w + 3) - h.1 (3, 0, 2) (18 + 6 * w + 5)))) := by
  refine MS_of (by decide +kernel) (Nat.le_of_ble_eq_true rfl) (fun X hC hX => ?_)
  show V X G 2 0 _ [] _
  refine v_aload_n hC (pc := 0) (k := 0) 0 rfl dX7_leftOf_0 ?_
  refine v_iload_n hC (pc := 1) (k := 1) 1 rfl dX7_leftOf_1 ?_
  refine v_iconst hC (pc := 2) (v := 3) (by decide) dX7_leftOf_2 ?_
  refine v_callV hC (pc := 3) (As := [_, _]) dX7_leftOf_3 rfl (m_of _ _ (d := d - 1) (by omega) _ hw (k := 3) (by decide)) cv_X7_187 rfl (by decide) rfl (by first | rfl | exact ok_c hq rfl | exact ok_w hq hw | exact ok_w (by omega) (by omega) | exact ok_s (by omega) (by omega) | exact ok_c (by omega) rfl | assumption) (Nat.le_of_ble_eq_true rfl) (by omega) (fun r h' hr => ?_)
  obtain ⟨he9, rfl⟩ := hr
  rw [he9]
  clear he9 h'
  show V _ _ _ (3 + 3) _ (_ :: _) _
  refine v_aload_n hC (pc := 6) (k := 0) 0 rfl dX7_leftOf_6 ?_
  refine v_iload_n hC (pc := 7) (k := 1) 1 rfl dX7_leftOf_7 ?_
  refine v_iconst hC (pc := 8) (v := 5) (by decide) dX7_leftOf_8 ?_
  refine v_callV hC (pc := 9) (As := [_, _]) dX7_leftOf_9 rfl (m_of _ _ (d := d - 1) (by omega) _ hw (k := 5) (by decide)) cv_X7_187 rfl (by decide) rfl (by first | rfl | exact ok_c hq rfl | exact ok_w hq hw | exact ok_w (by omega) (by omega) | exact ok_s (by omega) (by omega) | exact ok_c (by omega) rfl | assumption) (Nat.le_of_ble_eq_true rfl) (by omega) (fun r h' hr => ?_)
  obtain ⟨he9, rfl⟩ := hr
  rw [he9]
  clear he9 h'
  show V _ _ _ (9 + 3) _ (_ :: _) _
  refine v_isub hC (pc := 12) dX7_leftOf_12 ?_
  refine v_iret hC hX (pc := 13) dX7_leftOf_13 ?_
  exact ⟨rfl, rfl⟩

