/-! THE READER OF THE CLASS: bytes and tokens -/
def rfH (h : HP) (c p : Int32) : HP := upI (upI h (1, 0, 2) 2 c) (1, 0, 2) 3 p
/-- all but what the reader's tokens write stays -/
def FrR (h u : HP) : Prop := (∀ i : PId, i ≠ (1, 0, 2) → u.1 i = h.1 i) ∧ u.2 = h.2 ∧ ∀ k, k = 1 ∨ k = 4 ∨ k = 0 ∨ 8 ≤ k → u.1 (1, 0, 2) k = h.1 (1, 0, 2) k
theorem FrR_r (h : HP) : FrR h h := ⟨fun _ _ => rfl, rfl, fun _ _ => rfl⟩
theorem FrR_up {h u : HP} {k : Nat} {x : Int32} (hF : FrR h u) (hk : k = 2 ∨ k = 3 ∨ k = 5 ∨ k = 6 ∨ k = 7) : FrR h (upI u (1, 0, 2) k x) :=
  ⟨fun i hi => by rw [upI_ne _ _ _ hi]; exact hF.1 i hi, hF.2.1, fun m hm => by rw [upI_k _ _ _ _ _ (by omega)]; exact hF.2.2 m hm⟩
theorem FrR_rf {h u : HP} {c p : Int32} (hF : FrR h u) : FrR h (rfH u c p) := FrR_up (FrR_up hF (by decide)) (by decide)
theorem FrR_t {h u w : HP} (h1 : FrR h u) (h2 : FrR u w) : FrR h w :=
  ⟨fun i hi => (h2.1 i hi).trans (h1.1 i hi), h2.2.1.trans h1.2.1, fun k hk => (h2.2.2 k hk).trans (h1.2.2 k hk)⟩
theorem rfH_2 (h : HP) (c p : Int32) : (rfH h c p).1 (1, 0, 2) 2 = c := by simp [rfH, upI]
theorem rfH_3 (h : HP) (c p : Int32) : (rfH h c p).1 (1, 0, 2) 3 = p := by simp [rfH, upI]
theorem rfH_k (h : HP) (c p : Int32) (k : Nat) (h1 : k ≠ 2) (h2 : k ≠ 3) : (rfH h c p).1 (1, 0, 2) k = h.1 (1, 0, 2) k := by simp [rfH, upI, h1, h2]
def kC (k : Nat) : Int32 := if k = 0 then 4 else nI k
def TokC (T : Nat → Int32) (t : Nat) (h u : HP) (e : Nat) (r : Option PV) : Prop := FrR h u ∧ ((tB T t e ∧ r = some (vi 0) ∧ u.1 (1, 0, 2) 2 = 1 ∧ u.1 (1, 0, 2) 3 = nI (tF T t e)) ∨ (¬ tB T t e ∧ r = some (vi 1) ∧ u.1 (1, 0, 2) 2 = h.1 (1, 0, 2) 2 ∧ u.1 (1, 0, 2) 3 = h.1 (1, 0, 2) 3 ∧ u.1 (1, 0, 2) 5 = nI (tE T t e) ∧ u.1 (1, 0, 2) 7 = nI (tF T t e) ∧ u.1 (1, 0, 2) 6 = kC (tK T t e)))
set_option maxRecDepth 20000 in
set_option maxHeartbeats 2000000 in
theorem t_refuse (l9 : Launch) (G : WT) {d : Nat} (hd : 1 ≤ d) (h : HP) (c p : Int32) : MS l9 G yX2_refuse cX2_refuse 3 (some .boolean) d [vr (1, 0, 2), vi c, vi p] h (fun r h1 => h1 = rfH h c p ∧ r = some (vi 0)) := by
  refine MS_of (by decide +kernel) (Nat.le_of_ble_eq_true rfl) (fun X hC hX => ?_)
  show V X G 3 0 _ [] _
  refine v_aload_n hC (pc := 0) (k := 0) 0 rfl dX2_refuse_0 ?_
  refine v_iload_n hC (pc := 1) (k := 1) 1 rfl dX2_refuse_1 ?_
  refine v_putI hC (pc := 2) dX2_refuse_2 fs_X2_34 rfl (by first | rfl | exact ok_c hq rfl | exact ok_w hq hw | exact ok_w (by omega) (by omega) | exact ok_s (by omega) (by omega) | exact ok_c (by omega) rfl | assumption) rfl (by decide) (by decide) ?_
  refine v_aload_n hC (pc := 5) (k := 0) 0 rfl dX2_refuse_5 ?_
  refine v_iload_n hC (pc := 6) (k := 2) 2 rfl dX2_refuse_6 ?_
  refine v_putI hC (pc := 7) dX2_refuse_7 fs_X2_38 rfl (by first | rfl | exact ok_c hq rfl | exact ok_w hq hw | exact ok_w (by omega) (by omega) | exact ok_s (by omega) (by omega) | exact ok_c (by omega) rfl | assumption) rfl (by decide) (by decide) ?_
  refine v_iconst hC (pc := 10) (v := 0) (by decide) dX2_refuse_10 ?_
  refine v_zret hC hX (pc := 11) dX2_refuse_11 (nar_b (by first | exact Or.inl rfl | exact Or.inr rfl | exact bI_01 _)) ?_
  exact ⟨rfl, rfl⟩

set_option maxRecDepth 20000 in
set_option maxHeartbeats 2000000 in
theorem t_rbyte (l9 : Launch) (G : WT) {d : Nat} (hd : 1 ≤ d) (h : HP) {t p : Nat} (ht : t ≤ 160) (htp : h.1 (1, 0, 2) 1 = nI t) (hp : p < 1000) : MS l9 G yX2_byteAt cX2_byteAt 2 (some .int) d [vr (1, 0, 2), vi (nI p)] h (fun r h1 => h1 = h ∧ r = some (vi (byF (h.1 (1, 0, 3)) t p))) := by
  refine MS_of (by decide +kernel) (Nat.le_of_ble_eq_true rfl) (fun X hC hX => ?_)
  show V X G 2 0 _ [] _
  refine v_iload_n hC (pc := 0) (k := 1) 1 rfl dX2_byteAt_0 ?_
  refine v_if_lt hC (pc := 1) (tgt := 30) dX2_byteAt_1 (by decide) (fun c_1 => ?_) (fun c_1 => ?_)
  · exact absurd c_1 (nI_pos (by omega))
  · skip
    refine v_iload_n hC (pc := 4) (k := 1) 1 rfl dX2_byteAt_4 ?_
    refine v_aload_n hC (pc := 5) (k := 0) 0 rfl dX2_byteAt_5 ?_
    refine v_getI hC (pc := 6) dX2_byteAt_6 fl_X2_61 rfl (by first | rfl | exact ok_c hq rfl | exact ok_w hq hw | exact ok_w (by omega) (by omega) | exact ok_s (by omega) (by omega) | exact ok_c (by omega) rfl | assumption) rfl (by decide) (by decide) ?_
    rw [htp]
    refine v_icmp_ge hC (pc := 9) (tgt := 30) dX2_byteAt_9 (by decide) (fun c_9 => ?_) (fun c_9 => ?_)
    · skip
      refine v_iconst hC (pc := 30) (v := (-1)) (by decide) dX2_byteAt_30 ?_
      refine v_iret hC hX (pc := 31) dX2_byteAt_31 ?_
      refine ⟨rfl, ?_⟩
      unfold byF
      first | rw [if_pos hpt, nI_clamp (show p < 2 ^ 31 by omega)] | rw [if_neg (fun z => absurd c_9 (nI_ge z (by omega)))]
    · skip
      have hpt : p < t := Nat.lt_of_not_le (fun z => c_9 (nI_le z (by omega)))
      refine v_iload_n hC (pc := 12) (k := 1) 1 rfl dX2_byteAt_12 ?_
      refine v_aload_n hC (pc := 13) (k := 0) 0 rfl dX2_byteAt_13 ?_
      refine v_getR hC (pc := 14) dX2_byteAt_14 fl_X2_18 rfl (by first | rfl | exact ok_c hq rfl | exact ok_w hq hw | exact ok_w (by omega) (by omega) | exact ok_s (by omega) (by omega) | exact ok_c (by omega) rfl | assumption) rfl (by decide) (by decide) rfl ?_
      refine v_alen hC (pc := 17) 0 dX2_byteAt_17 rfl (fun _ => rfl) (by first | exact Or.inl rfl | exact Or.inr rfl) (by first | rfl | exact ok_c hq rfl | exact ok_w hq hw | exact ok_w (by omega) (by omega) | exact ok_s (by omega) (by omega) | exact ok_c (by omega) rfl | assumption) (v := nI 160) (by decide +kernel) ?_
      refine v_icmp_ge hC (pc := 18) (tgt := 30) dX2_byteAt_18 (by decide) (fun c_18 => ?_) (fun c_18 => ?_)
      · exact absurd c_18 (nI_ge (show p < 160 by omega) (by decide))
      · skip
        refine v_aload_n hC (pc := 21) (k := 0) 0 rfl dX2_byteAt_21 ?_
        refine v_getR hC (pc := 22) dX2_byteAt_22 fl_X2_18 rfl (by first | rfl | exact ok_c hq rfl | exact ok_w hq hw | exact ok_w (by omega) (by omega) | exact ok_s (by omega) (by omega) | exact ok_c (by omega) rfl | assumption) rfl (by decide) (by decide) rfl ?_
        refine v_iload_n hC (pc := 25) (k := 1) 1 rfl dX2_byteAt_25 ?_
        refine v_iald hC (pc := 26) dX2_byteAt_26 rfl (by first | rfl | exact ok_c hq rfl | exact ok_w hq hw | exact ok_w (by omega) (by omega) | exact ok_s (by omega) (by omega) | exact ok_c (by omega) rfl | assumption) (vp_nat (n := p) (by omega) (by decide)) ?_
        refine v_goto hC (pc := 27) (tgt := 31) dX2_byteAt_27 (by decide) ?_
        refine v_iret hC hX (pc := 31) dX2_byteAt_31 ?_
        refine ⟨rfl, ?_⟩
        unfold byF
        first | rw [if_pos hpt, nI_clamp (show p < 2 ^ 31 by omega)] | rw [if_neg (fun z => absurd c_9 (nI_ge z (by omega)))]

theorem t_byteT (l9 : Launch) (G : WT) {d : Nat} (hd : 1 ≤ d) (h : HP) {T : Nat → Int32} {t p : Nat} (ht : t ≤ 160) (htp : h.1 (1, 0, 2) 1 = nI t) (hT : h.1 (1, 0, 3) = T) (hp : p < 1000) : MS l9 G yX2_byteAt cX2_byteAt 2 (some .int) d [vr (1, 0, 2), vi (nI p)] h (fun r h1 => h1 = h ∧ r = some (vi (byF T t p))) := by
  subst hT
  exact t_rbyte l9 G hd h ht htp hp
set_option maxRecDepth 20000 in
set_option maxHeartbeats 2000000 in
theorem t_isLetter (l9 : Launch) (G : WT) {d : Nat} (hd : 1 ≤ d) (h : HP) (c : Int32) : MS l9 G yX2_isLetter cX2_isLetter 1 (some .boolean) d [vi c] h (fun r h1 => h1 = h ∧ r = some (vi (bI (¬ c < 97 ∧ ¬ 122 < c)))) := by
  refine MS_of (by decide +kernel) (Nat.le_of_ble_eq_true rfl) (fun X hC hX => ?_)
  show V X G 1 0 _ [] _
  refine v_iload_n hC (pc := 0) (k := 0) 0 rfl dX2_isLetter_0 ?_
  refine v_bipush hC (pc := 1) (v := 97) (by decide +kernel) dX2_isLetter_1 ?_
  refine v_icmp_lt hC (pc := 3) (tgt := 16) dX2_isLetter_3 (by decide) (fun c_3 => ?_) (fun c_3 => ?_)
  · skip
    refine v_iconst hC (pc := 16) (v := 0) (by decide) dX2_isLetter_16 ?_
    refine v_zret hC hX (pc := 17) dX2_isLetter_17 (nar_b (by first | exact Or.inl rfl | exact Or.inr rfl | exact bI_01 _)) ?_
    first | (refine rb_t ?_; exact ⟨c_3⟩) | (refine rb_t ?_; simp only [c_3, not_true_eq_false, not_false_eq_true, and_self, and_true, true_and, and_false, false_and, or_true, true_or, or_false, false_or, if_true, if_false, ↓reduceIte, ite_true, ite_false]; done) | (refine rb_f ?_; simp only [c_3, not_true_eq_false, not_false_eq_true, and_self, and_true, true_and, and_false, false_and, or_true, true_or, or_false, false_or, if_true, if_false, ↓reduceIte, ite_true, ite_false]; done)
  · skip
    refine v_iload_n hC (pc := 6) (k := 0) 0 rfl dX2_isLetter_6 ?_
    refine v_bipush hC (pc := 7) (v := 122) (by decide +kernel) dX2_isLetter_7 ?_
    refine v_icmp_gt hC (pc := 9) (tgt := 16) dX2_isLetter_9 (by decide) (fun c_9 => ?_) (fun c_9 => ?_)
    · skip
      refine v_iconst hC (pc := 16) (v := 0) (by decide) dX2_isLetter_16 ?_
      refine v_zret hC hX (pc := 17) dX2_isLetter_17 (nar_b (by first | exact Or.inl rfl | exact Or.inr rfl | exact bI_01 _)) ?_
      first | (refine rb_t ?_; exact ⟨c_3, c_9⟩) | (refine rb_t ?_; simp only [c_3, c_9, not_true_eq_false, not_false_eq_true, and_self, and_true, true_and, and_false, false_and, or_true, true_or, or_false, false_or, if_true, if_false, ↓reduceIte, ite_true, ite_false]; done) | (refine rb_f ?_; simp only [c_3, c_9, not_true_eq_false, not_false_eq_true, and_self, and_true, true_and, and_false, false_and, or_true, true_or, or_false, false_or, if_true, if_false, ↓reduceIte, ite_true, ite_false]; done)
    · skip
      refine v_iconst hC (pc := 12) (v := 1) (by decide) dX2_isLetter_12 ?_
      refine v_goto hC (pc := 13) (tgt := 17) dX2_isLetter_13 (by decide) ?_
      refine v_zret hC hX (pc := 17) dX2_isLetter_17 (nar_b (by first | exact Or.inl rfl | exact Or.inr rfl | exact bI_01 _)) ?_
      first | (refine rb_t ?_; exact ⟨c_3, c_9⟩) | (refine rb_t ?_; simp only [c_3, c_9, not_true_eq_false, not_false_eq_true, and_self, and_true, true_and, and_false, false_and, or_true, true_or, or_false, false_or, if_true, if_false, ↓reduceIte, ite_true, ite_false]; done) | (refine rb_f ?_; simp only [c_3, c_9, not_true_eq_false, not_false_eq_true, and_self, and_true, true_and, and_false, false_and, or_true, true_or, or_false, false_or, if_true, if_false, ↓reduceIte, ite_true, ite_false]; done)

set_option maxRecDepth 20000 in
set_option maxHeartbeats 2000000 in
theorem t_isFigure (l9 : Launch) (G : WT) {d : Nat} (hd : 1 ≤ d) (h : HP) (c : Int32) : MS l9 G yX2_isFigure cX2_isFigure 1 (some .boolean) d [vi c] h (fun r h1 => h1 = h ∧ r = some (vi (bI (¬ c < 48 ∧ ¬ 57 < c)))) := by
  refine MS_of (by decide +kernel) (Nat.le_of_ble_eq_true rfl) (fun X hC hX => ?_)
  show V X G 1 0 _ [] _
  refine v_iload_n hC (pc := 0) (k := 0) 0 rfl dX2_isFigure_0 ?_
  refine v_bipush hC (pc := 1) (v := 48) (by decide +kernel) dX2_isFigure_1 ?_
  refine v_icmp_lt hC (pc := 3) (tgt := 16) dX2_isFigure_3 (by decide) (fun c_3 => ?_) (fun c_3 => ?_)
  · skip
    refine v_iconst hC (pc := 16) (v := 0) (by decide) dX2_isFigure_16 ?_
    refine v_zret hC hX (pc := 17) dX2_isFigure_17 (nar_b (by first | exact Or.inl rfl | exact Or.inr rfl | exact bI_01 _)) ?_
    first | (refine rb_t ?_; exact ⟨c_3⟩) | (refine rb_t ?_; simp only [c_3, not_true_eq_false, not_false_eq_true, and_self, and_true, true_and, and_false, false_and, or_true, true_or, or_false, false_or, if_true, if_false, ↓reduceIte, ite_true, ite_false]; done) | (refine rb_f ?_; simp only [c_3, not_true_eq_false, not_false_eq_true, and_self, and_true, true_and, and_false, false_and, or_true, true_or, or_false, false_or, if_true, if_false, ↓reduceIte, ite_true, ite_false]; done)
  · skip
    refine v_iload_n hC (pc := 6) (k := 0) 0 rfl dX2_isFigure_6 ?_
    refine v_bipush hC (pc := 7) (v := 57) (by decide +kernel) dX2_isFigure_7 ?_
    refine v_icmp_gt hC (pc := 9) (tgt := 16) dX2_isFigure_9 (by decide) (fun c_9 => ?_) (fun c_9 => ?_)
    · skip
      refine v_iconst hC (pc := 16) (v := 0) (by decide) dX2_isFigure_16 ?_
      refine v_zret hC hX (pc := 17) dX2_isFigure_17 (nar_b (by first | exact Or.inl rfl | exact Or.inr rfl | exact bI_01 _)) ?_
      first | (refine rb_t ?_; exact ⟨c_3, c_9⟩) | (refine rb_t ?_; simp only [c_3, c_9, not_true_eq_false, not_false_eq_true, and_self, and_true, true_and, and_false, false_and, or_true, true_or, or_false, false_or, if_true, if_false, ↓reduceIte, ite_true, ite_false]; done) | (refine rb_f ?_; simp only [c_3, c_9, not_true_eq_false, not_false_eq_true, and_self, and_true, true_and, and_false, false_and, or_true, true_or, or_false, false_or, if_true, if_false, ↓reduceIte, ite_true, ite_false]; done)
    · skip
      refine v_iconst hC (pc := 12) (v := 1) (by decide) dX2_isFigure_12 ?_
      refine v_goto hC (pc := 13) (tgt := 17) dX2_isFigure_13 (by decide) ?_
      refine v_zret hC hX (pc := 17) dX2_isFigure_17 (nar_b (by first | exact Or.inl rfl | exact Or.inr rfl | exact bI_01 _)) ?_
      first | (refine rb_t ?_; exact ⟨c_3, c_9⟩) | (refine rb_t ?_; simp only [c_3, c_9, not_true_eq_false, not_false_eq_true, and_self, and_true, true_and, and_false, false_and, or_true, true_or, or_false, false_or, if_true, if_false, ↓reduceIte, ite_true, ite_false]; done) | (refine rb_f ?_; simp only [c_3, c_9, not_true_eq_false, not_false_eq_true, and_self, and_true, true_and, and_false, false_and, or_true, true_or, or_false, false_or, if_true, if_false, ↓reduceIte, ite_true, ite_false]; done)

set_option maxRecDepth 20000 in
set_option maxHeartbeats 2000000 in
theorem t_nextToken (l9 : Launch) (G : WT) {d : Nat} (hd : 2 ≤ d) (h : HP) {T : Nat → Int32} {t e : Nat} (ht : t ≤ 160) (htp : h.1 (1, 0, 2) 1 = nI t) (hT : h.1 (1, 0, 3) = T) (hT0 : ∀ j, j < t → ¬ T j < 0) (hp0 : h.1 (1, 0, 2) 5 = nI e) (het : e ≤ t) : MS l9 G yX2_nextToken cX2_nextToken 2 (some .boolean) d [vr (1, 0, 2)] h (fun r h1 => TokC T t h h1 e r) := by
  refine MS_of (by decide +kernel) (Nat.le_of_ble_eq_true rfl) (fun X hC hX => ?_)
  show V X G 2 0 _ [] _
  have hfb := tF_b (T := T) het
  have wl : tK T t e = 1 → tF T t e < t → ∀ (n p : Nat) (u : HP), t + 1 ≤ p + n → tF T t e ≤ p → p ≤ t → FrR h u → u.1 (1, 0, 2) 2 = h.1 (1, 0, 2) 2 → u.1 (1, 0, 2) 3 = h.1 (1, 0, 2) 3 → u.1 (1, 0, 2) 5 = nI p → u.1 (1, 0, 2) 6 = 1 → u.1 (1, 0, 2) 7 = nI (tF T t e) → txR (leB T) t p = tE T t e → V X G 2 105 [(1, vi (byF T t (tF T t e))), (0, vr (1, 0, 2))] [] u := by
    intro hK1 hft n
    have hEg : tF T t e < tE T t e := tE_g het (by rw [hK1]; decide)
    have hE2 := (tE_b (T := T) het).2
    have W168 : ∀ u : HP, FrR h u → u.1 (1, 0, 2) 2 = h.1 (1, 0, 2) 2 → u.1 (1, 0, 2) 3 = h.1 (1, 0, 2) 3 → u.1 (1, 0, 2) 5 = nI (tE T t e) → u.1 (1, 0, 2) 7 = nI (tF T t e) → u.1 (1, 0, 2) 6 = 1 → V X G 2 168 [(1, vi (byF T t (tF T t e))), (0, vr (1, 0, 2))] [] u := by
      intro u hF hq2 hq3 hq5 hq7 hq6
      refine v_aload_n hC (pc := 168) (k := 0) 1 rfl dX2_nextToken_168 ?_
      refine v_getI hC (pc := 169) dX2_nextToken_169 fl_X2_41 rfl (by first | rfl | exact ok_c hq rfl | exact ok_w hq hw | exact ok_w (by omega) (by omega) | exact ok_s (by omega) (by omega) | exact ok_c (by omega) rfl | assumption) rfl (by decide) (by decide) ?_
      rw [hq5]
      refine v_aload_n hC (pc := 172) (k := 0) 1 rfl dX2_nextToken_172 ?_
      refine v_getI hC (pc := 173) dX2_nextToken_173 fl_X2_72 rfl (by first | rfl | exact ok_c hq rfl | exact ok_w hq hw | exact ok_w (by omega) (by omega) | exact ok_s (by omega) (by omega) | exact ok_c (by omega) rfl | assumption) rfl (by decide) (by decide) ?_
      rw [hq7]
      refine v_icmp_eq hC (pc := 176) (tgt := 200) dX2_nextToken_176 (by decide) (fun c_176 => ?_) (fun c_176 => ?_)
      · exact absurd ((nI_eq (by omega) (by omega)).mp c_176) (by omega)
      · skip
        refine v_aload_n hC (pc := 179) (k := 0) 1 rfl dX2_nextToken_179 ?_
        refine v_getI hC (pc := 180) dX2_nextToken_180 fl_X2_48 rfl (by first | rfl | exact ok_c hq rfl | exact ok_w hq hw | exact ok_w (by omega) (by omega) | exact ok_s (by omega) (by omega) | exact ok_c (by omega) rfl | assumption) rfl (by decide) (by decide) ?_
        rw [hq6]
        refine v_iconst hC (pc := 183) (v := 2) (by decide) dX2_nextToken_183 ?_
        refine v_icmp_ne hC (pc := 184) (tgt := 210) dX2_nextToken_184 (by decide) (fun c_184 => ?_) (fun c_184 => ?_)
        · skip
          refine v_iconst hC (pc := 210) (v := 1) (by decide) dX2_nextToken_210 ?_
          refine v_zret hC hX (pc := 211) dX2_nextToken_211 (nar_b (by first | exact Or.inl rfl | exact Or.inr rfl | exact bI_01 _)) ?_
          exact ⟨hF, Or.inr ⟨fun z => z.elim (fun y => absurd (y.1.symm.trans hK1) (by decide)) (fun y => absurd (y.1.symm.trans hK1) (by decide)), rfl, hq2, hq3, hq5, hq7, by rw [hq6, hK1]; rfl⟩⟩
        · exact absurd c_184 (by decide)
    induction n with
    | zero => intro p u h1 h2 h3; exact absurd h1 (by omega)
    | succ n ih =>
      intro p u h1 hfp h3 hF hq2 hq3 hq5 hq6 hq7 hs
      refine v_aload_n hC (pc := 105) (k := 0) 1 rfl dX2_nextToken_105 ?_
      refine v_getI hC (pc := 106) dX2_nextToken_106 fl_X2_41 rfl (by first | rfl | exact ok_c hq rfl | exact ok_w hq hw | exact ok_w (by omega) (by omega) | exact ok_s (by omega) (by omega) | exact ok_c (by omega) rfl | assumption) rfl (by decide) (by decide) ?_
      rw [hq5]
      refine v_aload_n hC (pc := 109) (k := 0) 1 rfl dX2_nextToken_109 ?_
      refine v_getI hC (pc := 110) dX2_nextToken_110 fl_X2_61 rfl (by first | rfl | exact ok_c hq rfl | exact ok_w hq hw | exact ok_w (by omega) (by omega) | exact ok_s (by omega) (by omega) | exact ok_c (by omega) rfl | assumption) rfl (by decide) (by decide) ?_
      rw [(hF.2.2 1 (by decide)).trans htp]
      refine v_icmp_ge hC (pc := 113) (tgt := 168) dX2_nextToken_113 (by decide) (fun c_113 => ?_) (fun c_113 => ?_)
      · skip
        have hpE : p = tE T t e := by
          rw [← hs]
          refine (txR_e (fun hp => decide_eq_false ?_)).symm
          exact absurd c_113 (nI_ge hp (by omega))
        exact W168 u hF hq2 hq3 (hpE ▸ hq5) hq7 hq6
      · skip
        have hp : p < t := Nat.lt_of_not_le (fun z => c_113 (nI_le z (by omega)))
        refine v_aload_n hC (pc := 116) (k := 0) 1 rfl dX2_nextToken_116 ?_
        refine v_getI hC (pc := 117) dX2_nextToken_117 fl_X2_48 rfl (by first | rfl | exact ok_c hq rfl | exact ok_w hq hw | exact ok_w (by omega) (by omega) | exact ok_s (by omega) (by omega) | exact ok_c (by omega) rfl | assumption) rfl (by decide) (by decide) ?_
        rw [hq6]
        refine v_iconst hC (pc := 120) (v := 1) (by decide) dX2_nextToken_120 ?_
        refine v_icmp_ne hC (pc := 121) (tgt := 141) dX2_nextToken_121 (by decide) (fun c_121 => ?_) (fun c_121 => ?_)
        · exact absurd rfl c_121
        · skip
          refine v_aload_n hC (pc := 124) (k := 0) 1 rfl dX2_nextToken_124 ?_
          refine v_aload_n hC (pc := 125) (k := 0) 1 rfl dX2_nextToken_125 ?_
          refine v_getI hC (pc := 126) dX2_nextToken_126 fl_X2_41 rfl (by first | rfl | exact ok_c hq rfl | exact ok_w hq hw | exact ok_w (by omega) (by omega) | exact ok_s (by omega) (by omega) | exact ok_c (by omega) rfl | assumption) rfl (by decide) (by decide) ?_
          rw [hq5]
          refine v_callV hC (pc := 129) (As := [_]) dX2_nextToken_129 rfl (t_byteT _ _ (d := d - 1) (by omega) _ (p := p) ht ((hF.2.2 1 (by decide)).trans htp) ((hF.1 (1, 0, 3) (by decide)).trans hT) (by omega)) cv_X2_68 rfl (by decide) rfl (by first | rfl | exact ok_c hq rfl | exact ok_w hq hw | exact ok_w (by omega) (by omega) | exact ok_s (by omega) (by omega) | exact ok_c (by omega) rfl | assumption) (Nat.le_of_ble_eq_true rfl) (by omega) (fun r h' hr => ?_)
          obtain ⟨he9, rfl⟩ := hr
          rw [he9]
          clear he9 h'
          show V _ _ _ (129 + 3) _ (_ :: _) _
          refine v_callS hC (pc := 132) (As := [_]) dX2_nextToken_132 rfl (t_isLetter _ _ (d := d - 1) (by omega) _ _) cs_X2_75 (Nat.le_of_ble_eq_true rfl) (by omega) (fun r h' hr => ?_)
          obtain ⟨he9, rfl⟩ := hr
          rw [he9]
          clear he9 h'
          show V _ _ _ (132 + 3) _ (_ :: _) _
          refine v_ifb_eq hC (pc := 135) (tgt := 168) dX2_nextToken_135 (by decide) (fun c_135 => ?_) (fun c_135 => ?_)
          · skip
            have hpE : p = tE T t e := by
              rw [← hs]
              refine (txR_e (fun hp => decide_eq_false ?_)).symm
              rw [byF_lt hp] at c_135
              exact c_135
            exact W168 u hF hq2 hq3 (hpE ▸ hq5) hq7 hq6
          · skip
            rw [byF_lt hp] at c_135
            refine v_goto hC (pc := 138) (tgt := 155) dX2_nextToken_138 (by decide) ?_
            refine v_aload_n hC (pc := 155) (k := 0) 1 rfl dX2_nextToken_155 ?_
            refine v_dup hC (pc := 156) rfl dX2_nextToken_156 ?_
            refine v_getI hC (pc := 157) dX2_nextToken_157 fl_X2_41 rfl (by first | rfl | exact ok_c hq rfl | exact ok_w hq hw | exact ok_w (by omega) (by omega) | exact ok_s (by omega) (by omega) | exact ok_c (by omega) rfl | assumption) rfl (by decide) (by decide) ?_
            rw [hq5]
            refine v_iconst hC (pc := 160) (v := 1) (by decide) dX2_nextToken_160 ?_
            refine v_iadd hC (pc := 161) dX2_nextToken_161 ?_
            rw [nI_1]
            refine v_putI hC (pc := 162) dX2_nextToken_162 fs_X2_41 rfl (by first | rfl | exact ok_c hq rfl | exact ok_w hq hw | exact ok_w (by omega) (by omega) | exact ok_s (by omega) (by omega) | exact ok_c (by omega) rfl | assumption) rfl (by decide) (by decide) ?_
            refine v_goto hC (pc := 165) (tgt := 105) dX2_nextToken_165 (by decide) ?_
            exact ih (p + 1) _ (by omega) (by omega) (by omega) (FrR_up hF (by decide)) (by simp (decide := true) only [upI_k, upI_i]; exact hq2) (by simp (decide := true) only [upI_k, upI_i]; exact hq3) (upI_i _ _ _ _) (by simp (decide := true) only [upI_k, upI_i]; exact hq6) (by simp (decide := true) only [upI_k, upI_i]; exact hq7) (by rw [← hs]; exact (txR_s hp (decide_eq_true c_135)).symm)
  have nl : tF T t e < t → ¬ T (tF T t e) = 59 → ¬ leB T (tF T t e) = true → ∀ (n p : Nat) (u : HP), t + 1 ≤ p + n → tF T t e ≤ p → p ≤ t → FrR h u → u.1 (1, 0, 2) 2 = h.1 (1, 0, 2) 2 → u.1 (1, 0, 2) 3 = h.1 (1, 0, 2) 3 → u.1 (1, 0, 2) 5 = nI p → u.1 (1, 0, 2) 6 = 2 → u.1 (1, 0, 2) 7 = nI (tF T t e) → txR (fiB T) t p = txR (fiB T) t (tF T t e) → V X G 2 105 [(1, vi (byF T t (tF T t e))), (0, vr (1, 0, 2))] [] u := by
    intro hft h59 hle n
    have hE2 := txR_b (fiB T) (show tF T t e ≤ t by omega)
    have hfE := hE2.1
    have hno : tK T t e = 3 → txR (fiB T) t (tF T t e) = tF T t e := by
      intro hK
      refine txR_e (fun _ => ?_)
      unfold tK at hK
      rw [if_neg (by omega), if_neg hle] at hK
      cases hq : fiB T (tF T t e) with
      | false => rfl
      | true => rw [if_pos hq] at hK; exact absurd hK (by decide)
    have hcase : (tK T t e = 2 ∧ tE T t e = txR (fiB T) t (tF T t e) ∧ tF T t e < txR (fiB T) t (tF T t e)) ∨ (tK T t e = 3 ∧ ¬ T (tF T t e) = 59) := by
      cases hq : fiB T (tF T t e) with
      | false => exact Or.inr ⟨by unfold tK; rw [if_neg (by omega), if_neg hle, if_neg (by rw [hq]; decide)], h59⟩
      | true =>
        have e1 : tK T t e = 2 := by unfold tK; rw [if_neg (by omega), if_neg hle, if_pos hq]
        have e2 : tE T t e = txR (fiB T) t (tF T t e) := by unfold tE; rw [if_neg (by omega), if_neg hle, if_pos hq]
        exact Or.inl ⟨e1, e2, by rw [← e2]; exact tE_g het (by rw [e1]; decide)⟩
    have N168 : ∀ u : HP, FrR h u → u.1 (1, 0, 2) 2 = h.1 (1, 0, 2) 2 → u.1 (1, 0, 2) 3 = h.1 (1, 0, 2) 3 → u.1 (1, 0, 2) 5 = nI (txR (fiB T) t (tF T t e)) → u.1 (1, 0, 2) 7 = nI (tF T t e) → u.1 (1, 0, 2) 6 = 2 → V X G 2 168 [(1, vi (byF T t (tF T t e))), (0, vr (1, 0, 2))] [] u := by
      intro u hF hq2 hq3 hq5 hq7 hq6
      refine v_aload_n hC (pc := 168) (k := 0) 1 rfl dX2_nextToken_168 ?_
      refine v_getI hC (pc := 169) dX2_nextToken_169 fl_X2_41 rfl (by first | rfl | exact ok_c hq rfl | exact ok_w hq hw | exact ok_w (by omega) (by omega) | exact ok_s (by omega) (by omega) | exact ok_c (by omega) rfl | assumption) rfl (by decide) (by decide) ?_
      rw [hq5]
      refine v_aload_n hC (pc := 172) (k := 0) 1 rfl dX2_nextToken_172 ?_
      refine v_getI hC (pc := 173) dX2_nextToken_173 fl_X2_72 rfl (by first | rfl | exact ok_c hq rfl | exact ok_w hq hw | exact ok_w (by omega) (by omega) | exact ok_s (by omega) (by omega) | exact ok_c (by omega) rfl | assumption) rfl (by decide) (by decide) ?_
      rw [hq7]
      refine v_icmp_eq hC (pc := 176) (tgt := 200) dX2_nextToken_176 (by decide) (fun c_176 => ?_) (fun c_176 => ?_)
      · skip
        have hb : tB T t e := by
          rcases hcase with ⟨y1, y2, y3⟩ | y
          · exact absurd ((nI_eq (by omega) (by omega)).mp c_176) (by omega)
          · exact Or.inr y
        refine v_aload_n hC (pc := 200) (k := 0) 1 rfl dX2_nextToken_200 ?_
        refine v_iconst hC (pc := 201) (v := 1) (by decide) dX2_nextToken_201 ?_
        refine v_aload_n hC (pc := 202) (k := 0) 1 rfl dX2_nextToken_202 ?_
        refine v_getI hC (pc := 203) dX2_nextToken_203 fl_X2_72 rfl (by first | rfl | exact ok_c hq rfl | exact ok_w hq hw | exact ok_w (by omega) (by omega) | exact ok_s (by omega) (by omega) | exact ok_c (by omega) rfl | assumption) rfl (by decide) (by decide) ?_
        rw [hq7]
        refine v_callV hC (pc := 206) (As := [_, _]) dX2_nextToken_206 rfl (t_refuse _ _ (d := d - 1) (by omega) _ _ _) cv_X2_64 rfl (by decide) rfl (by first | rfl | exact ok_c hq rfl | exact ok_w hq hw | exact ok_w (by omega) (by omega) | exact ok_s (by omega) (by omega) | exact ok_c (by omega) rfl | assumption) (Nat.le_of_ble_eq_true rfl) (by omega) (fun r h' hr => ?_)
        obtain ⟨he9, rfl⟩ := hr
        rw [he9]
        clear he9 h'
        show V _ _ _ (206 + 3) _ (_ :: _) _
        refine v_zret hC hX (pc := 209) dX2_nextToken_209 (by rfl) ?_
        exact ⟨FrR_rf hF, Or.inl ⟨hb, rfl, rfH_2 _ _ _, rfH_3 _ _ _⟩⟩
      · skip
        have hcs : tK T t e = 2 ∧ tE T t e = txR (fiB T) t (tF T t e) := by
          rcases hcase with ⟨y1, y2, y3⟩ | ⟨y1, y2⟩
          · exact ⟨y1, y2⟩
          · exact absurd (congrArg nI (hno y1)) c_176
        have hK2 := hcs.1
        refine v_aload_n hC (pc := 179) (k := 0) 1 rfl dX2_nextToken_179 ?_
        refine v_getI hC (pc := 180) dX2_nextToken_180 fl_X2_48 rfl (by first | rfl | exact ok_c hq rfl | exact ok_w hq hw | exact ok_w (by omega) (by omega) | exact ok_s (by omega) (by omega) | exact ok_c (by omega) rfl | assumption) rfl (by decide) (by decide) ?_
        rw [hq6]
        refine v_iconst hC (pc := 183) (v := 2) (by decide) dX2_nextToken_183 ?_
        refine v_icmp_ne hC (pc := 184) (tgt := 210) dX2_nextToken_184 (by decide) (fun c_184 => ?_) (fun c_184 => ?_)
        · exact absurd rfl c_184
        · skip
          refine v_aload_n hC (pc := 187) (k := 0) 1 rfl dX2_nextToken_187 ?_
          refine v_getI hC (pc := 188) dX2_nextToken_188 fl_X2_41 rfl (by first | rfl | exact ok_c hq rfl | exact ok_w hq hw | exact ok_w (by omega) (by omega) | exact ok_s (by omega) (by omega) | exact ok_c (by omega) rfl | assumption) rfl (by decide) (by decide) ?_
          rw [hq5]
          refine v_aload_n hC (pc := 191) (k := 0) 1 rfl dX2_nextToken_191 ?_
          refine v_getI hC (pc := 192) dX2_nextToken_192 fl_X2_72 rfl (by first | rfl | exact ok_c hq rfl | exact ok_w hq hw | exact ok_w (by omega) (by omega) | exact ok_s (by omega) (by omega) | exact ok_c (by omega) rfl | assumption) rfl (by decide) (by decide) ?_
          rw [hq7]
          refine v_isub hC (pc := 195) dX2_nextToken_195 ?_
          refine v_iconst hC (pc := 196) (v := 2) (by decide) dX2_nextToken_196 ?_
          rw [pk_sub hfE]
          refine v_icmp_le hC (pc := 197) (tgt := 210) dX2_nextToken_197 (by decide) (fun c_197 => ?_) (fun c_197 => ?_)
          · skip
            have hb : ¬ tB T t e := fun z => z.elim (fun y => absurd y.2 (by rw [hcs.2]; exact Nat.not_lt.mpr ((nI_leI (by omega) (by decide)).mp c_197))) (fun y => absurd (y.1.symm.trans hK2) (by decide))
            refine v_iconst hC (pc := 210) (v := 1) (by decide) dX2_nextToken_210 ?_
            refine v_zret hC hX (pc := 211) dX2_nextToken_211 (nar_b (by first | exact Or.inl rfl | exact Or.inr rfl | exact bI_01 _)) ?_
            exact ⟨hF, Or.inr ⟨hb, rfl, hq2, hq3, by rw [hq5, hcs.2], hq7, by rw [hq6, hK2]; rfl⟩⟩
          · skip
            have hb : tB T t e := Or.inl ⟨hK2, by rw [hcs.2]; exact Nat.lt_of_not_le (fun z => c_197 (nI_le z (by decide)))⟩
            refine v_aload_n hC (pc := 200) (k := 0) 1 rfl dX2_nextToken_200 ?_
            refine v_iconst hC (pc := 201) (v := 1) (by decide) dX2_nextToken_201 ?_
            refine v_aload_n hC (pc := 202) (k := 0) 1 rfl dX2_nextToken_202 ?_
            refine v_getI hC (pc := 203) dX2_nextToken_203 fl_X2_72 rfl (by first | rfl | exact ok_c hq rfl | exact ok_w hq hw | exact ok_w (by omega) (by omega) | exact ok_s (by omega) (by omega) | exact ok_c (by omega) rfl | assumption) rfl (by decide) (by decide) ?_
            rw [hq7]
            refine v_callV hC (pc := 206) (As := [_, _]) dX2_nextToken_206 rfl (t_refuse _ _ (d := d - 1) (by omega) _ _ _) cv_X2_64 rfl (by decide) rfl (by first | rfl | exact ok_c hq rfl | exact ok_w hq hw | exact ok_w (by omega) (by omega) | exact ok_s (by omega) (by omega) | exact ok_c (by omega) rfl | assumption) (Nat.le_of_ble_eq_true rfl) (by omega) (fun r h' hr => ?_)
            obtain ⟨he9, rfl⟩ := hr
            rw [he9]
            clear he9 h'
            show V _ _ _ (206 + 3) _ (_ :: _) _
            refine v_zret hC hX (pc := 209) dX2_nextToken_209 (by rfl) ?_
            exact ⟨FrR_rf hF, Or.inl ⟨hb, rfl, rfH_2 _ _ _, rfH_3 _ _ _⟩⟩
    induction n with
    | zero => intro p u h1 h2 h3; exact absurd h1 (by omega)
    | succ n ih =>
      intro p u h1 hfp h3 hF hq2 hq3 hq5 hq6 hq7 hs
      refine v_aload_n hC (pc := 105) (k := 0) 1 rfl dX2_nextToken_105 ?_
      refine v_getI hC (pc := 106) dX2_nextToken_106 fl_X2_41 rfl (by first | rfl | exact ok_c hq rfl | exact ok_w hq hw | exact ok_w (by omega) (by omega) | exact ok_s (by omega) (by omega) | exact ok_c (by omega) rfl | assumption) rfl (by decide) (by decide) ?_
      rw [hq5]
      refine v_aload_n hC (pc := 109) (k := 0) 1 rfl dX2_nextToken_109 ?_
      refine v_getI hC (pc := 110) dX2_nextToken_110 fl_X2_61 rfl (by first | rfl | exact ok_c hq rfl | exact ok_w hq hw | exact ok_w (by omega) (by omega) | exact ok_s (by omega) (by omega) | exact ok_c (by omega) rfl | assumption) rfl (by decide) (by decide) ?_
      rw [(hF.2.2 1 (by decide)).trans htp]
      refine v_icmp_ge hC (pc := 113) (tgt := 168) dX2_nextToken_113 (by decide) (fun c_113 => ?_) (fun c_113 => ?_)
      · skip
        have hpE : p = txR (fiB T) t (tF T t e) := by
          rw [← hs]
          refine (txR_e (fun hp => decide_eq_false ?_)).symm
          exact absurd c_113 (nI_ge hp (by omega))
        exact N168 u hF hq2 hq3 (hpE ▸ hq5) hq7 hq6
      · skip
        have hp : p < t := Nat.lt_of_not_le (fun z => c_113 (nI_le z (by omega)))
        refine v_aload_n hC (pc := 116) (k := 0) 1 rfl dX2_nextToken_116 ?_
        refine v_getI hC (pc := 117) dX2_nextToken_117 fl_X2_48 rfl (by first | rfl | exact ok_c hq rfl | exact ok_w hq hw | exact ok_w (by omega) (by omega) | exact ok_s (by omega) (by omega) | exact ok_c (by omega) rfl | assumption) rfl (by decide) (by decide) ?_
        rw [hq6]
        refine v_iconst hC (pc := 120) (v := 1) (by decide) dX2_nextToken_120 ?_
        refine v_icmp_ne hC (pc := 121) (tgt := 141) dX2_nextToken_121 (by decide) (fun c_121 => ?_) (fun c_121 => ?_)
        · skip
          refine v_aload_n hC (pc := 141) (k := 0) 1 rfl dX2_nextToken_141 ?_
          refine v_aload_n hC (pc := 142) (k := 0) 1 rfl dX2_nextToken_142 ?_
          refine v_getI hC (pc := 143) dX2_nextToken_143 fl_X2_41 rfl (by first | rfl | exact ok_c hq rfl | exact ok_w hq hw | exact ok_w (by omega) (by omega) | exact ok_s (by omega) (by omega) | exact ok_c (by omega) rfl | assumption) rfl (by decide) (by decide) ?_
          rw [hq5]
          refine v_callV hC (pc := 146) (As := [_]) dX2_nextToken_146 rfl (t_byteT _ _ (d := d - 1) (by omega) _ (p := p) ht ((hF.2.2 1 (by decide)).trans htp) ((hF.1 (1, 0, 3) (by decide)).trans hT) (by omega)) cv_X2_68 rfl (by decide) rfl (by first | rfl | exact ok_c hq rfl | exact ok_w hq hw | exact ok_w (by omega) (by omega) | exact ok_s (by omega) (by omega) | exact ok_c (by omega) rfl | assumption) (Nat.le_of_ble_eq_true rfl) (by omega) (fun r h' hr => ?_)
          obtain ⟨he9, rfl⟩ := hr
          rw [he9]
          clear he9 h'
          show V _ _ _ (146 + 3) _ (_ :: _) _
          refine v_callS hC (pc := 149) (As := [_]) dX2_nextToken_149 rfl (t_isFigure _ _ (d := d - 1) (by omega) _ _) cs_X2_78 (Nat.le_of_ble_eq_true rfl) (by omega) (fun r h' hr => ?_)
          obtain ⟨he9, rfl⟩ := hr
          rw [he9]
          clear he9 h'
          show V _ _ _ (149 + 3) _ (_ :: _) _
          refine v_ifb_eq hC (pc := 152) (tgt := 168) dX2_nextToken_152 (by decide) (fun c_152 => ?_) (fun c_152 => ?_)
          · skip
            have hpE : p = txR (fiB T) t (tF T t e) := by
              rw [← hs]
              refine (txR_e (fun hp => decide_eq_false ?_)).symm
              rw [byF_lt hp] at c_152
              exact c_152
            exact N168 u hF hq2 hq3 (hpE ▸ hq5) hq7 hq6
          · skip
            rw [byF_lt hp] at c_152
            refine v_aload_n hC (pc := 155) (k := 0) 1 rfl dX2_nextToken_155 ?_
            refine v_dup hC (pc := 156) rfl dX2_nextToken_156 ?_
            refine v_getI hC (pc := 157) dX2_nextToken_157 fl_X2_41 rfl (by first | rfl | exact ok_c hq rfl | exact ok_w hq hw | exact ok_w (by omega) (by omega) | exact ok_s (by omega) (by omega) | exact ok_c (by omega) rfl | assumption) rfl (by decide) (by decide) ?_
            rw [hq5]
            refine v_iconst hC (pc := 160) (v := 1) (by decide) dX2_nextToken_160 ?_
            refine v_iadd hC (pc := 161) dX2_nextToken_161 ?_
            rw [nI_1]
            refine v_putI hC (pc := 162) dX2_nextToken_162 fs_X2_41 rfl (by first | rfl | exact ok_c hq rfl | exact ok_w hq hw | exact ok_w (by omega) (by omega) | exact ok_s (by omega) (by omega) | exact ok_c (by omega) rfl | assumption) rfl (by decide) (by decide) ?_
            refine v_goto hC (pc := 165) (tgt := 105) dX2_nextToken_165 (by decide) ?_
            exact ih (p + 1) _ (by omega) (by omega) (by omega) (FrR_up hF (by decide)) (by simp (decide := true) only [upI_k, upI_i]; exact hq2) (by simp (decide := true) only [upI_k, upI_i]; exact hq3) (upI_i _ _ _ _) (by simp (decide := true) only [upI_k, upI_i]; exact hq6) (by simp (decide := true) only [upI_k, upI_i]; exact hq7) (by rw [← hs]; exact (txR_s hp (decide_eq_true c_152)).symm)
        · exact absurd c_121 (by decide)
  have WL : tF T t e < t → leB T (tF T t e) = true → ∀ u : HP, FrR h u → u.1 (1, 0, 2) 2 = h.1 (1, 0, 2) 2 → u.1 (1, 0, 2) 3 = h.1 (1, 0, 2) 3 → u.1 (1, 0, 2) 5 = nI (tF T t e) → u.1 (1, 0, 2) 7 = nI (tF T t e) → V X G 2 102 [(1, vi (byF T t (tF T t e))), (0, vr (1, 0, 2))] [vi 1, vr (1, 0, 2)] u := by
    intro hft hle u hF hq2 hq3 hq5 hq7
    refine v_putI hC (pc := 102) dX2_nextToken_102 fs_X2_48 rfl (by first | rfl | exact ok_c hq rfl | exact ok_w hq hw | exact ok_w (by omega) (by omega) | exact ok_s (by omega) (by omega) | exact ok_c (by omega) rfl | assumption) rfl (by decide) (by decide) ?_
    refine wl ?_ ?_ 161 (tF T t e) _ (by omega) (Nat.le_refl _) (by omega) (FrR_up hF (by decide)) (by simp (decide := true) only [upI_k, upI_i]; exact hq2) (by simp (decide := true) only [upI_k, upI_i]; exact hq3) (by simp (decide := true) only [upI_k, upI_i]; exact hq5) (upI_i _ _ _ _) (by simp (decide := true) only [upI_k, upI_i]; exact hq7) ?_
    · unfold tK; rw [if_neg (by omega), if_pos hle]
    · exact hft
    · unfold tE; rw [if_neg (by omega), if_pos hle]
  have NL : tF T t e < t → ¬ T (tF T t e) = 59 → ¬ leB T (tF T t e) = true → ∀ u : HP, FrR h u → u.1 (1, 0, 2) 2 = h.1 (1, 0, 2) 2 → u.1 (1, 0, 2) 3 = h.1 (1, 0, 2) 3 → u.1 (1, 0, 2) 5 = nI (tF T t e) → u.1 (1, 0, 2) 7 = nI (tF T t e) → V X G 2 102 [(1, vi (byF T t (tF T t e))), (0, vr (1, 0, 2))] [vi 2, vr (1, 0, 2)] u := by
    intro hft h59 hle u hF hq2 hq3 hq5 hq7
    refine v_putI hC (pc := 102) dX2_nextToken_102 fs_X2_48 rfl (by first | rfl | exact ok_c hq rfl | exact ok_w hq hw | exact ok_w (by omega) (by omega) | exact ok_s (by omega) (by omega) | exact ok_c (by omega) rfl | assumption) rfl (by decide) (by decide) ?_
    exact nl hft h59 hle 161 (tF T t e) _ (by omega) (Nat.le_refl _) (by omega) (FrR_up hF (by decide)) (by simp (decide := true) only [upI_k, upI_i]; exact hq2) (by simp (decide := true) only [upI_k, upI_i]; exact hq3) (by simp (decide := true) only [upI_k, upI_i]; exact hq5) (upI_i _ _ _ _) (by simp (decide := true) only [upI_k, upI_i]; exact hq7) rfl
  have A45 : ∀ u : HP, FrR h u → u.1 (1, 0, 2) 2 = h.1 (1, 0, 2) 2 → u.1 (1, 0, 2) 3 = h.1 (1, 0, 2) 3 → u.1 (1, 0, 2) 5 = nI (tF T t e) → u.1 (1, 0, 2) 7 = nI (tF T t e) → V X G 2 45 [(0, vr (1, 0, 2))] [] u := by
    intro u hF hq2 hq3 hq5 hq7
    refine v_aload_n hC (pc := 45) (k := 0) 0 rfl dX2_nextToken_45 ?_
    refine v_aload_n hC (pc := 46) (k := 0) 0 rfl dX2_nextToken_46 ?_
    refine v_getI hC (pc := 47) dX2_nextToken_47 fl_X2_41 rfl (by first | rfl | exact ok_c hq rfl | exact ok_w hq hw | exact ok_w (by omega) (by omega) | exact ok_s (by omega) (by omega) | exact ok_c (by omega) rfl | assumption) rfl (by decide) (by decide) ?_
    rw [hq5]
    refine v_callV hC (pc := 50) (As := [_]) dX2_nextToken_50 rfl (t_byteT _ _ (d := d - 1) (by omega) _ (p := (tF T t e)) ht ((hF.2.2 1 (by decide)).trans htp) ((hF.1 (1, 0, 3) (by decide)).trans hT) (by omega)) cv_X2_68 rfl (by decide) rfl (by first | rfl | exact ok_c hq rfl | exact ok_w hq hw | exact ok_w (by omega) (by omega) | exact ok_s (by omega) (by omega) | exact ok_c (by omega) rfl | assumption) (Nat.le_of_ble_eq_true rfl) (by omega) (fun r h' hr => ?_)
    obtain ⟨he9, rfl⟩ := hr
    rw [he9]
    clear he9 h'
    show V _ _ _ (50 + 3) _ (_ :: _) _
    refine v_istore_n hC (pc := 53) (l' := [(1, _), (0, _)]) dX2_nextToken_53 (by decide) rfl ?_
    refine v_iload_n hC (pc := 54) (k := 1) 0 rfl dX2_nextToken_54 ?_
    refine v_iconst hC (pc := 55) (v := (-1)) (by decide) dX2_nextToken_55 ?_
    refine v_icmp_ne hC (pc := 56) (tgt := 66) dX2_nextToken_56 (by decide) (fun c_56 => ?_) (fun c_56 => ?_)
    · skip
      have hft : tF T t e < t := Nat.lt_of_not_le (fun z => c_56 (byF_ge (by omega)))
      rw [byF_lt hft] at c_56
      refine v_iload_n hC (pc := 66) (k := 1) 0 rfl dX2_nextToken_66 ?_
      refine v_bipush hC (pc := 67) (v := 59) (by decide +kernel) dX2_nextToken_67 ?_
      refine v_icmp_ne hC (pc := 69) (tgt := 89) dX2_nextToken_69 (by decide) (fun c_69 => ?_) (fun c_69 => ?_)
      · skip
        rw [byF_lt hft] at c_69
        refine v_aload_n hC (pc := 89) (k := 0) 1 rfl dX2_nextToken_89 ?_
        refine v_iload_n hC (pc := 90) (k := 1) 0 rfl dX2_nextToken_90 ?_
        refine v_callS hC (pc := 91) (As := [_]) dX2_nextToken_91 rfl (t_isLetter _ _ (d := d - 1) (by omega) _ _) cs_X2_75 (Nat.le_of_ble_eq_true rfl) (by omega) (fun r h' hr => ?_)
        obtain ⟨he9, rfl⟩ := hr
        rw [he9]
        clear he9 h'
        show V _ _ _ (91 + 3) _ (_ :: _) _
        refine v_ifb_eq hC (pc := 94) (tgt := 101) dX2_nextToken_94 (by decide) (fun c_94 => ?_) (fun c_94 => ?_)
        · skip
          rw [byF_lt hft] at c_94
          have hle : ¬ leB T (tF T t e) = true := by unfold leB; rw [decide_eq_false c_94]; decide
          refine v_iconst hC (pc := 101) (v := 2) (by decide) dX2_nextToken_101 ?_
          exact NL hft c_69 hle u hF hq2 hq3 hq5 hq7
        · skip
          rw [byF_lt hft] at c_94
          have hle : leB T (tF T t e) = true := decide_eq_true c_94
          refine v_iconst hC (pc := 97) (v := 1) (by decide) dX2_nextToken_97 ?_
          refine v_goto hC (pc := 98) (tgt := 102) dX2_nextToken_98 (by decide) ?_
          exact WL hft hle u hF hq2 hq3 hq5 hq7
      · skip
        rw [byF_lt hft] at c_69
        have hnl : ¬ leB T (tF T t e) = true := by unfold leB; rw [c_69]; decide
        have hnf : ¬ fiB T (tF T t e) = true := by unfold fiB; rw [c_69]; decide
        have hK3 : tK T t e = 3 := by unfold tK; rw [if_neg (by omega), if_neg hnl, if_neg hnf]
        refine v_aload_n hC (pc := 72) (k := 0) 1 rfl dX2_nextToken_72 ?_
        refine v_iconst hC (pc := 73) (v := 3) (by decide) dX2_nextToken_73 ?_
        refine v_putI hC (pc := 74) dX2_nextToken_74 fs_X2_48 rfl (by first | rfl | exact ok_c hq rfl | exact ok_w hq hw | exact ok_w (by omega) (by omega) | exact ok_s (by omega) (by omega) | exact ok_c (by omega) rfl | assumption) rfl (by decide) (by decide) ?_
        refine v_aload_n hC (pc := 77) (k := 0) 1 rfl dX2_nextToken_77 ?_
        refine v_dup hC (pc := 78) rfl dX2_nextToken_78 ?_
        refine v_getI hC (pc := 79) dX2_nextToken_79 fl_X2_41 rfl (by first | rfl | exact ok_c hq rfl | exact ok_w hq hw | exact ok_w (by omega) (by omega) | exact ok_s (by omega) (by omega) | exact ok_c (by omega) rfl | assumption) rfl (by decide) (by decide) ?_
        try simp (decide := true) only [upI_i, upI_k, hq5]
        refine v_iconst hC (pc := 82) (v := 1) (by decide) dX2_nextToken_82 ?_
        refine v_iadd hC (pc := 83) dX2_nextToken_83 ?_
        rw [nI_1]
        refine v_putI hC (pc := 84) dX2_nextToken_84 fs_X2_41 rfl (by first | rfl | exact ok_c hq rfl | exact ok_w hq hw | exact ok_w (by omega) (by omega) | exact ok_s (by omega) (by omega) | exact ok_c (by omega) rfl | assumption) rfl (by decide) (by decide) ?_
        refine v_iconst hC (pc := 87) (v := 1) (by decide) dX2_nextToken_87 ?_
        refine v_zret hC hX (pc := 88) dX2_nextToken_88 (nar_b (by first | exact Or.inl rfl | exact Or.inr rfl | exact bI_01 _)) ?_
        exact ⟨FrR_up (FrR_up hF (by decide)) (by decide), Or.inr ⟨fun z => z.elim (fun y => absurd (y.1.symm.trans hK3) (by decide)) (fun y => y.2 c_69), rfl, by simp (decide := true) only [upI_k, upI_i]; exact hq2, by simp (decide := true) only [upI_k, upI_i]; exact hq3, by simp (decide := true) only [upI_k, upI_i]; rw [tE_3 hK3], by simp (decide := true) only [upI_k, upI_i]; exact hq7, by simp (decide := true) only [upI_k, upI_i]; rw [hK3]; rfl⟩⟩
    · skip
      have hend : t ≤ tF T t e := Nat.le_of_not_lt (fun z => by rw [byF_lt z] at c_56; exact hT0 _ z (by rw [c_56]; decide))
      refine v_aload_n hC (pc := 59) (k := 0) 1 rfl dX2_nextToken_59 ?_
      refine v_iconst hC (pc := 60) (v := 4) (by decide) dX2_nextToken_60 ?_
      refine v_putI hC (pc := 61) dX2_nextToken_61 fs_X2_48 rfl (by first | rfl | exact ok_c hq rfl | exact ok_w hq hw | exact ok_w (by omega) (by omega) | exact ok_s (by omega) (by omega) | exact ok_c (by omega) rfl | assumption) rfl (by decide) (by decide) ?_
      refine v_iconst hC (pc := 64) (v := 1) (by decide) dX2_nextToken_64 ?_
      refine v_zret hC hX (pc := 65) dX2_nextToken_65 (nar_b (by first | exact Or.inl rfl | exact Or.inr rfl | exact bI_01 _)) ?_
      have hK0 : tK T t e = 0 := if_pos hend
      have hE0 : tE T t e = tF T t e := if_pos hend
      exact ⟨FrR_up hF (by decide), Or.inr ⟨fun z => z.elim (fun y => absurd (y.1.symm.trans hK0) (by decide)) (fun y => absurd (y.1.symm.trans hK0) (by decide)), rfl, by simp (decide := true) only [upI_k, upI_i]; exact hq2, by simp (decide := true) only [upI_k, upI_i]; exact hq3, by simp (decide := true) only [upI_k, upI_i]; rw [hq5, hE0], by simp (decide := true) only [upI_k, upI_i]; exact hq7, by rw [upI_i, hK0]; rfl⟩⟩
  have A37 : ∀ u : HP, FrR h u → u.1 (1, 0, 2) 2 = h.1 (1, 0, 2) 2 → u.1 (1, 0, 2) 3 = h.1 (1, 0, 2) 3 → u.1 (1, 0, 2) 5 = nI (tF T t e) → V X G 2 37 [(0, vr (1, 0, 2))] [] u := by
    intro u hF hq2 hq3 hq5
    refine v_aload_n hC (pc := 37) (k := 0) 0 rfl dX2_nextToken_37 ?_
    refine v_aload_n hC (pc := 38) (k := 0) 0 rfl dX2_nextToken_38 ?_
    refine v_getI hC (pc := 39) dX2_nextToken_39 fl_X2_41 rfl (by first | rfl | exact ok_c hq rfl | exact ok_w hq hw | exact ok_w (by omega) (by omega) | exact ok_s (by omega) (by omega) | exact ok_c (by omega) rfl | assumption) rfl (by decide) (by decide) ?_
    rw [hq5]
    refine v_putI hC (pc := 42) dX2_nextToken_42 fs_X2_72 rfl (by first | rfl | exact ok_c hq rfl | exact ok_w hq hw | exact ok_w (by omega) (by omega) | exact ok_s (by omega) (by omega) | exact ok_c (by omega) rfl | assumption) rfl (by decide) (by decide) ?_
    exact A45 _ (FrR_up hF (by decide)) (by simp (decide := true) only [upI_k, upI_i]; exact hq2) (by simp (decide := true) only [upI_k, upI_i]; exact hq3) (by simp (decide := true) only [upI_k, upI_i]; exact hq5) (upI_i _ _ _ _)
  have l1 : ∀ (n p : Nat) (u : HP), t + 1 ≤ p + n → p ≤ t → FrR h u → u.1 (1, 0, 2) 2 = h.1 (1, 0, 2) 2 → u.1 (1, 0, 2) 3 = h.1 (1, 0, 2) 3 → u.1 (1, 0, 2) 5 = nI p → txR (spB T) t p = tF T t e → V X G 2 0 [(0, vr (1, 0, 2))] [] u := by
    intro n
    induction n with
    | zero => intro p u h1 h2; exact absurd h1 (by omega)
    | succ n ih =>
      intro p u h1 h2 hF hq2 hq3 hq5 hs
      refine v_aload_n hC (pc := 0) (k := 0) 0 rfl dX2_nextToken_0 ?_
      refine v_getI hC (pc := 1) dX2_nextToken_1 fl_X2_41 rfl (by first | rfl | exact ok_c hq rfl | exact ok_w hq hw | exact ok_w (by omega) (by omega) | exact ok_s (by omega) (by omega) | exact ok_c (by omega) rfl | assumption) rfl (by decide) (by decide) ?_
      rw [hq5]
      refine v_aload_n hC (pc := 4) (k := 0) 0 rfl dX2_nextToken_4 ?_
      refine v_getI hC (pc := 5) dX2_nextToken_5 fl_X2_61 rfl (by first | rfl | exact ok_c hq rfl | exact ok_w hq hw | exact ok_w (by omega) (by omega) | exact ok_s (by omega) (by omega) | exact ok_c (by omega) rfl | assumption) rfl (by decide) (by decide) ?_
      rw [(hF.2.2 1 (by decide)).trans htp]
      refine v_icmp_ge hC (pc := 8) (tgt := 37) dX2_nextToken_8 (by decide) (fun c_8 => ?_) (fun c_8 => ?_)
      · skip
        have hpE : p = tF T t e := by
          rw [← hs]
          refine (txR_e (fun hp => decide_eq_false ?_)).symm
          exact absurd c_8 (nI_ge hp (by omega))
        exact A37 u hF hq2 hq3 (hpE ▸ hq5)
      · skip
        have hp : p < t := Nat.lt_of_not_le (fun z => c_8 (nI_le z (by omega)))
        refine v_aload_n hC (pc := 11) (k := 0) 0 rfl dX2_nextToken_11 ?_
        refine v_aload_n hC (pc := 12) (k := 0) 0 rfl dX2_nextToken_12 ?_
        refine v_getI hC (pc := 13) dX2_nextToken_13 fl_X2_41 rfl (by first | rfl | exact ok_c hq rfl | exact ok_w hq hw | exact ok_w (by omega) (by omega) | exact ok_s (by omega) (by omega) | exact ok_c (by omega) rfl | assumption) rfl (by decide) (by decide) ?_
        rw [hq5]
        refine v_callV hC (pc := 16) (As := [_]) dX2_nextToken_16 rfl (t_byteT _ _ (d := d - 1) (by omega) _ (p := p) ht ((hF.2.2 1 (by decide)).trans htp) ((hF.1 (1, 0, 3) (by decide)).trans hT) (by omega)) cv_X2_68 rfl (by decide) rfl (by first | rfl | exact ok_c hq rfl | exact ok_w hq hw | exact ok_w (by omega) (by omega) | exact ok_s (by omega) (by omega) | exact ok_c (by omega) rfl | assumption) (Nat.le_of_ble_eq_true rfl) (by omega) (fun r h' hr => ?_)
        obtain ⟨he9, rfl⟩ := hr
        rw [he9]
        clear he9 h'
        show V _ _ _ (16 + 3) _ (_ :: _) _
        refine v_bipush hC (pc := 19) (v := 32) (by decide +kernel) dX2_nextToken_19 ?_
        refine v_icmp_ne hC (pc := 21) (tgt := 37) dX2_nextToken_21 (by decide) (fun c_21 => ?_) (fun c_21 => ?_)
        · skip
          have hpE : p = tF T t e := by
            rw [← hs]
            refine (txR_e (fun hp => decide_eq_false ?_)).symm
            rw [byF_lt hp] at c_21
            exact c_21
          exact A37 u hF hq2 hq3 (hpE ▸ hq5)
        · skip
          rw [byF_lt hp] at c_21
          refine v_aload_n hC (pc := 24) (k := 0) 0 rfl dX2_nextToken_24 ?_
          refine v_dup hC (pc := 25) rfl dX2_nextToken_25 ?_
          refine v_getI hC (pc := 26) dX2_nextToken_26 fl_X2_41 rfl (by first | rfl | exact ok_c hq rfl | exact ok_w hq hw | exact ok_w (by omega) (by omega) | exact ok_s (by omega) (by omega) | exact ok_c (by omega) rfl | assumption) rfl (by decide) (by decide) ?_
          rw [hq5]
          refine v_iconst hC (pc := 29) (v := 1) (by decide) dX2_nextToken_29 ?_
          refine v_iadd hC (pc := 30) dX2_nextToken_30 ?_
          rw [nI_1]
          refine v_putI hC (pc := 31) dX2_nextToken_31 fs_X2_41 rfl (by first | rfl | exact ok_c hq rfl | exact ok_w hq hw | exact ok_w (by omega) (by omega) | exact ok_s (by omega) (by omega) | exact ok_c (by omega) rfl | assumption) rfl (by decide) (by decide) ?_
          refine v_goto hC (pc := 34) (tgt := 0) dX2_nextToken_34 (by decide) ?_
          exact ih (p + 1) _ (by omega) (by omega) (FrR_up hF (by decide)) (by simp (decide := true) only [upI_k, upI_i]; exact hq2) (by simp (decide := true) only [upI_k, upI_i]; exact hq3) (upI_i _ _ _ _) (by rw [← hs]; exact (txR_s hp (decide_eq_true c_21)).symm)
  exact l1 161 e h (by omega) het (FrR_r h) rfl rfl hp0 rfl

