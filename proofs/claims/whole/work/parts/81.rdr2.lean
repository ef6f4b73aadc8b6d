/-! THE READER OF THE CLASS: numbers and words -/
theorem t_nt_b (l9 : Launch) (G : WT) {d : Nat} (hd : 2 ≤ d) (h : HP) {T : Nat → Int32} {t e : Nat} (ht : t ≤ 160) (htp : h.1 (1, 0, 2) 1 = nI t) (hT : h.1 (1, 0, 3) = T) (hT0 : ∀ j, j < t → ¬ T j < 0) (hp0 : h.1 (1, 0, 2) 5 = nI e) (het : e ≤ t) (hb : tB T t e) : MS l9 G yX2_nextToken cX2_nextToken 2 (some .boolean) d [vr (1, 0, 2)] h (fun r h1 => r = some (vi 0) ∧ FrR h h1 ∧ h1.1 (1, 0, 2) 2 = 1 ∧ h1.1 (1, 0, 2) 3 = nI (tF T t e)) :=
  MS.mono (t_nextToken l9 G hd h ht htp hT hT0 hp0 het) (fun r h1 z => by
    obtain ⟨z1, ⟨z2, z3, z4, z5⟩ | ⟨z2, _⟩⟩ := z
    · exact ⟨z3, z1, z4, z5⟩
    · exact absurd hb z2)
theorem t_nt_g (l9 : Launch) (G : WT) {d : Nat} (hd : 2 ≤ d) (h : HP) {T : Nat → Int32} {t e : Nat} (ht : t ≤ 160) (htp : h.1 (1, 0, 2) 1 = nI t) (hT : h.1 (1, 0, 3) = T) (hT0 : ∀ j, j < t → ¬ T j < 0) (hp0 : h.1 (1, 0, 2) 5 = nI e) (het : e ≤ t) (hb : ¬ tB T t e) : MS l9 G yX2_nextToken cX2_nextToken 2 (some .boolean) d [vr (1, 0, 2)] h (fun r h1 => r = some (vi 1) ∧ FrR h h1 ∧ h1.1 (1, 0, 2) 2 = h.1 (1, 0, 2) 2 ∧ h1.1 (1, 0, 2) 3 = h.1 (1, 0, 2) 3 ∧ h1.1 (1, 0, 2) 5 = nI (tE T t e) ∧ h1.1 (1, 0, 2) 7 = nI (tF T t e) ∧ h1.1 (1, 0, 2) 6 = kC (tK T t e)) :=
  MS.mono (t_nextToken l9 G hd h ht htp hT hT0 hp0 het) (fun r h1 z => by
    obtain ⟨z1, ⟨z2, _⟩ | ⟨z2, z3, z4⟩⟩ := z
    · exact absurd z2 hb
    · exact ⟨z3, z1, z4⟩)
theorem kC_eq {k K : Nat} (hk : k ≤ 3) (h1 : 1 ≤ K) (h3 : K ≤ 3) : kC k = nI K ↔ k = K := by
  unfold kC
  by_cases h : k = 0
  · rw [if_pos h]
    rcases (show K = 1 ∨ K = 2 ∨ K = 3 by omega) with q | q | q <;> subst q <;> subst h <;> decide
  · rw [if_neg h, nI_eq (by omega) (by omega)]
theorem kndS_b {T : Nat → Int32} {t k : Nat} {a : PA} (h : tB T t a.1) : kndS T t k a = .inl (1, tF T t a.1) := iteP_t h
theorem kndS_n {T : Nat → Int32} {t k : Nat} {a : PA} (h : ¬ tB T t a.1) (hk : ¬ tK T t a.1 = k) : kndS T t k a = .inl (2, tF T t a.1) := by unfold kndS; rw [iteP_f h, iteP_f hk]
theorem kndS_g {T : Nat → Int32} {t k : Nat} {a : PA} (h : ¬ tB T t a.1) (hk : tK T t a.1 = k) : kndS T t k a = .inr (tE T t a.1, a.2) := by unfold kndS; rw [iteP_f h, iteP_t hk]
/-- what the reader leaves where it refuses, where it takes -/
def RFp (h h1 : HP) (c : Int32) (f : Nat) : Prop := FrR h h1 ∧ h1.1 (1, 0, 2) 2 = c ∧ h1.1 (1, 0, 2) 3 = nI f
def RTk (T : Nat → Int32) (t : Nat) (h h1 : HP) (e : Nat) : Prop := FrR h h1 ∧ h1.1 (1, 0, 2) 2 = h.1 (1, 0, 2) 2 ∧ h1.1 (1, 0, 2) 3 = h.1 (1, 0, 2) 3 ∧ h1.1 (1, 0, 2) 5 = nI (tE T t e) ∧ h1.1 (1, 0, 2) 7 = nI (tF T t e)
set_option maxRecDepth 20000 in
set_option maxHeartbeats 2000000 in
theorem t_nO_b (l9 : Launch) (G : WT) {d : Nat} (hd : 3 ≤ d) (h : HP) {T : Nat → Int32} {t e : Nat} (ht : t ≤ 160) (htp : h.1 (1, 0, 2) 1 = nI t) (hT : h.1 (1, 0, 3) = T) (hT0 : ∀ j, j < t → ¬ T j < 0) (hp0 : h.1 (1, 0, 2) 5 = nI e) (het : e ≤ t) (hb : tB T t e) {K : Nat} (hK1 : 1 ≤ K) (hK3 : K ≤ 3) : MS l9 G yX2_nextOf cX2_nextOf 2 (some .boolean) d [vr (1, 0, 2), vi (nI K)] h (fun r h1 => r = some (vi 0) ∧ RFp h h1 1 (tF T t e)) := by
  refine MS_of (by decide +kernel) (Nat.le_of_ble_eq_true rfl) (fun X hC hX => ?_)
  show V X G 2 0 _ [] _
  refine v_aload_n hC (pc := 0) (k := 0) 0 rfl dX2_nextOf_0 ?_
  refine v_callV hC (pc := 1) (As := []) dX2_nextOf_1 rfl (t_nt_b _ _ (d := d - 1) (by omega) _ ht htp hT hT0 hp0 het hb) cv_X2_44 rfl (by decide) rfl (by first | rfl | exact ok_c hq rfl | exact ok_w hq hw | exact ok_w (by omega) (by omega) | exact ok_s (by omega) (by omega) | exact ok_c (by omega) rfl | assumption) (Nat.le_of_ble_eq_true rfl) (by omega) (fun r h' hr => ?_)
  obtain ⟨rfl, hF, z2, z3⟩ := hr
  generalize h' = u at hF z2 z3 ⊢
  show V _ _ _ (1 + 3) _ (_ :: _) _
  refine v_if_ne hC (pc := 4) (tgt := 9) dX2_nextOf_4 (by decide) (fun c_4 => ?_) (fun c_4 => ?_)
  · exact absurd c_4 (by decide)
  · skip
    refine v_iconst hC (pc := 7) (v := 0) (by decide) dX2_nextOf_7 ?_
    refine v_zret hC hX (pc := 8) dX2_nextOf_8 (nar_b (by first | exact Or.inl rfl | exact Or.inr rfl | exact bI_01 _)) ?_
    exact ⟨rfl, hF, z2, z3⟩

set_option maxRecDepth 20000 in
set_option maxHeartbeats 2000000 in
theorem t_nO_n (l9 : Launch) (G : WT) {d : Nat} (hd : 3 ≤ d) (h : HP) {T : Nat → Int32} {t e : Nat} (ht : t ≤ 160) (htp : h.1 (1, 0, 2) 1 = nI t) (hT : h.1 (1, 0, 3) = T) (hT0 : ∀ j, j < t → ¬ T j < 0) (hp0 : h.1 (1, 0, 2) 5 = nI e) (het : e ≤ t) (hb : ¬ tB T t e) {K : Nat} (hK1 : 1 ≤ K) (hK3 : K ≤ 3) (hk : ¬ tK T t e = K) : MS l9 G yX2_nextOf cX2_nextOf 2 (some .boolean) d [vr (1, 0, 2), vi (nI K)] h (fun r h1 => r = some (vi 0) ∧ RFp h h1 2 (tF T t e)) := by
  refine MS_of (by decide +kernel) (Nat.le_of_ble_eq_true rfl) (fun X hC hX => ?_)
  show V X G 2 0 _ [] _
  refine v_aload_n hC (pc := 0) (k := 0) 0 rfl dX2_nextOf_0 ?_
  refine v_callV hC (pc := 1) (As := []) dX2_nextOf_1 rfl (t_nt_g _ _ (d := d - 1) (by omega) _ ht htp hT hT0 hp0 het hb) cv_X2_44 rfl (by decide) rfl (by first | rfl | exact ok_c hq rfl | exact ok_w hq hw | exact ok_w (by omega) (by omega) | exact ok_s (by omega) (by omega) | exact ok_c (by omega) rfl | assumption) (Nat.le_of_ble_eq_true rfl) (by omega) (fun r h' hr => ?_)
  obtain ⟨rfl, hF, y2, y3, y5, y7, y6⟩ := hr
  generalize h' = u at hF y2 y3 y5 y7 y6 ⊢
  show V _ _ _ (1 + 3) _ (_ :: _) _
  refine v_if_ne hC (pc := 4) (tgt := 9) dX2_nextOf_4 (by decide) (fun c_4 => ?_) (fun c_4 => ?_)
  · skip
    refine v_aload_n hC (pc := 9) (k := 0) 0 rfl dX2_nextOf_9 ?_
    refine v_getI hC (pc := 10) dX2_nextOf_10 fl_X2_48 rfl (by first | rfl | exact ok_c hq rfl | exact ok_w hq hw | exact ok_w (by omega) (by omega) | exact ok_s (by omega) (by omega) | exact ok_c (by omega) rfl | assumption) rfl (by decide) (by decide) ?_
    rw [y6]
    refine v_iload_n hC (pc := 13) (k := 1) 1 rfl dX2_nextOf_13 ?_
    refine v_icmp_eq hC (pc := 14) (tgt := 29) dX2_nextOf_14 (by decide) (fun c_14 => ?_) (fun c_14 => ?_)
    · exact absurd ((kC_eq (tK_le T t e) hK1 hK3).mp c_14) hk
    · skip
      refine v_aload_n hC (pc := 17) (k := 0) 0 rfl dX2_nextOf_17 ?_
      refine v_iconst hC (pc := 18) (v := 2) (by decide) dX2_nextOf_18 ?_
      refine v_aload_n hC (pc := 19) (k := 0) 0 rfl dX2_nextOf_19 ?_
      refine v_getI hC (pc := 20) dX2_nextOf_20 fl_X2_72 rfl (by first | rfl | exact ok_c hq rfl | exact ok_w hq hw | exact ok_w (by omega) (by omega) | exact ok_s (by omega) (by omega) | exact ok_c (by omega) rfl | assumption) rfl (by decide) (by decide) ?_
      rw [y7]
      refine v_callV hC (pc := 23) (As := [_, _]) dX2_nextOf_23 rfl (t_refuse _ _ (d := d - 1) (by omega) _ _ _) cv_X2_64 rfl (by decide) rfl (by first | rfl | exact ok_c hq rfl | exact ok_w hq hw | exact ok_w (by omega) (by omega) | exact ok_s (by omega) (by omega) | exact ok_c (by omega) rfl | assumption) (Nat.le_of_ble_eq_true rfl) (by omega) (fun r h' hr => ?_)
      obtain ⟨he9, rfl⟩ := hr
      rw [he9]
      clear he9 h'
      show V _ _ _ (23 + 3) _ (_ :: _) _
      refine v_if_eq hC (pc := 26) (tgt := 33) dX2_nextOf_26 (by decide) (fun c_26 => ?_) (fun c_26 => ?_)
      · skip
        refine v_iconst hC (pc := 33) (v := 0) (by decide) dX2_nextOf_33 ?_
        refine v_zret hC hX (pc := 34) dX2_nextOf_34 (nar_b (by first | exact Or.inl rfl | exact Or.inr rfl | exact bI_01 _)) ?_
        exact ⟨rfl, FrR_rf hF, rfH_2 _ _ _, rfH_3 _ _ _⟩
      · exact absurd c_26 (by decide)
  · exact absurd c_4 (by decide)

set_option maxRecDepth 20000 in
set_option maxHeartbeats 2000000 in
theorem t_nO_g (l9 : Launch) (G : WT) {d : Nat} (hd : 3 ≤ d) (h : HP) {T : Nat → Int32} {t e : Nat} (ht : t ≤ 160) (htp : h.1 (1, 0, 2) 1 = nI t) (hT : h.1 (1, 0, 3) = T) (hT0 : ∀ j, j < t → ¬ T j < 0) (hp0 : h.1 (1, 0, 2) 5 = nI e) (het : e ≤ t) (hb : ¬ tB T t e) {K : Nat} (hK1 : 1 ≤ K) (hK3 : K ≤ 3) (hk : tK T t e = K) : MS l9 G yX2_nextOf cX2_nextOf 2 (some .boolean) d [vr (1, 0, 2), vi (nI K)] h (fun r h1 => r = some (vi 1) ∧ RTk T t h h1 e) := by
  refine MS_of (by decide +kernel) (Nat.le_of_ble_eq_true rfl) (fun X hC hX => ?_)
  show V X G 2 0 _ [] _
  refine v_aload_n hC (pc := 0) (k := 0) 0 rfl dX2_nextOf_0 ?_
  refine v_callV hC (pc := 1) (As := []) dX2_nextOf_1 rfl (t_nt_g _ _ (d := d - 1) (by omega) _ ht htp hT hT0 hp0 het hb) cv_X2_44 rfl (by decide) rfl (by first | rfl | exact ok_c hq rfl | exact ok_w hq hw | exact ok_w (by omega) (by omega) | exact ok_s (by omega) (by omega) | exact ok_c (by omega) rfl | assumption) (Nat.le_of_ble_eq_true rfl) (by omega) (fun r h' hr => ?_)
  obtain ⟨rfl, hF, y2, y3, y5, y7, y6⟩ := hr
  generalize h' = u at hF y2 y3 y5 y7 y6 ⊢
  show V _ _ _ (1 + 3) _ (_ :: _) _
  refine v_if_ne hC (pc := 4) (tgt := 9) dX2_nextOf_4 (by decide) (fun c_4 => ?_) (fun c_4 => ?_)
  · skip
    refine v_aload_n hC (pc := 9) (k := 0) 0 rfl dX2_nextOf_9 ?_
    refine v_getI hC (pc := 10) dX2_nextOf_10 fl_X2_48 rfl (by first | rfl | exact ok_c hq rfl | exact ok_w hq hw | exact ok_w (by omega) (by omega) | exact ok_s (by omega) (by omega) | exact ok_c (by omega) rfl | assumption) rfl (by decide) (by decide) ?_
    rw [y6]
    refine v_iload_n hC (pc := 13) (k := 1) 1 rfl dX2_nextOf_13 ?_
    refine v_icmp_eq hC (pc := 14) (tgt := 29) dX2_nextOf_14 (by decide) (fun c_14 => ?_) (fun c_14 => ?_)
    · skip
      refine v_iconst hC (pc := 29) (v := 1) (by decide) dX2_nextOf_29 ?_
      refine v_goto hC (pc := 30) (tgt := 34) dX2_nextOf_30 (by decide) ?_
      refine v_zret hC hX (pc := 34) dX2_nextOf_34 (nar_b (by first | exact Or.inl rfl | exact Or.inr rfl | exact bI_01 _)) ?_
      exact ⟨rfl, hF, y2, y3, y5, y7⟩
    · exact absurd ((kC_eq (tK_le T t e) hK1 hK3).mpr hk) c_14
  · exact absurd c_4 (by decide)

/-- nextOf, by what the text says -/
theorem t_of_f (l9 : Launch) (G : WT) {d : Nat} (hd : 3 ≤ d) (h : HP) {T : Nat → Int32} {t : Nat} {a : PA} (ht : t ≤ 160) (htp : h.1 (1, 0, 2) 1 = nI t) (hT : h.1 (1, 0, 3) = T) (hT0 : ∀ j, j < t → ¬ T j < 0) (hp0 : h.1 (1, 0, 2) 5 = nI a.1) (het : a.1 ≤ t) {K : Nat} (hK1 : 1 ≤ K) (hK3 : K ≤ 3) {c : Int32} {f : Nat} (hn : kndS T t K a = .inl (c, f)) : MS l9 G yX2_nextOf cX2_nextOf 2 (some .boolean) d [vr (1, 0, 2), vi (nI K)] h (fun r h1 => r = some (vi 0) ∧ RFp h h1 c f) := by
  rcases Classical.em (tB T t a.1) with hb | hb
  · rw [kndS_b hb] at hn; cases hn
    exact t_nO_b l9 G hd h ht htp hT hT0 hp0 het hb hK1 hK3
  · by_cases hk : tK T t a.1 = K
    · rw [kndS_g hb hk] at hn; cases hn
    · rw [kndS_n hb hk] at hn; cases hn
      exact t_nO_n l9 G hd h ht htp hT hT0 hp0 het hb hK1 hK3 hk
theorem t_of_g (l9 : Launch) (G : WT) {d : Nat} (hd : 3 ≤ d) (h : HP) {T : Nat → Int32} {t : Nat} {a : PA} (ht : t ≤ 160) (htp : h.1 (1, 0, 2) 1 = nI t) (hT : h.1 (1, 0, 3) = T) (hT0 : ∀ j, j < t → ¬ T j < 0) (hp0 : h.1 (1, 0, 2) 5 = nI a.1) (het : a.1 ≤ t) {K : Nat} (hK1 : 1 ≤ K) (hK3 : K ≤ 3) {b : PA} (hn : kndS T t K a = .inr b) : MS l9 G yX2_nextOf cX2_nextOf 2 (some .boolean) d [vr (1, 0, 2), vi (nI K)] h (fun r h1 => r = some (vi 1) ∧ RTk T t h h1 a.1) := by
  rcases Classical.em (tB T t a.1) with hb | hb
  · rw [kndS_b hb] at hn; cases hn
  · by_cases hk : tK T t a.1 = K
    · exact t_nO_g l9 G hd h ht htp hT hT0 hp0 het hb hK1 hK3 hk
    · rw [kndS_n hb hk] at hn; cases hn
set_option maxRecDepth 20000 in
set_option maxHeartbeats 2000000 in
theorem t_tn_b (l9 : Launch) (G : WT) {d : Nat} (hd : 3 ≤ d) (h : HP) {T : Nat → Int32} {t e : Nat} (ht : t ≤ 160) (htp : h.1 (1, 0, 2) 1 = nI t) (hT : h.1 (1, 0, 3) = T) (hT0 : ∀ j, j < t → ¬ T j < 0) (hp0 : h.1 (1, 0, 2) 5 = nI e) (het : e ≤ t) (hb : tB T t e) (lo hi : Int32) : MS l9 G yX2_takeNumber cX2_takeNumber 5 (some .int) d [vr (1, 0, 2), vi lo, vi hi] h (fun r h1 => r = some (vi (-1)) ∧ RFp h h1 1 (tF T t e)) := by
  refine MS_of (by decide +kernel) (Nat.le_of_ble_eq_true rfl) (fun X hC hX => ?_)
  show V X G 5 0 _ [] _
  refine v_aload_n hC (pc := 0) (k := 0) 0 rfl dX2_takeNumber_0 ?_
  refine v_callV hC (pc := 1) (As := []) dX2_takeNumber_1 rfl (t_nt_b _ _ (d := d - 1) (by omega) _ ht htp hT hT0 hp0 het hb) cv_X2_44 rfl (by decide) rfl (by first | rfl | exact ok_c hq rfl | exact ok_w hq hw | exact ok_w (by omega) (by omega) | exact ok_s (by omega) (by omega) | exact ok_c (by omega) rfl | assumption) (Nat.le_of_ble_eq_true rfl) (by omega) (fun r h' hr => ?_)
  obtain ⟨rfl, hF, z2, z3⟩ := hr
  generalize h' = u at hF z2 z3 ⊢
  show V _ _ _ (1 + 3) _ (_ :: _) _
  refine v_if_ne hC (pc := 4) (tgt := 9) dX2_takeNumber_4 (by decide) (fun c_4 => ?_) (fun c_4 => ?_)
  · exact absurd c_4 (by decide)
  · skip
    refine v_iconst hC (pc := 7) (v := (-1)) (by decide) dX2_takeNumber_7 ?_
    refine v_iret hC hX (pc := 8) dX2_takeNumber_8 ?_
    exact ⟨rfl, hF, z2, z3⟩

set_option maxRecDepth 20000 in
set_option maxHeartbeats 2000000 in
theorem t_tn_n (l9 : Launch) (G : WT) {d : Nat} (hd : 3 ≤ d) (h : HP) {T : Nat → Int32} {t e : Nat} (ht : t ≤ 160) (htp : h.1 (1, 0, 2) 1 = nI t) (hT : h.1 (1, 0, 3) = T) (hT0 : ∀ j, j < t → ¬ T j < 0) (hp0 : h.1 (1, 0, 2) 5 = nI e) (het : e ≤ t) (hb : ¬ tB T t e) (hk : ¬ tK T t e = 2) (lo hi : Int32) : MS l9 G yX2_takeNumber cX2_takeNumber 5 (some .int) d [vr (1, 0, 2), vi lo, vi hi] h (fun r h1 => r = some (vi (-1)) ∧ RFp h h1 2 (tF T t e)) := by
  refine MS_of (by decide +kernel) (Nat.le_of_ble_eq_true rfl) (fun X hC hX => ?_)
  show V X G 5 0 _ [] _
  refine v_aload_n hC (pc := 0) (k := 0) 0 rfl dX2_takeNumber_0 ?_
  refine v_callV hC (pc := 1) (As := []) dX2_takeNumber_1 rfl (t_nt_g _ _ (d := d - 1) (by omega) _ ht htp hT hT0 hp0 het hb) cv_X2_44 rfl (by decide) rfl (by first | rfl | exact ok_c hq rfl | exact ok_w hq hw | exact ok_w (by omega) (by omega) | exact ok_s (by omega) (by omega) | exact ok_c (by omega) rfl | assumption) (Nat.le_of_ble_eq_true rfl) (by omega) (fun r h' hr => ?_)
  obtain ⟨rfl, hF, y2, y3, y5, y7, y6⟩ := hr
  generalize h' = u at hF y2 y3 y5 y7 y6 ⊢
  show V _ _ _ (1 + 3) _ (_ :: _) _
  refine v_if_ne hC (pc := 4) (tgt := 9) dX2_takeNumber_4 (by decide) (fun c_4 => ?_) (fun c_4 => ?_)
  · skip
    refine v_aload_n hC (pc := 9) (k := 0) 0 rfl dX2_takeNumber_9 ?_
    refine v_getI hC (pc := 10) dX2_takeNumber_10 fl_X2_48 rfl (by first | rfl | exact ok_c hq rfl | exact ok_w hq hw | exact ok_w (by omega) (by omega) | exact ok_s (by omega) (by omega) | exact ok_c (by omega) rfl | assumption) rfl (by decide) (by decide) ?_
    rw [y6]
    refine v_iconst hC (pc := 13) (v := 2) (by decide) dX2_takeNumber_13 ?_
    refine v_icmp_eq hC (pc := 14) (tgt := 29) dX2_takeNumber_14 (by decide) (fun c_14 => ?_) (fun c_14 => ?_)
    · exact absurd ((kC_eq (K := 2) (tK_le T t e) (by decide) (by decide)).mp c_14) hk
    · skip
      refine v_aload_n hC (pc := 17) (k := 0) 0 rfl dX2_takeNumber_17 ?_
      refine v_iconst hC (pc := 18) (v := 2) (by decide) dX2_takeNumber_18 ?_
      refine v_aload_n hC (pc := 19) (k := 0) 0 rfl dX2_takeNumber_19 ?_
      refine v_getI hC (pc := 20) dX2_takeNumber_20 fl_X2_72 rfl (by first | rfl | exact ok_c hq rfl | exact ok_w hq hw | exact ok_w (by omega) (by omega) | exact ok_s (by omega) (by omega) | exact ok_c (by omega) rfl | assumption) rfl (by decide) (by decide) ?_
      rw [y7]
      refine v_callV hC (pc := 23) (As := [_, _]) dX2_takeNumber_23 rfl (t_refuse _ _ (d := d - 1) (by omega) _ _ _) cv_X2_64 rfl (by decide) rfl (by first | rfl | exact ok_c hq rfl | exact ok_w hq hw | exact ok_w (by omega) (by omega) | exact ok_s (by omega) (by omega) | exact ok_c (by omega) rfl | assumption) (Nat.le_of_ble_eq_true rfl) (by omega) (fun r h' hr => ?_)
      obtain ⟨he9, rfl⟩ := hr
      rw [he9]
      clear he9 h'
      show V _ _ _ (23 + 3) _ (_ :: _) _
      refine v_pop hC (pc := 26) rfl dX2_takeNumber_26 ?_
      refine v_iconst hC (pc := 27) (v := (-1)) (by decide) dX2_takeNumber_27 ?_
      refine v_iret hC hX (pc := 28) dX2_takeNumber_28 ?_
      exact ⟨rfl, FrR_rf hF, rfH_2 _ _ _, rfH_3 _ _ _⟩
  · exact absurd c_4 (by decide)

set_option maxRecDepth 20000 in
set_option maxHeartbeats 2000000 in
theorem t_tn_r (l9 : Launch) (G : WT) {d : Nat} (hd : 3 ≤ d) (h : HP) {T : Nat → Int32} {t e : Nat} (ht : t ≤ 160) (htp : h.1 (1, 0, 2) 1 = nI t) (hT : h.1 (1, 0, 3) = T) (hT0 : ∀ j, j < t → ¬ T j < 0) (hp0 : h.1 (1, 0, 2) 5 = nI e) (het : e ≤ t) (hb : ¬ tB T t e) (hk : tK T t e = 2) (lo hi : Int32) (hv : ¬ (¬ tV T t e < lo ∧ ¬ hi < tV T t e)) : MS l9 G yX2_takeNumber cX2_takeNumber 5 (some .int) d [vr (1, 0, 2), vi lo, vi hi] h (fun r h1 => r = some (vi (-1)) ∧ RFp h h1 3 (tF T t e)) := by
  refine MS_of (by decide +kernel) (Nat.le_of_ble_eq_true rfl) (fun X hC hX => ?_)
  show V X G 5 0 _ [] _
  have hEb := tE_b (T := T) het
  refine v_aload_n hC (pc := 0) (k := 0) 0 rfl dX2_takeNumber_0 ?_
  refine v_callV hC (pc := 1) (As := []) dX2_takeNumber_1 rfl (t_nt_g _ _ (d := d - 1) (by omega) _ ht htp hT hT0 hp0 het hb) cv_X2_44 rfl (by decide) rfl (by first | rfl | exact ok_c hq rfl | exact ok_w hq hw | exact ok_w (by omega) (by omega) | exact ok_s (by omega) (by omega) | exact ok_c (by omega) rfl | assumption) (Nat.le_of_ble_eq_true rfl) (by omega) (fun r h' hr => ?_)
  obtain ⟨rfl, hF, y2, y3, y5, y7, y6⟩ := hr
  generalize h' = u at hF y2 y3 y5 y7 y6 ⊢
  show V _ _ _ (1 + 3) _ (_ :: _) _
  refine v_if_ne hC (pc := 4) (tgt := 9) dX2_takeNumber_4 (by decide) (fun c_4 => ?_) (fun c_4 => ?_)
  · skip
    refine v_aload_n hC (pc := 9) (k := 0) 0 rfl dX2_takeNumber_9 ?_
    refine v_getI hC (pc := 10) dX2_takeNumber_10 fl_X2_48 rfl (by first | rfl | exact ok_c hq rfl | exact ok_w hq hw | exact ok_w (by omega) (by omega) | exact ok_s (by omega) (by omega) | exact ok_c (by omega) rfl | assumption) rfl (by decide) (by decide) ?_
    rw [y6]
    refine v_iconst hC (pc := 13) (v := 2) (by decide) dX2_takeNumber_13 ?_
    refine v_icmp_eq hC (pc := 14) (tgt := 29) dX2_takeNumber_14 (by decide) (fun c_14 => ?_) (fun c_14 => ?_)
    · skip
      refine v_iconst hC (pc := 29) (v := 0) (by decide) dX2_takeNumber_29 ?_
      refine v_istore_n hC (pc := 30) (l' := [(3, _), (0, _), (1, _), (2, _)]) dX2_takeNumber_30 (by decide) rfl ?_
      refine v_aload_n hC (pc := 31) (k := 0) 1 rfl dX2_takeNumber_31 ?_
      refine v_getI hC (pc := 32) dX2_takeNumber_32 fl_X2_72 rfl (by first | rfl | exact ok_c hq rfl | exact ok_w hq hw | exact ok_w (by omega) (by omega) | exact ok_s (by omega) (by omega) | exact ok_c (by omega) rfl | assumption) rfl (by decide) (by decide) ?_
      rw [y7]
      refine v_istore hC (pc := 35) (l' := [(4, _), (3, _), (0, _), (1, _), (2, _)]) dX2_takeNumber_35 (by decide) rfl ?_
      have LP : ∀ (n i : Nat), tE T t e + 1 ≤ i + n → tF T t e ≤ i → i ≤ tE T t e → V X G 5 37 [(4, vi (nI i)), (3, vi (vlF T (tF T t e) (i - tF T t e))), (0, vr (1, 0, 2)), (1, vi lo), (2, vi hi)] [] u := by
        intro n
        induction n with
        | zero => intro i h1 h2 h3; exact absurd h1 (by omega)
        | succ n ih =>
          intro i h1 h2 h3
          refine v_iload hC (pc := 37) 0 rfl dX2_takeNumber_37 ?_
          refine v_aload_n hC (pc := 39) (k := 0) 2 rfl dX2_takeNumber_39 ?_
          refine v_getI hC (pc := 40) dX2_takeNumber_40 fl_X2_41 rfl (by first | rfl | exact ok_c hq rfl | exact ok_w hq hw | exact ok_w (by omega) (by omega) | exact ok_s (by omega) (by omega) | exact ok_c (by omega) rfl | assumption) rfl (by decide) (by decide) ?_
          rw [y5]
          refine v_icmp_ge hC (pc := 43) (tgt := 67) dX2_takeNumber_43 (by decide) (fun c_43 => ?_) (fun c_43 => ?_)
          · skip
            have hi9 : i = tE T t e := by
              rcases Nat.lt_or_ge i (tE T t e) with q | q
              · exact absurd c_43 (nI_ge q (by omega))
              · omega
            subst hi9
            refine v_iload_n hC (pc := 67) (k := 3) 1 rfl dX2_takeNumber_67 ?_
            refine v_iload_n hC (pc := 68) (k := 1) 3 rfl dX2_takeNumber_68 ?_
            refine v_icmp_lt hC (pc := 69) (tgt := 77) dX2_takeNumber_69 (by decide) (fun c_69 => ?_) (fun c_69 => ?_)
            · skip
              refine v_aload_n hC (pc := 77) (k := 0) 2 rfl dX2_takeNumber_77 ?_
              refine v_iconst hC (pc := 78) (v := 3) (by decide) dX2_takeNumber_78 ?_
              refine v_aload_n hC (pc := 79) (k := 0) 2 rfl dX2_takeNumber_79 ?_
              refine v_getI hC (pc := 80) dX2_takeNumber_80 fl_X2_72 rfl (by first | rfl | exact ok_c hq rfl | exact ok_w hq hw | exact ok_w (by omega) (by omega) | exact ok_s (by omega) (by omega) | exact ok_c (by omega) rfl | assumption) rfl (by decide) (by decide) ?_
              rw [y7]
              refine v_callV hC (pc := 83) (As := [_, _]) dX2_takeNumber_83 rfl (t_refuse _ _ (d := d - 1) (by omega) _ _ _) cv_X2_64 rfl (by decide) rfl (by first | rfl | exact ok_c hq rfl | exact ok_w hq hw | exact ok_w (by omega) (by omega) | exact ok_s (by omega) (by omega) | exact ok_c (by omega) rfl | assumption) (Nat.le_of_ble_eq_true rfl) (by omega) (fun r h' hr => ?_)
              obtain ⟨he9, rfl⟩ := hr
              rw [he9]
              clear he9 h'
              show V _ _ _ (83 + 3) _ (_ :: _) _
              refine v_pop hC (pc := 86) rfl dX2_takeNumber_86 ?_
              refine v_iconst hC (pc := 87) (v := (-1)) (by decide) dX2_takeNumber_87 ?_
              refine v_iret hC hX (pc := 88) dX2_takeNumber_88 ?_
              exact ⟨rfl, FrR_rf hF, rfH_2 _ _ _, rfH_3 _ _ _⟩
            · skip
              skip
              refine v_iload_n hC (pc := 72) (k := 3) 1 rfl dX2_takeNumber_72 ?_
              refine v_iload_n hC (pc := 73) (k := 2) 4 rfl dX2_takeNumber_73 ?_
              refine v_icmp_le hC (pc := 74) (tgt := 89) dX2_takeNumber_74 (by decide) (fun c_74 => ?_) (fun c_74 => ?_)
              · exact absurd ⟨c_69, Int32.not_lt.mpr c_74⟩ hv
              · skip
                refine v_aload_n hC (pc := 77) (k := 0) 2 rfl dX2_takeNumber_77 ?_
                refine v_iconst hC (pc := 78) (v := 3) (by decide) dX2_takeNumber_78 ?_
                refine v_aload_n hC (pc := 79) (k := 0) 2 rfl dX2_takeNumber_79 ?_
                refine v_getI hC (pc := 80) dX2_takeNumber_80 fl_X2_72 rfl (by first | rfl | exact ok_c hq rfl | exact ok_w hq hw | exact ok_w (by omega) (by omega) | exact ok_s (by omega) (by omega) | exact ok_c (by omega) rfl | assumption) rfl (by decide) (by decide) ?_
                rw [y7]
                refine v_callV hC (pc := 83) (As := [_, _]) dX2_takeNumber_83 rfl (t_refuse _ _ (d := d - 1) (by omega) _ _ _) cv_X2_64 rfl (by decide) rfl (by first | rfl | exact ok_c hq rfl | exact ok_w hq hw | exact ok_w (by omega) (by omega) | exact ok_s (by omega) (by omega) | exact ok_c (by omega) rfl | assumption) (Nat.le_of_ble_eq_true rfl) (by omega) (fun r h' hr => ?_)
                obtain ⟨he9, rfl⟩ := hr
                rw [he9]
                clear he9 h'
                show V _ _ _ (83 + 3) _ (_ :: _) _
                refine v_pop hC (pc := 86) rfl dX2_takeNumber_86 ?_
                refine v_iconst hC (pc := 87) (v := (-1)) (by decide) dX2_takeNumber_87 ?_
                refine v_iret hC hX (pc := 88) dX2_takeNumber_88 ?_
                exact ⟨rfl, FrR_rf hF, rfH_2 _ _ _, rfH_3 _ _ _⟩
          · skip
            have hi9 : i < tE T t e := Nat.lt_of_not_le (fun z => c_43 (nI_le z (by omega)))
            refine v_bipush hC (pc := 46) (v := 10) (by decide +kernel) dX2_takeNumber_46 ?_
            refine v_iload_n hC (pc := 48) (k := 3) 1 rfl dX2_takeNumber_48 ?_
            refine v_imul hC (pc := 49) dX2_takeNumber_49 ?_
            refine v_aload_n hC (pc := 50) (k := 0) 2 rfl dX2_takeNumber_50 ?_
            refine v_iload hC (pc := 51) 0 rfl dX2_takeNumber_51 ?_
            refine v_callV hC (pc := 53) (As := [_]) dX2_takeNumber_53 rfl (t_byteT _ _ (d := d - 1) (by omega) _ (p := i) ht ((hF.2.2 1 (by decide)).trans htp) ((hF.1 (1, 0, 3) (by decide)).trans hT) (by omega)) cv_X2_68 rfl (by decide) rfl (by first | rfl | exact ok_c hq rfl | exact ok_w hq hw | exact ok_w (by omega) (by omega) | exact ok_s (by omega) (by omega) | exact ok_c (by omega) rfl | assumption) (Nat.le_of_ble_eq_true rfl) (by omega) (fun r h' hr => ?_)
            obtain ⟨he9, rfl⟩ := hr
            rw [he9]
            clear he9 h'
            show V _ _ _ (53 + 3) _ (_ :: _) _
            refine v_iadd hC (pc := 56) dX2_takeNumber_56 ?_
            refine v_bipush hC (pc := 57) (v := 48) (by decide +kernel) dX2_takeNumber_57 ?_
            refine v_isub hC (pc := 59) dX2_takeNumber_59 ?_
            refine v_istore_n hC (pc := 60) (l' := [(3, _), (4, _), (0, _), (1, _), (2, _)]) dX2_takeNumber_60 (by decide) rfl ?_
            refine v_iinc hC (pc := 61) (l' := [(4, _), (3, _), (0, _), (1, _), (2, _)]) 1 (v := nI (i + 1)) dX2_takeNumber_61 rfl (nI_inc i) (by decide) rfl ?_
            refine v_goto hC (pc := 64) (tgt := 37) dX2_takeNumber_64 (by decide) ?_
            rw [show 10 * vlF T (tF T t e) (i - tF T t e) + byF T t i - 48 = vlF T (tF T t e) (i + 1 - tF T t e) from by rw [show i + 1 - tF T t e = (i - tF T t e) + 1 by omega, vlF_s, show tF T t e + (i - tF T t e) = i by omega, byF_lt (by omega)]]
            exact ih (i + 1) (by omega) (by omega) (by omega)
      have hsub : tF T t e - tF T t e = 0 := Nat.sub_self _
      have e0 : vlF T (tF T t e) (tF T t e - tF T t e) = 0 := by rw [hsub]; rfl
      rw [← e0]
      exact LP 161 (tF T t e) (by omega) (Nat.le_refl _) hEb.1
    · exact absurd ((kC_eq (K := 2) (tK_le T t e) (by decide) (by decide)).mpr hk) c_14
  · exact absurd c_4 (by decide)

set_option maxRecDepth 20000 in
set_option maxHeartbeats 2000000 in
theorem t_tn_g (l9 : Launch) (G : WT) {d : Nat} (hd : 3 ≤ d) (h : HP) {T : Nat → Int32} {t e : Nat} (ht : t ≤ 160) (htp : h.1 (1, 0, 2) 1 = nI t) (hT : h.1 (1, 0, 3) = T) (hT0 : ∀ j, j < t → ¬ T j < 0) (hp0 : h.1 (1, 0, 2) 5 = nI e) (het : e ≤ t) (hb : ¬ tB T t e) (hk : tK T t e = 2) (lo hi : Int32) (hv : ¬ tV T t e < lo ∧ ¬ hi < tV T t e) : MS l9 G yX2_takeNumber cX2_takeNumber 5 (some .int) d [vr (1, 0, 2), vi lo, vi hi] h (fun r h1 => r = some (vi (tV T t e)) ∧ RTk T t h h1 e) := by
  refine MS_of (by decide +kernel) (Nat.le_of_ble_eq_true rfl) (fun X hC hX => ?_)
  show V X G 5 0 _ [] _
  have hEb := tE_b (T := T) het
  refine v_aload_n hC (pc := 0) (k := 0) 0 rfl dX2_takeNumber_0 ?_
  refine v_callV hC (pc := 1) (As := []) dX2_takeNumber_1 rfl (t_nt_g _ _ (d := d - 1) (by omega) _ ht htp hT hT0 hp0 het hb) cv_X2_44 rfl (by decide) rfl (by first | rfl | exact ok_c hq rfl | exact ok_w hq hw | exact ok_w (by omega) (by omega) | exact ok_s (by omega) (by omega) | exact ok_c (by omega) rfl | assumption) (Nat.le_of_ble_eq_true rfl) (by omega) (fun r h' hr => ?_)
  obtain ⟨rfl, hF, y2, y3, y5, y7, y6⟩ := hr
  generalize h' = u at hF y2 y3 y5 y7 y6 ⊢
  show V _ _ _ (1 + 3) _ (_ :: _) _
  refine v_if_ne hC (pc := 4) (tgt := 9) dX2_takeNumber_4 (by decide) (fun c_4 => ?_) (fun c_4 => ?_)
  · skip
    refine v_aload_n hC (pc := 9) (k := 0) 0 rfl dX2_takeNumber_9 ?_
    refine v_getI hC (pc := 10) dX2_takeNumber_10 fl_X2_48 rfl (by first | rfl | exact ok_c hq rfl | exact ok_w hq hw | exact ok_w (by omega) (by omega) | exact ok_s (by omega) (by omega) | exact ok_c (by omega) rfl | assumption) rfl (by decide) (by decide) ?_
    rw [y6]
    refine v_iconst hC (pc := 13) (v := 2) (by decide) dX2_takeNumber_13 ?_
    refine v_icmp_eq hC (pc := 14) (tgt := 29) dX2_takeNumber_14 (by decide) (fun c_14 => ?_) (fun c_14 => ?_)
    · skip
      refine v_iconst hC (pc := 29) (v := 0) (by decide) dX2_takeNumber_29 ?_
      refine v_istore_n hC (pc := 30) (l' := [(3, _), (0, _), (1, _), (2, _)]) dX2_takeNumber_30 (by decide) rfl ?_
      refine v_aload_n hC (pc := 31) (k := 0) 1 rfl dX2_takeNumber_31 ?_
      refine v_getI hC (pc := 32) dX2_takeNumber_32 fl_X2_72 rfl (by first | rfl | exact ok_c hq rfl | exact ok_w hq hw | exact ok_w (by omega) (by omega) | exact ok_s (by omega) (by omega) | exact ok_c (by omega) rfl | assumption) rfl (by decide) (by decide) ?_
      rw [y7]
      refine v_istore hC (pc := 35) (l' := [(4, _), (3, _), (0, _), (1, _), (2, _)]) dX2_takeNumber_35 (by decide) rfl ?_
      have LP : ∀ (n i : Nat), tE T t e + 1 ≤ i + n → tF T t e ≤ i → i ≤ tE T t e → V X G 5 37 [(4, vi (nI i)), (3, vi (vlF T (tF T t e) (i - tF T t e))), (0, vr (1, 0, 2)), (1, vi lo), (2, vi hi)] [] u := by
        intro n
        induction n with
        | zero => intro i h1 h2 h3; exact absurd h1 (by omega)
        | succ n ih =>
          intro i h1 h2 h3
          refine v_iload hC (pc := 37) 0 rfl dX2_takeNumber_37 ?_
          refine v_aload_n hC (pc := 39) (k := 0) 2 rfl dX2_takeNumber_39 ?_
          refine v_getI hC (pc := 40) dX2_takeNumber_40 fl_X2_41 rfl (by first | rfl | exact ok_c hq rfl | exact ok_w hq hw | exact ok_w (by omega) (by omega) | exact ok_s (by omega) (by omega) | exact ok_c (by omega) rfl | assumption) rfl (by decide) (by decide) ?_
          rw [y5]
          refine v_icmp_ge hC (pc := 43) (tgt := 67) dX2_takeNumber_43 (by decide) (fun c_43 => ?_) (fun c_43 => ?_)
          · skip
            have hi9 : i = tE T t e := by
              rcases Nat.lt_or_ge i (tE T t e) with q | q
              · exact absurd c_43 (nI_ge q (by omega))
              · omega
            subst hi9
            refine v_iload_n hC (pc := 67) (k := 3) 1 rfl dX2_takeNumber_67 ?_
            refine v_iload_n hC (pc := 68) (k := 1) 3 rfl dX2_takeNumber_68 ?_
            refine v_icmp_lt hC (pc := 69) (tgt := 77) dX2_takeNumber_69 (by decide) (fun c_69 => ?_) (fun c_69 => ?_)
            · exact absurd c_69 hv.1
            · skip
              refine v_iload_n hC (pc := 72) (k := 3) 1 rfl dX2_takeNumber_72 ?_
              refine v_iload_n hC (pc := 73) (k := 2) 4 rfl dX2_takeNumber_73 ?_
              refine v_icmp_le hC (pc := 74) (tgt := 89) dX2_takeNumber_74 (by decide) (fun c_74 => ?_) (fun c_74 => ?_)
              · skip
                refine v_iload_n hC (pc := 89) (k := 3) 1 rfl dX2_takeNumber_89 ?_
                refine v_iret hC hX (pc := 90) dX2_takeNumber_90 ?_
                exact ⟨rfl, hF, y2, y3, y5, y7⟩
              · exact absurd (Int32.not_lt.mp hv.2) c_74
          · skip
            have hi9 : i < tE T t e := Nat.lt_of_not_le (fun z => c_43 (nI_le z (by omega)))
            refine v_bipush hC (pc := 46) (v := 10) (by decide +kernel) dX2_takeNumber_46 ?_
            refine v_iload_n hC (pc := 48) (k := 3) 1 rfl dX2_takeNumber_48 ?_
            refine v_imul hC (pc := 49) dX2_takeNumber_49 ?_
            refine v_aload_n hC (pc := 50) (k := 0) 2 rfl dX2_takeNumber_50 ?_
            refine v_iload hC (pc := 51) 0 rfl dX2_takeNumber_51 ?_
            refine v_callV hC (pc := 53) (As := [_]) dX2_takeNumber_53 rfl (t_byteT _ _ (d := d - 1) (by omega) _ (p := i) ht ((hF.2.2 1 (by decide)).trans htp) ((hF.1 (1, 0, 3) (by decide)).trans hT) (by omega)) cv_X2_68 rfl (by decide) rfl (by first | rfl | exact ok_c hq rfl | exact ok_w hq hw | exact ok_w (by omega) (by omega) | exact ok_s (by omega) (by omega) | exact ok_c (by omega) rfl | assumption) (Nat.le_of_ble_eq_true rfl) (by omega) (fun r h' hr => ?_)
            obtain ⟨he9, rfl⟩ := hr
            rw [he9]
            clear he9 h'
            show V _ _ _ (53 + 3) _ (_ :: _) _
            refine v_iadd hC (pc := 56) dX2_takeNumber_56 ?_
            refine v_bipush hC (pc := 57) (v := 48) (by decide +kernel) dX2_takeNumber_57 ?_
            refine v_isub hC (pc := 59) dX2_takeNumber_59 ?_
            refine v_istore_n hC (pc := 60) (l' := [(3, _), (4, _), (0, _), (1, _), (2, _)]) dX2_takeNumber_60 (by decide) rfl ?_
            refine v_iinc hC (pc := 61) (l' := [(4, _), (3, _), (0, _), (1, _), (2, _)]) 1 (v := nI (i + 1)) dX2_takeNumber_61 rfl (nI_inc i) (by decide) rfl ?_
            refine v_goto hC (pc := 64) (tgt := 37) dX2_takeNumber_64 (by decide) ?_
            rw [show 10 * vlF T (tF T t e) (i - tF T t e) + byF T t i - 48 = vlF T (tF T t e) (i + 1 - tF T t e) from by rw [show i + 1 - tF T t e = (i - tF T t e) + 1 by omega, vlF_s, show tF T t e + (i - tF T t e) = i by omega, byF_lt (by omega)]]
            exact ih (i + 1) (by omega) (by omega) (by omega)
      have hsub : tF T t e - tF T t e = 0 := Nat.sub_self _
      have e0 : vlF T (tF T t e) (tF T t e - tF T t e) = 0 := by rw [hsub]; rfl
      rw [← e0]
      exact LP 161 (tF T t e) (by omega) (Nat.le_refl _) hEb.1
    · exact absurd ((kC_eq (K := 2) (tK_le T t e) (by decide) (by decide)).mpr hk) c_14
  · exact absurd c_4 (by decide)

theorem t_num_f (l9 : Launch) (G : WT) {d : Nat} (hd : 3 ≤ d) (h : HP) {T : Nat → Int32} {t : Nat} {a : PA} (ht : t ≤ 160) (htp : h.1 (1, 0, 2) 1 = nI t) (hT : h.1 (1, 0, 3) = T) (hT0 : ∀ j, j < t → ¬ T j < 0) (hp0 : h.1 (1, 0, 2) 5 = nI a.1) (het : a.1 ≤ t) (lo hi : Int32) {c : Int32} {f : Nat} (hn : numS T t lo hi a = .inl (c, f)) : MS l9 G yX2_takeNumber cX2_takeNumber 5 (some .int) d [vr (1, 0, 2), vi lo, vi hi] h (fun r h1 => r = some (vi (-1)) ∧ RFp h h1 c f) := by
  rcases Classical.em (tB T t a.1) with hb | hb
  · rw [rsp_num T t lo hi a hb] at hn; cases hn
    exact t_tn_b l9 G hd h ht htp hT hT0 hp0 het hb lo hi
  · by_cases hk : tK T t a.1 = 2
    · by_cases hv : ¬ tV T t a.1 < lo ∧ ¬ hi < tV T t a.1
      · rw [numS_o hb hk hv] at hn; cases hn
      · rw [numS_r hb hk hv] at hn; cases hn
        exact t_tn_r l9 G hd h ht htp hT hT0 hp0 het hb hk lo hi hv
    · rw [numS_s hb hk] at hn; cases hn
      exact t_tn_n l9 G hd h ht htp hT hT0 hp0 het hb hk lo hi
theorem t_num_g (l9 : Launch) (G : WT) {d : Nat} (hd : 3 ≤ d) (h : HP) {T : Nat → Int32} {t : Nat} {a : PA} (ht : t ≤ 160) (htp : h.1 (1, 0, 2) 1 = nI t) (hT : h.1 (1, 0, 3) = T) (hT0 : ∀ j, j < t → ¬ T j < 0) (hp0 : h.1 (1, 0, 2) 5 = nI a.1) (het : a.1 ≤ t) (lo hi : Int32) {b : PA} (hn : numS T t lo hi a = .inr b) : MS l9 G yX2_takeNumber cX2_takeNumber 5 (some .int) d [vr (1, 0, 2), vi lo, vi hi] h (fun r h1 => r = some (vi (tV T t a.1)) ∧ RTk T t h h1 a.1) := by
  rcases Classical.em (tB T t a.1) with hb | hb
  · rw [rsp_num T t lo hi a hb] at hn; cases hn
  · by_cases hk : tK T t a.1 = 2
    · by_cases hv : ¬ tV T t a.1 < lo ∧ ¬ hi < tV T t a.1
      · exact t_tn_g l9 G hd h ht htp hT hT0 hp0 het hb hk lo hi hv
      · rw [numS_r hb hk hv] at hn; cases hn
    · rw [numS_s hb hk] at hn; cases hn
theorem byL_iff (T : Nat → Int32) (t : Nat) : ∀ (l : List Int32) (f : Nat), byL T t f l ↔ ∀ k, k < l.length → byF T t (f + k) = l.getD k 0
  | [], f => ⟨fun _ k hk => absurd hk (Nat.not_lt_zero _), fun _ => trivial⟩
  | a :: l, f => by
    constructor
    · rintro ⟨h1, h2⟩ k hk
      cases k with
      | zero => exact h1
      | succ k =>
        have := (byL_iff T t l (f + 1)).mp h2 k (by simpa using hk)
        rw [show f + (k + 1) = f + 1 + k by omega]
        exact this
    · intro h
      refine ⟨h 0 (by simp), (byL_iff T t l (f + 1)).mpr (fun k hk => ?_)⟩
      have := h (k + 1) (by simpa using hk)
      rw [show f + 1 + k = f + (k + 1) by omega]
      exact this
theorem wd_len : ∀ i, i < 8 → (wdL i).length = strL.getD i 0 := by decide
theorem wd_ch (i k : Nat) : (wdL i).getD k 0 = chC i k := rfl
set_option maxRecDepth 20000 in
set_option maxHeartbeats 2000000 in
theorem t_isWord (l9 : Launch) (G : WT) {d : Nat} (hd : 5 ≤ d) (h : HP) {T : Nat → Int32} {t e : Nat} (ht : t ≤ 160) (htp : h.1 (1, 0, 2) 1 = nI t) (hT : h.1 (1, 0, 3) = T) (hq5 : h.1 (1, 0, 2) 5 = nI (tE T t e)) (hq7 : h.1 (1, 0, 2) 7 = nI (tF T t e)) (het : e ≤ t) {i : Nat} (hi8 : i < 8) : MS l9 G yX2_isWord cX2_isWord 3 (some .boolean) d [vr (1, 0, 2), vr (4, i, 0)] h (fun r h1 => h1 = h ∧ r = some (vi (bP (isL T t e (wdL i))))) := by
  refine MS_of (by decide +kernel) (Nat.le_of_ble_eq_true rfl) (fun X hC hX => ?_)
  show V X G 3 0 _ [] _
  have hEb := tE_b (T := T) het
  have hi6 := sl_6 i hi8
  have LP : tE T t e - tF T t e = strL.getD i 0 → ∀ (n k : Nat), k ≤ strL.getD i 0 → strL.getD i 0 + 1 ≤ k + n → (∀ j, j < k → byF T t (tF T t e + j) = chC i j) → V X G 3 20 [(2, vi (nI k)), (0, vr (1, 0, 2)), (1, vr (4, i, 0))] [] h := by
    intro hlen n
    induction n with
    | zero => intro k h1 h2; exact absurd h2 (by omega)
    | succ n ih =>
      intro k h1 h2 hl
      refine v_iload_n hC (pc := 20) (k := 2) 0 rfl dX2_isWord_20 ?_
      refine v_aload_n hC (pc := 21) (k := 1) 2 rfl dX2_isWord_21 ?_
      refine v_callT hC (pc := 22) (As := []) (by first | assumption | omega) dX2_isWord_22 rfl (t_slen _ _ (d := d - 1) (by omega) _ hi8) cv_X2_81 rfl (Nat.le_of_ble_eq_true rfl) (by omega) (fun r h' hr => ?_)
      obtain ⟨he9, rfl⟩ := hr
      rw [he9]
      clear he9 h'
      show V _ _ _ (22 + 3) _ (_ :: _) _
      refine v_icmp_ge hC (pc := 25) (tgt := 54) dX2_isWord_25 (by decide) (fun c_25 => ?_) (fun c_25 => ?_)
      · skip
        have hk9 : k = strL.getD i 0 := lp_ex c_25 h1 (by omega)
        subst hk9
        refine v_iconst hC (pc := 54) (v := 1) (by decide) dX2_isWord_54 ?_
        refine v_zret hC hX (pc := 55) dX2_isWord_55 (nar_b (by first | exact Or.inl rfl | exact Or.inr rfl | exact bI_01 _)) ?_
        exact ⟨rfl, by rw [bP_t ⟨hlen.trans (wd_len i hi8).symm, (byL_iff _ _ _ _).mpr (fun j hj => by rw [wd_ch]; exact hl j (by rw [wd_len i hi8] at hj; exact hj))⟩]⟩
      · skip
        have hk9 : k < strL.getD i 0 := lp_in c_25 h1 (by omega)
        refine v_aload_n hC (pc := 28) (k := 0) 1 rfl dX2_isWord_28 ?_
        refine v_aload_n hC (pc := 29) (k := 0) 1 rfl dX2_isWord_29 ?_
        refine v_getI hC (pc := 30) dX2_isWord_30 fl_X2_72 rfl (by first | rfl | exact ok_c hq rfl | exact ok_w hq hw | exact ok_w (by omega) (by omega) | exact ok_s (by omega) (by omega) | exact ok_c (by omega) rfl | assumption) rfl (by decide) (by decide) ?_
        rw [hq7]
        refine v_iload_n hC (pc := 33) (k := 2) 0 rfl dX2_isWord_33 ?_
        refine v_iadd hC (pc := 34) dX2_isWord_34 ?_
        rw [nI_add]
        refine v_callV hC (pc := 35) (As := [_]) dX2_isWord_35 rfl (t_byteT _ _ (d := d - 1) (by omega) _ (p := tF T t e + k) ht htp hT (by omega)) cv_X2_68 rfl (by decide) rfl (by first | rfl | exact ok_c hq rfl | exact ok_w hq hw | exact ok_w (by omega) (by omega) | exact ok_s (by omega) (by omega) | exact ok_c (by omega) rfl | assumption) (Nat.le_of_ble_eq_true rfl) (by omega) (fun r h' hr => ?_)
        obtain ⟨he9, rfl⟩ := hr
        rw [he9]
        clear he9 h'
        show V _ _ _ (35 + 3) _ (_ :: _) _
        refine v_aload_n hC (pc := 38) (k := 1) 2 rfl dX2_isWord_38 ?_
        refine v_iload_n hC (pc := 39) (k := 2) 0 rfl dX2_isWord_39 ?_
        refine v_callT hC (pc := 40) (As := [_]) (by first | assumption | omega) dX2_isWord_40 rfl (t_charAt _ _ (d := d - 1) (by omega) _ (i := i) (k := k) hi8 hk9) cv_X2_86 rfl (Nat.le_of_ble_eq_true rfl) (by omega) (fun r h' hr => ?_)
        obtain ⟨he9, rfl⟩ := hr
        rw [he9]
        clear he9 h'
        show V _ _ _ (40 + 3) _ (_ :: _) _
        refine v_icmp_eq hC (pc := 43) (tgt := 48) dX2_isWord_43 (by decide) (fun c_43 => ?_) (fun c_43 => ?_)
        · skip
          refine v_iinc hC (pc := 48) (l' := [(2, _), (0, _), (1, _)]) 0 (v := nI (k + 1)) dX2_isWord_48 rfl (nI_inc k) (by decide) rfl ?_
          refine v_goto hC (pc := 51) (tgt := 20) dX2_isWord_51 (by decide) ?_
          refine ih (k + 1) (by omega) (by omega) (fun j hj => ?_)
          rcases (show j < k ∨ j = k by omega) with q | rfl
          · exact hl j q
          · exact c_43
        · skip
          refine v_iconst hC (pc := 46) (v := 0) (by decide) dX2_isWord_46 ?_
          refine v_zret hC hX (pc := 47) dX2_isWord_47 (nar_b (by first | exact Or.inl rfl | exact Or.inr rfl | exact bI_01 _)) ?_
          exact ⟨rfl, by rw [bP_f (fun z => c_43 (((byL_iff _ _ _ _).mp z.2 k (by rw [wd_len i hi8]; exact hk9)).trans (wd_ch i k)))]⟩
  refine v_aload_n hC (pc := 0) (k := 1) 1 rfl dX2_isWord_0 ?_
  refine v_callT hC (pc := 1) (As := []) (by first | assumption | omega) dX2_isWord_1 rfl (t_slen _ _ (d := d - 1) (by omega) _ hi8) cv_X2_81 rfl (Nat.le_of_ble_eq_true rfl) (by omega) (fun r h' hr => ?_)
  obtain ⟨he9, rfl⟩ := hr
  rw [he9]
  clear he9 h'
  show V _ _ _ (1 + 3) _ (_ :: _) _
  refine v_aload_n hC (pc := 4) (k := 0) 0 rfl dX2_isWord_4 ?_
  refine v_getI hC (pc := 5) dX2_isWord_5 fl_X2_41 rfl (by first | rfl | exact ok_c hq rfl | exact ok_w hq hw | exact ok_w (by omega) (by omega) | exact ok_s (by omega) (by omega) | exact ok_c (by omega) rfl | assumption) rfl (by decide) (by decide) ?_
  rw [hq5]
  refine v_aload_n hC (pc := 8) (k := 0) 0 rfl dX2_isWord_8 ?_
  refine v_getI hC (pc := 9) dX2_isWord_9 fl_X2_72 rfl (by first | rfl | exact ok_c hq rfl | exact ok_w hq hw | exact ok_w (by omega) (by omega) | exact ok_s (by omega) (by omega) | exact ok_c (by omega) rfl | assumption) rfl (by decide) (by decide) ?_
  rw [hq7]
  refine v_isub hC (pc := 12) dX2_isWord_12 ?_
  rw [pk_sub hEb.1]
  refine v_icmp_eq hC (pc := 13) (tgt := 18) dX2_isWord_13 (by decide) (fun c_13 => ?_) (fun c_13 => ?_)
  · skip
    have hlen : tE T t e - tF T t e = strL.getD i 0 := ((nI_eq (by omega) (by omega)).mp c_13).symm
    refine v_iconst hC (pc := 18) (v := 0) (by decide) dX2_isWord_18 ?_
    refine v_istore_n hC (pc := 19) (l' := [(2, _), (0, _), (1, _)]) dX2_isWord_19 (by decide) rfl ?_
    exact LP hlen 8 0 (Nat.zero_le _) (by omega) (fun j hj => absurd hj (Nat.not_lt_zero _))
  · skip
    have hlen : ¬ tE T t e - tF T t e = strL.getD i 0 := fun z => c_13 (congrArg nI z.symm)
    refine v_iconst hC (pc := 16) (v := 0) (by decide) dX2_isWord_16 ?_
    refine v_zret hC hX (pc := 17) dX2_isWord_17 (nar_b (by first | exact Or.inl rfl | exact Or.inr rfl | exact bI_01 _)) ?_
    exact ⟨rfl, by rw [bP_f (fun z => hlen (z.1.trans (wd_len i hi8)))]⟩

set_option maxRecDepth 20000 in
set_option maxHeartbeats 2000000 in
theorem t_wordOf0 (l9 : Launch) (G : WT) {d : Nat} (hd : 1 ≤ d) (h : HP) : MS l9 G yX2_wordOf cX2_wordOf 1 (some (.object "java/lang/String")) d [vi (nI 0)] h (fun r h1 => h1 = h ∧ r = some (vr (4, 0, 0))) := by
  refine MS_of (by decide +kernel) (Nat.le_of_ble_eq_true rfl) (fun X hC hX => ?_)
  show V X G 1 0 _ [] _
  refine v_iload_n hC (pc := 0) (k := 0) 0 rfl dX2_wordOf_0 ?_
  refine v_tabIn hC (pc := 1) (tgt := 44) dX2_wordOf_1 (by decide) (by decide) (off := 43) (by decide) (by decide) ?_
  refine v_ldcS hC (pc := 44) (n := 0) (tx := "city") (by decide) dX2_wordOf_44 ?_
  refine v_aret hC (Or.inl ⟨_, rfl⟩) hX dX2_wordOf_46 ?_
  exact ⟨rfl, rfl⟩

set_option maxRecDepth 20000 in
set_option maxHeartbeats 2000000 in
theorem t_wordOf1 (l9 : Launch) (G : WT) {d : Nat} (hd : 1 ≤ d) (h : HP) : MS l9 G yX2_wordOf cX2_wordOf 1 (some (.object "java/lang/String")) d [vi (nI 1)] h (fun r h1 => h1 = h ∧ r = some (vr (4, 1, 0))) := by
  refine MS_of (by decide +kernel) (Nat.le_of_ble_eq_true rfl) (fun X hC hX => ?_)
  show V X G 1 0 _ [] _
  refine v_iload_n hC (pc := 0) (k := 0) 0 rfl dX2_wordOf_0 ?_
  refine v_tabIn hC (pc := 1) (tgt := 47) dX2_wordOf_1 (by decide) (by decide) (off := 46) (by decide) (by decide) ?_
  refine v_ldcS hC (pc := 47) (n := 1) (tx := "left") (by decide) dX2_wordOf_47 ?_
  refine v_aret hC (Or.inl ⟨_, rfl⟩) hX dX2_wordOf_49 ?_
  exact ⟨rfl, rfl⟩

set_option maxRecDepth 20000 in
set_option maxHeartbeats 2000000 in
theorem t_wordOf2 (l9 : Launch) (G : WT) {d : Nat} (hd : 1 ≤ d) (h : HP) : MS l9 G yX2_wordOf cX2_wordOf 1 (some (.object "java/lang/String")) d [vi (nI 2)] h (fun r h1 => h1 = h ∧ r = some (vr (4, 2, 0))) := by
  refine MS_of (by decide +kernel) (Nat.le_of_ble_eq_true rfl) (fun X hC hX => ?_)
  show V X G 1 0 _ [] _
  refine v_iload_n hC (pc := 0) (k := 0) 0 rfl dX2_wordOf_0 ?_
  refine v_tabIn hC (pc := 1) (tgt := 50) dX2_wordOf_1 (by decide) (by decide) (off := 49) (by decide) (by decide) ?_
  refine v_ldcS hC (pc := 50) (n := 2) (tx := "right") (by decide) dX2_wordOf_50 ?_
  refine v_aret hC (Or.inl ⟨_, rfl⟩) hX dX2_wordOf_52 ?_
  exact ⟨rfl, rfl⟩

set_option maxRecDepth 20000 in
set_option maxHeartbeats 2000000 in
theorem t_wordOf3 (l9 : Launch) (G : WT) {d : Nat} (hd : 1 ≤ d) (h : HP) : MS l9 G yX2_wordOf cX2_wordOf 1 (some (.object "java/lang/String")) d [vi (nI 3)] h (fun r h1 => h1 = h ∧ r = some (vr (4, 3, 0))) := by
  refine MS_of (by decide +kernel) (Nat.le_of_ble_eq_true rfl) (fun X hC hX => ?_)
  show V X G 1 0 _ [] _
  refine v_iload_n hC (pc := 0) (k := 0) 0 rfl dX2_wordOf_0 ?_
  refine v_tabIn hC (pc := 1) (tgt := 53) dX2_wordOf_1 (by decide) (by decide) (off := 52) (by decide) (by decide) ?_
  refine v_ldcS hC (pc := 53) (n := 3) (tx := "sign") (by decide) dX2_wordOf_53 ?_
  refine v_aret hC (Or.inl ⟨_, rfl⟩) hX dX2_wordOf_55 ?_
  exact ⟨rfl, rfl⟩

set_option maxRecDepth 20000 in
set_option maxHeartbeats 2000000 in
theorem t_wordOf4 (l9 : Launch) (G : WT) {d : Nat} (hd : 1 ≤ d) (h : HP) : MS l9 G yX2_wordOf cX2_wordOf 1 (some (.object "java/lang/String")) d [vi (nI 4)] h (fun r h1 => h1 = h ∧ r = some (vr (4, 4, 0))) := by
  refine MS_of (by decide +kernel) (Nat.le_of_ble_eq_true rfl) (fun X hC hX => ?_)
  show V X G 1 0 _ [] _
  refine v_iload_n hC (pc := 0) (k := 0) 0 rfl dX2_wordOf_0 ?_
  refine v_tabIn hC (pc := 1) (tgt := 56) dX2_wordOf_1 (by decide) (by decide) (off := 55) (by decide) (by decide) ?_
  refine v_ldcS hC (pc := 56) (n := 4) (tx := "hour") (by decide) dX2_wordOf_56 ?_
  refine v_aret hC (Or.inl ⟨_, rfl⟩) hX dX2_wordOf_58 ?_
  exact ⟨rfl, rfl⟩

set_option maxRecDepth 20000 in
set_option maxHeartbeats 2000000 in
theorem t_wordOf5 (l9 : Launch) (G : WT) {d : Nat} (hd : 1 ≤ d) (h : HP) : MS l9 G yX2_wordOf cX2_wordOf 1 (some (.object "java/lang/String")) d [vi (nI 5)] h (fun r h1 => h1 = h ∧ r = some (vr (4, 5, 0))) := by
  refine MS_of (by decide +kernel) (Nat.le_of_ble_eq_true rfl) (fun X hC hX => ?_)
  show V X G 1 0 _ [] _
  refine v_iload_n hC (pc := 0) (k := 0) 0 rfl dX2_wordOf_0 ?_
  refine v_tabIn hC (pc := 1) (tgt := 59) dX2_wordOf_1 (by decide) (by decide) (off := 58) (by decide) (by decide) ?_
  refine v_ldcS hC (pc := 59) (n := 5) (tx := "walker") (by decide) dX2_wordOf_59 ?_
  refine v_aret hC (Or.inl ⟨_, rfl⟩) hX dX2_wordOf_61 ?_
  exact ⟨rfl, rfl⟩

set_option maxRecDepth 20000 in
set_option maxHeartbeats 2000000 in
theorem t_wordOf6 (l9 : Launch) (G : WT) {d : Nat} (hd : 1 ≤ d) (h : HP) : MS l9 G yX2_wordOf cX2_wordOf 1 (some (.object "java/lang/String")) d [vi (nI 6)] h (fun r h1 => h1 = h ∧ r = some (vr (4, 6, 0))) := by
  refine MS_of (by decide +kernel) (Nat.le_of_ble_eq_true rfl) (fun X hC hX => ?_)
  show V X G 1 0 _ [] _
  refine v_iload_n hC (pc := 0) (k := 0) 0 rfl dX2_wordOf_0 ?_
  refine v_tabIn hC (pc := 1) (tgt := 62) dX2_wordOf_1 (by decide) (by decide) (off := 61) (by decide) (by decide) ?_
  refine v_ldcS hC (pc := 62) (n := 6) (tx := "keeper") (by decide) dX2_wordOf_62 ?_
  refine v_aret hC (Or.inl ⟨_, rfl⟩) hX dX2_wordOf_64 ?_
  exact ⟨rfl, rfl⟩

set_option maxRecDepth 20000 in
set_option maxHeartbeats 2000000 in
theorem t_wordOf7 (l9 : Launch) (G : WT) {d : Nat} (hd : 1 ≤ d) (h : HP) : MS l9 G yX2_wordOf cX2_wordOf 1 (some (.object "java/lang/String")) d [vi (nI 7)] h (fun r h1 => h1 = h ∧ r = some (vr (4, 7, 0))) := by
  refine MS_of (by decide +kernel) (Nat.le_of_ble_eq_true rfl) (fun X hC hX => ?_)
  show V X G 1 0 _ [] _
  refine v_iload_n hC (pc := 0) (k := 0) 0 rfl dX2_wordOf_0 ?_
  refine v_tabOut hC (pc := 1) (tgt := 65) dX2_wordOf_1 (by decide +kernel) (by decide) ?_
  refine v_ldcS hC (pc := 65) (n := 7) (tx := "gloves") (by decide) dX2_wordOf_65 ?_
  refine v_aret hC (Or.inl ⟨_, rfl⟩) hX dX2_wordOf_67 ?_
  exact ⟨rfl, rfl⟩

theorem t_wordOf (l9 : Launch) (G : WT) {d : Nat} (hd : 1 ≤ d) (h : HP) {k : Nat} (hk : k < 8) : MS l9 G yX2_wordOf cX2_wordOf 1 (some (.object "java/lang/String")) d [vi (nI k)] h (fun r h1 => h1 = h ∧ r = some (vr (4, k, 0))) := by
  rcases (show k = 0 ∨ k = 1 ∨ k = 2 ∨ k = 3 ∨ k = 4 ∨ k = 5 ∨ k = 6 ∨ k = 7 by omega) with e | e | e | e | e | e | e | e <;> subst e
  · exact t_wordOf0 l9 G hd h
  · exact t_wordOf1 l9 G hd h
  · exact t_wordOf2 l9 G hd h
  · exact t_wordOf3 l9 G hd h
  · exact t_wordOf4 l9 G hd h
  · exact t_wordOf5 l9 G hd h
  · exact t_wordOf6 l9 G hd h
  · exact t_wordOf7 l9 G hd h
set_option maxRecDepth 20000 in
set_option maxHeartbeats 2000000 in
theorem t_lineOfWord (l9 : Launch) (G : WT) {d : Nat} (hd : 6 ≤ d) (h : HP) {T : Nat → Int32} {t e : Nat} (ht : t ≤ 160) (htp : h.1 (1, 0, 2) 1 = nI t) (hT : h.1 (1, 0, 3) = T) (hq5 : h.1 (1, 0, 2) 5 = nI (tE T t e)) (hq7 : h.1 (1, 0, 2) 7 = nI (tF T t e)) (het : e ≤ t) : MS l9 G yX2_lineOfWord cX2_lineOfWord 2 (some .int) d [vr (1, 0, 2)] h (fun r h1 => h1 = h ∧ ((∃ i, i < 8 ∧ r = some (vi (nI i)) ∧ isL T t e (wdL i) ∧ ∀ j, j < i → ¬ isL T t e (wdL j)) ∨ (r = some (vi (-1)) ∧ ∀ j, j < 8 → ¬ isL T t e (wdL j)))) := by
  refine MS_of (by decide +kernel) (Nat.le_of_ble_eq_true rfl) (fun X hC hX => ?_)
  show V X G 2 0 _ [] _
  have lp : ∀ (n i : Nat) , i ≤ 8 → 8 + 1 ≤ i + n → (∀ j, j < i → ¬ isL T t e (wdL j)) → V X G 2 2 [(1, vi (nI i)), (0, vr (1, 0, 2))] [] (h) := by
    intro n
    induction n with
    | zero => intro i  h1 h2; exact absurd h2 (by omega)
    | succ n ih =>
      intro i  h1 h2 ha
      refine v_iload_n hC (pc := 2) (k := 1) 0 rfl dX2_lineOfWord_2 ?_
      refine v_bipush hC (pc := 3) (v := 8) (by decide +kernel) dX2_lineOfWord_3 ?_
      refine v_icmp_ge hC (pc := 5) (tgt := 27) dX2_lineOfWord_5 (by decide) (fun c_5 => ?_) (fun c_5 => ?_)
      · skip
        have hi : i = 8 := lp_ex (c_5) h1 (by decide)
        refine v_iconst hC (pc := 27) (v := (-1)) (by decide) dX2_lineOfWord_27 ?_
        refine v_iret hC hX (pc := 28) dX2_lineOfWord_28 ?_
        subst hi
        exact ⟨rfl, Or.inr ⟨rfl, ha⟩⟩
      · skip
        have hi : i < 8 := lp_in (c_5) h1 (by decide)
        refine v_aload_n hC (pc := 8) (k := 0) 1 rfl dX2_lineOfWord_8 ?_
        refine v_iload_n hC (pc := 9) (k := 1) 0 rfl dX2_lineOfWord_9 ?_
        refine v_callS hC (pc := 10) (As := [_]) dX2_lineOfWord_10 rfl (t_wordOf _ _ (d := d - 1) (by omega) _ (k := i) hi) cs_X2_106 (Nat.le_of_ble_eq_true rfl) (by omega) (fun r h' hr => ?_)
        obtain ⟨he9, rfl⟩ := hr
        rw [he9]
        clear he9 h'
        show V _ _ _ (10 + 3) _ (_ :: _) _
        refine v_callV hC (pc := 13) (As := [_]) dX2_lineOfWord_13 rfl (t_isWord _ _ (d := d - 1) (by omega) _ ht htp hT hq5 hq7 het (i := i) hi) cv_X2_110 rfl (by decide) rfl (by first | rfl | exact ok_c hq rfl | exact ok_w hq hw | exact ok_w (by omega) (by omega) | exact ok_s (by omega) (by omega) | exact ok_c (by omega) rfl | assumption) (Nat.le_of_ble_eq_true rfl) (by omega) (fun r h' hr => ?_)
        obtain ⟨he9, rfl⟩ := hr
        rw [he9]
        clear he9 h'
        show V _ _ _ (13 + 3) _ (_ :: _) _
        refine v_if_eq hC (pc := 16) (tgt := 21) dX2_lineOfWord_16 (by decide) (fun c_16 => ?_) (fun c_16 => ?_)
        · skip
          refine v_iinc hC (pc := 21) (l' := [(1, _), (0, _)]) 0 (v := nI (i + 1)) dX2_lineOfWord_21 rfl (nI_inc i) (by decide) rfl ?_
          refine v_goto hC (pc := 24) (tgt := 2) dX2_lineOfWord_24 (by decide) ?_
          refine ih (i + 1) (by omega) (by omega) (fun j hj => ?_)
          rcases (show j < i ∨ j = i by omega) with q | rfl
          · exact ha j q
          · exact bP_0.mp c_16
        · skip
          refine v_iload_n hC (pc := 19) (k := 1) 0 rfl dX2_lineOfWord_19 ?_
          refine v_iret hC hX (pc := 20) dX2_lineOfWord_20 ?_
          exact ⟨rfl, Or.inl ⟨i, hi, rfl, by
            rcases Classical.em (isL T t e (wdL i)) with q | q
            · exact q
            · exact absurd (bP_f q) c_16, ha⟩⟩
  refine v_iconst hC (pc := 0) (v := 0) (by decide) dX2_lineOfWord_0 ?_
  refine v_istore_n hC (pc := 1) (l' := [(1, _), (0, _)]) dX2_lineOfWord_1 (by decide) rfl ?_
  exact lp 9 0 (by omega) (by omega) (fun j hj => absurd hj (Nat.not_lt_zero _))

