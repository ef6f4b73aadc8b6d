/-! THE READER OF THE CLASS: walkers -/
theorem sd_r {T : Nat → Int32} {t e : Nat} (h : isL T t e (wdL 2)) : sdN2 T t e = 1 := by
  unfold sdN2
  rw [iteP_f (fun z => absurd (z.1.symm.trans h.1) (by decide)), iteP_t h]
theorem sd_l {T : Nat → Int32} {t e : Nat} (h : isL T t e (wdL 1)) : sdN2 T t e = 0 := by
  unfold sdN2
  rw [iteP_t h]
theorem sd_n {T : Nat → Int32} {t e : Nat} (h : ¬ isL T t e (wdL 2)) (h1 : ¬ isL T t e (wdL 1)) : sdN2 T t e = 8 := by
  unfold sdN2
  rw [iteP_f h1, iteP_f h]
set_option maxRecDepth 20000 in
set_option maxHeartbeats 2000000 in
theorem t_hand_1 (l9 : Launch) (G : WT) {d : Nat} (hd : 6 ≤ d) (h : HP) {T : Nat → Int32} {t e : Nat} (ht : t ≤ 160) (htp : h.1 (1, 0, 2) 1 = nI t) (hT : h.1 (1, 0, 3) = T) (hq5 : h.1 (1, 0, 2) 5 = nI (tE T t e)) (hq7 : h.1 (1, 0, 2) 7 = nI (tF T t e)) (het : e ≤ t) {w : Nat} (hw : w < 4) (q2 : isL T t e (wdL 2)) : MS l9 G yX2_takeHand cX2_takeHand 2 (some .boolean) d [vr (1, 0, 2), vr (6, 4, w)] h (fun r h1 => h1 = upI h (6, 4, w) 1 1 ∧ r = some (vi 1)) := by
  refine MS_of (by decide +kernel) (Nat.le_of_ble_eq_true rfl) (fun X hC hX => ?_)
  show V X G 2 0 _ [] _
  refine v_aload_n hC (pc := 0) (k := 1) 1 rfl dX2_takeHand_0 ?_
  refine v_aload_n hC (pc := 1) (k := 0) 0 rfl dX2_takeHand_1 ?_
  refine v_ldcS hC (pc := 2) (n := 2) (tx := "right") (by decide) dX2_takeHand_2 ?_
  refine v_callV hC (pc := 4) (As := [_]) dX2_takeHand_4 rfl (t_isWord _ _ (d := d - 1) (by omega) _ (T := T) (t := t) (e := e) ht (by skip; exact htp) (by skip; exact hT) (by skip; exact hq5) (by skip; exact hq7) het (i := 2) (by decide)) cv_X2_110 rfl (by decide) rfl (by first | rfl | exact ok_c hq rfl | exact ok_w hq hw | exact ok_w (by omega) (by omega) | exact ok_s (by omega) (by omega) | exact ok_c (by omega) rfl | assumption) (Nat.le_of_ble_eq_true rfl) (by omega) (fun r h' hr => ?_)
  obtain ⟨he9, rfl⟩ := hr
  rw [he9]
  clear he9 h'
  show V _ _ _ (4 + 3) _ (_ :: _) _
  refine v_if_eq hC (pc := 7) (tgt := 14) dX2_takeHand_7 (by decide) (fun c_7 => ?_) (fun c_7 => ?_)
  · exact absurd (bP_t q2) (by rw [c_7]; decide)
  · skip
    refine v_iconst hC (pc := 10) (v := 1) (by decide) dX2_takeHand_10 ?_
    refine v_goto hC (pc := 11) (tgt := 15) dX2_takeHand_11 (by decide) ?_
    refine v_putI hC (pc := 15) dX2_takeHand_15 fs_X2_178 rfl (ok_w (by decide) hw) rfl (by decide) (by decide) ?_
    refine v_aload_n hC (pc := 18) (k := 1) 1 rfl dX2_takeHand_18 ?_
    refine v_getI hC (pc := 19) dX2_takeHand_19 fl_X2_178 rfl (ok_w (by decide) hw) rfl (by decide) (by decide) ?_
    rw [upI_i]
    refine v_iconst hC (pc := 22) (v := 1) (by decide) dX2_takeHand_22 ?_
    refine v_icmp_eq hC (pc := 23) (tgt := 47) dX2_takeHand_23 (by decide) (fun c_23 => ?_) (fun c_23 => ?_)
    · skip
      refine v_iconst hC (pc := 47) (v := 1) (by decide) dX2_takeHand_47 ?_
      refine v_goto hC (pc := 48) (tgt := 52) dX2_takeHand_48 (by decide) ?_
      refine v_zret hC hX (pc := 52) dX2_takeHand_52 (nar_b (by first | exact Or.inl rfl | exact Or.inr rfl | exact bI_01 _)) ?_
      exact ⟨rfl, rfl⟩
    · exact absurd rfl c_23

set_option maxRecDepth 20000 in
set_option maxHeartbeats 2000000 in
theorem t_hand_0 (l9 : Launch) (G : WT) {d : Nat} (hd : 6 ≤ d) (h : HP) {T : Nat → Int32} {t e : Nat} (ht : t ≤ 160) (htp : h.1 (1, 0, 2) 1 = nI t) (hT : h.1 (1, 0, 3) = T) (hq5 : h.1 (1, 0, 2) 5 = nI (tE T t e)) (hq7 : h.1 (1, 0, 2) 7 = nI (tF T t e)) (het : e ≤ t) {w : Nat} (hw : w < 4) (q2 : ¬ isL T t e (wdL 2)) (q1 : isL T t e (wdL 1)) : MS l9 G yX2_takeHand cX2_takeHand 2 (some .boolean) d [vr (1, 0, 2), vr (6, 4, w)] h (fun r h1 => h1 = upI h (6, 4, w) 1 0 ∧ r = some (vi 1)) := by
  refine MS_of (by decide +kernel) (Nat.le_of_ble_eq_true rfl) (fun X hC hX => ?_)
  show V X G 2 0 _ [] _
  refine v_aload_n hC (pc := 0) (k := 1) 1 rfl dX2_takeHand_0 ?_
  refine v_aload_n hC (pc := 1) (k := 0) 0 rfl dX2_takeHand_1 ?_
  refine v_ldcS hC (pc := 2) (n := 2) (tx := "right") (by decide) dX2_takeHand_2 ?_
  refine v_callV hC (pc := 4) (As := [_]) dX2_takeHand_4 rfl (t_isWord _ _ (d := d - 1) (by omega) _ (T := T) (t := t) (e := e) ht (by skip; exact htp) (by skip; exact hT) (by skip; exact hq5) (by skip; exact hq7) het (i := 2) (by decide)) cv_X2_110 rfl (by decide) rfl (by first | rfl | exact ok_c hq rfl | exact ok_w hq hw | exact ok_w (by omega) (by omega) | exact ok_s (by omega) (by omega) | exact ok_c (by omega) rfl | assumption) (Nat.le_of_ble_eq_true rfl) (by omega) (fun r h' hr => ?_)
  obtain ⟨he9, rfl⟩ := hr
  rw [he9]
  clear he9 h'
  show V _ _ _ (4 + 3) _ (_ :: _) _
  refine v_if_eq hC (pc := 7) (tgt := 14) dX2_takeHand_7 (by decide) (fun c_7 => ?_) (fun c_7 => ?_)
  · skip
    refine v_iconst hC (pc := 14) (v := 0) (by decide) dX2_takeHand_14 ?_
    refine v_putI hC (pc := 15) dX2_takeHand_15 fs_X2_178 rfl (ok_w (by decide) hw) rfl (by decide) (by decide) ?_
    refine v_aload_n hC (pc := 18) (k := 1) 1 rfl dX2_takeHand_18 ?_
    refine v_getI hC (pc := 19) dX2_takeHand_19 fl_X2_178 rfl (ok_w (by decide) hw) rfl (by decide) (by decide) ?_
    rw [upI_i]
    refine v_iconst hC (pc := 22) (v := 1) (by decide) dX2_takeHand_22 ?_
    refine v_icmp_eq hC (pc := 23) (tgt := 47) dX2_takeHand_23 (by decide) (fun c_23 => ?_) (fun c_23 => ?_)
    · exact absurd c_23 (by decide)
    · skip
      refine v_aload_n hC (pc := 26) (k := 0) 0 rfl dX2_takeHand_26 ?_
      refine v_ldcS hC (pc := 27) (n := 1) (tx := "left") (by decide) dX2_takeHand_27 ?_
      refine v_callV hC (pc := 29) (As := [_]) dX2_takeHand_29 rfl (t_isWord _ _ (d := d - 1) (by omega) _ (T := T) (t := t) (e := e) ht (by rw [upI_ne _ _ _ (ne_1 (by decide))]; exact htp) (by rw [upI_ne _ _ _ (ne_1 (by decide))]; exact hT) (by rw [upI_ne _ _ _ (ne_1 (by decide))]; exact hq5) (by rw [upI_ne _ _ _ (ne_1 (by decide))]; exact hq7) het (i := 1) (by decide)) cv_X2_110 rfl (by decide) rfl (by first | rfl | exact ok_c hq rfl | exact ok_w hq hw | exact ok_w (by omega) (by omega) | exact ok_s (by omega) (by omega) | exact ok_c (by omega) rfl | assumption) (Nat.le_of_ble_eq_true rfl) (by omega) (fun r h' hr => ?_)
      obtain ⟨he9, rfl⟩ := hr
      rw [he9]
      clear he9 h'
      show V _ _ _ (29 + 3) _ (_ :: _) _
      refine v_if_ne hC (pc := 32) (tgt := 47) dX2_takeHand_32 (by decide) (fun c_32 => ?_) (fun c_32 => ?_)
      · skip
        refine v_iconst hC (pc := 47) (v := 1) (by decide) dX2_takeHand_47 ?_
        refine v_goto hC (pc := 48) (tgt := 52) dX2_takeHand_48 (by decide) ?_
        refine v_zret hC hX (pc := 52) dX2_takeHand_52 (nar_b (by first | exact Or.inl rfl | exact Or.inr rfl | exact bI_01 _)) ?_
        exact ⟨rfl, rfl⟩
      · exact absurd (bP_t q1) (by rw [c_32]; decide)
  · exact absurd (bP_f q2) c_7

set_option maxRecDepth 20000 in
set_option maxHeartbeats 2000000 in
theorem t_hand_8 (l9 : Launch) (G : WT) {d : Nat} (hd : 6 ≤ d) (h : HP) {T : Nat → Int32} {t e : Nat} (ht : t ≤ 160) (htp : h.1 (1, 0, 2) 1 = nI t) (hT : h.1 (1, 0, 3) = T) (hq5 : h.1 (1, 0, 2) 5 = nI (tE T t e)) (hq7 : h.1 (1, 0, 2) 7 = nI (tF T t e)) (het : e ≤ t) {w : Nat} (hw : w < 4) (q2 : ¬ isL T t e (wdL 2)) (q1 : ¬ isL T t e (wdL 1)) : MS l9 G yX2_takeHand cX2_takeHand 2 (some .boolean) d [vr (1, 0, 2), vr (6, 4, w)] h (fun r h1 => h1 = rfH (upI h (6, 4, w) 1 0) 2 (h.1 (1, 0, 2) 7) ∧ r = some (vi 0)) := by
  refine MS_of (by decide +kernel) (Nat.le_of_ble_eq_true rfl) (fun X hC hX => ?_)
  show V X G 2 0 _ [] _
  refine v_aload_n hC (pc := 0) (k := 1) 1 rfl dX2_takeHand_0 ?_
  refine v_aload_n hC (pc := 1) (k := 0) 0 rfl dX2_takeHand_1 ?_
  refine v_ldcS hC (pc := 2) (n := 2) (tx := "right") (by decide) dX2_takeHand_2 ?_
  refine v_callV hC (pc := 4) (As := [_]) dX2_takeHand_4 rfl (t_isWord _ _ (d := d - 1) (by omega) _ (T := T) (t := t) (e := e) ht (by skip; exact htp) (by skip; exact hT) (by skip; exact hq5) (by skip; exact hq7) het (i := 2) (by decide)) cv_X2_110 rfl (by decide) rfl (by first | rfl | exact ok_c hq rfl | exact ok_w hq hw | exact ok_w (by omega) (by omega) | exact ok_s (by omega) (by omega) | exact ok_c (by omega) rfl | assumption) (Nat.le_of_ble_eq_true rfl) (by omega) (fun r h' hr => ?_)
  obtain ⟨he9, rfl⟩ := hr
  rw [he9]
  clear he9 h'
  show V _ _ _ (4 + 3) _ (_ :: _) _
  refine v_if_eq hC (pc := 7) (tgt := 14) dX2_takeHand_7 (by decide) (fun c_7 => ?_) (fun c_7 => ?_)
  · skip
    refine v_iconst hC (pc := 14) (v := 0) (by decide) dX2_takeHand_14 ?_
    refine v_putI hC (pc := 15) dX2_takeHand_15 fs_X2_178 rfl (ok_w (by decide) hw) rfl (by decide) (by decide) ?_
    refine v_aload_n hC (pc := 18) (k := 1) 1 rfl dX2_takeHand_18 ?_
    refine v_getI hC (pc := 19) dX2_takeHand_19 fl_X2_178 rfl (ok_w (by decide) hw) rfl (by decide) (by decide) ?_
    rw [upI_i]
    refine v_iconst hC (pc := 22) (v := 1) (by decide) dX2_takeHand_22 ?_
    refine v_icmp_eq hC (pc := 23) (tgt := 47) dX2_takeHand_23 (by decide) (fun c_23 => ?_) (fun c_23 => ?_)
    · exact absurd c_23 (by decide)
    · skip
      refine v_aload_n hC (pc := 26) (k := 0) 0 rfl dX2_takeHand_26 ?_
      refine v_ldcS hC (pc := 27) (n := 1) (tx := "left") (by decide) dX2_takeHand_27 ?_
      refine v_callV hC (pc := 29) (As := [_]) dX2_takeHand_29 rfl (t_isWord _ _ (d := d - 1) (by omega) _ (T := T) (t := t) (e := e) ht (by rw [upI_ne _ _ _ (ne_1 (by decide))]; exact htp) (by rw [upI_ne _ _ _ (ne_1 (by decide))]; exact hT) (by rw [upI_ne _ _ _ (ne_1 (by decide))]; exact hq5) (by rw [upI_ne _ _ _ (ne_1 (by decide))]; exact hq7) het (i := 1) (by decide)) cv_X2_110 rfl (by decide) rfl (by first | rfl | exact ok_c hq rfl | exact ok_w hq hw | exact ok_w (by omega) (by omega) | exact ok_s (by omega) (by omega) | exact ok_c (by omega) rfl | assumption) (Nat.le_of_ble_eq_true rfl) (by omega) (fun r h' hr => ?_)
      obtain ⟨he9, rfl⟩ := hr
      rw [he9]
      clear he9 h'
      show V _ _ _ (29 + 3) _ (_ :: _) _
      refine v_if_ne hC (pc := 32) (tgt := 47) dX2_takeHand_32 (by decide) (fun c_32 => ?_) (fun c_32 => ?_)
      · exact absurd (bP_f q1) c_32
      · skip
        refine v_aload_n hC (pc := 35) (k := 0) 0 rfl dX2_takeHand_35 ?_
        refine v_iconst hC (pc := 36) (v := 2) (by decide) dX2_takeHand_36 ?_
        refine v_aload_n hC (pc := 37) (k := 0) 0 rfl dX2_takeHand_37 ?_
        refine v_getI hC (pc := 38) dX2_takeHand_38 fl_X2_72 rfl (by first | rfl | exact ok_c hq rfl | exact ok_w hq hw | exact ok_w (by omega) (by omega) | exact ok_s (by omega) (by omega) | exact ok_c (by omega) rfl | assumption) rfl (by decide) (by decide) ?_
        rw [show ∀ v, (upI h (6, 4, w) 1 v).1 (1, 0, 2) 7 = h.1 (1, 0, 2) 7 from fun v => by rw [upI_ne _ _ _ (ne_1 (by decide))]]
        refine v_callV hC (pc := 41) (As := [_, _]) dX2_takeHand_41 rfl (t_refuse _ _ (d := d - 1) (by omega) _ _ _) cv_X2_64 rfl (by decide) rfl (by first | rfl | exact ok_c hq rfl | exact ok_w hq hw | exact ok_w (by omega) (by omega) | exact ok_s (by omega) (by omega) | exact ok_c (by omega) rfl | assumption) (Nat.le_of_ble_eq_true rfl) (by omega) (fun r h' hr => ?_)
        obtain ⟨he9, rfl⟩ := hr
        rw [he9]
        clear he9 h'
        show V _ _ _ (41 + 3) _ (_ :: _) _
        refine v_if_eq hC (pc := 44) (tgt := 51) dX2_takeHand_44 (by decide) (fun c_44 => ?_) (fun c_44 => ?_)
        · skip
          refine v_iconst hC (pc := 51) (v := 0) (by decide) dX2_takeHand_51 ?_
          refine v_zret hC hX (pc := 52) dX2_takeHand_52 (nar_b (by first | exact Or.inl rfl | exact Or.inr rfl | exact bI_01 _)) ?_
          exact ⟨rfl, rfl⟩
        · exact absurd c_44 (by decide)
  · exact absurd (bP_f q2) c_7

theorem t_hand_g (l9 : Launch) (G : WT) {d : Nat} (hd : 6 ≤ d) (h : HP) {T : Nat → Int32} {t e : Nat} (ht : t ≤ 160) (htp : h.1 (1, 0, 2) 1 = nI t) (hT : h.1 (1, 0, 3) = T) (hq5 : h.1 (1, 0, 2) 5 = nI (tE T t e)) (hq7 : h.1 (1, 0, 2) 7 = nI (tF T t e)) (het : e ≤ t) {w : Nat} (hw : w < 4) {sd : Nat} (hs2 : sd < 2) (hs : sdN2 T t e = sd) : MS l9 G yX2_takeHand cX2_takeHand 2 (some .boolean) d [vr (1, 0, 2), vr (6, 4, w)] h (fun r h1 => h1 = upI h (6, 4, w) 1 (nI sd) ∧ r = some (vi 1)) := by
  rcases Classical.em (isL T t e (wdL 2)) with q2 | q2
  · have e1 : sd = 1 := hs.symm.trans (sd_r q2)
    subst e1
    exact t_hand_1 l9 G hd h ht htp hT hq5 hq7 het hw q2
  · rcases Classical.em (isL T t e (wdL 1)) with q1 | q1
    · have e1 : sd = 0 := hs.symm.trans (sd_l q1)
      subst e1
      exact t_hand_0 l9 G hd h ht htp hT hq5 hq7 het hw q2 q1
    · exact absurd ((sd_n q2 q1).symm.trans hs) (by omega)
theorem t_hand_n (l9 : Launch) (G : WT) {d : Nat} (hd : 6 ≤ d) (h : HP) {T : Nat → Int32} {t e : Nat} (ht : t ≤ 160) (htp : h.1 (1, 0, 2) 1 = nI t) (hT : h.1 (1, 0, 3) = T) (hq5 : h.1 (1, 0, 2) 5 = nI (tE T t e)) (hq7 : h.1 (1, 0, 2) 7 = nI (tF T t e)) (het : e ≤ t) {w : Nat} (hw : w < 4) (hs : sdN2 T t e = 8) : MS l9 G yX2_takeHand cX2_takeHand 2 (some .boolean) d [vr (1, 0, 2), vr (6, 4, w)] h (fun r h1 => h1 = rfH (upI h (6, 4, w) 1 0) 2 (h.1 (1, 0, 2) 7) ∧ r = some (vi 0)) :=
  t_hand_8 l9 G hd h ht htp hT hq5 hq7 het hw (fun z => absurd ((sd_r z).symm.trans hs) (by decide)) (fun z => absurd ((sd_l z).symm.trans hs) (by decide))
def rtH (h : HP) (w : Nat) (T : Nat → Int32) (f k : Nat) : HP := upI (upI h (6, 4, w) 3 (rtN T f k)) (6, 4, w) 4 (nI k)
theorem upI_upI (h : HP) (i : PId) (k : Nat) (x y : Int32) : upI (upI h i k x) i k y = upI h i k y := by
  refine Prod.ext (funext fun j => funext fun m => ?_) rfl
  by_cases e : j = i ∧ m = k
  · simp [upI, e]
  · simp only [upI, if_neg e]
theorem upI_sw (h : HP) (i : PId) {k m : Nat} (hkm : k ≠ m) (x y : Int32) : upI (upI h i k x) i m y = upI (upI h i m y) i k x := by
  refine Prod.ext (funext fun j => funext fun n => ?_) rfl
  simp only [upI]
  by_cases e1 : j = i ∧ n = m
  · rw [if_pos e1, if_neg (fun z => hkm (z.2.symm.trans e1.2)), if_pos e1]
  · rw [if_neg e1, if_neg e1]
theorem rtH_0 (h : HP) (w : Nat) (T : Nat → Int32) (f : Nat) (h3 : h.1 (6, 4, w) 3 = 0) (h4 : h.1 (6, 4, w) 4 = 0) : rtH h w T f 0 = h := by
  unfold rtH
  have e1 : upI h (6, 4, w) 3 (rtN T f 0) = h := by rw [show rtN T f 0 = h.1 (6, 4, w) 3 from h3.symm]; exact upI_id _ _ _
  rw [e1, show nI 0 = h.1 (6, 4, w) 4 from h4.symm]
  exact upI_id _ _ _
theorem rtH_s (h : HP) (w : Nat) (T : Nat → Int32) (f k : Nat) (s : Int32) (hs : s = bI (T (f + k) = 114)) : upI (upI (rtH h w T f k) (6, 4, w) 3 ((rtH h w T f k).1 (6, 4, w) 3 ||| (s <<< ((rtH h w T f k).1 (6, 4, w) 4 &&& 31)))) (6, 4, w) 4 ((rtH h w T f k).1 (6, 4, w) 4 + 1) = rtH h w T f (k + 1) := by
  have e3 : (rtH h w T f k).1 (6, 4, w) 3 = rtN T f k := by unfold rtH; rw [upI_k _ _ _ _ _ (by decide), upI_i]
  have e4 : (rtH h w T f k).1 (6, 4, w) 4 = nI k := by unfold rtH; rw [upI_i]
  rw [e3, e4, hs]
  unfold rtH
  rw [upI_sw (upI h (6, 4, w) 3 (rtN T f k)) (6, 4, w) (show (4 : Nat) ≠ 3 by decide), upI_upI, upI_upI, nI_1]
  rfl
set_option maxRecDepth 20000 in
set_option maxHeartbeats 2000000 in
theorem t_route_l (l9 : Launch) (G : WT) {d : Nat} (hd : 3 ≤ d) (h : HP) {T : Nat → Int32} {t e : Nat} (ht : t ≤ 160) (htp : h.1 (1, 0, 2) 1 = nI t) (hT : h.1 (1, 0, 3) = T) (hq5 : h.1 (1, 0, 2) 5 = nI (tE T t e)) (hq7 : h.1 (1, 0, 2) 7 = nI (tF T t e)) (het : e ≤ t) {w : Nat} (hw : w < 4) (hn : ¬ tE T t e - tF T t e ≤ 10) : MS l9 G yX2_takeRoute cX2_takeRoute 4 (some .boolean) d [vr (1, 0, 2), vr (6, 4, w)] h (fun r h1 => h1 = rfH h 3 (h.1 (1, 0, 2) 7) ∧ r = some (vi 0)) := by
  refine MS_of (by decide +kernel) (Nat.le_of_ble_eq_true rfl) (fun X hC hX => ?_)
  show V X G 4 0 _ [] _
  have hEb := tE_b (T := T) het
  refine v_aload_n hC (pc := 0) (k := 0) 0 rfl dX2_takeRoute_0 ?_
  refine v_getI hC (pc := 1) dX2_takeRoute_1 fl_X2_41 rfl (by first | rfl | exact ok_c hq rfl | exact ok_w hq hw | exact ok_w (by omega) (by omega) | exact ok_s (by omega) (by omega) | exact ok_c (by omega) rfl | assumption) rfl (by decide) (by decide) ?_
  rw [hq5]
  refine v_aload_n hC (pc := 4) (k := 0) 0 rfl dX2_takeRoute_4 ?_
  refine v_getI hC (pc := 5) dX2_takeRoute_5 fl_X2_72 rfl (by first | rfl | exact ok_c hq rfl | exact ok_w hq hw | exact ok_w (by omega) (by omega) | exact ok_s (by omega) (by omega) | exact ok_c (by omega) rfl | assumption) rfl (by decide) (by decide) ?_
  rw [hq7]
  refine v_isub hC (pc := 8) dX2_takeRoute_8 ?_
  rw [pk_sub hEb.1]
  refine v_bipush hC (pc := 9) (v := 10) (by decide +kernel) dX2_takeRoute_9 ?_
  refine v_icmp_le hC (pc := 11) (tgt := 24) dX2_takeRoute_11 (by decide) (fun c_11 => ?_) (fun c_11 => ?_)
  · exact absurd c_11 (Int32.not_le.mpr (nI_lt (show 10 < tE T t e - tF T t e by omega) (by omega)))
  · skip
    refine v_aload_n hC (pc := 14) (k := 0) 0 rfl dX2_takeRoute_14 ?_
    refine v_iconst hC (pc := 15) (v := 3) (by decide) dX2_takeRoute_15 ?_
    refine v_aload_n hC (pc := 16) (k := 0) 0 rfl dX2_takeRoute_16 ?_
    refine v_getI hC (pc := 17) dX2_takeRoute_17 fl_X2_72 rfl (by first | rfl | exact ok_c hq rfl | exact ok_w hq hw | exact ok_w (by omega) (by omega) | exact ok_s (by omega) (by omega) | exact ok_c (by omega) rfl | assumption) rfl (by decide) (by decide) ?_
    refine v_callV hC (pc := 20) (As := [_, _]) dX2_takeRoute_20 rfl (t_refuse _ _ (d := d - 1) (by omega) _ _ _) cv_X2_64 rfl (by decide) rfl (by first | rfl | exact ok_c hq rfl | exact ok_w hq hw | exact ok_w (by omega) (by omega) | exact ok_s (by omega) (by omega) | exact ok_c (by omega) rfl | assumption) (Nat.le_of_ble_eq_true rfl) (by omega) (fun r h' hr => ?_)
    obtain ⟨he9, rfl⟩ := hr
    rw [he9]
    clear he9 h'
    show V _ _ _ (20 + 3) _ (_ :: _) _
    refine v_zret hC hX (pc := 23) dX2_takeRoute_23 (nar_b (by first | exact Or.inl rfl | exact Or.inr rfl | exact bI_01 _)) ?_
    exact ⟨rfl, rfl⟩

set_option maxRecDepth 20000 in
set_option maxHeartbeats 2000000 in
theorem t_route (l9 : Launch) (G : WT) {d : Nat} (hd : 3 ≤ d) (h : HP) {T : Nat → Int32} {t e : Nat} (ht : t ≤ 160) (htp : h.1 (1, 0, 2) 1 = nI t) (hT : h.1 (1, 0, 3) = T) (hq5 : h.1 (1, 0, 2) 5 = nI (tE T t e)) (hq7 : h.1 (1, 0, 2) 7 = nI (tF T t e)) (het : e ≤ t) {w : Nat} (hw : w < 4) (hn : tE T t e - tF T t e ≤ 10) (h3 : h.1 (6, 4, w) 3 = 0) (h4 : h.1 (6, 4, w) 4 = 0) : MS l9 G yX2_takeRoute cX2_takeRoute 4 (some .boolean) d [vr (1, 0, 2), vr (6, 4, w)] h (fun r h1 => (lrP T t (e, fun _ => 0) ∧ h1 = rtH h w T (tF T t e) (tE T t e - tF T t e) ∧ r = some (vi 1)) ∨ (¬ lrP T t (e, fun _ => 0) ∧ r = some (vi 0) ∧ ∃ k, h1 = rfH (rtH h w T (tF T t e) k) 3 (h.1 (1, 0, 2) 7))) := by
  refine MS_of (by decide +kernel) (Nat.le_of_ble_eq_true rfl) (fun X hC hX => ?_)
  show V X G 4 0 _ [] _
  have hEb := tE_b (T := T) het
  have LP : ∀ (n k : Nat), tF T t e + k ≤ tE T t e → tE T t e + 1 ≤ tF T t e + k + n → (∀ j, j < k → T (tF T t e + j) = 108 ∨ T (tF T t e + j) = 114) → V X G 4 29 [(2, vi (nI (tF T t e + k))), (0, vr (1, 0, 2)), (1, vr (6, 4, w))] [] (rtH h w T (tF T t e) k) := by
    intro n
    induction n with
    | zero => intro k h1 h2; exact absurd h2 (by omega)
    | succ n ih =>
      intro k h1 h2 hl
      refine v_iload_n hC (pc := 29) (k := 2) 0 rfl dX2_takeRoute_29 ?_
      refine v_aload_n hC (pc := 30) (k := 0) 1 rfl dX2_takeRoute_30 ?_
      refine v_getI hC (pc := 31) dX2_takeRoute_31 fl_X2_41 rfl (by first | rfl | exact ok_c hq rfl | exact ok_w hq hw | exact ok_w (by omega) (by omega) | exact ok_s (by omega) (by omega) | exact ok_c (by omega) rfl | assumption) rfl (by decide) (by decide) ?_
      rw [show ∀ m, (rtH h w T (tF T t e) k).1 (1, 0, 2) m = h.1 (1, 0, 2) m from fun m => by unfold rtH; rw [upI_ne _ _ _ (ne_1 (by decide)), upI_ne _ _ _ (ne_1 (by decide))]]
      rw [hq5]
      refine v_icmp_ge hC (pc := 34) (tgt := 86) dX2_takeRoute_34 (by decide) (fun c_34 => ?_) (fun c_34 => ?_)
      · skip
        have hk9 : k = tE T t e - tF T t e := by
          rcases Nat.lt_or_ge (tF T t e + k) (tE T t e) with q | q
          · exact absurd c_34 (nI_ge q (by omega))
          · omega
        subst hk9
        refine v_iconst hC (pc := 86) (v := 1) (by decide) dX2_takeRoute_86 ?_
        refine v_zret hC hX (pc := 87) dX2_takeRoute_87 (nar_b (by first | exact Or.inl rfl | exact Or.inr rfl | exact bI_01 _)) ?_
        exact Or.inl ⟨hl, rfl, rfl⟩
      · skip
        have hk9 : tF T t e + k < tE T t e := Nat.lt_of_not_le (fun z => c_34 (nI_le z (by omega)))
        have hbl : byF T t (tF T t e + k) = T (tF T t e + k) := byF_lt (by omega)
        refine v_aload_n hC (pc := 37) (k := 0) 1 rfl dX2_takeRoute_37 ?_
        refine v_iload_n hC (pc := 38) (k := 2) 0 rfl dX2_takeRoute_38 ?_
        refine v_callV hC (pc := 39) (As := [_]) dX2_takeRoute_39 rfl (t_byteT _ _ (d := d - 1) (by omega) _ (T := T) (t := t) (p := tF T t e + k) ht (by unfold rtH; rw [upI_ne _ _ _ (ne_1 (by decide)), upI_ne _ _ _ (ne_1 (by decide))]; exact htp) (by unfold rtH; rw [upI_ne _ _ _ (ne_1 (by decide)), upI_ne _ _ _ (ne_1 (by decide))]; exact hT) (by omega)) cv_X2_68 rfl (by decide) rfl (by first | rfl | exact ok_c hq rfl | exact ok_w hq hw | exact ok_w (by omega) (by omega) | exact ok_s (by omega) (by omega) | exact ok_c (by omega) rfl | assumption) (Nat.le_of_ble_eq_true rfl) (by omega) (fun r h' hr => ?_)
        obtain ⟨he9, rfl⟩ := hr
        rw [he9]
        clear he9 h'
        show V _ _ _ (39 + 3) _ (_ :: _) _
        refine v_istore_n hC (pc := 42) (l' := [(3, _), (2, _), (0, _), (1, _)]) dX2_takeRoute_42 (by decide) rfl ?_
        refine v_iload_n hC (pc := 43) (k := 3) 0 rfl dX2_takeRoute_43 ?_
        refine v_bipush hC (pc := 44) (v := 108) (by decide +kernel) dX2_takeRoute_44 ?_
        refine v_icmp_eq hC (pc := 46) (tgt := 65) dX2_takeRoute_46 (by decide) (fun c_46 => ?_) (fun c_46 => ?_)
        · skip
          refine v_aload_n hC (pc := 65) (k := 1) 3 rfl dX2_takeRoute_65 ?_
          refine v_iload_n hC (pc := 66) (k := 3) 0 rfl dX2_takeRoute_66 ?_
          refine v_bipush hC (pc := 67) (v := 114) (by decide +kernel) dX2_takeRoute_67 ?_
          refine v_icmp_ne hC (pc := 69) (tgt := 76) dX2_takeRoute_69 (by decide) (fun c_69 => ?_) (fun c_69 => ?_)
          · skip
            refine v_iconst hC (pc := 76) (v := 0) (by decide) dX2_takeRoute_76 ?_
            refine v_callV hC (pc := 77) (As := [_]) dX2_takeRoute_77 rfl (t_addLetter _ _ (d := d - 1) (by omega) (q := 4) (by decide) hw _ _) cv_X2_181 rfl (by decide) rfl (by first | rfl | exact ok_c hq rfl | exact ok_w hq hw | exact ok_w (by omega) (by omega) | exact ok_s (by omega) (by omega) | exact ok_c (by omega) rfl | assumption) (Nat.le_of_ble_eq_true rfl) (by omega) (fun r h' hr => ?_)
            obtain ⟨rfl, he9⟩ := hr
            rw [he9]
            clear he9 h'
            show V _ _ _ (77 + 3) _ _ _
            refine v_iinc hC (pc := 80) (l' := [(2, _), (3, _), (0, _), (1, _)]) 1 (v := nI ((tF T t e + k) + 1)) dX2_takeRoute_80 rfl (nI_inc (tF T t e + k)) (by decide) rfl ?_
            refine v_goto hC (pc := 83) (tgt := 29) dX2_takeRoute_83 (by decide) ?_
            refine v_loc (l' := [(2, _), (0, _), (1, _)]) [0, 2, 3] rfl ?_
            first
              | (rw [rtH_s h w T (tF T t e) k 1 (by rw [bI_t (show T (tF T t e + k) = 114 by rw [← hbl]; first | exact c_69 | exact c_52)])]
                 exact ih (k + 1) (by omega) (by omega) (fun j hj => by
                   rcases (show j < k ∨ j = k by omega) with q | rfl
                   · exact hl j q
                   · exact Or.inr (by rw [← hbl]; first | exact c_69 | exact c_52)))
              | (rw [rtH_s h w T (tF T t e) k 0 (by rw [bI_f (show ¬ T (tF T t e + k) = 114 by rw [← hbl]; exact c_69)])]
                 exact ih (k + 1) (by omega) (by omega) (fun j hj => by
                   rcases (show j < k ∨ j = k by omega) with q | rfl
                   · exact hl j q
                   · first
                       | exact Or.inl (by rw [← hbl]; exact c_46)
                       | exact absurd c_52 c_69))
          · skip
            refine v_iconst hC (pc := 72) (v := 1) (by decide) dX2_takeRoute_72 ?_
            refine v_goto hC (pc := 73) (tgt := 77) dX2_takeRoute_73 (by decide) ?_
            refine v_callV hC (pc := 77) (As := [_]) dX2_takeRoute_77 rfl (t_addLetter _ _ (d := d - 1) (by omega) (q := 4) (by decide) hw _ _) cv_X2_181 rfl (by decide) rfl (by first | rfl | exact ok_c hq rfl | exact ok_w hq hw | exact ok_w (by omega) (by omega) | exact ok_s (by omega) (by omega) | exact ok_c (by omega) rfl | assumption) (Nat.le_of_ble_eq_true rfl) (by omega) (fun r h' hr => ?_)
            obtain ⟨rfl, he9⟩ := hr
            rw [he9]
            clear he9 h'
            show V _ _ _ (77 + 3) _ _ _
            refine v_iinc hC (pc := 80) (l' := [(2, _), (3, _), (0, _), (1, _)]) 1 (v := nI ((tF T t e + k) + 1)) dX2_takeRoute_80 rfl (nI_inc (tF T t e + k)) (by decide) rfl ?_
            refine v_goto hC (pc := 83) (tgt := 29) dX2_takeRoute_83 (by decide) ?_
            refine v_loc (l' := [(2, _), (0, _), (1, _)]) [0, 2, 3] rfl ?_
            first
              | (rw [rtH_s h w T (tF T t e) k 1 (by rw [bI_t (show T (tF T t e + k) = 114 by rw [← hbl]; first | exact c_69 | exact c_52)])]
                 exact ih (k + 1) (by omega) (by omega) (fun j hj => by
                   rcases (show j < k ∨ j = k by omega) with q | rfl
                   · exact hl j q
                   · exact Or.inr (by rw [← hbl]; first | exact c_69 | exact c_52)))
              | (rw [rtH_s h w T (tF T t e) k 0 (by rw [bI_f (show ¬ T (tF T t e + k) = 114 by rw [← hbl]; exact c_69)])]
                 exact ih (k + 1) (by omega) (by omega) (fun j hj => by
                   rcases (show j < k ∨ j = k by omega) with q | rfl
                   · exact hl j q
                   · first
                       | exact Or.inl (by rw [← hbl]; exact c_46)
                       | exact absurd c_52 c_69))
        · skip
          refine v_iload_n hC (pc := 49) (k := 3) 0 rfl dX2_takeRoute_49 ?_
          refine v_bipush hC (pc := 50) (v := 114) (by decide +kernel) dX2_takeRoute_50 ?_
          refine v_icmp_eq hC (pc := 52) (tgt := 65) dX2_takeRoute_52 (by decide) (fun c_52 => ?_) (fun c_52 => ?_)
          · skip
            refine v_aload_n hC (pc := 65) (k := 1) 3 rfl dX2_takeRoute_65 ?_
            refine v_iload_n hC (pc := 66) (k := 3) 0 rfl dX2_takeRoute_66 ?_
            refine v_bipush hC (pc := 67) (v := 114) (by decide +kernel) dX2_takeRoute_67 ?_
            refine v_icmp_ne hC (pc := 69) (tgt := 76) dX2_takeRoute_69 (by decide) (fun c_69 => ?_) (fun c_69 => ?_)
            · skip
              refine v_iconst hC (pc := 76) (v := 0) (by decide) dX2_takeRoute_76 ?_
              refine v_callV hC (pc := 77) (As := [_]) dX2_takeRoute_77 rfl (t_addLetter _ _ (d := d - 1) (by omega) (q := 4) (by decide) hw _ _) cv_X2_181 rfl (by decide) rfl (by first | rfl | exact ok_c hq rfl | exact ok_w hq hw | exact ok_w (by omega) (by omega) | exact ok_s (by omega) (by omega) | exact ok_c (by omega) rfl | assumption) (Nat.le_of_ble_eq_true rfl) (by omega) (fun r h' hr => ?_)
              obtain ⟨rfl, he9⟩ := hr
              rw [he9]
              clear he9 h'
              show V _ _ _ (77 + 3) _ _ _
              refine v_iinc hC (pc := 80) (l' := [(2, _), (3, _), (0, _), (1, _)]) 1 (v := nI ((tF T t e + k) + 1)) dX2_takeRoute_80 rfl (nI_inc (tF T t e + k)) (by decide) rfl ?_
              refine v_goto hC (pc := 83) (tgt := 29) dX2_takeRoute_83 (by decide) ?_
              refine v_loc (l' := [(2, _), (0, _), (1, _)]) [0, 2, 3] rfl ?_
              first
                | (rw [rtH_s h w T (tF T t e) k 1 (by rw [bI_t (show T (tF T t e + k) = 114 by rw [← hbl]; first | exact c_69 | exact c_52)])]
                   exact ih (k + 1) (by omega) (by omega) (fun j hj => by
                     rcases (show j < k ∨ j = k by omega) with q | rfl
                     · exact hl j q
                     · exact Or.inr (by rw [← hbl]; first | exact c_69 | exact c_52)))
                | (rw [rtH_s h w T (tF T t e) k 0 (by rw [bI_f (show ¬ T (tF T t e + k) = 114 by rw [← hbl]; exact c_69)])]
                   exact ih (k + 1) (by omega) (by omega) (fun j hj => by
                     rcases (show j < k ∨ j = k by omega) with q | rfl
                     · exact hl j q
                     · first
                         | exact Or.inl (by rw [← hbl]; exact c_46)
                         | exact absurd c_52 c_69))
            · skip
              refine v_iconst hC (pc := 72) (v := 1) (by decide) dX2_takeRoute_72 ?_
              refine v_goto hC (pc := 73) (tgt := 77) dX2_takeRoute_73 (by decide) ?_
              refine v_callV hC (pc := 77) (As := [_]) dX2_takeRoute_77 rfl (t_addLetter _ _ (d := d - 1) (by omega) (q := 4) (by decide) hw _ _) cv_X2_181 rfl (by decide) rfl (by first | rfl | exact ok_c hq rfl | exact ok_w hq hw | exact ok_w (by omega) (by omega) | exact ok_s (by omega) (by omega) | exact ok_c (by omega) rfl | assumption) (Nat.le_of_ble_eq_true rfl) (by omega) (fun r h' hr => ?_)
              obtain ⟨rfl, he9⟩ := hr
              rw [he9]
              clear he9 h'
              show V _ _ _ (77 + 3) _ _ _
              refine v_iinc hC (pc := 80) (l' := [(2, _), (3, _), (0, _), (1, _)]) 1 (v := nI ((tF T t e + k) + 1)) dX2_takeRoute_80 rfl (nI_inc (tF T t e + k)) (by decide) rfl ?_
              refine v_goto hC (pc := 83) (tgt := 29) dX2_takeRoute_83 (by decide) ?_
              refine v_loc (l' := [(2, _), (0, _), (1, _)]) [0, 2, 3] rfl ?_
              first
                | (rw [rtH_s h w T (tF T t e) k 1 (by rw [bI_t (show T (tF T t e + k) = 114 by rw [← hbl]; first | exact c_69 | exact c_52)])]
                   exact ih (k + 1) (by omega) (by omega) (fun j hj => by
                     rcases (show j < k ∨ j = k by omega) with q | rfl
                     · exact hl j q
                     · exact Or.inr (by rw [← hbl]; first | exact c_69 | exact c_52)))
                | (rw [rtH_s h w T (tF T t e) k 0 (by rw [bI_f (show ¬ T (tF T t e + k) = 114 by rw [← hbl]; exact c_69)])]
                   exact ih (k + 1) (by omega) (by omega) (fun j hj => by
                     rcases (show j < k ∨ j = k by omega) with q | rfl
                     · exact hl j q
                     · first
                         | exact Or.inl (by rw [← hbl]; exact c_46)
                         | exact absurd c_52 c_69))
          · skip
            refine v_aload_n hC (pc := 55) (k := 0) 2 rfl dX2_takeRoute_55 ?_
            refine v_iconst hC (pc := 56) (v := 3) (by decide) dX2_takeRoute_56 ?_
            refine v_aload_n hC (pc := 57) (k := 0) 2 rfl dX2_takeRoute_57 ?_
            refine v_getI hC (pc := 58) dX2_takeRoute_58 fl_X2_72 rfl (by first | rfl | exact ok_c hq rfl | exact ok_w hq hw | exact ok_w (by omega) (by omega) | exact ok_s (by omega) (by omega) | exact ok_c (by omega) rfl | assumption) rfl (by decide) (by decide) ?_
            rw [show ∀ m, (rtH h w T (tF T t e) k).1 (1, 0, 2) m = h.1 (1, 0, 2) m from fun m => by unfold rtH; rw [upI_ne _ _ _ (ne_1 (by decide)), upI_ne _ _ _ (ne_1 (by decide))]]
            rw [hq7]
            refine v_callV hC (pc := 61) (As := [_, _]) dX2_takeRoute_61 rfl (t_refuse _ _ (d := d - 1) (by omega) _ _ _) cv_X2_64 rfl (by decide) rfl (by first | rfl | exact ok_c hq rfl | exact ok_w hq hw | exact ok_w (by omega) (by omega) | exact ok_s (by omega) (by omega) | exact ok_c (by omega) rfl | assumption) (Nat.le_of_ble_eq_true rfl) (by omega) (fun r h' hr => ?_)
            obtain ⟨he9, rfl⟩ := hr
            rw [he9]
            clear he9 h'
            show V _ _ _ (61 + 3) _ (_ :: _) _
            refine v_zret hC hX (pc := 64) dX2_takeRoute_64 (nar_b (by first | exact Or.inl rfl | exact Or.inr rfl | exact bI_01 _)) ?_
            exact Or.inr ⟨fun z => (z k (show k < tE T t e - tF T t e by omega)).elim (fun y => c_46 (hbl.trans y)) (fun y => c_52 (hbl.trans y)), rfl, k, by rw [hq7]⟩
  refine v_aload_n hC (pc := 0) (k := 0) 0 rfl dX2_takeRoute_0 ?_
  refine v_getI hC (pc := 1) dX2_takeRoute_1 fl_X2_41 rfl (by first | rfl | exact ok_c hq rfl | exact ok_w hq hw | exact ok_w (by omega) (by omega) | exact ok_s (by omega) (by omega) | exact ok_c (by omega) rfl | assumption) rfl (by decide) (by decide) ?_
  rw [hq5]
  refine v_aload_n hC (pc := 4) (k := 0) 0 rfl dX2_takeRoute_4 ?_
  refine v_getI hC (pc := 5) dX2_takeRoute_5 fl_X2_72 rfl (by first | rfl | exact ok_c hq rfl | exact ok_w hq hw | exact ok_w (by omega) (by omega) | exact ok_s (by omega) (by omega) | exact ok_c (by omega) rfl | assumption) rfl (by decide) (by decide) ?_
  rw [hq7]
  refine v_isub hC (pc := 8) dX2_takeRoute_8 ?_
  rw [pk_sub hEb.1]
  refine v_bipush hC (pc := 9) (v := 10) (by decide +kernel) dX2_takeRoute_9 ?_
  refine v_icmp_le hC (pc := 11) (tgt := 24) dX2_takeRoute_11 (by decide) (fun c_11 => ?_) (fun c_11 => ?_)
  · skip
    refine v_aload_n hC (pc := 24) (k := 0) 0 rfl dX2_takeRoute_24 ?_
    refine v_getI hC (pc := 25) dX2_takeRoute_25 fl_X2_72 rfl (by first | rfl | exact ok_c hq rfl | exact ok_w hq hw | exact ok_w (by omega) (by omega) | exact ok_s (by omega) (by omega) | exact ok_c (by omega) rfl | assumption) rfl (by decide) (by decide) ?_
    rw [hq7]
    refine v_istore_n hC (pc := 28) (l' := [(2, _), (0, _), (1, _)]) dX2_takeRoute_28 (by decide) rfl ?_
    have q := LP 161 0 (by omega) (by omega) (fun j hj => absurd hj (Nat.not_lt_zero _))
    rw [rtH_0 h w T _ h3 h4] at q
    exact q
  · exact absurd (nI_le (show tE T t e - tF T t e ≤ 10 from hn) (by decide)) c_11

