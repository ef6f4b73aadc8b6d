/-! THE REFERENCE: the text, small words -/
noncomputable def ndH (h : HP) (good : Prop) (code : Int32) : HP := @ite HP (¬ good ∧ h.1 (3, 0, 0) 17 = 0) (Classical.propDecidable _) (upI (upI h (3, 0, 0) 17 code) (3, 0, 0) 18 (h.1 (3, 0, 0) 14)) h
/-- byte p of the tape -/
def byF (T : Nat → Int32) (t p : Nat) : Int32 := if p < t then T p else -1
set_option maxRecDepth 20000 in
set_option maxHeartbeats 2000000 in
theorem m_byteAt (l9 : Launch) (G : WT) {d : Nat} (hd : 1 ≤ d) (h : HP) {t p : Nat} (ht : t ≤ 160) (htp : h.1 (3, 0, 0) 12 = nI t) (hp : p < 1000) : MS l9 G yX7_byteAt cX7_byteAt 2 (some .int) d [vr (3, 0, 0), vi (nI p)] h (fun r h1 => h1 = h ∧ r = some (vi (byF (h.1 (3, 0, 12)) t p))) := by
  refine MS_of (by decide +kernel) (Nat.le_of_ble_eq_true rfl) (fun X hC hX => ?_)
  show V X G 2 0 _ [] _
  refine v_iload_n hC (pc := 0) (k := 1) 1 rfl dX7_byteAt_0 ?_
  refine v_aload_n hC (pc := 1) (k := 0) 0 rfl dX7_byteAt_1 ?_
  refine v_getI hC (pc := 2) dX7_byteAt_2 fl_X7_88 rfl (by first | rfl | exact ok_c hq rfl | exact ok_w hq hw | exact ok_w (by omega) (by omega) | exact ok_s (by omega) (by omega) | exact ok_c (by omega) rfl | assumption) rfl (by decide) (by decide) ?_
  rw [htp]
  refine v_icmp_ge hC (pc := 5) (tgt := 17) dX7_byteAt_5 (by decide) (fun c_5 => ?_) (fun c_5 => ?_)
  · skip
    refine v_iconst hC (pc := 17) (v := (-1)) (by decide) dX7_byteAt_17 ?_
    refine v_iret hC hX (pc := 18) dX7_byteAt_18 ?_
    refine ⟨rfl, ?_⟩
    unfold byF
    first | rw [if_pos (show p < t from Nat.lt_of_not_le (fun z => c_5 (nI_le z (by omega)))), nI_clamp (show p < 2 ^ 31 by omega)] | rw [if_neg (fun z => absurd c_5 (nI_ge z (by omega)))]
  · skip
    have hpt : p < t := Nat.lt_of_not_le (fun z => c_5 (nI_le z (by omega)))
    refine v_aload_n hC (pc := 8) (k := 0) 0 rfl dX7_byteAt_8 ?_
    refine v_getR hC (pc := 9) dX7_byteAt_9 fl_X7_26 rfl (by first | rfl | exact ok_c hq rfl | exact ok_w hq hw | exact ok_w (by omega) (by omega) | exact ok_s (by omega) (by omega) | exact ok_c (by omega) rfl | assumption) rfl (by decide) (by decide) rfl ?_
    refine v_iload_n hC (pc := 12) (k := 1) 1 rfl dX7_byteAt_12 ?_
    refine v_iald hC (pc := 13) dX7_byteAt_13 rfl (by first | rfl | exact ok_c hq rfl | exact ok_w hq hw | exact ok_w (by omega) (by omega) | exact ok_s (by omega) (by omega) | exact ok_c (by omega) rfl | assumption) (vp_nat (n := p) (by omega) (by decide)) ?_
    refine v_goto hC (pc := 14) (tgt := 18) dX7_byteAt_14 (by decide) ?_
    refine v_iret hC hX (pc := 18) dX7_byteAt_18 ?_
    refine ⟨rfl, ?_⟩
    unfold byF
    first | rw [if_pos (show p < t from Nat.lt_of_not_le (fun z => c_5 (nI_le z (by omega)))), nI_clamp (show p < 2 ^ 31 by omega)] | rw [if_neg (fun z => absurd c_5 (nI_ge z (by omega)))]

set_option maxRecDepth 20000 in
set_option maxHeartbeats 2000000 in
theorem m_needs0 (l9 : Launch) (G : WT) {d : Nat} (hd : 1 ≤ d) (h : HP) (good : Prop) (code : Int32) : MS l9 G yX7_needs0 cX7_needs0 3 none d [vr (3, 0, 0), vi (bP good), vi code] h (fun r h1 => r = none ∧ h1 = ndH h good code) := by
  refine MS_of (by decide +kernel) (Nat.le_of_ble_eq_true rfl) (fun X hC hX => ?_)
  show V X G 3 0 _ [] _
  refine v_iload_n hC (pc := 0) (k := 1) 1 rfl dX7_needs0_0 ?_
  refine v_if_ne hC (pc := 1) (tgt := 24) dX7_needs0_1 (by decide) (fun c_1 => ?_) (fun c_1 => ?_)
  · skip
    refine v_vret hC hX (pc := 24) dX7_needs0_24 ?_
    first
      | exact ⟨rfl, (if_pos ⟨fun z => absurd (bP_t z) (by rw [c_1]; decide), c_8⟩).symm⟩
      | exact ⟨rfl, (if_neg (fun z => c_8 z.2)).symm⟩
      | exact ⟨rfl, (if_neg (fun z => c_1 (bP_f z.1))).symm⟩
  · skip
    refine v_aload_n hC (pc := 4) (k := 0) 0 rfl dX7_needs0_4 ?_
    refine v_getI hC (pc := 5) dX7_needs0_5 fl_X7_91 rfl (by first | rfl | exact ok_c hq rfl | exact ok_w hq hw | exact ok_w (by omega) (by omega) | exact ok_s (by omega) (by omega) | exact ok_c (by omega) rfl | assumption) rfl (by decide) (by decide) ?_
    refine v_if_ne hC (pc := 8) (tgt := 24) dX7_needs0_8 (by decide) (fun c_8 => ?_) (fun c_8 => ?_)
    · skip
      refine v_vret hC hX (pc := 24) dX7_needs0_24 ?_
      first
        | exact ⟨rfl, (if_pos ⟨fun z => absurd (bP_t z) (by rw [c_1]; decide), c_8⟩).symm⟩
        | exact ⟨rfl, (if_neg (fun z => c_8 z.2)).symm⟩
        | exact ⟨rfl, (if_neg (fun z => c_1 (bP_f z.1))).symm⟩
    · skip
      refine v_aload_n hC (pc := 11) (k := 0) 0 rfl dX7_needs0_11 ?_
      refine v_iload_n hC (pc := 12) (k := 2) 2 rfl dX7_needs0_12 ?_
      refine v_putI hC (pc := 13) dX7_needs0_13 fs_X7_91 rfl (by first | rfl | exact ok_c hq rfl | exact ok_w hq hw | exact ok_w (by omega) (by omega) | exact ok_s (by omega) (by omega) | exact ok_c (by omega) rfl | assumption) rfl (by decide) (by decide) ?_
      refine v_aload_n hC (pc := 16) (k := 0) 0 rfl dX7_needs0_16 ?_
      refine v_aload_n hC (pc := 17) (k := 0) 0 rfl dX7_needs0_17 ?_
      refine v_getI hC (pc := 18) dX7_needs0_18 fl_X7_94 rfl (by first | rfl | exact ok_c hq rfl | exact ok_w hq hw | exact ok_w (by omega) (by omega) | exact ok_s (by omega) (by omega) | exact ok_c (by omega) rfl | assumption) rfl (by decide) (by decide) ?_
      refine v_putI hC (pc := 21) dX7_needs0_21 fs_X7_97 rfl (by first | rfl | exact ok_c hq rfl | exact ok_w hq hw | exact ok_w (by omega) (by omega) | exact ok_s (by omega) (by omega) | exact ok_c (by omega) rfl | assumption) rfl (by decide) (by decide) ?_
      refine v_vret hC hX (pc := 24) dX7_needs0_24 ?_
      first
        | exact ⟨rfl, (if_pos ⟨fun z => absurd (bP_t z) (by rw [c_1]; decide), c_8⟩).symm⟩
        | exact ⟨rfl, (if_neg (fun z => c_8 z.2)).symm⟩
        | exact ⟨rfl, (if_neg (fun z => c_1 (bP_f z.1))).symm⟩

set_option maxRecDepth 20000 in
set_option maxHeartbeats 2000000 in
theorem m_ends (l9 : Launch) (G : WT) {d : Nat} (hd : 2 ≤ d) (h : HP) {t f0 : Nat} (ht : t ≤ 160) (htp : h.1 (3, 0, 0) 12 = nI t) (hfr : h.1 (3, 0, 0) 14 = nI f0) (hf0 : f0 ≤ 200) (a b : Int32) : MS l9 G yX7_ends cX7_ends 3 (some .boolean) d [vr (3, 0, 0), vi a, vi b] h (fun r h1 => h1 = h ∧ r = some (vi (bI (byF (h.1 (3, 0, 12)) t (f0 + 4) = a ∧ (b = 0 ∨ byF (h.1 (3, 0, 12)) t (f0 + 5) = b))))) := by
  refine MS_of (by decide +kernel) (Nat.le_of_ble_eq_true rfl) (fun X hC hX => ?_)
  show V X G 3 0 _ [] _
  refine v_aload_n hC (pc := 0) (k := 0) 0 rfl dX7_ends_0 ?_
  refine v_aload_n hC (pc := 1) (k := 0) 0 rfl dX7_ends_1 ?_
  refine v_getI hC (pc := 2) dX7_ends_2 fl_X7_94 rfl (by first | rfl | exact ok_c hq rfl | exact ok_w hq hw | exact ok_w (by omega) (by omega) | exact ok_s (by omega) (by omega) | exact ok_c (by omega) rfl | assumption) rfl (by decide) (by decide) ?_
  show V X G 3 5 _ (vi (h.1 (3, 0, 0) 14) :: _) _
  rw [hfr]
  refine v_iconst hC (pc := 5) (v := 4) (by decide) dX7_ends_5 ?_
  refine v_iadd hC (pc := 6) dX7_ends_6 ?_
  rw [nL_4, nI_add]
  refine v_callV hC (pc := 7) (As := [_]) dX7_ends_7 rfl (m_byteAt _ _ (d := d - 1) (by omega) _ ht htp (p := f0 + 4) (by omega)) cv_X7_103 rfl (by decide) rfl (by first | rfl | exact ok_c hq rfl | exact ok_w hq hw | exact ok_w (by omega) (by omega) | exact ok_s (by omega) (by omega) | exact ok_c (by omega) rfl | assumption) (Nat.le_of_ble_eq_true rfl) (by omega) (fun r h' hr => ?_)
  obtain ⟨he9, rfl⟩ := hr
  rw [he9]
  clear he9 h'
  show V _ _ _ (7 + 3) _ (_ :: _) _
  refine v_iload_n hC (pc := 10) (k := 1) 1 rfl dX7_ends_10 ?_
  refine v_icmp_ne hC (pc := 11) (tgt := 36) dX7_ends_11 (by decide) (fun c_11 => ?_) (fun c_11 => ?_)
  · skip
    refine v_iconst hC (pc := 36) (v := 0) (by decide) dX7_ends_36 ?_
    refine v_zret hC hX (pc := 37) dX7_ends_37 (nar_b (by first | exact Or.inl rfl | exact Or.inr rfl | exact bI_01 _)) ?_
    first | (refine rb_t ?_; exact ⟨c_11⟩) | (refine rb_t ?_; simp only [c_11, not_true_eq_false, not_false_eq_true, and_self, and_true, true_and, and_false, false_and, or_true, true_or, or_false, false_or, if_true, if_false, ↓reduceIte, ite_true, ite_false]; done) | (refine rb_f ?_; simp only [c_11, not_true_eq_false, not_false_eq_true, and_self, and_true, true_and, and_false, false_and, or_true, true_or, or_false, false_or, if_true, if_false, ↓reduceIte, ite_true, ite_false]; done)
  · skip
    refine v_iload_n hC (pc := 14) (k := 2) 2 rfl dX7_ends_14 ?_
    refine v_if_eq hC (pc := 15) (tgt := 32) dX7_ends_15 (by decide) (fun c_15 => ?_) (fun c_15 => ?_)
    · skip
      refine v_iconst hC (pc := 32) (v := 1) (by decide) dX7_ends_32 ?_
      refine v_goto hC (pc := 33) (tgt := 37) dX7_ends_33 (by decide) ?_
      refine v_zret hC hX (pc := 37) dX7_ends_37 (nar_b (by first | exact Or.inl rfl | exact Or.inr rfl | exact bI_01 _)) ?_
      first | (refine rb_t ?_; exact ⟨c_11, c_15⟩) | (refine rb_t ?_; simp only [c_11, c_15, not_true_eq_false, not_false_eq_true, and_self, and_true, true_and, and_false, false_and, or_true, true_or, or_false, false_or, if_true, if_false, ↓reduceIte, ite_true, ite_false]; done) | (refine rb_f ?_; simp only [c_11, c_15, not_true_eq_false, not_false_eq_true, and_self, and_true, true_and, and_false, false_and, or_true, true_or, or_false, false_or, if_true, if_false, ↓reduceIte, ite_true, ite_false]; done)
    · skip
      refine v_aload_n hC (pc := 18) (k := 0) 0 rfl dX7_ends_18 ?_
      refine v_aload_n hC (pc := 19) (k := 0) 0 rfl dX7_ends_19 ?_
      refine v_getI hC (pc := 20) dX7_ends_20 fl_X7_94 rfl (by first | rfl | exact ok_c hq rfl | exact ok_w hq hw | exact ok_w (by omega) (by omega) | exact ok_s (by omega) (by omega) | exact ok_c (by omega) rfl | assumption) rfl (by decide) (by decide) ?_
      show V X G 3 23 _ (vi (h.1 (3, 0, 0) 14) :: _) _
      rw [hfr]
      refine v_iconst hC (pc := 23) (v := 5) (by decide) dX7_ends_23 ?_
      refine v_iadd hC (pc := 24) dX7_ends_24 ?_
      rw [nL_5, nI_add]
      refine v_callV hC (pc := 25) (As := [_]) dX7_ends_25 rfl (m_byteAt _ _ (d := d - 1) (by omega) _ ht htp (p := f0 + 5) (by omega)) cv_X7_103 rfl (by decide) rfl (by first | rfl | exact ok_c hq rfl | exact ok_w hq hw | exact ok_w (by omega) (by omega) | exact ok_s (by omega) (by omega) | exact ok_c (by omega) rfl | assumption) (Nat.le_of_ble_eq_true rfl) (by omega) (fun r h' hr => ?_)
      obtain ⟨he9, rfl⟩ := hr
      rw [he9]
      clear he9 h'
      show V _ _ _ (25 + 3) _ (_ :: _) _
      refine v_iload_n hC (pc := 28) (k := 2) 2 rfl dX7_ends_28 ?_
      refine v_icmp_ne hC (pc := 29) (tgt := 36) dX7_ends_29 (by decide) (fun c_29 => ?_) (fun c_29 => ?_)
      · skip
        refine v_iconst hC (pc := 36) (v := 0) (by decide) dX7_ends_36 ?_
        refine v_zret hC hX (pc := 37) dX7_ends_37 (nar_b (by first | exact Or.inl rfl | exact Or.inr rfl | exact bI_01 _)) ?_
        first | (refine rb_t ?_; exact ⟨c_11, c_15, c_29⟩) | (refine rb_t ?_; simp only [c_11, c_15, c_29, not_true_eq_false, not_false_eq_true, and_self, and_true, true_and, and_false, false_and, or_true, true_or, or_false, false_or, if_true, if_false, ↓reduceIte, ite_true, ite_false]; done) | (refine rb_f ?_; simp only [c_11, c_15, c_29, not_true_eq_false, not_false_eq_true, and_self, and_true, true_and, and_false, false_and, or_true, true_or, or_false, false_or, if_true, if_false, ↓reduceIte, ite_true, ite_false]; done)
      · skip
        refine v_iconst hC (pc := 32) (v := 1) (by decide) dX7_ends_32 ?_
        refine v_goto hC (pc := 33) (tgt := 37) dX7_ends_33 (by decide) ?_
        refine v_zret hC hX (pc := 37) dX7_ends_37 (nar_b (by first | exact Or.inl rfl | exact Or.inr rfl | exact bI_01 _)) ?_
        first | (refine rb_t ?_; exact ⟨c_11, c_15, c_29⟩) | (refine rb_t ?_; simp only [c_11, c_15, c_29, not_true_eq_false, not_false_eq_true, and_self, and_true, true_and, and_false, false_and, or_true, true_or, or_false, false_or, if_true, if_false, ↓reduceIte, ite_true, ite_false]; done) | (refine rb_f ?_; simp only [c_11, c_15, c_29, not_true_eq_false, not_false_eq_true, and_self, and_true, true_and, and_false, false_and, or_true, true_or, or_false, false_or, if_true, if_false, ↓reduceIte, ite_true, ite_false]; done)

set_option maxRecDepth 20000 in
set_option maxHeartbeats 2000000 in
theorem m_is (l9 : Launch) (G : WT) {d : Nat} (hd : 2 ≤ d) (h : HP) {t f0 : Nat} (ht : t ≤ 160) (htp : h.1 (3, 0, 0) 12 = nI t) (hfr : h.1 (3, 0, 0) 14 = nI f0) (hf0 : f0 ≤ 200) (n a b c e : Int32) : MS l9 G yX7_is cX7_is 6 (some .boolean) d [vr (3, 0, 0), vi n, vi a, vi b, vi c, vi e] h (fun r h1 => h1 = h ∧ r = some (vi (bI (h.1 (3, 0, 0) 13 - nI f0 = n ∧ byF (h.1 (3, 0, 12)) t f0 = a ∧ byF (h.1 (3, 0, 12)) t (f0 + 1) = b ∧ byF (h.1 (3, 0, 12)) t (f0 + 2) = c ∧ byF (h.1 (3, 0, 12)) t (f0 + 3) = e)))) := by
  refine MS_of (by decide +kernel) (Nat.le_of_ble_eq_true rfl) (fun X hC hX => ?_)
  show V X G 6 0 _ [] _
  refine v_aload_n hC (pc := 0) (k := 0) 0 rfl dX7_is_0 ?_
  refine v_getI hC (pc := 1) dX7_is_1 fl_X7_100 rfl (by first | rfl | exact ok_c hq rfl | exact ok_w hq hw | exact ok_w (by omega) (by omega) | exact ok_s (by omega) (by omega) | exact ok_c (by omega) rfl | assumption) rfl (by decide) (by decide) ?_
  refine v_aload_n hC (pc := 4) (k := 0) 0 rfl dX7_is_4 ?_
  refine v_getI hC (pc := 5) dX7_is_5 fl_X7_94 rfl (by first | rfl | exact ok_c hq rfl | exact ok_w hq hw | exact ok_w (by omega) (by omega) | exact ok_s (by omega) (by omega) | exact ok_c (by omega) rfl | assumption) rfl (by decide) (by decide) ?_
  show V X G 6 8 _ (vi (h.1 (3, 0, 0) 14) :: _) _
  rw [hfr]
  refine v_isub hC (pc := 8) dX7_is_8 ?_
  refine v_iload_n hC (pc := 9) (k := 1) 1 rfl dX7_is_9 ?_
  refine v_icmp_ne hC (pc := 10) (tgt := 73) dX7_is_10 (by decide) (fun c_10 => ?_) (fun c_10 => ?_)
  · skip
    refine v_iconst hC (pc := 73) (v := 0) (by decide) dX7_is_73 ?_
    refine v_zret hC hX (pc := 74) dX7_is_74 (nar_b (by first | exact Or.inl rfl | exact Or.inr rfl | exact bI_01 _)) ?_
    first | (refine rb_t ?_; exact ⟨c_10⟩) | (refine rb_t ?_; simp only [c_10, not_true_eq_false, not_false_eq_true, and_self, and_true, true_and, and_false, false_and, or_true, true_or, or_false, false_or, if_true, if_false, ↓reduceIte, ite_true, ite_false]; done) | (refine rb_f ?_; simp only [c_10, not_true_eq_false, not_false_eq_true, and_self, and_true, true_and, and_false, false_and, or_true, true_or, or_false, false_or, if_true, if_false, ↓reduceIte, ite_true, ite_false]; done)
  · skip
    refine v_aload_n hC (pc := 13) (k := 0) 0 rfl dX7_is_13 ?_
    refine v_aload_n hC (pc := 14) (k := 0) 0 rfl dX7_is_14 ?_
    refine v_getI hC (pc := 15) dX7_is_15 fl_X7_94 rfl (by first | rfl | exact ok_c hq rfl | exact ok_w hq hw | exact ok_w (by omega) (by omega) | exact ok_s (by omega) (by omega) | exact ok_c (by omega) rfl | assumption) rfl (by decide) (by decide) ?_
    show V X G 6 18 _ (vi (h.1 (3, 0, 0) 14) :: _) _
    rw [hfr]
    refine v_callV hC (pc := 18) (As := [_]) dX7_is_18 rfl (m_byteAt _ _ (d := d - 1) (by omega) _ ht htp (p := f0) (by omega)) cv_X7_103 rfl (by decide) rfl (by first | rfl | exact ok_c hq rfl | exact ok_w hq hw | exact ok_w (by omega) (by omega) | exact ok_s (by omega) (by omega) | exact ok_c (by omega) rfl | assumption) (Nat.le_of_ble_eq_true rfl) (by omega) (fun r h' hr => ?_)
    obtain ⟨he9, rfl⟩ := hr
    rw [he9]
    clear he9 h'
    show V _ _ _ (18 + 3) _ (_ :: _) _
    refine v_iload_n hC (pc := 21) (k := 2) 2 rfl dX7_is_21 ?_
    refine v_icmp_ne hC (pc := 22) (tgt := 73) dX7_is_22 (by decide) (fun c_22 => ?_) (fun c_22 => ?_)
    · skip
      refine v_iconst hC (pc := 73) (v := 0) (by decide) dX7_is_73 ?_
      refine v_zret hC hX (pc := 74) dX7_is_74 (nar_b (by first | exact Or.inl rfl | exact Or.inr rfl | exact bI_01 _)) ?_
      first | (refine rb_t ?_; exact ⟨c_10, c_22⟩) | (refine rb_t ?_; simp only [c_10, c_22, not_true_eq_false, not_false_eq_true, and_self, and_true, true_and, and_false, false_and, or_true, true_or, or_false, false_or, if_true, if_false, ↓reduceIte, ite_true, ite_false]; done) | (refine rb_f ?_; simp only [c_10, c_22, not_true_eq_false, not_false_eq_true, and_self, and_true, true_and, and_false, false_and, or_true, true_or, or_false, false_or, if_true, if_false, ↓reduceIte, ite_true, ite_false]; done)
    · skip
      refine v_aload_n hC (pc := 25) (k := 0) 0 rfl dX7_is_25 ?_
      refine v_aload_n hC (pc := 26) (k := 0) 0 rfl dX7_is_26 ?_
      refine v_getI hC (pc := 27) dX7_is_27 fl_X7_94 rfl (by first | rfl | exact ok_c hq rfl | exact ok_w hq hw | exact ok_w (by omega) (by omega) | exact ok_s (by omega) (by omega) | exact ok_c (by omega) rfl | assumption) rfl (by decide) (by decide) ?_
      show V X G 6 30 _ (vi (h.1 (3, 0, 0) 14) :: _) _
      rw [hfr]
      refine v_iconst hC (pc := 30) (v := 1) (by decide) dX7_is_30 ?_
      refine v_iadd hC (pc := 31) dX7_is_31 ?_
      rw [nL_1, nI_add]
      refine v_callV hC (pc := 32) (As := [_]) dX7_is_32 rfl (m_byteAt _ _ (d := d - 1) (by omega) _ ht htp (p := f0 + 1) (by omega)) cv_X7_103 rfl (by decide) rfl (by first | rfl | exact ok_c hq rfl | exact ok_w hq hw | exact ok_w (by omega) (by omega) | exact ok_s (by omega) (by omega) | exact ok_c (by omega) rfl | assumption) (Nat.le_of_ble_eq_true rfl) (by omega) (fun r h' hr => ?_)
      obtain ⟨he9, rfl⟩ := hr
      rw [he9]
      clear he9 h'
      show V _ _ _ (32 + 3) _ (_ :: _) _
      refine v_iload_n hC (pc := 35) (k := 3) 3 rfl dX7_is_35 ?_
      refine v_icmp_ne hC (pc := 36) (tgt := 73) dX7_is_36 (by decide) (fun c_36 => ?_) (fun c_36 => ?_)
      · skip
        refine v_iconst hC (pc := 73) (v := 0) (by decide) dX7_is_73 ?_
        refine v_zret hC hX (pc := 74) dX7_is_74 (nar_b (by first | exact Or.inl rfl | exact Or.inr rfl | exact bI_01 _)) ?_
        first | (refine rb_t ?_; exact ⟨c_10, c_22, c_36⟩) | (refine rb_t ?_; simp only [c_10, c_22, c_36, not_true_eq_false, not_false_eq_true, and_self, and_true, true_and, and_false, false_and, or_true, true_or, or_false, false_or, if_true, if_false, ↓reduceIte, ite_true, ite_false]; done) | (refine rb_f ?_; simp only [c_10, c_22, c_36, not_true_eq_false, not_false_eq_true, and_self, and_true, true_and, and_false, false_and, or_true, true_or, or_false, false_or, if_true, if_false, ↓reduceIte, ite_true, ite_false]; done)
      · skip
        refine v_aload_n hC (pc := 39) (k := 0) 0 rfl dX7_is_39 ?_
        refine v_aload_n hC (pc := 40) (k := 0) 0 rfl dX7_is_40 ?_
        refine v_getI hC (pc := 41) dX7_is_41 fl_X7_94 rfl (by first | rfl | exact ok_c hq rfl | exact ok_w hq hw | exact ok_w (by omega) (by omega) | exact ok_s (by omega) (by omega) | exact ok_c (by omega) rfl | assumption) rfl (by decide) (by decide) ?_
        show V X G 6 44 _ (vi (h.1 (3, 0, 0) 14) :: _) _
        rw [hfr]
        refine v_iconst hC (pc := 44) (v := 2) (by decide) dX7_is_44 ?_
        refine v_iadd hC (pc := 45) dX7_is_45 ?_
        rw [nL_2, nI_add]
        refine v_callV hC (pc := 46) (As := [_]) dX7_is_46 rfl (m_byteAt _ _ (d := d - 1) (by omega) _ ht htp (p := f0 + 2) (by omega)) cv_X7_103 rfl (by decide) rfl (by first | rfl | exact ok_c hq rfl | exact ok_w hq hw | exact ok_w (by omega) (by omega) | exact ok_s (by omega) (by omega) | exact ok_c (by omega) rfl | assumption) (Nat.le_of_ble_eq_true rfl) (by omega) (fun r h' hr => ?_)
        obtain ⟨he9, rfl⟩ := hr
        rw [he9]
        clear he9 h'
        show V _ _ _ (46 + 3) _ (_ :: _) _
        refine v_iload hC (pc := 49) 4 rfl dX7_is_49 ?_
        refine v_icmp_ne hC (pc := 51) (tgt := 73) dX7_is_51 (by decide) (fun c_51 => ?_) (fun c_51 => ?_)
        · skip
          refine v_iconst hC (pc := 73) (v := 0) (by decide) dX7_is_73 ?_
          refine v_zret hC hX (pc := 74) dX7_is_74 (nar_b (by first | exact Or.inl rfl | exact Or.inr rfl | exact bI_01 _)) ?_
          first | (refine rb_t ?_; exact ⟨c_10, c_22, c_36, c_51⟩) | (refine rb_t ?_; simp only [c_10, c_22, c_36, c_51, not_true_eq_false, not_false_eq_true, and_self, and_true, true_and, and_false, false_and, or_true, true_or, or_false, false_or, if_true, if_false, ↓reduceIte, ite_true, ite_false]; done) | (refine rb_f ?_; simp only [c_10, c_22, c_36, c_51, not_true_eq_false, not_false_eq_true, and_self, and_true, true_and, and_false, false_and, or_true, true_or, or_false, false_or, if_true, if_false, ↓reduceIte, ite_true, ite_false]; done)
        · skip
          refine v_aload_n hC (pc := 54) (k := 0) 0 rfl dX7_is_54 ?_
          refine v_aload_n hC (pc := 55) (k := 0) 0 rfl dX7_is_55 ?_
          refine v_getI hC (pc := 56) dX7_is_56 fl_X7_94 rfl (by first | rfl | exact ok_c hq rfl | exact ok_w hq hw | exact ok_w (by omega) (by omega) | exact ok_s (by omega) (by omega) | exact ok_c (by omega) rfl | assumption) rfl (by decide) (by decide) ?_
          show V X G 6 59 _ (vi (h.1 (3, 0, 0) 14) :: _) _
          rw [hfr]
          refine v_iconst hC (pc := 59) (v := 3) (by decide) dX7_is_59 ?_
          refine v_iadd hC (pc := 60) dX7_is_60 ?_
          rw [nL_3, nI_add]
          refine v_callV hC (pc := 61) (As := [_]) dX7_is_61 rfl (m_byteAt _ _ (d := d - 1) (by omega) _ ht htp (p := f0 + 3) (by omega)) cv_X7_103 rfl (by decide) rfl (by first | rfl | exact ok_c hq rfl | exact ok_w hq hw | exact ok_w (by omega) (by omega) | exact ok_s (by omega) (by omega) | exact ok_c (by omega) rfl | assumption) (Nat.le_of_ble_eq_true rfl) (by omega) (fun r h' hr => ?_)
          obtain ⟨he9, rfl⟩ := hr
          rw [he9]
          clear he9 h'
          show V _ _ _ (61 + 3) _ (_ :: _) _
          refine v_iload hC (pc := 64) 5 rfl dX7_is_64 ?_
          refine v_icmp_ne hC (pc := 66) (tgt := 73) dX7_is_66 (by decide) (fun c_66 => ?_) (fun c_66 => ?_)
          · skip
            refine v_iconst hC (pc := 73) (v := 0) (by decide) dX7_is_73 ?_
            refine v_zret hC hX (pc := 74) dX7_is_74 (nar_b (by first | exact Or.inl rfl | exact Or.inr rfl | exact bI_01 _)) ?_
            first | (refine rb_t ?_; exact ⟨c_10, c_22, c_36, c_51, c_66⟩) | (refine rb_t ?_; simp only [c_10, c_22, c_36, c_51, c_66, not_true_eq_false, not_false_eq_true, and_self, and_true, true_and, and_false, false_and, or_true, true_or, or_false, false_or, if_true, if_false, ↓reduceIte, ite_true, ite_false]; done) | (refine rb_f ?_; simp only [c_10, c_22, c_36, c_51, c_66, not_true_eq_false, not_false_eq_true, and_self, and_true, true_and, and_false, false_and, or_true, true_or, or_false, false_or, if_true, if_false, ↓reduceIte, ite_true, ite_false]; done)
          · skip
            refine v_iconst hC (pc := 69) (v := 1) (by decide) dX7_is_69 ?_
            refine v_goto hC (pc := 70) (tgt := 74) dX7_is_70 (by decide) ?_
            refine v_zret hC hX (pc := 74) dX7_is_74 (nar_b (by first | exact Or.inl rfl | exact Or.inr rfl | exact bI_01 _)) ?_
            first | (refine rb_t ?_; exact ⟨c_10, c_22, c_36, c_51, c_66⟩) | (refine rb_t ?_; simp only [c_10, c_22, c_36, c_51, c_66, not_true_eq_false, not_false_eq_true, and_self, and_true, true_and, and_false, false_and, or_true, true_or, or_false, false_or, if_true, if_false, ↓reduceIte, ite_true, ite_false]; done) | (refine rb_f ?_; simp only [c_10, c_22, c_36, c_51, c_66, not_true_eq_false, not_false_eq_true, and_self, and_true, true_and, and_false, false_and, or_true, true_or, or_false, false_or, if_true, if_false, ↓reduceIte, ite_true, ite_false]; done)

