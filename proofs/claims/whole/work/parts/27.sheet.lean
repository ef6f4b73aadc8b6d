/-! SHEETS; small statics -/
set_option maxRecDepth 20000 in
set_option maxHeartbeats 2000000 in
theorem t_makeNew (l9 : Launch) (G : WT) {d : Nat} (hd : 2 ≤ d) {k : Nat} (hk : k < 4) (h : HP) (ln n : Int32) : MS l9 G yX3_makeNew cX3_makeNew 3 none d [vr (2, k, 0), vi ln, vi n] h (fun r h1 => r = none ∧ h1 = upR (upI (upI h (2, k, 0) 1 ln) (2, k, 0) 2 n) (2, k, 1) (filR (h.1 (2, k, 1)) 40 0)) := by
  refine MS_of (by decide +kernel) (Nat.le_of_ble_eq_true rfl) (fun X hC hX => ?_)
  show V X G 3 0 _ [] _
  refine v_aload_n hC (pc := 0) (k := 0) 0 rfl dX3_makeNew_0 ?_
  refine v_iload_n hC (pc := 1) (k := 1) 1 rfl dX3_makeNew_1 ?_
  refine v_putI hC (pc := 2) dX3_makeNew_2 fs_X3_19 rfl (by first | exact ok_s hk (by decide)) rfl (by decide) (by decide) ?_
  refine v_aload_n hC (pc := 5) (k := 0) 0 rfl dX3_makeNew_5 ?_
  refine v_iload_n hC (pc := 6) (k := 2) 2 rfl dX3_makeNew_6 ?_
  refine v_putI hC (pc := 7) dX3_makeNew_7 fs_X3_15 rfl (by first | exact ok_s hk (by decide)) rfl (by decide) (by decide) ?_
  refine v_aload_n hC (pc := 10) (k := 0) 0 rfl dX3_makeNew_10 ?_
  refine v_getR hC (pc := 11) dX3_makeNew_11 fl_X3_9 rfl (by first | exact ok_s hk (by decide)) rfl (by decide) (by decide) rfl ?_
  refine v_iconst hC (pc := 14) (v := 0) (by decide) dX3_makeNew_14 ?_
  refine v_callS hC (pc := 15) (As := [_, _]) dX3_makeNew_15 rfl (t_fillI _ _ (d := d - 1) (by omega) _ (N := 40) rfl (ok_s hk (by decide)) (by decide) _) cs_X3_22 (Nat.le_of_ble_eq_true rfl) (by omega) (fun r h' hr => ?_)
  obtain ⟨rfl, rfl⟩ := hr
  show V _ _ _ (15 + 3) _ _ _
  refine v_vret hC hX (pc := 18) dX3_makeNew_18 ?_
  refine ⟨rfl, ?_⟩
  simp [upI, upR]

def cutF (ln v : Int32) : Int32 := if ln = 0 then v.toInt8.toInt32 else if ln = 1 then v.toInt16.toInt32 else v
set_option maxRecDepth 20000 in
set_option maxHeartbeats 2000000 in
theorem t_cut (l9 : Launch) (G : WT) {d : Nat} (hd : 1 ≤ d) {k : Nat} (hk : k < 4) (h : HP) (v : Int32) : MS l9 G yX3_cut cX3_cut 2 (some .int) d [vr (2, k, 0), vi v] h (fun r h1 => h1 = h ∧ r = some (vi (cutF (h.1 (2, k, 0) 1) v))) := by
  refine MS_of (by decide +kernel) (Nat.le_of_ble_eq_true rfl) (fun X hC hX => ?_)
  show V X G 2 0 _ [] _
  refine v_aload_n hC (pc := 0) (k := 0) 0 rfl dX3_cut_0 ?_
  refine v_getI hC (pc := 1) dX3_cut_1 fl_X3_19 rfl (by first | exact ok_s hk (by decide)) rfl (by decide) (by decide) ?_
  refine v_if_ne hC (pc := 4) (tgt := 10) dX3_cut_4 (by decide) (fun c_4 => ?_) (fun c_4 => ?_)
  · skip
    refine v_aload_n hC (pc := 10) (k := 0) 0 rfl dX3_cut_10 ?_
    refine v_getI hC (pc := 11) dX3_cut_11 fl_X3_19 rfl (by first | exact ok_s hk (by decide)) rfl (by decide) (by decide) ?_
    refine v_iconst hC (pc := 14) (v := 1) (by decide) dX3_cut_14 ?_
    refine v_icmp_ne hC (pc := 15) (tgt := 23) dX3_cut_15 (by decide) (fun c_15 => ?_) (fun c_15 => ?_)
    · skip
      refine v_iload_n hC (pc := 23) (k := 1) 1 rfl dX3_cut_23 ?_
      refine v_iret hC hX (pc := 24) dX3_cut_24 ?_
      refine ⟨rfl, ?_⟩
      unfold cutF
      first | (rw [if_pos c_4]; done) | (rw [if_neg c_4, if_pos c_15]; done) | (rw [if_neg c_4, if_neg c_15]; done)
    · skip
      refine v_iload_n hC (pc := 18) (k := 1) 1 rfl dX3_cut_18 ?_
      refine v_i2s hC (pc := 19) dX3_cut_19 ?_
      refine v_goto hC (pc := 20) (tgt := 24) dX3_cut_20 (by decide) ?_
      refine v_iret hC hX (pc := 24) dX3_cut_24 ?_
      refine ⟨rfl, ?_⟩
      unfold cutF
      first | (rw [if_pos c_4]; done) | (rw [if_neg c_4, if_pos c_15]; done) | (rw [if_neg c_4, if_neg c_15]; done)
  · skip
    refine v_iload_n hC (pc := 7) (k := 1) 1 rfl dX3_cut_7 ?_
    refine v_i2b hC (pc := 8) dX3_cut_8 ?_
    refine v_iret hC hX (pc := 9) dX3_cut_9 ?_
    refine ⟨rfl, ?_⟩
    unfold cutF
    first | (rw [if_pos c_4]; done) | (rw [if_neg c_4, if_pos c_15]; done) | (rw [if_neg c_4, if_neg c_15]; done)

def celF (f : Nat → Int32) (i : Int32) : Int32 := if ¬ i < 0 ∧ ¬ 40 ≤ i then f i.toNatClampNeg else -1
set_option maxRecDepth 20000 in
set_option maxHeartbeats 2000000 in
theorem t_cellAt (l9 : Launch) (G : WT) {d : Nat} (hd : 1 ≤ d) {k : Nat} (hk : k < 4) (h : HP) (i : Int32) : MS l9 G yX3_cellAt cX3_cellAt 2 (some .int) d [vr (2, k, 0), vi i] h (fun r h1 => h1 = h ∧ r = some (vi (celF (h.1 (2, k, 1)) i))) := by
  refine MS_of (by decide +kernel) (Nat.le_of_ble_eq_true rfl) (fun X hC hX => ?_)
  show V X G 2 0 _ [] _
  refine v_iload_n hC (pc := 0) (k := 1) 1 rfl dX3_cellAt_0 ?_
  refine v_if_lt hC (pc := 1) (tgt := 22) dX3_cellAt_1 (by decide) (fun c_1 => ?_) (fun c_1 => ?_)
  · skip
    refine v_iconst hC (pc := 22) (v := (-1)) (by decide) dX3_cellAt_22 ?_
    refine v_iret hC hX (pc := 23) dX3_cellAt_23 ?_
    exact ⟨rfl, by simp only [c_1, celF, not_true_eq_false, not_false_eq_true, and_self, and_true, true_and, and_false, false_and, or_true, true_or, or_false, false_or, if_true, if_false, ↓reduceIte, ite_true, ite_false]⟩
  · skip
    refine v_iload_n hC (pc := 4) (k := 1) 1 rfl dX3_cellAt_4 ?_
    refine v_aload_n hC (pc := 5) (k := 0) 0 rfl dX3_cellAt_5 ?_
    refine v_getR hC (pc := 6) dX3_cellAt_6 fl_X3_9 rfl (by first | exact ok_s hk (by decide)) rfl (by decide) (by decide) rfl ?_
    refine v_alen hC (pc := 9) 0 dX3_cellAt_9 rfl (fun _ => rfl) (by first | exact Or.inl rfl | exact Or.inr rfl) (by first | exact ok_s hk (by decide)) (v := 40) (by decide) ?_
    refine v_icmp_ge hC (pc := 10) (tgt := 22) dX3_cellAt_10 (by decide) (fun c_10 => ?_) (fun c_10 => ?_)
    · skip
      refine v_iconst hC (pc := 22) (v := (-1)) (by decide) dX3_cellAt_22 ?_
      refine v_iret hC hX (pc := 23) dX3_cellAt_23 ?_
      exact ⟨rfl, by simp only [c_1, c_10, celF, not_true_eq_false, not_false_eq_true, and_self, and_true, true_and, and_false, false_and, or_true, true_or, or_false, false_or, if_true, if_false, ↓reduceIte, ite_true, ite_false]⟩
    · skip
      refine v_aload_n hC (pc := 13) (k := 0) 0 rfl dX3_cellAt_13 ?_
      refine v_getR hC (pc := 14) dX3_cellAt_14 fl_X3_9 rfl (by first | exact ok_s hk (by decide)) rfl (by decide) (by decide) rfl ?_
      refine v_iload_n hC (pc := 17) (k := 1) 1 rfl dX3_cellAt_17 ?_
      refine v_iald hC (pc := 18) dX3_cellAt_18 rfl (by first | exact ok_s hk (by decide)) (vp_lt c_1 c_10 (by decide)) ?_
      refine v_goto hC (pc := 19) (tgt := 23) dX3_cellAt_19 (by decide) ?_
      refine v_iret hC hX (pc := 23) dX3_cellAt_23 ?_
      exact ⟨rfl, by simp only [c_1, c_10, celF, not_true_eq_false, not_false_eq_true, and_self, and_true, true_and, and_false, false_and, or_true, true_or, or_false, false_or, if_true, if_false, ↓reduceIte, ite_true, ite_false]⟩

/-- how many pairs the machine gives -/
def whoS (sz f : Int32) (i : Nat) (a : Int32) : Int32 := if f < sz - 1 - 2 * nI i then a + 1 else a
def whoF (sz ln0 ln f : Int32) (n : Nat) : Int32 := if sz < 0 ∨ ¬ ln = ln0 ∨ f < 0 then 0 else itN (whoS sz f) n 0
set_option maxRecDepth 20000 in
set_option maxHeartbeats 2000000 in
theorem t_wholePairs (l9 : Launch) (G : WT) {d : Nat} (hd : 1 ≤ d) {k : Nat} (hk : k < 4) (h : HP) (ln f : Int32) {n0 : Nat} (hn : n0 < 1000) : MS l9 G yX3_wholePairs cX3_wholePairs 6 (some .int) d [vr (2, k, 0), vi ln, vi f, vi (nI n0)] h (fun r h1 => h1 = h ∧ r = some (vi (whoF (h.1 (2, k, 0) 2) (h.1 (2, k, 0) 1) ln f n0))) := by
  refine MS_of (by decide +kernel) (Nat.le_of_ble_eq_true rfl) (fun X hC hX => ?_)
  show V X G 6 0 _ [] _
  have loop : (∀ a : Int32, a = itN (whoS (h.1 (2, k, 0) 2) f) n0 0 → V X G 6 57 [(5, vi (nI n0)), (4, vi a), (0, vr (2, k, 0)), (1, vi ln), (2, vi f), (3, vi (nI n0))] [] h) → ∀ (n i : Nat) (a : Int32), i ≤ n0 → n0 + 1 ≤ i + n → a = itN (whoS (h.1 (2, k, 0) 2) f) i 0 → V X G 6 27 [(5, vi (nI i)), (4, vi a), (0, vr (2, k, 0)), (1, vi ln), (2, vi f), (3, vi (nI n0))] [] (h) := by
    intro k9 n
    induction n with
    | zero => intro i a h1 h2; exact absurd h2 (by omega)
    | succ n ih =>
      intro i a h1 h2 ha
      refine v_iload hC (pc := 27) 0 rfl dX3_wholePairs_27 ?_
      refine v_iload_n hC (pc := 29) (k := 3) 5 rfl dX3_wholePairs_29 ?_
      refine v_icmp_ge hC (pc := 30) (tgt := 57) dX3_wholePairs_30 (by decide) (fun c_30 => ?_) (fun c_30 => ?_)
      · skip
        have hi : i = n0 := lp_ex (c_30) h1 (by omega)
        subst hi
        exact k9 a ha
      · skip
        have hi : i < n0 := lp_in (c_30) h1 (by omega)
        refine v_iload_n hC (pc := 33) (k := 2) 4 rfl dX3_wholePairs_33 ?_
        refine v_aload_n hC (pc := 34) (k := 0) 2 rfl dX3_wholePairs_34 ?_
        refine v_getI hC (pc := 35) dX3_wholePairs_35 fl_X3_15 rfl (by first | exact ok_s hk (by decide)) rfl (by decide) (by decide) ?_
        refine v_iconst hC (pc := 38) (v := 1) (by decide) dX3_wholePairs_38 ?_
        refine v_isub hC (pc := 39) dX3_wholePairs_39 ?_
        refine v_iconst hC (pc := 40) (v := 2) (by decide) dX3_wholePairs_40 ?_
        refine v_iload hC (pc := 41) 0 rfl dX3_wholePairs_41 ?_
        refine v_imul hC (pc := 43) dX3_wholePairs_43 ?_
        refine v_isub hC (pc := 44) dX3_wholePairs_44 ?_
        refine v_icmp_ge hC (pc := 45) (tgt := 51) dX3_wholePairs_45 (by decide) (fun c_45 => ?_) (fun c_45 => ?_)
        · skip
          refine v_iinc hC (pc := 51) (l' := [(5, _), (4, _), (0, _), (1, _), (2, _), (3, _)]) 0 (v := nI (i + 1)) dX3_wholePairs_51 rfl (nI_inc i) (by decide) rfl ?_
          refine v_goto hC (pc := 54) (tgt := 27) dX3_wholePairs_54 (by decide) ?_
          exact ih (i + 1) _ (by omega) (by omega) (by rw [itN_s, ← ha, whoS]; first | (rw [if_pos (by first | exact c_45 | exact Int32.not_le.mp c_45)]; rfl) | (rw [if_neg (by first | exact Int32.not_lt.mpr c_45)]))
        · skip
          refine v_iinc hC (pc := 48) (l' := [(4, _), (5, _), (0, _), (1, _), (2, _), (3, _)]) 1 dX3_wholePairs_48 rfl rfl (by decide) rfl ?_
          refine v_iinc hC (pc := 51) (l' := [(5, _), (4, _), (0, _), (1, _), (2, _), (3, _)]) 1 (v := nI (i + 1)) dX3_wholePairs_51 rfl (nI_inc i) (by decide) rfl ?_
          refine v_goto hC (pc := 54) (tgt := 27) dX3_wholePairs_54 (by decide) ?_
          exact ih (i + 1) _ (by omega) (by omega) (by rw [itN_s, ← ha, whoS]; first | (rw [if_pos (by first | exact c_45 | exact Int32.not_le.mp c_45)]; rfl) | (rw [if_neg (by first | exact Int32.not_lt.mpr c_45)]))
  refine v_aload_n hC (pc := 0) (k := 0) 0 rfl dX3_wholePairs_0 ?_
  refine v_getI hC (pc := 1) dX3_wholePairs_1 fl_X3_15 rfl (by first | exact ok_s hk (by decide)) rfl (by decide) (by decide) ?_
  refine v_if_lt hC (pc := 4) (tgt := 19) dX3_wholePairs_4 (by decide) (fun c_4 => ?_) (fun c_4 => ?_)
  · skip
    refine v_iconst hC (pc := 19) (v := 0) (by decide) dX3_wholePairs_19 ?_
    refine v_iret hC hX (pc := 20) dX3_wholePairs_20 ?_
    refine ⟨rfl, ?_⟩
    rw [whoF, if_pos]
    first | exact Or.inl c_4 | exact Or.inr (Or.inl c_12) | exact Or.inr (Or.inr (Int32.not_le.mp c_16))
  · skip
    refine v_iload_n hC (pc := 7) (k := 1) 1 rfl dX3_wholePairs_7 ?_
    refine v_aload_n hC (pc := 8) (k := 0) 0 rfl dX3_wholePairs_8 ?_
    refine v_getI hC (pc := 9) dX3_wholePairs_9 fl_X3_19 rfl (by first | exact ok_s hk (by decide)) rfl (by decide) (by decide) ?_
    refine v_icmp_ne hC (pc := 12) (tgt := 19) dX3_wholePairs_12 (by decide) (fun c_12 => ?_) (fun c_12 => ?_)
    · skip
      refine v_iconst hC (pc := 19) (v := 0) (by decide) dX3_wholePairs_19 ?_
      refine v_iret hC hX (pc := 20) dX3_wholePairs_20 ?_
      refine ⟨rfl, ?_⟩
      rw [whoF, if_pos]
      first | exact Or.inl c_4 | exact Or.inr (Or.inl c_12) | exact Or.inr (Or.inr (Int32.not_le.mp c_16))
    · skip
      refine v_iload_n hC (pc := 15) (k := 2) 2 rfl dX3_wholePairs_15 ?_
      refine v_if_ge hC (pc := 16) (tgt := 21) dX3_wholePairs_16 (by decide) (fun c_16 => ?_) (fun c_16 => ?_)
      · skip
        refine v_iconst hC (pc := 21) (v := 0) (by decide) dX3_wholePairs_21 ?_
        refine v_istore hC (pc := 22) (l' := [(4, _), (0, _), (1, _), (2, _), (3, _)]) dX3_wholePairs_22 (by decide) rfl ?_
        refine v_iconst hC (pc := 24) (v := 0) (by decide) dX3_wholePairs_24 ?_
        refine v_istore hC (pc := 25) (l' := [(5, _), (4, _), (0, _), (1, _), (2, _), (3, _)]) dX3_wholePairs_25 (by decide) rfl ?_
        refine loop (fun a ha => ?_) (n0 + 1) 0 0 (Nat.zero_le _) (by omega) rfl
        refine v_iload hC (pc := 57) 1 rfl dX3_wholePairs_57 ?_
        refine v_iret hC hX (pc := 59) dX3_wholePairs_59 ?_
        refine ⟨rfl, ?_⟩
        rw [whoF, if_neg, ← ha]
        rintro (z | z | z)
        · exact c_4 z
        · exact z c_12
        · exact absurd c_16 (Int32.not_le.mpr z)
      · skip
        refine v_iconst hC (pc := 19) (v := 0) (by decide) dX3_wholePairs_19 ?_
        refine v_iret hC hX (pc := 20) dX3_wholePairs_20 ?_
        refine ⟨rfl, ?_⟩
        rw [whoF, if_pos]
        first | exact Or.inl c_4 | exact Or.inr (Or.inl c_12) | exact Or.inr (Or.inr (Int32.not_le.mp c_16))

def fltF (sz ln0 ln : Int32) : Int32 := if sz < 0 then 1 else if ln = ln0 then 2 else 3
set_option maxRecDepth 20000 in
set_option maxHeartbeats 2000000 in
theorem t_faultAs (l9 : Launch) (G : WT) {d : Nat} (hd : 1 ≤ d) {k : Nat} (hk : k < 4) (h : HP) (ln : Int32) : MS l9 G yX3_faultAs cX3_faultAs 2 (some .int) d [vr (2, k, 0), vi ln] h (fun r h1 => h1 = h ∧ r = some (vi (fltF (h.1 (2, k, 0) 2) (h.1 (2, k, 0) 1) ln))) := by
  refine MS_of (by decide +kernel) (Nat.le_of_ble_eq_true rfl) (fun X hC hX => ?_)
  show V X G 2 0 _ [] _
  refine v_aload_n hC (pc := 0) (k := 0) 0 rfl dX3_faultAs_0 ?_
  refine v_getI hC (pc := 1) dX3_faultAs_1 fl_X3_15 rfl (by first | exact ok_s hk (by decide)) rfl (by decide) (by decide) ?_
  refine v_if_ge hC (pc := 4) (tgt := 9) dX3_faultAs_4 (by decide) (fun c_4 => ?_) (fun c_4 => ?_)
  · skip
    refine v_iload_n hC (pc := 9) (k := 1) 1 rfl dX3_faultAs_9 ?_
    refine v_aload_n hC (pc := 10) (k := 0) 0 rfl dX3_faultAs_10 ?_
    refine v_getI hC (pc := 11) dX3_faultAs_11 fl_X3_19 rfl (by first | exact ok_s hk (by decide)) rfl (by decide) (by decide) ?_
    refine v_icmp_eq hC (pc := 14) (tgt := 21) dX3_faultAs_14 (by decide) (fun c_14 => ?_) (fun c_14 => ?_)
    · skip
      refine v_iconst hC (pc := 21) (v := 2) (by decide) dX3_faultAs_21 ?_
      refine v_iret hC hX (pc := 22) dX3_faultAs_22 ?_
      refine ⟨rfl, ?_⟩
      unfold fltF
      first | (rw [if_pos (Int32.not_le.mp c_4)]; done) | (rw [if_neg (Int32.not_lt.mpr c_4), if_pos c_14]; done) | (rw [if_neg (Int32.not_lt.mpr c_4), if_neg c_14]; done)
    · skip
      refine v_iconst hC (pc := 17) (v := 3) (by decide) dX3_faultAs_17 ?_
      refine v_goto hC (pc := 18) (tgt := 22) dX3_faultAs_18 (by decide) ?_
      refine v_iret hC hX (pc := 22) dX3_faultAs_22 ?_
      refine ⟨rfl, ?_⟩
      unfold fltF
      first | (rw [if_pos (Int32.not_le.mp c_4)]; done) | (rw [if_neg (Int32.not_lt.mpr c_4), if_pos c_14]; done) | (rw [if_neg (Int32.not_lt.mpr c_4), if_neg c_14]; done)
  · skip
    refine v_iconst hC (pc := 7) (v := 1) (by decide) dX3_faultAs_7 ?_
    refine v_iret hC hX (pc := 8) dX3_faultAs_8 ?_
    refine ⟨rfl, ?_⟩
    unfold fltF
    first | (rw [if_pos (Int32.not_le.mp c_4)]; done) | (rw [if_neg (Int32.not_lt.mpr c_4), if_pos c_14]; done) | (rw [if_neg (Int32.not_lt.mpr c_4), if_neg c_14]; done)

set_option maxRecDepth 20000 in
set_option maxHeartbeats 2000000 in
theorem t_isZeroOrOne (l9 : Launch) (G : WT) {d : Nat} (hd : 1 ≤ d) (h : HP) (n : Int32) : MS l9 G yX6_isZeroOrOne cX6_isZeroOrOne 1 (some .boolean) d [vi n] h (fun r h1 => h1 = h ∧ r = some (vi (bI (n = 0 ∨ n = 1)))) := by
  refine MS_of (by decide +kernel) (Nat.le_of_ble_eq_true rfl) (fun X hC hX => ?_)
  show V X G 1 0 _ [] _
  refine v_iload_n hC (pc := 0) (k := 0) 0 rfl dX6_isZeroOrOne_0 ?_
  refine v_if_eq hC (pc := 1) (tgt := 9) dX6_isZeroOrOne_1 (by decide) (fun c_1 => ?_) (fun c_1 => ?_)
  · skip
    refine v_iconst hC (pc := 9) (v := 1) (by decide) dX6_isZeroOrOne_9 ?_
    refine v_goto hC (pc := 10) (tgt := 14) dX6_isZeroOrOne_10 (by decide) ?_
    refine v_zret hC hX (pc := 14) dX6_isZeroOrOne_14 (nar_b (by first | exact Or.inl rfl | exact Or.inr rfl | exact bI_01 _)) ?_
    first | (refine rb_t ?_; exact ⟨c_1⟩) | (refine rb_t ?_; simp only [c_1, not_true_eq_false, not_false_eq_true, and_self, and_true, true_and, and_false, false_and, or_true, true_or, or_false, false_or, if_true, if_false, ↓reduceIte, ite_true, ite_false]; done) | (refine rb_f ?_; simp only [c_1, not_true_eq_false, not_false_eq_true, and_self, and_true, true_and, and_false, false_and, or_true, true_or, or_false, false_or, if_true, if_false, ↓reduceIte, ite_true, ite_false]; done)
  · skip
    refine v_iload_n hC (pc := 4) (k := 0) 0 rfl dX6_isZeroOrOne_4 ?_
    refine v_iconst hC (pc := 5) (v := 1) (by decide) dX6_isZeroOrOne_5 ?_
    refine v_icmp_ne hC (pc := 6) (tgt := 13) dX6_isZeroOrOne_6 (by decide) (fun c_6 => ?_) (fun c_6 => ?_)
    · skip
      refine v_iconst hC (pc := 13) (v := 0) (by decide) dX6_isZeroOrOne_13 ?_
      refine v_zret hC hX (pc := 14) dX6_isZeroOrOne_14 (nar_b (by first | exact Or.inl rfl | exact Or.inr rfl | exact bI_01 _)) ?_
      first | (refine rb_t ?_; exact ⟨c_1, c_6⟩) | (refine rb_t ?_; simp only [c_1, c_6, not_true_eq_false, not_false_eq_true, and_self, and_true, true_and, and_false, false_and, or_true, true_or, or_false, false_or, if_true, if_false, ↓reduceIte, ite_true, ite_false]; done) | (refine rb_f ?_; simp only [c_1, c_6, not_true_eq_false, not_false_eq_true, and_self, and_true, true_and, and_false, false_and, or_true, true_or, or_false, false_or, if_true, if_false, ↓reduceIte, ite_true, ite_false]; done)
    · skip
      refine v_iconst hC (pc := 9) (v := 1) (by decide) dX6_isZeroOrOne_9 ?_
      refine v_goto hC (pc := 10) (tgt := 14) dX6_isZeroOrOne_10 (by decide) ?_
      refine v_zret hC hX (pc := 14) dX6_isZeroOrOne_14 (nar_b (by first | exact Or.inl rfl | exact Or.inr rfl | exact bI_01 _)) ?_
      first | (refine rb_t ?_; exact ⟨c_1, c_6⟩) | (refine rb_t ?_; simp only [c_1, c_6, not_true_eq_false, not_false_eq_true, and_self, and_true, true_and, and_false, false_and, or_true, true_or, or_false, false_or, if_true, if_false, ↓reduceIte, ite_true, ite_false]; done) | (refine rb_f ?_; simp only [c_1, c_6, not_true_eq_false, not_false_eq_true, and_self, and_true, true_and, and_false, false_and, or_true, true_or, or_false, false_or, if_true, if_false, ↓reduceIte, ite_true, ite_false]; done)

set_option maxRecDepth 20000 in
set_option maxHeartbeats 2000000 in
theorem t_isHour (l9 : Launch) (G : WT) {d : Nat} (hd : 1 ≤ d) (h : HP) (n : Int32) : MS l9 G yX6_isHour cX6_isHour 1 (some .boolean) d [vi n] h (fun r h1 => h1 = h ∧ r = some (vi (bI (¬ n < 0 ∧ ¬ 24 ≤ n)))) := by
  refine MS_of (by decide +kernel) (Nat.le_of_ble_eq_true rfl) (fun X hC hX => ?_)
  show V X G 1 0 _ [] _
  refine v_iload_n hC (pc := 0) (k := 0) 0 rfl dX6_isHour_0 ?_
  refine v_if_lt hC (pc := 1) (tgt := 14) dX6_isHour_1 (by decide) (fun c_1 => ?_) (fun c_1 => ?_)
  · skip
    refine v_iconst hC (pc := 14) (v := 0) (by decide) dX6_isHour_14 ?_
    refine v_zret hC hX (pc := 15) dX6_isHour_15 (nar_b (by first | exact Or.inl rfl | exact Or.inr rfl | exact bI_01 _)) ?_
    first | (refine rb_t ?_; exact ⟨c_1⟩) | (refine rb_t ?_; simp only [c_1, not_true_eq_false, not_false_eq_true, and_self, and_true, true_and, and_false, false_and, or_true, true_or, or_false, false_or, if_true, if_false, ↓reduceIte, ite_true, ite_false]; done) | (refine rb_f ?_; simp only [c_1, not_true_eq_false, not_false_eq_true, and_self, and_true, true_and, and_false, false_and, or_true, true_or, or_false, false_or, if_true, if_false, ↓reduceIte, ite_true, ite_false]; done)
  · skip
    refine v_iload_n hC (pc := 4) (k := 0) 0 rfl dX6_isHour_4 ?_
    refine v_bipush hC (pc := 5) (v := 24) (by decide +kernel) dX6_isHour_5 ?_
    refine v_icmp_ge hC (pc := 7) (tgt := 14) dX6_isHour_7 (by decide) (fun c_7 => ?_) (fun c_7 => ?_)
    · skip
      refine v_iconst hC (pc := 14) (v := 0) (by decide) dX6_isHour_14 ?_
      refine v_zret hC hX (pc := 15) dX6_isHour_15 (nar_b (by first | exact Or.inl rfl | exact Or.inr rfl | exact bI_01 _)) ?_
      first | (refine rb_t ?_; exact ⟨c_1, c_7⟩) | (refine rb_t ?_; simp only [c_1, c_7, not_true_eq_false, not_false_eq_true, and_self, and_true, true_and, and_false, false_and, or_true, true_or, or_false, false_or, if_true, if_false, ↓reduceIte, ite_true, ite_false]; done) | (refine rb_f ?_; simp only [c_1, c_7, not_true_eq_false, not_false_eq_true, and_self, and_true, true_and, and_false, false_and, or_true, true_or, or_false, false_or, if_true, if_false, ↓reduceIte, ite_true, ite_false]; done)
    · skip
      refine v_iconst hC (pc := 10) (v := 1) (by decide) dX6_isHour_10 ?_
      refine v_goto hC (pc := 11) (tgt := 15) dX6_isHour_11 (by decide) ?_
      refine v_zret hC hX (pc := 15) dX6_isHour_15 (nar_b (by first | exact Or.inl rfl | exact Or.inr rfl | exact bI_01 _)) ?_
      first | (refine rb_t ?_; exact ⟨c_1, c_7⟩) | (refine rb_t ?_; simp only [c_1, c_7, not_true_eq_false, not_false_eq_true, and_self, and_true, true_and, and_false, false_and, or_true, true_or, or_false, false_or, if_true, if_false, ↓reduceIte, ite_true, ite_false]; done) | (refine rb_f ?_; simp only [c_1, c_7, not_true_eq_false, not_false_eq_true, and_self, and_true, true_and, and_false, false_and, or_true, true_or, or_false, false_or, if_true, if_false, ↓reduceIte, ite_true, ite_false]; done)

set_option maxRecDepth 20000 in
set_option maxHeartbeats 2000000 in
theorem t_isLane (l9 : Launch) (G : WT) {d : Nat} (hd : 1 ≤ d) (h : HP) (n : Int32) : MS l9 G yX6_isLane cX6_isLane 1 (some .boolean) d [vi n] h (fun r h1 => h1 = h ∧ r = some (vi (bI (¬ n < 0 ∧ ¬ 2 < n)))) := by
  refine MS_of (by decide +kernel) (Nat.le_of_ble_eq_true rfl) (fun X hC hX => ?_)
  show V X G 1 0 _ [] _
  refine v_iload_n hC (pc := 0) (k := 0) 0 rfl dX6_isLane_0 ?_
  refine v_if_lt hC (pc := 1) (tgt := 13) dX6_isLane_1 (by decide) (fun c_1 => ?_) (fun c_1 => ?_)
  · skip
    refine v_iconst hC (pc := 13) (v := 0) (by decide) dX6_isLane_13 ?_
    refine v_zret hC hX (pc := 14) dX6_isLane_14 (nar_b (by first | exact Or.inl rfl | exact Or.inr rfl | exact bI_01 _)) ?_
    first | (refine rb_t ?_; exact ⟨c_1⟩) | (refine rb_t ?_; simp only [c_1, not_true_eq_false, not_false_eq_true, and_self, and_true, true_and, and_false, false_and, or_true, true_or, or_false, false_or, if_true, if_false, ↓reduceIte, ite_true, ite_false]; done) | (refine rb_f ?_; simp only [c_1, not_true_eq_false, not_false_eq_true, and_self, and_true, true_and, and_false, false_and, or_true, true_or, or_false, false_or, if_true, if_false, ↓reduceIte, ite_true, ite_false]; done)
  · skip
    refine v_iload_n hC (pc := 4) (k := 0) 0 rfl dX6_isLane_4 ?_
    refine v_iconst hC (pc := 5) (v := 2) (by decide) dX6_isLane_5 ?_
    refine v_icmp_gt hC (pc := 6) (tgt := 13) dX6_isLane_6 (by decide) (fun c_6 => ?_) (fun c_6 => ?_)
    · skip
      refine v_iconst hC (pc := 13) (v := 0) (by decide) dX6_isLane_13 ?_
      refine v_zret hC hX (pc := 14) dX6_isLane_14 (nar_b (by first | exact Or.inl rfl | exact Or.inr rfl | exact bI_01 _)) ?_
      first | (refine rb_t ?_; exact ⟨c_1, c_6⟩) | (refine rb_t ?_; simp only [c_1, c_6, not_true_eq_false, not_false_eq_true, and_self, and_true, true_and, and_false, false_and, or_true, true_or, or_false, false_or, if_true, if_false, ↓reduceIte, ite_true, ite_false]; done) | (refine rb_f ?_; simp only [c_1, c_6, not_true_eq_false, not_false_eq_true, and_self, and_true, true_and, and_false, false_and, or_true, true_or, or_false, false_or, if_true, if_false, ↓reduceIte, ite_true, ite_false]; done)
    · skip
      refine v_iconst hC (pc := 9) (v := 1) (by decide) dX6_isLane_9 ?_
      refine v_goto hC (pc := 10) (tgt := 14) dX6_isLane_10 (by decide) ?_
      refine v_zret hC hX (pc := 14) dX6_isLane_14 (nar_b (by first | exact Or.inl rfl | exact Or.inr rfl | exact bI_01 _)) ?_
      first | (refine rb_t ?_; exact ⟨c_1, c_6⟩) | (refine rb_t ?_; simp only [c_1, c_6, not_true_eq_false, not_false_eq_true, and_self, and_true, true_and, and_false, false_and, or_true, true_or, or_false, false_or, if_true, if_false, ↓reduceIte, ite_true, ite_false]; done) | (refine rb_f ?_; simp only [c_1, c_6, not_true_eq_false, not_false_eq_true, and_self, and_true, true_and, and_false, false_and, or_true, true_or, or_false, false_or, if_true, if_false, ↓reduceIte, ite_true, ite_false]; done)

set_option maxRecDepth 20000 in
set_option maxHeartbeats 2000000 in
theorem t_isWordAsk (l9 : Launch) (G : WT) {d : Nat} (hd : 1 ≤ d) (h : HP) (n : Int32) : MS l9 G yX6_isWordAsk cX6_isWordAsk 1 (some .boolean) d [vi n] h (fun r h1 => h1 = h ∧ r = some (vi (bI (n = 0 ∨ ¬ n < 10 ∧ ¬ 34 ≤ n)))) := by
  refine MS_of (by decide +kernel) (Nat.le_of_ble_eq_true rfl) (fun X hC hX => ?_)
  show V X G 1 0 _ [] _
  refine v_iload_n hC (pc := 0) (k := 0) 0 rfl dX6_isWordAsk_0 ?_
  refine v_if_eq hC (pc := 1) (tgt := 16) dX6_isWordAsk_1 (by decide) (fun c_1 => ?_) (fun c_1 => ?_)
  · skip
    refine v_iconst hC (pc := 16) (v := 1) (by decide) dX6_isWordAsk_16 ?_
    refine v_goto hC (pc := 17) (tgt := 21) dX6_isWordAsk_17 (by decide) ?_
    refine v_zret hC hX (pc := 21) dX6_isWordAsk_21 (nar_b (by first | exact Or.inl rfl | exact Or.inr rfl | exact bI_01 _)) ?_
    first | (refine rb_t ?_; exact ⟨c_1⟩) | (refine rb_t ?_; simp only [c_1, not_true_eq_false, not_false_eq_true, and_self, and_true, true_and, and_false, false_and, or_true, true_or, or_false, false_or, if_true, if_false, ↓reduceIte, ite_true, ite_false]; done) | (refine rb_f ?_; simp only [c_1, not_true_eq_false, not_false_eq_true, and_self, and_true, true_and, and_false, false_and, or_true, true_or, or_false, false_or, if_true, if_false, ↓reduceIte, ite_true, ite_false]; done)
  · skip
    refine v_iload_n hC (pc := 4) (k := 0) 0 rfl dX6_isWordAsk_4 ?_
    refine v_bipush hC (pc := 5) (v := 10) (by decide +kernel) dX6_isWordAsk_5 ?_
    refine v_icmp_lt hC (pc := 7) (tgt := 20) dX6_isWordAsk_7 (by decide) (fun c_7 => ?_) (fun c_7 => ?_)
    · skip
      refine v_iconst hC (pc := 20) (v := 0) (by decide) dX6_isWordAsk_20 ?_
      refine v_zret hC hX (pc := 21) dX6_isWordAsk_21 (nar_b (by first | exact Or.inl rfl | exact Or.inr rfl | exact bI_01 _)) ?_
      first | (refine rb_t ?_; exact ⟨c_1, c_7⟩) | (refine rb_t ?_; simp only [c_1, c_7, not_true_eq_false, not_false_eq_true, and_self, and_true, true_and, and_false, false_and, or_true, true_or, or_false, false_or, if_true, if_false, ↓reduceIte, ite_true, ite_false]; done) | (refine rb_f ?_; simp only [c_1, c_7, not_true_eq_false, not_false_eq_true, and_self, and_true, true_and, and_false, false_and, or_true, true_or, or_false, false_or, if_true, if_false, ↓reduceIte, ite_true, ite_false]; done)
    · skip
      refine v_iload_n hC (pc := 10) (k := 0) 0 rfl dX6_isWordAsk_10 ?_
      refine v_bipush hC (pc := 11) (v := 34) (by decide +kernel) dX6_isWordAsk_11 ?_
      refine v_icmp_ge hC (pc := 13) (tgt := 20) dX6_isWordAsk_13 (by decide) (fun c_13 => ?_) (fun c_13 => ?_)
      · skip
        refine v_iconst hC (pc := 20) (v := 0) (by decide) dX6_isWordAsk_20 ?_
        refine v_zret hC hX (pc := 21) dX6_isWordAsk_21 (nar_b (by first | exact Or.inl rfl | exact Or.inr rfl | exact bI_01 _)) ?_
        first | (refine rb_t ?_; exact ⟨c_1, c_7, c_13⟩) | (refine rb_t ?_; simp only [c_1, c_7, c_13, not_true_eq_false, not_false_eq_true, and_self, and_true, true_and, and_false, false_and, or_true, true_or, or_false, false_or, if_true, if_false, ↓reduceIte, ite_true, ite_false]; done) | (refine rb_f ?_; simp only [c_1, c_7, c_13, not_true_eq_false, not_false_eq_true, and_self, and_true, true_and, and_false, false_and, or_true, true_or, or_false, false_or, if_true, if_false, ↓reduceIte, ite_true, ite_false]; done)
      · skip
        refine v_iconst hC (pc := 16) (v := 1) (by decide) dX6_isWordAsk_16 ?_
        refine v_goto hC (pc := 17) (tgt := 21) dX6_isWordAsk_17 (by decide) ?_
        refine v_zret hC hX (pc := 21) dX6_isWordAsk_21 (nar_b (by first | exact Or.inl rfl | exact Or.inr rfl | exact bI_01 _)) ?_
        first | (refine rb_t ?_; exact ⟨c_1, c_7, c_13⟩) | (refine rb_t ?_; simp only [c_1, c_7, c_13, not_true_eq_false, not_false_eq_true, and_self, and_true, true_and, and_false, false_and, or_true, true_or, or_false, false_or, if_true, if_false, ↓reduceIte, ite_true, ite_false]; done) | (refine rb_f ?_; simp only [c_1, c_7, c_13, not_true_eq_false, not_false_eq_true, and_self, and_true, true_and, and_false, false_and, or_true, true_or, or_false, false_or, if_true, if_false, ↓reduceIte, ite_true, ite_false]; done)

set_option maxRecDepth 20000 in
set_option maxHeartbeats 2000000 in
theorem t_lowestOf (l9 : Launch) (G : WT) {d : Nat} (hd : 1 ≤ d) (h : HP) (b : Int32) : MS l9 G yX6_lowestOf cX6_lowestOf 2 (some .int) d [vi b] h (fun r h1 => h1 = h ∧ ((∃ i, i < 8 ∧ r = some (vi (nI i)) ∧ (b >>> (nI i &&& 31)) &&& 1 = 1 ∧ ∀ j, j < i → ¬ (b >>> (nI j &&& 31)) &&& 1 = 1) ∨ (r = some (vi (-4)) ∧ ∀ j, j < 8 → ¬ (b >>> (nI j &&& 31)) &&& 1 = 1))) := by
  refine MS_of (by decide +kernel) (Nat.le_of_ble_eq_true rfl) (fun X hC hX => ?_)
  show V X G 2 0 _ [] _
  have loop : ∀ (n i : Nat) , i ≤ 8 → 8 + 1 ≤ i + n → (∀ j, j < i → ¬ (b >>> (nI j &&& 31)) &&& 1 = 1) → V X G 2 2 [(1, vi (nI i)), (0, vi b)] [] (h) := by
    intro n
    induction n with
    | zero => intro i  h1 h2; exact absurd h2 (by omega)
    | succ n ih =>
      intro i  h1 h2 hb
      refine v_iload_n hC (pc := 2) (k := 1) 0 rfl dX6_lowestOf_2 ?_
      refine v_bipush hC (pc := 3) (v := 8) (by decide +kernel) dX6_lowestOf_3 ?_
      refine v_icmp_ge hC (pc := 5) (tgt := 25) dX6_lowestOf_5 (by decide) (fun c_5 => ?_) (fun c_5 => ?_)
      · skip
        have hi : i = 8 := lp_ex (N := 8) (c_5) h1 (by omega)
        refine v_bipush hC (pc := 25) (v := (-4)) (by decide +kernel) dX6_lowestOf_25 ?_
        refine v_iret hC hX (pc := 27) dX6_lowestOf_27 ?_
        exact ⟨rfl, Or.inr ⟨rfl, fun j hj => hb j (by omega)⟩⟩
      · skip
        have hi : i < 8 := lp_in (N := 8) (c_5) h1 (by omega)
        refine v_iload_n hC (pc := 8) (k := 0) 1 rfl dX6_lowestOf_8 ?_
        refine v_iload_n hC (pc := 9) (k := 1) 0 rfl dX6_lowestOf_9 ?_
        refine v_ishr hC (pc := 10) dX6_lowestOf_10 ?_
        refine v_iconst hC (pc := 11) (v := 1) (by decide) dX6_lowestOf_11 ?_
        refine v_iand hC (pc := 12) dX6_lowestOf_12 ?_
        refine v_iconst hC (pc := 13) (v := 1) (by decide) dX6_lowestOf_13 ?_
        refine v_icmp_ne hC (pc := 14) (tgt := 19) dX6_lowestOf_14 (by decide) (fun c_14 => ?_) (fun c_14 => ?_)
        · skip
          refine v_iinc hC (pc := 19) (l' := [(1, _), (0, _)]) 0 (v := nI (i + 1)) dX6_lowestOf_19 rfl (nI_inc i) (by decide) rfl ?_
          refine v_goto hC (pc := 22) (tgt := 2) dX6_lowestOf_22 (by decide) ?_
          exact ih (i + 1) (by omega) (by omega) (fun j hj => by
                rcases Nat.lt_or_ge j i with hji | hji
                · exact hb j hji
                · have e : j = i := by omega
                  subst e
                  exact c_14)
        · skip
          refine v_iload_n hC (pc := 17) (k := 1) 0 rfl dX6_lowestOf_17 ?_
          refine v_iret hC hX (pc := 18) dX6_lowestOf_18 ?_
          exact ⟨rfl, Or.inl ⟨i, hi, rfl, c_14, hb⟩⟩
  refine v_iconst hC (pc := 0) (v := 0) (by decide) dX6_lowestOf_0 ?_
  refine v_istore_n hC (pc := 1) (l' := [(1, _), (0, _)]) dX6_lowestOf_1 (by decide) rfl ?_
  exact loop 9 0 (by omega) (by omega) (fun j hj => absurd hj (Nat.not_lt_zero j))

