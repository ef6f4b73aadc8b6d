/-! CITY: loops -/
set_option maxRecDepth 20000 in
set_option maxHeartbeats 2000000 in
theorem t_placeBits (l9 : Launch) (G : WT) {d : Nat} (hd : 1 ≤ d) {q : Nat} (hq : q < 5) (h : HP) {nW : Nat} (hn4 : nW ≤ 4) (hnw : h.1 (0, q, 0) 4 = nI nW) : MS l9 G yX0_placeBits cX0_placeBits 3 (some .int) d [vr (0, q, 0)] h (fun r h1 => h1 = h ∧ r = some (vi (itN (fun w a => a ||| (1 <<< ((h.1 (6, q, w) 0) &&& 31))) nW 0))) := by
  refine MS_of (by decide +kernel) (Nat.le_of_ble_eq_true rfl) (fun X hC hX => ?_)
  show V X G 3 0 _ [] _
  have loop : ∀ (n w : Nat) (a : Int32), w ≤ nW → nW + 1 ≤ w + n → a = itN (fun w a => a ||| (1 <<< ((h.1 (6, q, w) 0) &&& 31))) w (0) → V X G 3 4 [(2, vi (nI w)), (1, vi a), (0, vr (0, q, 0))] [] (h) := by
    intro n
    induction n with
    | zero => intro w a h1 h2; exact absurd h2 (by omega)
    | succ n ih =>
      intro w a h1 h2 ha
      refine v_iload_n hC (pc := 4) (k := 2) 0 rfl dX0_placeBits_4 ?_
      refine v_aload_n hC (pc := 5) (k := 0) 2 rfl dX0_placeBits_5 ?_
      refine v_getI hC (pc := 6) dX0_placeBits_6 fl_X0_59 rfl (by first | rfl | exact ok_c hq rfl | exact ok_w hq hw | exact ok_w (by omega) (by omega) | exact ok_s (by omega) (by omega) | exact ok_c (by omega) rfl | assumption) rfl (by decide) (by decide) ?_
      refine v_icmp_ge hC (pc := 9) (tgt := 32) dX0_placeBits_9 (by decide) (fun c_9 => ?_) (fun c_9 => ?_)
      · skip
        have hi : w = nW := lp_ex (by rw [← hnw]; exact c_9) h1 (by omega)
        refine v_iload_n hC (pc := 32) (k := 1) 1 rfl dX0_placeBits_32 ?_
        refine v_iret hC hX (pc := 33) dX0_placeBits_33 ?_
        subst hi
        exact ⟨rfl, by rw [← ha]⟩
      · skip
        have hi : w < nW := lp_in (by rw [← hnw]; exact c_9) h1 (by omega)
        refine v_iload_n hC (pc := 12) (k := 1) 1 rfl dX0_placeBits_12 ?_
        refine v_iconst hC (pc := 13) (v := 1) (by decide) dX0_placeBits_13 ?_
        refine v_aload_n hC (pc := 14) (k := 0) 2 rfl dX0_placeBits_14 ?_
        refine v_getR hC (pc := 15) dX0_placeBits_15 fl_X0_17 rfl (by first | rfl | exact ok_c hq rfl | exact ok_w hq hw | exact ok_w (by omega) (by omega) | exact ok_s (by omega) (by omega) | exact ok_c (by omega) rfl | assumption) rfl (by decide) (by decide) rfl ?_
        refine v_iload_n hC (pc := 18) (k := 2) 0 rfl dX0_placeBits_18 ?_
        refine v_aald hC (pc := 19) 5 dX0_placeBits_19 rfl (by decide) (fun _ => rfl) (by first | rfl | exact ok_c hq rfl | exact ok_w hq hw | exact ok_w (by omega) (by omega) | exact ok_s (by omega) (by omega) | exact ok_c (by omega) rfl | assumption) (vp_nat (by omega) (by decide)) (by rw [nI_clamp (by omega)]; rfl) ?_
        refine v_getI hC (pc := 20) dX0_placeBits_20 fl_X0_75 rfl (by first | rfl | exact ok_c hq rfl | exact ok_w hq hw | exact ok_w (by omega) (by omega) | exact ok_s (by omega) (by omega) | exact ok_c (by omega) rfl | assumption) rfl (by decide) (by decide) ?_
        refine v_ishl hC (pc := 23) dX0_placeBits_23 ?_
        refine v_ior hC (pc := 24) dX0_placeBits_24 ?_
        refine v_istore_n hC (pc := 25) (l' := [(1, _), (2, _), (0, _)]) dX0_placeBits_25 (by decide) rfl ?_
        refine v_iinc hC (pc := 26) (l' := [(2, _), (1, _), (0, _)]) 1 (v := nI (w + 1)) dX0_placeBits_26 rfl (nI_inc w) (by decide) rfl ?_
        refine v_goto hC (pc := 29) (tgt := 4) dX0_placeBits_29 (by decide) ?_
        exact ih (w + 1) _ (by omega) (by omega) (by rw [itN_s, ← ha])
  refine v_iconst hC (pc := 0) (v := 0) (by decide) dX0_placeBits_0 ?_
  refine v_istore_n hC (pc := 1) (l' := [(1, _), (0, _)]) dX0_placeBits_1 (by decide) rfl ?_
  refine v_iconst hC (pc := 2) (v := 0) (by decide) dX0_placeBits_2 ?_
  refine v_istore_n hC (pc := 3) (l' := [(2, _), (1, _), (0, _)]) dX0_placeBits_3 (by decide) rfl ?_
  exact loop (nW + 1) 0 _ (Nat.zero_le _) (by omega) rfl

set_option maxRecDepth 20000 in
set_option maxHeartbeats 2000000 in
theorem t_countLetters (l9 : Launch) (G : WT) {d : Nat} (hd : 2 ≤ d) {q : Nat} (hq : q < 5) (h : HP) {nW : Nat} (hn4 : nW ≤ 4) (hnw : h.1 (0, q, 0) 4 = nI nW) : MS l9 G yX0_countLetters cX0_countLetters 3 (some .int) d [vr (0, q, 0)] h (fun r h1 => h1 = h ∧ r = some (vi (itN (fun w a => a + (h.1 (6, q, w) 4 - h.1 (6, q, w) 5)) nW 0))) := by
  refine MS_of (by decide +kernel) (Nat.le_of_ble_eq_true rfl) (fun X hC hX => ?_)
  show V X G 3 0 _ [] _
  have loop : ∀ (n w : Nat) (a : Int32), w ≤ nW → nW + 1 ≤ w + n → a = itN (fun w a => a + (h.1 (6, q, w) 4 - h.1 (6, q, w) 5)) w (0) → V X G 3 4 [(2, vi (nI w)), (1, vi a), (0, vr (0, q, 0))] [] (h) := by
    intro n
    induction n with
    | zero => intro w a h1 h2; exact absurd h2 (by omega)
    | succ n ih =>
      intro w a h1 h2 ha
      refine v_iload_n hC (pc := 4) (k := 2) 0 rfl dX0_countLetters_4 ?_
      refine v_aload_n hC (pc := 5) (k := 0) 2 rfl dX0_countLetters_5 ?_
      refine v_getI hC (pc := 6) dX0_countLetters_6 fl_X0_59 rfl (by first | rfl | exact ok_c hq rfl | exact ok_w hq hw | exact ok_w (by omega) (by omega) | exact ok_s (by omega) (by omega) | exact ok_c (by omega) rfl | assumption) rfl (by decide) (by decide) ?_
      refine v_icmp_ge hC (pc := 9) (tgt := 30) dX0_countLetters_9 (by decide) (fun c_9 => ?_) (fun c_9 => ?_)
      · skip
        have hi : w = nW := lp_ex (by rw [← hnw]; exact c_9) h1 (by omega)
        refine v_iload_n hC (pc := 30) (k := 1) 1 rfl dX0_countLetters_30 ?_
        refine v_iret hC hX (pc := 31) dX0_countLetters_31 ?_
        subst hi
        exact ⟨rfl, by rw [← ha]⟩
      · skip
        have hi : w < nW := lp_in (by rw [← hnw]; exact c_9) h1 (by omega)
        refine v_iload_n hC (pc := 12) (k := 1) 1 rfl dX0_countLetters_12 ?_
        refine v_aload_n hC (pc := 13) (k := 0) 2 rfl dX0_countLetters_13 ?_
        refine v_getR hC (pc := 14) dX0_countLetters_14 fl_X0_17 rfl (by first | rfl | exact ok_c hq rfl | exact ok_w hq hw | exact ok_w (by omega) (by omega) | exact ok_s (by omega) (by omega) | exact ok_c (by omega) rfl | assumption) rfl (by decide) (by decide) rfl ?_
        refine v_iload_n hC (pc := 17) (k := 2) 0 rfl dX0_countLetters_17 ?_
        refine v_aald hC (pc := 18) 5 dX0_countLetters_18 rfl (by decide) (fun _ => rfl) (by first | rfl | exact ok_c hq rfl | exact ok_w hq hw | exact ok_w (by omega) (by omega) | exact ok_s (by omega) (by omega) | exact ok_c (by omega) rfl | assumption) (vp_nat (by omega) (by decide)) (by rw [nI_clamp (by omega)]; rfl) ?_
        refine v_callV hC (pc := 19) (As := []) dX0_countLetters_19 rfl (t_lettersLeft _ _ (d := d - 1) (by omega) hq (show w < 4 by omega) _) cv_X0_93 rfl (by decide) rfl (by first | rfl | exact ok_c hq rfl | exact ok_w hq hw | exact ok_w (by omega) (by omega) | exact ok_s (by omega) (by omega) | exact ok_c (by omega) rfl | assumption) (Nat.le_of_ble_eq_true rfl) (by omega) (fun r h' hr => ?_)
        obtain ⟨rfl, rfl⟩ := hr
        show V _ _ _ (19 + 3) _ (_ :: _) _
        refine v_iadd hC (pc := 22) dX0_countLetters_22 ?_
        refine v_istore_n hC (pc := 23) (l' := [(1, _), (2, _), (0, _)]) dX0_countLetters_23 (by decide) rfl ?_
        refine v_iinc hC (pc := 24) (l' := [(2, _), (1, _), (0, _)]) 1 (v := nI (w + 1)) dX0_countLetters_24 rfl (nI_inc w) (by decide) rfl ?_
        refine v_goto hC (pc := 27) (tgt := 4) dX0_countLetters_27 (by decide) ?_
        exact ih (w + 1) _ (by omega) (by omega) (by rw [itN_s, ← ha])
  refine v_iconst hC (pc := 0) (v := 0) (by decide) dX0_countLetters_0 ?_
  refine v_istore_n hC (pc := 1) (l' := [(1, _), (0, _)]) dX0_countLetters_1 (by decide) rfl ?_
  refine v_iconst hC (pc := 2) (v := 0) (by decide) dX0_countLetters_2 ?_
  refine v_istore_n hC (pc := 3) (l' := [(2, _), (1, _), (0, _)]) dX0_countLetters_3 (by decide) rfl ?_
  exact loop (nW + 1) 0 _ (Nat.zero_le _) (by omega) rfl

set_option maxRecDepth 20000 in
set_option maxHeartbeats 2000000 in
theorem t_countStreets (l9 : Launch) (G : WT) {d : Nat} (hd : 2 ≤ d) {q : Nat} (hq : q < 5) (h : HP) : MS l9 G yX0_countStreets cX0_countStreets 3 (some .int) d [vr (0, q, 0)] h (fun r h1 => h1 = h ∧ r = some (vi (itN (fun k a => a + (if h.1 (0, q, 6) k = -4 then 0 else 1)) 16 0))) := by
  refine MS_of (by decide +kernel) (Nat.le_of_ble_eq_true rfl) (fun X hC hX => ?_)
  show V X G 3 0 _ [] _
  have loop : ∀ (n k : Nat) (a : Int32), k ≤ 16 → 16 + 1 ≤ k + n → a = itN (fun k a => a + (if h.1 (0, q, 6) k = -4 then 0 else 1)) k (0) → V X G 3 4 [(2, vi (nI k)), (1, vi a), (0, vr (0, q, 0))] [] (h) := by
    intro n
    induction n with
    | zero => intro k a h1 h2; exact absurd h2 (by omega)
    | succ n ih =>
      intro k a h1 h2 ha
      refine v_iload_n hC (pc := 4) (k := 2) 0 rfl dX0_countStreets_4 ?_
      refine v_aload_n hC (pc := 5) (k := 0) 2 rfl dX0_countStreets_5 ?_
      refine v_getR hC (pc := 6) dX0_countStreets_6 fl_X0_9 rfl (by first | rfl | exact ok_c hq rfl | exact ok_w hq hw | exact ok_w (by omega) (by omega) | exact ok_s (by omega) (by omega) | exact ok_c (by omega) rfl | assumption) rfl (by decide) (by decide) rfl ?_
      refine v_alen hC (pc := 9) 0 dX0_countStreets_9 rfl (fun _ => rfl) (by first | exact Or.inl rfl | exact Or.inr rfl) (by first | rfl | exact ok_c hq rfl | exact ok_w hq hw | exact ok_w (by omega) (by omega) | exact ok_s (by omega) (by omega) | exact ok_c (by omega) rfl | assumption) (v := nI 16) (by decide) ?_
      refine v_icmp_ge hC (pc := 10) (tgt := 41) dX0_countStreets_10 (by decide) (fun c_10 => ?_) (fun c_10 => ?_)
      · skip
        have hi : k = 16 := lp_ex (c_10) h1 (by omega)
        refine v_iload_n hC (pc := 41) (k := 1) 1 rfl dX0_countStreets_41 ?_
        refine v_iret hC hX (pc := 42) dX0_countStreets_42 ?_
        subst hi
        exact ⟨rfl, by rw [← ha]⟩
      · skip
        have hi : k < 16 := lp_in (c_10) h1 (by omega)
        refine v_iload_n hC (pc := 13) (k := 1) 1 rfl dX0_countStreets_13 ?_
        refine v_aload_n hC (pc := 14) (k := 0) 2 rfl dX0_countStreets_14 ?_
        refine v_getR hC (pc := 15) dX0_countStreets_15 fl_X0_9 rfl (by first | rfl | exact ok_c hq rfl | exact ok_w hq hw | exact ok_w (by omega) (by omega) | exact ok_s (by omega) (by omega) | exact ok_c (by omega) rfl | assumption) rfl (by decide) (by decide) rfl ?_
        refine v_iload_n hC (pc := 18) (k := 2) 0 rfl dX0_countStreets_18 ?_
        refine v_iald hC (pc := 19) dX0_countStreets_19 rfl (by first | rfl | exact ok_c hq rfl | exact ok_w hq hw | exact ok_w (by omega) (by omega) | exact ok_s (by omega) (by omega) | exact ok_c (by omega) rfl | assumption) (vp_nat (by omega) (by decide)) ?_
        refine v_bipush hC (pc := 20) (v := (-4)) (by decide +kernel) dX0_countStreets_20 ?_
        refine v_icmp_eq hC (pc := 22) (tgt := 29) dX0_countStreets_22 (by decide) (fun c_22 => ?_) (fun c_22 => ?_)
        · skip
          refine v_iconst hC (pc := 29) (v := 0) (by decide) dX0_countStreets_29 ?_
          refine v_callN hC (pc := 30) (As := [_]) dX0_countStreets_30 rfl (t_oneIf _ _ (d := d - 1) (by omega) _ _) cn_X0_140 (Nat.le_of_ble_eq_true rfl) (by omega) (fun r h' hr => ?_)
          obtain ⟨rfl, rfl⟩ := hr
          show V _ _ _ (30 + 3) _ (_ :: _) _
          refine v_iadd hC (pc := 33) dX0_countStreets_33 ?_
          refine v_istore_n hC (pc := 34) (l' := [(1, _), (2, _), (0, _)]) dX0_countStreets_34 (by decide) rfl ?_
          refine v_iinc hC (pc := 35) (l' := [(2, _), (1, _), (0, _)]) 1 (v := nI (k + 1)) dX0_countStreets_35 rfl (nI_inc k) (by decide) rfl ?_
          refine v_goto hC (pc := 38) (tgt := 4) dX0_countStreets_38 (by decide) ?_
          exact ih (k + 1) _ (by omega) (by omega) (by rw [itN_s, ← ha, nI_clamp (show k < 2 ^ 31 by omega)] at *; first | (rw [if_pos c_22]; rfl) | (rw [if_neg c_22]; rfl))
        · skip
          refine v_iconst hC (pc := 25) (v := 1) (by decide) dX0_countStreets_25 ?_
          refine v_goto hC (pc := 26) (tgt := 30) dX0_countStreets_26 (by decide) ?_
          refine v_callN hC (pc := 30) (As := [_]) dX0_countStreets_30 rfl (t_oneIf _ _ (d := d - 1) (by omega) _ _) cn_X0_140 (Nat.le_of_ble_eq_true rfl) (by omega) (fun r h' hr => ?_)
          obtain ⟨rfl, rfl⟩ := hr
          show V _ _ _ (30 + 3) _ (_ :: _) _
          refine v_iadd hC (pc := 33) dX0_countStreets_33 ?_
          refine v_istore_n hC (pc := 34) (l' := [(1, _), (2, _), (0, _)]) dX0_countStreets_34 (by decide) rfl ?_
          refine v_iinc hC (pc := 35) (l' := [(2, _), (1, _), (0, _)]) 1 (v := nI (k + 1)) dX0_countStreets_35 rfl (nI_inc k) (by decide) rfl ?_
          refine v_goto hC (pc := 38) (tgt := 4) dX0_countStreets_38 (by decide) ?_
          exact ih (k + 1) _ (by omega) (by omega) (by rw [itN_s, ← ha, nI_clamp (show k < 2 ^ 31 by omega)] at *; first | (rw [if_pos c_22]; rfl) | (rw [if_neg c_22]; rfl))
  refine v_iconst hC (pc := 0) (v := 0) (by decide) dX0_countStreets_0 ?_
  refine v_istore_n hC (pc := 1) (l' := [(1, _), (0, _)]) dX0_countStreets_1 (by decide) rfl ?_
  refine v_iconst hC (pc := 2) (v := 0) (by decide) dX0_countStreets_2 ?_
  refine v_istore_n hC (pc := 3) (l' := [(2, _), (1, _), (0, _)]) dX0_countStreets_3 (by decide) rfl ?_
  exact loop (16 + 1) 0 _ (Nat.zero_le _) (by omega) rfl

def telD1 (h : HP) (q k : Nat) : Prop := ¬ h.1 (0, q, 6) k = -4 ∧ (h.1 (0, q, 0) 0 ≤ nI k / 2 ∨ h.1 (0, q, 0) 0 ≤ h.1 (0, q, 6) k)
def telD2 (h : HP) (q w : Nat) : Prop := h.1 (0, q, 0) 0 ≤ h.1 (6, q, w) 0
def telP (h : HP) (q nW : Nat) : Prop := (¬ h.1 (0, q, 0) 1 >>> (h.1 (0, q, 0) 0 &&& 31) = 0 ∨ ∃ k, k < 16 ∧ telD1 h q k) ∨ ∃ w, w < nW ∧ telD2 h q w
set_option maxRecDepth 20000 in
set_option maxHeartbeats 2000000 in
theorem t_tells (l9 : Launch) (G : WT) {d : Nat} (hd : 1 ≤ d) {q : Nat} (hq : q < 5) (h : HP) {nW : Nat} (hn4 : nW ≤ 4) (hnw : h.1 (0, q, 0) 4 = nI nW) : MS l9 G yX0_tellsCornerThatIsNot cX0_tellsCornerThatIsNot 2 (some .boolean) d [vr (0, q, 0)] h (fun r h1 => h1 = h ∧ r = some (vi (bP (telP h q nW)))) := by
  refine MS_of (by decide +kernel) (Nat.le_of_ble_eq_true rfl) (fun X hC hX => ?_)
  show V X G 2 0 _ [] _
  have loop2 : ∀ (n w : Nat) , w ≤ nW → nW + 1 ≤ w + n → ((∀ j, j < 16 → ¬ telD1 h q j) ∧ ∀ v, v < w → ¬ telD2 h q v) → V X G 2 55 [(1, vi (nI w)), (0, vr (0, q, 0))] [] (h) := by
    intro n
    induction n with
    | zero => intro w  h1 h2; exact absurd h2 (by omega)
    | succ n ih =>
      intro w  h1 h2 ha
      refine v_iload_n hC (pc := 55) (k := 1) 0 rfl dX0_tellsCornerThatIsNot_55 ?_
      refine v_aload_n hC (pc := 56) (k := 0) 1 rfl dX0_tellsCornerThatIsNot_56 ?_
      refine v_getI hC (pc := 57) dX0_tellsCornerThatIsNot_57 fl_X0_59 rfl (by first | rfl | exact ok_c hq rfl | exact ok_w hq hw | exact ok_w (by omega) (by omega) | exact ok_s (by omega) (by omega) | exact ok_c (by omega) rfl | assumption) rfl (by decide) (by decide) ?_
      refine v_icmp_ge hC (pc := 60) (tgt := 87) dX0_tellsCornerThatIsNot_60 (by decide) (fun c_60 => ?_) (fun c_60 => ?_)
      · skip
        have hi : w = nW := lp_ex (by rw [← hnw]; exact c_60) h1 (by omega)
        refine v_aload_n hC (pc := 87) (k := 0) 1 rfl dX0_tellsCornerThatIsNot_87 ?_
        refine v_getI hC (pc := 88) dX0_tellsCornerThatIsNot_88 fl_X0_50 rfl (by first | rfl | exact ok_c hq rfl | exact ok_w hq hw | exact ok_w (by omega) (by omega) | exact ok_s (by omega) (by omega) | exact ok_c (by omega) rfl | assumption) rfl (by decide) (by decide) ?_
        refine v_aload_n hC (pc := 91) (k := 0) 1 rfl dX0_tellsCornerThatIsNot_91 ?_
        refine v_getI hC (pc := 92) dX0_tellsCornerThatIsNot_92 fl_X0_40 rfl (by first | rfl | exact ok_c hq rfl | exact ok_w hq hw | exact ok_w (by omega) (by omega) | exact ok_s (by omega) (by omega) | exact ok_c (by omega) rfl | assumption) rfl (by decide) (by decide) ?_
        refine v_ishr hC (pc := 95) dX0_tellsCornerThatIsNot_95 ?_
        refine v_if_eq hC (pc := 96) (tgt := 103) dX0_tellsCornerThatIsNot_96 (by decide) (fun c_96 => ?_) (fun c_96 => ?_)
        · skip
          refine v_iconst hC (pc := 103) (v := 0) (by decide) dX0_tellsCornerThatIsNot_103 ?_
          refine v_zret hC hX (pc := 104) dX0_tellsCornerThatIsNot_104 (nar_b (by first | exact Or.inl rfl | exact Or.inr rfl | exact bI_01 _)) ?_
          subst hi
          first | exact ⟨rfl, by rw [bP_f (p := telP h q w) (fun z => z.elim (fun z => z.elim (fun z => z c_96) (fun ⟨j, hj, z⟩ => ha.1 j hj z)) (fun ⟨v, hv, z⟩ => ha.2 v hv z))]⟩ | exact ⟨rfl, by rw [bP_t (p := telP h q w) (Or.inl (Or.inl c_96))]⟩
        · skip
          refine v_iconst hC (pc := 99) (v := 1) (by decide) dX0_tellsCornerThatIsNot_99 ?_
          refine v_goto hC (pc := 100) (tgt := 104) dX0_tellsCornerThatIsNot_100 (by decide) ?_
          refine v_zret hC hX (pc := 104) dX0_tellsCornerThatIsNot_104 (nar_b (by first | exact Or.inl rfl | exact Or.inr rfl | exact bI_01 _)) ?_
          subst hi
          first | exact ⟨rfl, by rw [bP_f (p := telP h q w) (fun z => z.elim (fun z => z.elim (fun z => z c_96) (fun ⟨j, hj, z⟩ => ha.1 j hj z)) (fun ⟨v, hv, z⟩ => ha.2 v hv z))]⟩ | exact ⟨rfl, by rw [bP_t (p := telP h q w) (Or.inl (Or.inl c_96))]⟩
      · skip
        have hi : w < nW := lp_in (by rw [← hnw]; exact c_60) h1 (by omega)
        refine v_aload_n hC (pc := 63) (k := 0) 1 rfl dX0_tellsCornerThatIsNot_63 ?_
        refine v_getR hC (pc := 64) dX0_tellsCornerThatIsNot_64 fl_X0_17 rfl (by first | rfl | exact ok_c hq rfl | exact ok_w hq hw | exact ok_w (by omega) (by omega) | exact ok_s (by omega) (by omega) | exact ok_c (by omega) rfl | assumption) rfl (by decide) (by decide) rfl ?_
        refine v_iload_n hC (pc := 67) (k := 1) 0 rfl dX0_tellsCornerThatIsNot_67 ?_
        refine v_aald hC (pc := 68) 5 dX0_tellsCornerThatIsNot_68 rfl (by decide) (fun _ => rfl) (by first | rfl | exact ok_c hq rfl | exact ok_w hq hw | exact ok_w (by omega) (by omega) | exact ok_s (by omega) (by omega) | exact ok_c (by omega) rfl | assumption) (vp_nat (by omega) (by decide)) (by rw [nI_clamp (by omega)]; rfl) ?_
        refine v_getI hC (pc := 69) dX0_tellsCornerThatIsNot_69 fl_X0_75 rfl (by first | rfl | exact ok_c hq rfl | exact ok_w hq hw | exact ok_w (by omega) (by omega) | exact ok_s (by omega) (by omega) | exact ok_c (by omega) rfl | assumption) rfl (by decide) (by decide) ?_
        refine v_aload_n hC (pc := 72) (k := 0) 1 rfl dX0_tellsCornerThatIsNot_72 ?_
        refine v_getI hC (pc := 73) dX0_tellsCornerThatIsNot_73 fl_X0_40 rfl (by first | rfl | exact ok_c hq rfl | exact ok_w hq hw | exact ok_w (by omega) (by omega) | exact ok_s (by omega) (by omega) | exact ok_c (by omega) rfl | assumption) rfl (by decide) (by decide) ?_
        refine v_icmp_lt hC (pc := 76) (tgt := 81) dX0_tellsCornerThatIsNot_76 (by decide) (fun c_76 => ?_) (fun c_76 => ?_)
        · skip
          refine v_iinc hC (pc := 81) (l' := [(1, _), (0, _)]) 0 (v := nI (w + 1)) dX0_tellsCornerThatIsNot_81 rfl (nI_inc w) (by decide) rfl ?_
          refine v_goto hC (pc := 84) (tgt := 55) dX0_tellsCornerThatIsNot_84 (by decide) ?_
          exact ih (w + 1) (by omega) (by omega) ⟨ha.1, (fun v hv => by
              rcases Nat.lt_or_ge v w with hvk | hvk
              · exact ha.2 v hvk
              · have e : v = w := by omega
                subst e
                exact (fun z => absurd c_76 (Int32.not_lt.mpr z)))⟩
        · skip
          refine v_iconst hC (pc := 79) (v := 1) (by decide) dX0_tellsCornerThatIsNot_79 ?_
          refine v_zret hC hX (pc := 80) dX0_tellsCornerThatIsNot_80 (nar_b (by first | exact Or.inl rfl | exact Or.inr rfl | exact bI_01 _)) ?_
          exact ⟨rfl, by rw [bP_t (p := telP h q nW) (Or.inr ⟨w, hi, Int32.not_lt.mp c_76⟩)]⟩
  have loop1 : ∀ (n k : Nat) , k ≤ 16 → 16 + 1 ≤ k + n → (∀ j, j < k → ¬ telD1 h q j) → V X G 2 2 [(1, vi (nI k)), (0, vr (0, q, 0))] [] (h) := by
    intro n
    induction n with
    | zero => intro k  h1 h2; exact absurd h2 (by omega)
    | succ n ih =>
      intro k  h1 h2 ha
      refine v_iload_n hC (pc := 2) (k := 1) 0 rfl dX0_tellsCornerThatIsNot_2 ?_
      refine v_aload_n hC (pc := 3) (k := 0) 1 rfl dX0_tellsCornerThatIsNot_3 ?_
      refine v_getR hC (pc := 4) dX0_tellsCornerThatIsNot_4 fl_X0_9 rfl (by first | rfl | exact ok_c hq rfl | exact ok_w hq hw | exact ok_w (by omega) (by omega) | exact ok_s (by omega) (by omega) | exact ok_c (by omega) rfl | assumption) rfl (by decide) (by decide) rfl ?_
      refine v_alen hC (pc := 7) 0 dX0_tellsCornerThatIsNot_7 rfl (fun _ => rfl) (by first | exact Or.inl rfl | exact Or.inr rfl) (by first | rfl | exact ok_c hq rfl | exact ok_w hq hw | exact ok_w (by omega) (by omega) | exact ok_s (by omega) (by omega) | exact ok_c (by omega) rfl | assumption) (v := nI 16) (by decide) ?_
      refine v_icmp_ge hC (pc := 8) (tgt := 53) dX0_tellsCornerThatIsNot_8 (by decide) (fun c_8 => ?_) (fun c_8 => ?_)
      · skip
        have hi : k = 16 := lp_ex (c_8) h1 (by omega)
        refine v_iconst hC (pc := 53) (v := 0) (by decide) dX0_tellsCornerThatIsNot_53 ?_
        refine v_istore_n hC (pc := 54) (l' := [(1, _), (0, _)]) dX0_tellsCornerThatIsNot_54 (by decide) rfl ?_
        subst hi
        exact loop2 (nW + 1) 0 (Nat.zero_le _) (by omega) ⟨ha, fun v hv => absurd hv (Nat.not_lt_zero v)⟩
      · skip
        have hi : k < 16 := lp_in (c_8) h1 (by omega)
        refine v_aload_n hC (pc := 11) (k := 0) 1 rfl dX0_tellsCornerThatIsNot_11 ?_
        refine v_getR hC (pc := 12) dX0_tellsCornerThatIsNot_12 fl_X0_9 rfl (by first | rfl | exact ok_c hq rfl | exact ok_w hq hw | exact ok_w (by omega) (by omega) | exact ok_s (by omega) (by omega) | exact ok_c (by omega) rfl | assumption) rfl (by decide) (by decide) rfl ?_
        refine v_iload_n hC (pc := 15) (k := 1) 0 rfl dX0_tellsCornerThatIsNot_15 ?_
        refine v_iald hC (pc := 16) dX0_tellsCornerThatIsNot_16 rfl (by first | rfl | exact ok_c hq rfl | exact ok_w hq hw | exact ok_w (by omega) (by omega) | exact ok_s (by omega) (by omega) | exact ok_c (by omega) rfl | assumption) (vp_nat (by omega) (by decide)) ?_
        refine v_bipush hC (pc := 17) (v := (-4)) (by decide +kernel) dX0_tellsCornerThatIsNot_17 ?_
        rw [nI_clamp (show k < 2 ^ 31 by omega)]
        refine v_icmp_eq hC (pc := 19) (tgt := 47) dX0_tellsCornerThatIsNot_19 (by decide) (fun c_19 => ?_) (fun c_19 => ?_)
        · skip
          refine v_iinc hC (pc := 47) (l' := [(1, _), (0, _)]) 0 (v := nI (k + 1)) dX0_tellsCornerThatIsNot_47 rfl (nI_inc k) (by decide) rfl ?_
          refine v_goto hC (pc := 50) (tgt := 2) dX0_tellsCornerThatIsNot_50 (by decide) ?_
          exact ih (k + 1) (by omega) (by omega) (fun v hv => by
              rcases Nat.lt_or_ge v k with hvk | hvk
              · exact ha v hvk
              · have e : v = k := by omega
                subst e
                exact (by first | exact fun z => z.1 c_19 | exact fun z => z.2.elim c_29 (fun z => absurd c_42 (Int32.not_lt.mpr z))))
        · skip
          refine v_iload_n hC (pc := 22) (k := 1) 0 rfl dX0_tellsCornerThatIsNot_22 ?_
          refine v_iconst hC (pc := 23) (v := 2) (by decide) dX0_tellsCornerThatIsNot_23 ?_
          refine v_idiv hC (pc := 24) (by decide) dX0_tellsCornerThatIsNot_24 ?_
          refine v_aload_n hC (pc := 25) (k := 0) 1 rfl dX0_tellsCornerThatIsNot_25 ?_
          refine v_getI hC (pc := 26) dX0_tellsCornerThatIsNot_26 fl_X0_40 rfl (by first | rfl | exact ok_c hq rfl | exact ok_w hq hw | exact ok_w (by omega) (by omega) | exact ok_s (by omega) (by omega) | exact ok_c (by omega) rfl | assumption) rfl (by decide) (by decide) ?_
          refine v_icmp_ge hC (pc := 29) (tgt := 45) dX0_tellsCornerThatIsNot_29 (by decide) (fun c_29 => ?_) (fun c_29 => ?_)
          · skip
            refine v_iconst hC (pc := 45) (v := 1) (by decide) dX0_tellsCornerThatIsNot_45 ?_
            refine v_zret hC hX (pc := 46) dX0_tellsCornerThatIsNot_46 (nar_b (by first | exact Or.inl rfl | exact Or.inr rfl | exact bI_01 _)) ?_
            exact ⟨rfl, by rw [bP_t (p := telP h q nW) (Or.inl (Or.inr ⟨k, hi, (by first | exact ⟨c_19, Or.inl c_29⟩ | exact ⟨c_19, Or.inr (Int32.not_lt.mp c_42)⟩)⟩))]⟩
          · skip
            refine v_aload_n hC (pc := 32) (k := 0) 1 rfl dX0_tellsCornerThatIsNot_32 ?_
            refine v_getR hC (pc := 33) dX0_tellsCornerThatIsNot_33 fl_X0_9 rfl (by first | rfl | exact ok_c hq rfl | exact ok_w hq hw | exact ok_w (by omega) (by omega) | exact ok_s (by omega) (by omega) | exact ok_c (by omega) rfl | assumption) rfl (by decide) (by decide) rfl ?_
            refine v_iload_n hC (pc := 36) (k := 1) 0 rfl dX0_tellsCornerThatIsNot_36 ?_
            refine v_iald hC (pc := 37) dX0_tellsCornerThatIsNot_37 rfl (by first | rfl | exact ok_c hq rfl | exact ok_w hq hw | exact ok_w (by omega) (by omega) | exact ok_s (by omega) (by omega) | exact ok_c (by omega) rfl | assumption) (vp_nat (by omega) (by decide)) ?_
            refine v_aload_n hC (pc := 38) (k := 0) 1 rfl dX0_tellsCornerThatIsNot_38 ?_
            refine v_getI hC (pc := 39) dX0_tellsCornerThatIsNot_39 fl_X0_40 rfl (by first | rfl | exact ok_c hq rfl | exact ok_w hq hw | exact ok_w (by omega) (by omega) | exact ok_s (by omega) (by omega) | exact ok_c (by omega) rfl | assumption) rfl (by decide) (by decide) ?_
            rw [nI_clamp (show k < 2 ^ 31 by omega)]
            refine v_icmp_lt hC (pc := 42) (tgt := 47) dX0_tellsCornerThatIsNot_42 (by decide) (fun c_42 => ?_) (fun c_42 => ?_)
            · skip
              refine v_iinc hC (pc := 47) (l' := [(1, _), (0, _)]) 0 (v := nI (k + 1)) dX0_tellsCornerThatIsNot_47 rfl (nI_inc k) (by decide) rfl ?_
              refine v_goto hC (pc := 50) (tgt := 2) dX0_tellsCornerThatIsNot_50 (by decide) ?_
              exact ih (k + 1) (by omega) (by omega) (fun v hv => by
                  rcases Nat.lt_or_ge v k with hvk | hvk
                  · exact ha v hvk
                  · have e : v = k := by omega
                    subst e
                    exact (by first | exact fun z => z.1 c_19 | exact fun z => z.2.elim c_29 (fun z => absurd c_42 (Int32.not_lt.mpr z))))
            · skip
              refine v_iconst hC (pc := 45) (v := 1) (by decide) dX0_tellsCornerThatIsNot_45 ?_
              refine v_zret hC hX (pc := 46) dX0_tellsCornerThatIsNot_46 (nar_b (by first | exact Or.inl rfl | exact Or.inr rfl | exact bI_01 _)) ?_
              exact ⟨rfl, by rw [bP_t (p := telP h q nW) (Or.inl (Or.inr ⟨k, hi, (by first | exact ⟨c_19, Or.inl c_29⟩ | exact ⟨c_19, Or.inr (Int32.not_lt.mp c_42)⟩)⟩))]⟩
  refine v_iconst hC (pc := 0) (v := 0) (by decide) dX0_tellsCornerThatIsNot_0 ?_
  refine v_istore_n hC (pc := 1) (l' := [(1, _), (0, _)]) dX0_tellsCornerThatIsNot_1 (by decide) rfl ?_
  exact loop1 17 0 (Nat.zero_le _) (by omega) (fun j hj => absurd hj (Nat.not_lt_zero j))

/-- the first n walkers have set out -/
def minF (a b : Int32) : Int32 := if b < a then b else a
def setH (h : HP) (q n : Nat) : HP := (fun i k => if i = (0, q, 13) ∧ k < n then nxtH h q k (h.1 (6, q, k) 0) 0 (h.1 (6, q, k) 2) else if i.1 = 6 ∧ i.2.1 = q ∧ i.2.2 < n ∧ k = 5 then minF (h.1 (6, q, i.2.2) 5 + 1) (h.1 (6, q, i.2.2) 4) else h.1 i k, h.2)
theorem setH_0 (h : HP) (q : Nat) : setH h q 0 = h := by
  unfold setH
  simp
theorem setH_s (h : HP) (q n : Nat) : upI (upI (setH h q n) (0, q, 13) n (nxtH h q n (h.1 (6, q, n) 0) 0 (h.1 (6, q, n) 2))) (6, q, n) 5 (minF (h.1 (6, q, n) 5 + 1) (h.1 (6, q, n) 4)) = setH h q (n + 1) := by
  unfold setH upI
  refine Prod.ext (funext fun i => funext fun k => ?_) rfl
  obtain ⟨a, b, c⟩ := i
  by_cases e1 : a = 6
  · subst e1
    by_cases e2 : b = q
    · subst e2
      by_cases e3 : k = 5
      · subst e3
        by_cases e4 : c = n
        · subst e4; simp
        · have e5 : c < n + 1 ↔ c < n := by omega
          simp [e4, e5]
      · simp [e3]
    · simp [e2]
  · by_cases e2 : (a, b, c) = (0, q, 13)
    · rw [e2]
      by_cases e3 : k = n
      · subst e3; simp
      · have e5 : k < n + 1 ↔ k < n := by omega
        simp [e3, e5]
    · simp [e1, e2]
theorem setH_f (h : HP) (q n : Nat) {j : Nat} (hj : j ≠ 13) : (setH h q n).1 (0, q, j) = h.1 (0, q, j) := by
  funext k
  simp [setH, hj]
theorem setH_w (h : HP) (q n w : Nat) {k : Nat} (hk : k ≠ 5) : (setH h q n).1 (6, q, w) k = h.1 (6, q, w) k := by
  simp [setH, hk]
theorem setH_o (h : HP) (q n w : Nat) (k : Nat) (hw : n ≤ w) : (setH h q n).1 (6, q, w) k = h.1 (6, q, w) k := by
  simp [setH]; omega
theorem setH_g (h : HP) (q n k : Nat) (hk : k < n) : (setH h q n).1 (0, q, 13) k = nxtH h q k (h.1 (6, q, k) 0) 0 (h.1 (6, q, k) 2) := by
  simp [setH, hk]
/-- an hour goes -/
def goalF (h : HP) (q : Nat) (k : Nat) : Int32 := nxtH h q k (h.1 (6, q, k) 0) 0 (h.1 (6, q, k) 2)
theorem ccF_cong {P P' D D' : Nat → Int32} {n : Nat} (hP : ∀ w, w < n → P w = P' w) (hD : ∀ w, w < n → D w = D' w) : ccF P D n = ccF P' D' n := by
  unfold ccF
  refine itN_cong (fun w a hw => ?_) rfl
  unfold ccW
  refine itN_cong (fun v b hv => ?_) rfl
  unfold ccS
  rw [hP w hw, hD w hw, hP v (by omega), hD v (by omega)]
def passH (h : HP) (q n : Nat) : HP := endH (setH h q n) q n (ccF (fun w => h.1 (6, q, w) 0) (goalF h q) n)
set_option maxRecDepth 20000 in
set_option maxHeartbeats 2000000 in
theorem t_passHour (l9 : Launch) (G : WT) {d : Nat} (hd : 5 ≤ d) {q : Nat} (hq : q < 5) (h : HP) {nW : Nat} (hn4 : nW ≤ 4) (hnw : h.1 (0, q, 0) 4 = nI nW) : MS l9 G yX0_passHour cX0_passHour 3 (some .int) d [vr (0, q, 0)] h (fun r h1 => r = some (vi (ccF (fun w => h.1 (6, q, w) 0) (goalF h q) nW)) ∧ h1 = passH h q nW) := by
  refine MS_of (by decide +kernel) (Nat.le_of_ble_eq_true rfl) (fun X hC hX => ?_)
  show V X G 3 0 _ [] _
  have loop : ∀ (n w : Nat) , w ≤ nW → nW + 1 ≤ w + n → V X G 3 2 [(1, vi (nI w)), (0, vr (0, q, 0))] [] (setH h q w) := by
    intro n
    induction n with
    | zero => intro w  h1 h2; exact absurd h2 (by omega)
    | succ n ih =>
      intro w  h1 h2
      refine v_iload_n hC (pc := 2) (k := 1) 0 rfl dX0_passHour_2 ?_
      refine v_aload_n hC (pc := 3) (k := 0) 1 rfl dX0_passHour_3 ?_
      refine v_getI hC (pc := 4) dX0_passHour_4 fl_X0_59 rfl (by first | rfl | exact ok_c hq rfl | exact ok_w hq hw | exact ok_w (by omega) (by omega) | exact ok_s (by omega) (by omega) | exact ok_c (by omega) rfl | assumption) rfl (by decide) (by decide) ?_
      refine v_icmp_ge hC (pc := 7) (tgt := 60) dX0_passHour_7 (by decide) (fun c_7 => ?_) (fun c_7 => ?_)
      · skip
        have hi : w = nW := lp_ex (by rw [← hnw, ← setH_f h q w (j := 0) (by decide)]; exact c_7) h1 (by omega)
        refine v_aload_n hC (pc := 60) (k := 0) 1 rfl dX0_passHour_60 ?_
        refine v_callV hC (pc := 61) (As := []) dX0_passHour_61 rfl (t_endHour _ _ (d := d - 1) (by omega) hq _ hn4 (by rw [setH_f _ _ _ (by decide)]; exact hnw)) cv_X0_123 rfl (by decide) rfl (by first | rfl | exact ok_c hq rfl | exact ok_w hq hw | exact ok_w (by omega) (by omega) | exact ok_s (by omega) (by omega) | exact ok_c (by omega) rfl | assumption) (Nat.le_of_ble_eq_true rfl) (by omega) (fun r h' hr => ?_)
        obtain ⟨rfl, rfl⟩ := hr
        show V _ _ _ (61 + 3) _ (_ :: _) _
        refine v_iret hC hX (pc := 64) dX0_passHour_64 ?_
        subst hi
        have e := ccF_cong (n := w) (fun v hv => setH_w h q w v (k := 0) (by decide)) (fun v hv => setH_g h q w v hv)
        exact ⟨by rw [e]; rfl, by rw [e]; rfl⟩
      · skip
        have hi : w < nW := lp_in (by rw [← hnw, ← setH_f h q w (j := 0) (by decide)]; exact c_7) h1 (by omega)
        refine v_aload_n hC (pc := 10) (k := 0) 1 rfl dX0_passHour_10 ?_
        refine v_getR hC (pc := 11) dX0_passHour_11 fl_X0_17 rfl (by first | rfl | exact ok_c hq rfl | exact ok_w hq hw | exact ok_w (by omega) (by omega) | exact ok_s (by omega) (by omega) | exact ok_c (by omega) rfl | assumption) rfl (by decide) (by decide) rfl ?_
        refine v_iload_n hC (pc := 14) (k := 1) 0 rfl dX0_passHour_14 ?_
        refine v_aald hC (pc := 15) 5 dX0_passHour_15 rfl (by decide) (fun _ => rfl) (by first | rfl | exact ok_c hq rfl | exact ok_w hq hw | exact ok_w (by omega) (by omega) | exact ok_s (by omega) (by omega) | exact ok_c (by omega) rfl | assumption) (vp_nat (by omega) (by decide)) (by rw [nI_clamp (by omega)]; rfl) ?_
        refine v_astore_n hC (pc := 16) (l' := [(2, _), (1, _), (0, _)]) dX0_passHour_16 (by decide) rfl ?_
        refine v_aload_n hC (pc := 17) (k := 0) 2 rfl dX0_passHour_17 ?_
        refine v_getR hC (pc := 18) dX0_passHour_18 fl_X0_37 rfl (by first | rfl | exact ok_c hq rfl | exact ok_w hq hw | exact ok_w (by omega) (by omega) | exact ok_s (by omega) (by omega) | exact ok_c (by omega) rfl | assumption) rfl (by decide) (by decide) rfl ?_
        refine v_iload_n hC (pc := 21) (k := 1) 1 rfl dX0_passHour_21 ?_
        refine v_aload_n hC (pc := 22) (k := 0) 2 rfl dX0_passHour_22 ?_
        refine v_aload_n hC (pc := 23) (k := 2) 0 rfl dX0_passHour_23 ?_
        refine v_aload_n hC (pc := 24) (k := 2) 0 rfl dX0_passHour_24 ?_
        refine v_getI hC (pc := 25) dX0_passHour_25 fl_X0_75 rfl (by first | rfl | exact ok_c hq rfl | exact ok_w hq hw | exact ok_w (by omega) (by omega) | exact ok_s (by omega) (by omega) | exact ok_c (by omega) rfl | assumption) rfl (by decide) (by decide) ?_
        refine v_iconst hC (pc := 28) (v := 0) (by decide) dX0_passHour_28 ?_
        refine v_aload_n hC (pc := 29) (k := 2) 0 rfl dX0_passHour_29 ?_
        refine v_getZ hC (pc := 30) dX0_passHour_30 fl_X0_111 rfl (by first | rfl | exact ok_c hq rfl | exact ok_w hq hw | exact ok_w (by omega) (by omega) | exact ok_s (by omega) (by omega) | exact ok_c (by omega) rfl | assumption) rfl (by decide) (by decide) ?_
        refine v_callV hC (pc := 33) (As := [_, _, _, _]) dX0_passHour_33 rfl (t_nextPlace _ _ (d := d - 1) (by omega) hq (show w < 4 by omega) _ _ _ _) cv_X0_107 rfl (by decide) rfl (by first | rfl | exact ok_c hq rfl | exact ok_w hq hw | exact ok_w (by omega) (by omega) | exact ok_s (by omega) (by omega) | exact ok_c (by omega) rfl | assumption) (Nat.le_of_ble_eq_true rfl) (by omega) (fun r h' hr => ?_)
        obtain ⟨rfl, rfl⟩ := hr
        show V _ _ _ (33 + 3) _ (_ :: _) _
        refine v_iast hC (pc := 36) dX0_passHour_36 rfl (by first | rfl | exact ok_c hq rfl | exact ok_w hq hw | exact ok_w (by omega) (by omega) | exact ok_s (by omega) (by omega) | exact ok_c (by omega) rfl | assumption) (vp_nat (by omega) (by decide)) ?_
        refine v_aload_n hC (pc := 37) (k := 2) 0 rfl dX0_passHour_37 ?_
        refine v_aload_n hC (pc := 38) (k := 2) 0 rfl dX0_passHour_38 ?_
        refine v_getI hC (pc := 39) dX0_passHour_39 fl_X0_97 rfl (by first | rfl | exact ok_c hq rfl | exact ok_w hq hw | exact ok_w (by omega) (by omega) | exact ok_s (by omega) (by omega) | exact ok_c (by omega) rfl | assumption) rfl (by decide) (by decide) ?_
        refine v_iconst hC (pc := 42) (v := 1) (by decide) dX0_passHour_42 ?_
        refine v_iadd hC (pc := 43) dX0_passHour_43 ?_
        refine v_aload_n hC (pc := 44) (k := 2) 0 rfl dX0_passHour_44 ?_
        refine v_getI hC (pc := 45) dX0_passHour_45 fl_X0_115 rfl (by first | rfl | exact ok_c hq rfl | exact ok_w hq hw | exact ok_w (by omega) (by omega) | exact ok_s (by omega) (by omega) | exact ok_c (by omega) rfl | assumption) rfl (by decide) (by decide) ?_
        refine v_min hC (pc := 48) dX0_passHour_48 ml_X0_118 (Nat.le_of_ble_eq_true rfl) (by omega) ?_
        refine v_heap (show _ = upI (setH h q w) (0, q, 13) w (nxtH h q w (h.1 (6, q, w) 0) 0 (h.1 (6, q, w) 2)) from ?_) ?_
        · rw [nI_clamp (show w < 2 ^ 31 by omega)]
          simp only [nxtH, setH_f h q w (j := 6) (by decide), setH_f h q w (j := 0) (by decide), setH_o h q w w _ (Nat.le_refl w)]
        refine v_putI hC (pc := 51) dX0_passHour_51 fs_X0_97 rfl (by first | rfl | exact ok_c hq rfl | exact ok_w hq hw | exact ok_w (by omega) (by omega) | exact ok_s (by omega) (by omega) | exact ok_c (by omega) rfl | assumption) rfl (by decide) (by decide) ?_
        refine v_heap (show _ = setH h q (w + 1) from ?_) ?_
        · rw [← setH_s]
          simp only [minF, upI, setH_o h q w w _ (Nat.le_refl w)]
          simp
        refine v_iinc hC (pc := 54) (l' := [(1, _), (2, _), (0, _)]) 1 (v := nI (w + 1)) dX0_passHour_54 rfl (nI_inc w) (by decide) rfl ?_
        refine v_goto hC (pc := 57) (tgt := 2) dX0_passHour_57 (by decide) ?_
        refine v_loc (l' := [(1, _), (0, _)]) [0, 2] rfl ?_
        exact ih (w + 1) (by omega) (by omega)
  refine v_iconst hC (pc := 0) (v := 0) (by decide) dX0_passHour_0 ?_
  refine v_istore_n hC (pc := 1) (l' := [(1, _), (0, _)]) dX0_passHour_1 (by decide) rfl ?_
  refine v_heap (setH_0 h q).symm ?_
  exact loop (nW + 1) 0 (Nat.zero_le _) (by omega)

