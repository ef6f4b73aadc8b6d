/-! THE REFERENCE: gloves to buy -/
def dg (row k : Nat) : Nat := if k = 0 then row / 1000 else if k = 1 then row / 100 % 10 else if k = 2 then row / 10 % 10 else row % 10
def totN (row : Nat) : Nat := dg row 0 + dg row 1 + dg row 2 + dg row 3
def okN (g : Nat → Nat) (l r row : Nat) : Prop := l ≤ (g 0 + dg row 0) + (g 2 + dg row 2) ∧ l ≤ (g 1 + dg row 1) + (g 2 + dg row 2) ∧ r ≤ (g 1 + dg row 1) + (g 3 + dg row 3) ∧ r ≤ (g 0 + dg row 0) + (g 3 + dg row 3)
theorem dg_le {row : Nat} (h : row < 10000) (k : Nat) : dg row k ≤ 9 := by
  unfold dg
  split
  · omega
  · split
    · omega
    · split <;> omega
/-- the best of the rows below k -/
def bstN (g : Nat → Nat) (l r k row : Nat) : Prop := row < k ∧ okN g l r row ∧ (∀ m, m < k → okN g l r m → totN row ≤ totN m) ∧ ∀ m, m < row → okN g l r m → totN row < totN m
def nst (g : Nat → Nat) (l r k : Nat) (f e : Int32) : Prop := ((∀ m, m < k → ¬ okN g l r m) ∧ f = 1000000 ∧ e = -4) ∨ ∃ row, bstN g l r k row ∧ f = nI (totN row) ∧ e = nI row
theorem tot_le {row : Nat} (h : row < 10000) : totN row ≤ 36 := by
  have := dg_le h 0; have := dg_le h 1; have := dg_le h 2; have := dg_le h 3
  unfold totN
  omega
theorem nst_no {g : Nat → Nat} {l r k : Nat} {f e : Int32} (h : nst g l r k f e) (hk : ¬ okN g l r k) : nst g l r (k + 1) f e := by
  rcases h with ⟨h1, h2⟩ | ⟨row, ⟨h1, h2, h3, h4⟩, h5⟩
  · refine Or.inl ⟨fun m hm => ?_, h2⟩
    rcases (show m < k ∨ m = k by omega) with q | rfl
    · exact h1 m q
    · exact hk
  · refine Or.inr ⟨row, ⟨by omega, h2, fun m hm z => ?_, h4⟩, h5⟩
    rcases (show m < k ∨ m = k by omega) with q | rfl
    · exact h3 m q z
    · exact absurd z hk
theorem nst_ge {g : Nat → Nat} {l r k : Nat} {f e : Int32} (hk2 : k < 10000) (h : nst g l r k f e) (hk : f ≤ nI (totN k)) : nst g l r (k + 1) f e := by
  have ht := tot_le hk2
  rcases h with ⟨h1, h2, h3⟩ | ⟨row, ⟨h1, h2, h3, h4⟩, h5, h6⟩
  · subst h2
    exact absurd hk (nI_ge (show totN k < 1000000 by omega) (by decide))
  · refine Or.inr ⟨row, ⟨by omega, h2, fun m hm z => ?_, h4⟩, h5, h6⟩
    rcases (show m < k ∨ m = k by omega) with q | rfl
    · exact h3 m q z
    · rw [h5] at hk
      rcases Nat.lt_or_ge (totN m) (totN row) with y | y
      · exact absurd hk (nI_ge y (by have := tot_le (show row < 10000 by omega); omega))
      · exact y
theorem nst_lt {g : Nat → Nat} {l r k : Nat} {f e : Int32} (hk2 : k < 10000) (h : nst g l r k f e) (ho : okN g l r k) (hk : ¬ f ≤ nI (totN k)) : nst g l r (k + 1) (nI (totN k)) (nI k) := by
  have ht := tot_le hk2
  have key : ∀ m, m < k → okN g l r m → totN k < totN m := by
    intro m hm z
    rcases h with ⟨h1, h2, h3⟩ | ⟨row, ⟨h1, h2, h3, h4⟩, h5, h6⟩
    · exact absurd z (h1 m hm)
    · rw [h5] at hk
      have y1 := h3 m hm z
      rcases Nat.lt_or_ge (totN k) (totN row) with y | y
      · omega
      · exact absurd (nI_le y (by omega)) hk
  refine Or.inr ⟨k, ⟨by omega, ho, fun m hm z => ?_, key⟩, rfl, rfl⟩
  rcases (show m < k ∨ m = k by omega) with q | rfl
  · exact Nat.le_of_lt (key m q z)
  · exact Nat.le_refl _
theorem ok_9999 (g : Nat → Nat) {l r : Nat} (hl : l ≤ 9) (hr : r ≤ 9) : okN g l r 9999 := by
  unfold okN
  rw [show dg 9999 0 = 9 from rfl, show dg 9999 1 = 9 from rfl, show dg 9999 2 = 9 from rfl, show dg 9999 3 = 9 from rfl]
  omega
set_option maxRecDepth 20000 in
set_option maxHeartbeats 2000000 in
theorem m_glovesBy (l9 : Launch) (G : WT) {d : Nat} (hd : 1 ≤ d) (h : HP) {g : Nat → Nat} (hg : ∀ k, k < 4 → h.1 (3, 0, 1) (43 + k) = nI (g k)) (hg9 : ∀ k, k < 4 → g k ≤ 9) {row k : Nat} (hrow : row < 10000) (hk : k < 4) : MS l9 G yX7_glovesBy cX7_glovesBy 4 (some .int) d [vr (3, 0, 0), vi (nI row), vi (nI k)] h (fun r h1 => h1 = h ∧ r = some (vi (nI (g k + dg row k)))) := by
  refine MS_of (by decide +kernel) (Nat.le_of_ble_eq_true rfl) (fun X hC hX => ?_)
  show V X G 4 0 _ [] _
  refine v_iload_n hC (pc := 0) (k := 2) 2 rfl dX7_glovesBy_0 ?_
  refine v_if_ne hC (pc := 1) (tgt := 12) dX7_glovesBy_1 (by decide) (fun c_1 => ?_) (fun c_1 => ?_)
  · skip
    refine v_iload_n hC (pc := 12) (k := 2) 2 rfl dX7_glovesBy_12 ?_
    refine v_iconst hC (pc := 13) (v := 1) (by decide) dX7_glovesBy_13 ?_
    refine v_icmp_ne hC (pc := 14) (tgt := 27) dX7_glovesBy_14 (by decide) (fun c_14 => ?_) (fun c_14 => ?_)
    · skip
      refine v_iload_n hC (pc := 27) (k := 2) 2 rfl dX7_glovesBy_27 ?_
      refine v_iconst hC (pc := 28) (v := 2) (by decide) dX7_glovesBy_28 ?_
      refine v_icmp_ne hC (pc := 29) (tgt := 42) dX7_glovesBy_29 (by decide) (fun c_29 => ?_) (fun c_29 => ?_)
      · skip
        have hk0 : k = 3 := by
          have q0 : ¬ k = 0 := fun z => c_1 (by rw [z]; rfl)
          have q1 : ¬ k = 1 := fun z => c_14 (by rw [z]; rfl)
          have q2 : ¬ k = 2 := fun z => c_29 (by rw [z]; rfl)
          omega
        refine v_iload_n hC (pc := 42) (k := 1) 1 rfl dX7_glovesBy_42 ?_
        refine v_bipush hC (pc := 43) (v := 10) (by decide +kernel) dX7_glovesBy_43 ?_
        refine v_irem hC (pc := 45) (by decide) dX7_glovesBy_45 ?_
        try rw [show (10 : Int32) = nI 10 from rfl, pk_rem (show row < 2 ^ 31 by omega) (by decide) (by decide)]
        refine v_istore_n hC (pc := 46) (l' := [(3, _), (0, _), (1, _), (2, _)]) dX7_glovesBy_46 (by decide) rfl ?_
        refine v_aload_n hC (pc := 47) (k := 0) 1 rfl dX7_glovesBy_47 ?_
        refine v_getR hC (pc := 48) dX7_glovesBy_48 fl_X7_7 rfl (by first | rfl | exact ok_c hq rfl | exact ok_w hq hw | exact ok_w (by omega) (by omega) | exact ok_s (by omega) (by omega) | exact ok_c (by omega) rfl | assumption) rfl (by decide) (by decide) rfl ?_
        refine v_bipush hC (pc := 51) (v := 43) (by decide +kernel) dX7_glovesBy_51 ?_
        refine v_iload_n hC (pc := 53) (k := 2) 3 rfl dX7_glovesBy_53 ?_
        refine v_iadd hC (pc := 54) dX7_glovesBy_54 ?_
        rw [show (43 : Int32) = nI 43 from rfl, nI_add]
        refine v_iald hC (pc := 55) dX7_glovesBy_55 rfl (by first | rfl | exact ok_c hq rfl | exact ok_w hq hw | exact ok_w (by omega) (by omega) | exact ok_s (by omega) (by omega) | exact ok_c (by omega) rfl | assumption) (vp_nat (n := 43 + k) (by omega) (by decide)) ?_
        rw [nI_clamp (show 43 + k < 2 ^ 31 by omega)]
        show V X G 4 56 _ (vi (h.1 (3, 0, 1) (43 + k)) :: _) _
        rw [hg k hk]
        refine v_iload_n hC (pc := 56) (k := 3) 0 rfl dX7_glovesBy_56 ?_
        refine v_iadd hC (pc := 57) dX7_glovesBy_57 ?_
        rw [nI_add]
        refine v_iret hC hX (pc := 58) dX7_glovesBy_58 ?_
        refine ⟨rfl, ?_⟩
        subst hk0
        rfl
      · skip
        have hk0 : k = 2 := (nI_eq (by omega) (by decide)).mp c_29
        refine v_iload_n hC (pc := 32) (k := 1) 1 rfl dX7_glovesBy_32 ?_
        refine v_bipush hC (pc := 33) (v := 10) (by decide +kernel) dX7_glovesBy_33 ?_
        refine v_idiv hC (pc := 35) (by decide) dX7_glovesBy_35 ?_
        rw [show (10 : Int32) = nI 10 from rfl, pk_div (show row < 2 ^ 31 by omega) (by decide) (by decide)]
        refine v_bipush hC (pc := 36) (v := 10) (by decide +kernel) dX7_glovesBy_36 ?_
        refine v_irem hC (pc := 38) (by decide) dX7_glovesBy_38 ?_
        rw [show (10 : Int32) = nI 10 from rfl, pk_rem (show row / 10 < 2 ^ 31 by omega) (by decide) (by decide)]
        refine v_goto hC (pc := 39) (tgt := 46) dX7_glovesBy_39 (by decide) ?_
        try rw [show (10 : Int32) = nI 10 from rfl, pk_rem (show row < 2 ^ 31 by omega) (by decide) (by decide)]
        refine v_istore_n hC (pc := 46) (l' := [(3, _), (0, _), (1, _), (2, _)]) dX7_glovesBy_46 (by decide) rfl ?_
        refine v_aload_n hC (pc := 47) (k := 0) 1 rfl dX7_glovesBy_47 ?_
        refine v_getR hC (pc := 48) dX7_glovesBy_48 fl_X7_7 rfl (by first | rfl | exact ok_c hq rfl | exact ok_w hq hw | exact ok_w (by omega) (by omega) | exact ok_s (by omega) (by omega) | exact ok_c (by omega) rfl | assumption) rfl (by decide) (by decide) rfl ?_
        refine v_bipush hC (pc := 51) (v := 43) (by decide +kernel) dX7_glovesBy_51 ?_
        refine v_iload_n hC (pc := 53) (k := 2) 3 rfl dX7_glovesBy_53 ?_
        refine v_iadd hC (pc := 54) dX7_glovesBy_54 ?_
        rw [show (43 : Int32) = nI 43 from rfl, nI_add]
        refine v_iald hC (pc := 55) dX7_glovesBy_55 rfl (by first | rfl | exact ok_c hq rfl | exact ok_w hq hw | exact ok_w (by omega) (by omega) | exact ok_s (by omega) (by omega) | exact ok_c (by omega) rfl | assumption) (vp_nat (n := 43 + k) (by omega) (by decide)) ?_
        rw [nI_clamp (show 43 + k < 2 ^ 31 by omega)]
        show V X G 4 56 _ (vi (h.1 (3, 0, 1) (43 + k)) :: _) _
        rw [hg k hk]
        refine v_iload_n hC (pc := 56) (k := 3) 0 rfl dX7_glovesBy_56 ?_
        refine v_iadd hC (pc := 57) dX7_glovesBy_57 ?_
        rw [nI_add]
        refine v_iret hC hX (pc := 58) dX7_glovesBy_58 ?_
        refine ⟨rfl, ?_⟩
        subst hk0
        rfl
    · skip
      have hk0 : k = 1 := (nI_eq (by omega) (by decide)).mp c_14
      refine v_iload_n hC (pc := 17) (k := 1) 1 rfl dX7_glovesBy_17 ?_
      refine v_bipush hC (pc := 18) (v := 100) (by decide +kernel) dX7_glovesBy_18 ?_
      refine v_idiv hC (pc := 20) (by decide) dX7_glovesBy_20 ?_
      rw [show (100 : Int32) = nI 100 from rfl, pk_div (show row < 2 ^ 31 by omega) (by decide) (by decide)]
      refine v_bipush hC (pc := 21) (v := 10) (by decide +kernel) dX7_glovesBy_21 ?_
      refine v_irem hC (pc := 23) (by decide) dX7_glovesBy_23 ?_
      rw [show (10 : Int32) = nI 10 from rfl, pk_rem (show row / 100 < 2 ^ 31 by omega) (by decide) (by decide)]
      refine v_goto hC (pc := 24) (tgt := 46) dX7_glovesBy_24 (by decide) ?_
      try rw [show (10 : Int32) = nI 10 from rfl, pk_rem (show row < 2 ^ 31 by omega) (by decide) (by decide)]
      refine v_istore_n hC (pc := 46) (l' := [(3, _), (0, _), (1, _), (2, _)]) dX7_glovesBy_46 (by decide) rfl ?_
      refine v_aload_n hC (pc := 47) (k := 0) 1 rfl dX7_glovesBy_47 ?_
      refine v_getR hC (pc := 48) dX7_glovesBy_48 fl_X7_7 rfl (by first | rfl | exact ok_c hq rfl | exact ok_w hq hw | exact ok_w (by omega) (by omega) | exact ok_s (by omega) (by omega) | exact ok_c (by omega) rfl | assumption) rfl (by decide) (by decide) rfl ?_
      refine v_bipush hC (pc := 51) (v := 43) (by decide +kernel) dX7_glovesBy_51 ?_
      refine v_iload_n hC (pc := 53) (k := 2) 3 rfl dX7_glovesBy_53 ?_
      refine v_iadd hC (pc := 54) dX7_glovesBy_54 ?_
      rw [show (43 : Int32) = nI 43 from rfl, nI_add]
      refine v_iald hC (pc := 55) dX7_glovesBy_55 rfl (by first | rfl | exact ok_c hq rfl | exact ok_w hq hw | exact ok_w (by omega) (by omega) | exact ok_s (by omega) (by omega) | exact ok_c (by omega) rfl | assumption) (vp_nat (n := 43 + k) (by omega) (by decide)) ?_
      rw [nI_clamp (show 43 + k < 2 ^ 31 by omega)]
      show V X G 4 56 _ (vi (h.1 (3, 0, 1) (43 + k)) :: _) _
      rw [hg k hk]
      refine v_iload_n hC (pc := 56) (k := 3) 0 rfl dX7_glovesBy_56 ?_
      refine v_iadd hC (pc := 57) dX7_glovesBy_57 ?_
      rw [nI_add]
      refine v_iret hC hX (pc := 58) dX7_glovesBy_58 ?_
      refine ⟨rfl, ?_⟩
      subst hk0
      rfl
  · skip
    have hk0 : k = 0 := nI_z c_1 (by omega)
    refine v_iload_n hC (pc := 4) (k := 1) 1 rfl dX7_glovesBy_4 ?_
    refine v_sipush hC (pc := 5) (v := 1000) (by decide +kernel) dX7_glovesBy_5 ?_
    refine v_idiv hC (pc := 8) (by decide) dX7_glovesBy_8 ?_
    rw [show (1000 : Int32) = nI 1000 from rfl, pk_div (show row < 2 ^ 31 by omega) (by decide) (by decide)]
    refine v_goto hC (pc := 9) (tgt := 46) dX7_glovesBy_9 (by decide) ?_
    try rw [show (10 : Int32) = nI 10 from rfl, pk_rem (show row < 2 ^ 31 by omega) (by decide) (by decide)]
    refine v_istore_n hC (pc := 46) (l' := [(3, _), (0, _), (1, _), (2, _)]) dX7_glovesBy_46 (by decide) rfl ?_
    refine v_aload_n hC (pc := 47) (k := 0) 1 rfl dX7_glovesBy_47 ?_
    refine v_getR hC (pc := 48) dX7_glovesBy_48 fl_X7_7 rfl (by first | rfl | exact ok_c hq rfl | exact ok_w hq hw | exact ok_w (by omega) (by omega) | exact ok_s (by omega) (by omega) | exact ok_c (by omega) rfl | assumption) rfl (by decide) (by decide) rfl ?_
    refine v_bipush hC (pc := 51) (v := 43) (by decide +kernel) dX7_glovesBy_51 ?_
    refine v_iload_n hC (pc := 53) (k := 2) 3 rfl dX7_glovesBy_53 ?_
    refine v_iadd hC (pc := 54) dX7_glovesBy_54 ?_
    rw [show (43 : Int32) = nI 43 from rfl, nI_add]
    refine v_iald hC (pc := 55) dX7_glovesBy_55 rfl (by first | rfl | exact ok_c hq rfl | exact ok_w hq hw | exact ok_w (by omega) (by omega) | exact ok_s (by omega) (by omega) | exact ok_c (by omega) rfl | assumption) (vp_nat (n := 43 + k) (by omega) (by decide)) ?_
    rw [nI_clamp (show 43 + k < 2 ^ 31 by omega)]
    show V X G 4 56 _ (vi (h.1 (3, 0, 1) (43 + k)) :: _) _
    rw [hg k hk]
    refine v_iload_n hC (pc := 56) (k := 3) 0 rfl dX7_glovesBy_56 ?_
    refine v_iadd hC (pc := 57) dX7_glovesBy_57 ?_
    rw [nI_add]
    refine v_iret hC hX (pc := 58) dX7_glovesBy_58 ?_
    refine ⟨rfl, ?_⟩
    subst hk0
    rfl

set_option maxRecDepth 20000 in
set_option maxHeartbeats 2000000 in
theorem m_needs_ok (l9 : Launch) (G : WT) {d : Nat} (hd : 3 ≤ d) (h : HP) {g : Nat → Nat} (hg : ∀ k, k < 4 → h.1 (3, 0, 1) (43 + k) = nI (g k)) (hg9 : ∀ k, k < 4 → g k ≤ 9) {l r0 x : Nat} (hl : l ≤ 9) (hr0 : r0 ≤ 9) (hx : x < 2) : MS l9 G yX7_needs cX7_needs 10 (some .int) d [vr (3, 0, 0), vi (nI l), vi (nI r0), vi (nI x)] h (fun r h1 => h1 = h ∧ ∃ row, bstN g l r0 10000 row ∧ r = some (vi (if x = 0 then nI (totN row) else nI row))) := by
  refine MS_of (by decide +kernel) (Nat.le_of_ble_eq_true rfl) (fun X hC hX => ?_)
  show V X G 10 0 _ [] _
  have loop : ∀ (n k : Nat) (fe fo : Int32), k ≤ 10000 → 10001 ≤ k + n → nst g l r0 k fe fo → V X G 10 45 [(6, vi (nI k)), (5, vi fo), (4, vi fe), (0, vr (3, 0, 0)), (1, vi (nI l)), (2, vi (nI r0)), (3, vi (nI x))] [] h := by
    intro n
    induction n with
    | zero => intro k fe fo h1 h2; exact absurd h2 (by omega)
    | succ n ih =>
      intro k fe fo h1 h2 hst
      refine v_iload hC (pc := 45) 0 rfl dX7_needs_45 ?_
      refine v_sipush hC (pc := 47) (v := 10000) (by decide +kernel) dX7_needs_47 ?_
      refine v_icmp_ge hC (pc := 50) (tgt := 233) dX7_needs_50 (by decide) (fun c_50 => ?_) (fun c_50 => ?_)
      · skip
        have hk0 : k = 10000 := lp_ex (N := 10000) c_50 h1 (by decide)
        subst hk0
        refine v_iload_n hC (pc := 233) (k := 3) 6 rfl dX7_needs_233 ?_
        refine v_if_ne hC (pc := 234) (tgt := 242) dX7_needs_234 (by decide) (fun c_234 => ?_) (fun c_234 => ?_)
        · skip
          refine v_iload hC (pc := 242) 1 rfl dX7_needs_242 ?_
          refine v_iret hC hX (pc := 244) dX7_needs_244 ?_
          refine ⟨rfl, ?_⟩
          rcases hst with ⟨y, _⟩ | ⟨row, y1, y2, y3⟩
          · exact absurd (ok_9999 g hl hr0) (y 9999 (by decide))
          · refine ⟨row, y1, ?_⟩
            first | rw [if_pos (nI_z c_234 (by omega)), y2] | rw [if_neg (fun z => c_234 (by rw [z]; rfl)), y3]
        · skip
          refine v_iload hC (pc := 237) 2 rfl dX7_needs_237 ?_
          refine v_goto hC (pc := 239) (tgt := 244) dX7_needs_239 (by decide) ?_
          refine v_iret hC hX (pc := 244) dX7_needs_244 ?_
          refine ⟨rfl, ?_⟩
          rcases hst with ⟨y, _⟩ | ⟨row, y1, y2, y3⟩
          · exact absurd (ok_9999 g hl hr0) (y 9999 (by decide))
          · refine ⟨row, y1, ?_⟩
            first | rw [if_pos (nI_z c_234 (by omega)), y2] | rw [if_neg (fun z => c_234 (by rw [z]; rfl)), y3]
      · skip
        have hk : k < 10000 := lp_in (N := 10000) c_50 h1 (by decide)
        refine v_iload hC (pc := 53) 0 rfl dX7_needs_53 ?_
        refine v_sipush hC (pc := 55) (v := 1000) (by decide +kernel) dX7_needs_55 ?_
        refine v_idiv hC (pc := 58) (by decide) dX7_needs_58 ?_
        rw [show (1000 : Int32) = nI 1000 from rfl, pk_div (show k < 2 ^ 31 by omega) (by decide) (by decide)]
        refine v_iload hC (pc := 59) 0 rfl dX7_needs_59 ?_
        refine v_bipush hC (pc := 61) (v := 100) (by decide +kernel) dX7_needs_61 ?_
        refine v_idiv hC (pc := 63) (by decide) dX7_needs_63 ?_
        rw [show (100 : Int32) = nI 100 from rfl, pk_div (show k < 2 ^ 31 by omega) (by decide) (by decide)]
        refine v_bipush hC (pc := 64) (v := 10) (by decide +kernel) dX7_needs_64 ?_
        refine v_irem hC (pc := 66) (by decide) dX7_needs_66 ?_
        rw [show (10 : Int32) = nI 10 from rfl, pk_rem (show k / 100 < 2 ^ 31 by omega) (by decide) (by decide)]
        refine v_iadd hC (pc := 67) dX7_needs_67 ?_
        refine v_iload hC (pc := 68) 0 rfl dX7_needs_68 ?_
        refine v_bipush hC (pc := 70) (v := 10) (by decide +kernel) dX7_needs_70 ?_
        refine v_idiv hC (pc := 72) (by decide) dX7_needs_72 ?_
        rw [show (10 : Int32) = nI 10 from rfl, pk_div (show k < 2 ^ 31 by omega) (by decide) (by decide)]
        refine v_bipush hC (pc := 73) (v := 10) (by decide +kernel) dX7_needs_73 ?_
        refine v_irem hC (pc := 75) (by decide) dX7_needs_75 ?_
        rw [show (10 : Int32) = nI 10 from rfl, pk_rem (show k / 10 < 2 ^ 31 by omega) (by decide) (by decide)]
        refine v_iadd hC (pc := 76) dX7_needs_76 ?_
        refine v_iload hC (pc := 77) 0 rfl dX7_needs_77 ?_
        refine v_bipush hC (pc := 79) (v := 10) (by decide +kernel) dX7_needs_79 ?_
        refine v_irem hC (pc := 81) (by decide) dX7_needs_81 ?_
        rw [show (10 : Int32) = nI 10 from rfl, pk_rem (show k < 2 ^ 31 by omega) (by decide) (by decide)]
        refine v_iadd hC (pc := 82) dX7_needs_82 ?_
        rw [nI_add, nI_add, nI_add, show k / 1000 + k / 100 % 10 + k / 10 % 10 + k % 10 = totN k from rfl]
        refine v_istore hC (pc := 83) (l' := [(7, _), (6, _), (5, _), (4, _), (0, _), (1, _), (2, _), (3, _)]) dX7_needs_83 (by decide) rfl ?_
        refine v_aload_n hC (pc := 85) (k := 0) 4 rfl dX7_needs_85 ?_
        refine v_iload hC (pc := 86) 1 rfl dX7_needs_86 ?_
        refine v_iconst hC (pc := 88) (v := 0) (by decide) dX7_needs_88 ?_
        refine v_callV hC (pc := 89) (As := [_, _]) dX7_needs_89 rfl (m_glovesBy _ _ (d := d - 1) (by omega) _ hg hg9 (row := k) (k := 0) hk (by decide)) cv_X7_280 rfl (by decide) rfl (by first | rfl | exact ok_c hq rfl | exact ok_w hq hw | exact ok_w (by omega) (by omega) | exact ok_s (by omega) (by omega) | exact ok_c (by omega) rfl | assumption) (Nat.le_of_ble_eq_true rfl) (by omega) (fun r h' hr => ?_)
        obtain ⟨he9, rfl⟩ := hr
        rw [he9]
        clear he9 h'
        show V _ _ _ (89 + 3) _ (_ :: _) _
        refine v_aload_n hC (pc := 92) (k := 0) 4 rfl dX7_needs_92 ?_
        refine v_iload hC (pc := 93) 1 rfl dX7_needs_93 ?_
        refine v_iconst hC (pc := 95) (v := 2) (by decide) dX7_needs_95 ?_
        refine v_callV hC (pc := 96) (As := [_, _]) dX7_needs_96 rfl (m_glovesBy _ _ (d := d - 1) (by omega) _ hg hg9 (row := k) (k := 2) hk (by decide)) cv_X7_280 rfl (by decide) rfl (by first | rfl | exact ok_c hq rfl | exact ok_w hq hw | exact ok_w (by omega) (by omega) | exact ok_s (by omega) (by omega) | exact ok_c (by omega) rfl | assumption) (Nat.le_of_ble_eq_true rfl) (by omega) (fun r h' hr => ?_)
        obtain ⟨he9, rfl⟩ := hr
        rw [he9]
        clear he9 h'
        show V _ _ _ (96 + 3) _ (_ :: _) _
        refine v_iadd hC (pc := 99) dX7_needs_99 ?_
        rw [nI_add]
        refine v_iload_n hC (pc := 100) (k := 1) 5 rfl dX7_needs_100 ?_
        refine v_icmp_lt hC (pc := 101) (tgt := 127) dX7_needs_101 (by decide) (fun c_101 => ?_) (fun c_101 => ?_)
        · skip
          have q9a := dg_le hk 0
          have q9b := dg_le hk 2
          have q9c := hg9 0 (by decide)
          have q9d := hg9 2 (by decide)
          have hno : ¬ okN g l r0 k := fun z => absurd c_101 (nI_ge2 z.1 (by omega))
          refine v_iconst hC (pc := 127) (v := 0) (by decide) dX7_needs_127 ?_
          refine v_istore hC (pc := 128) (l' := [(8, _), (7, _), (6, _), (5, _), (4, _), (0, _), (1, _), (2, _), (3, _)]) dX7_needs_128 (by decide) rfl ?_
          refine v_aload_n hC (pc := 130) (k := 0) 5 rfl dX7_needs_130 ?_
          refine v_iload hC (pc := 131) 2 rfl dX7_needs_131 ?_
          refine v_iconst hC (pc := 133) (v := 1) (by decide) dX7_needs_133 ?_
          refine v_callV hC (pc := 134) (As := [_, _]) dX7_needs_134 rfl (m_glovesBy _ _ (d := d - 1) (by omega) _ hg hg9 (row := k) (k := 1) hk (by decide)) cv_X7_280 rfl (by decide) rfl (by first | rfl | exact ok_c hq rfl | exact ok_w hq hw | exact ok_w (by omega) (by omega) | exact ok_s (by omega) (by omega) | exact ok_c (by omega) rfl | assumption) (Nat.le_of_ble_eq_true rfl) (by omega) (fun r h' hr => ?_)
          obtain ⟨he9, rfl⟩ := hr
          rw [he9]
          clear he9 h'
          show V _ _ _ (134 + 3) _ (_ :: _) _
          refine v_aload_n hC (pc := 137) (k := 0) 5 rfl dX7_needs_137 ?_
          refine v_iload hC (pc := 138) 2 rfl dX7_needs_138 ?_
          refine v_iconst hC (pc := 140) (v := 3) (by decide) dX7_needs_140 ?_
          refine v_callV hC (pc := 141) (As := [_, _]) dX7_needs_141 rfl (m_glovesBy _ _ (d := d - 1) (by omega) _ hg hg9 (row := k) (k := 3) hk (by decide)) cv_X7_280 rfl (by decide) rfl (by first | rfl | exact ok_c hq rfl | exact ok_w hq hw | exact ok_w (by omega) (by omega) | exact ok_s (by omega) (by omega) | exact ok_c (by omega) rfl | assumption) (Nat.le_of_ble_eq_true rfl) (by omega) (fun r h' hr => ?_)
          obtain ⟨he9, rfl⟩ := hr
          rw [he9]
          clear he9 h'
          show V _ _ _ (141 + 3) _ (_ :: _) _
          refine v_iadd hC (pc := 144) dX7_needs_144 ?_
          rw [nI_add]
          refine v_iload_n hC (pc := 145) (k := 2) 7 rfl dX7_needs_145 ?_
          refine v_icmp_lt hC (pc := 146) (tgt := 172) dX7_needs_146 (by decide) (fun c_146 => ?_) (fun c_146 => ?_)
          · skip
            have q9a := dg_le hk 1
            have q9b := dg_le hk 3
            have q9c := hg9 1 (by decide)
            have q9d := hg9 3 (by decide)
            have hno : ¬ okN g l r0 k := fun z => absurd c_146 (nI_ge2 z.2.2.1 (by omega))
            refine v_iconst hC (pc := 172) (v := 0) (by decide) dX7_needs_172 ?_
            refine v_istore hC (pc := 173) (l' := [(9, _), (8, _), (7, _), (6, _), (5, _), (4, _), (0, _), (1, _), (2, _), (3, _)]) dX7_needs_173 (by decide) rfl ?_
            refine v_iload hC (pc := 175) 1 rfl dX7_needs_175 ?_
            refine v_if_eq hC (pc := 177) (tgt := 197) dX7_needs_177 (by decide) (fun c_177 => ?_) (fun c_177 => ?_)
            · skip
              refine v_iload hC (pc := 197) 4 rfl dX7_needs_197 ?_
              refine v_istore hC (pc := 199) (l' := [(5, _), (9, _), (8, _), (7, _), (6, _), (4, _), (0, _), (1, _), (2, _), (3, _)]) dX7_needs_199 (by decide) rfl ?_
              refine v_iload hC (pc := 201) 2 rfl dX7_needs_201 ?_
              refine v_if_eq hC (pc := 203) (tgt := 223) dX7_needs_203 (by decide) (fun c_203 => ?_) (fun c_203 => ?_)
              · skip
                refine v_iload hC (pc := 223) 5 rfl dX7_needs_223 ?_
                refine v_istore hC (pc := 225) (l' := [(4, _), (5, _), (9, _), (8, _), (7, _), (6, _), (0, _), (1, _), (2, _), (3, _)]) dX7_needs_225 (by decide) rfl ?_
                refine v_iinc hC (pc := 227) (l' := [(6, _), (4, _), (5, _), (9, _), (8, _), (7, _), (0, _), (1, _), (2, _), (3, _)]) 5 (v := nI (k + 1)) dX7_needs_227 rfl (nI_inc k) (by decide) rfl ?_
                refine v_goto hC (pc := 230) (tgt := 45) dX7_needs_230 (by decide) ?_
                refine v_loc (l' := [(6, _), (5, _), (4, _), (0, _), (1, _), (2, _), (3, _)]) [0, 2, 1, 6, 7, 8, 9] rfl ?_
                first | exact ih (k + 1) _ _ (by omega) (by omega) (nst_no hst hno) | exact ih (k + 1) _ _ (by omega) (by omega) (nst_lt hk hst ⟨o101, o120, o146, o165⟩ c_189) | exact ih (k + 1) _ _ (by omega) (by omega) (nst_ge hk hst c_189) | exact absurd c_215 c_189 | exact absurd c_189 c_215
              · exact absurd c_203 (by decide)
            · exact absurd c_177 (by decide)
          · skip
            have q9a := dg_le hk 1
            have q9b := dg_le hk 3
            have q9c := hg9 1 (by decide)
            have q9d := hg9 3 (by decide)
            have o146 : r0 ≤ (g 1 + dg k 1) + (g 3 + dg k 3) := lp_ngt c_146 (by omega) (by omega)
            refine v_aload_n hC (pc := 149) (k := 0) 5 rfl dX7_needs_149 ?_
            refine v_iload hC (pc := 150) 2 rfl dX7_needs_150 ?_
            refine v_iconst hC (pc := 152) (v := 0) (by decide) dX7_needs_152 ?_
            refine v_callV hC (pc := 153) (As := [_, _]) dX7_needs_153 rfl (m_glovesBy _ _ (d := d - 1) (by omega) _ hg hg9 (row := k) (k := 0) hk (by decide)) cv_X7_280 rfl (by decide) rfl (by first | rfl | exact ok_c hq rfl | exact ok_w hq hw | exact ok_w (by omega) (by omega) | exact ok_s (by omega) (by omega) | exact ok_c (by omega) rfl | assumption) (Nat.le_of_ble_eq_true rfl) (by omega) (fun r h' hr => ?_)
            obtain ⟨he9, rfl⟩ := hr
            rw [he9]
            clear he9 h'
            show V _ _ _ (153 + 3) _ (_ :: _) _
            refine v_aload_n hC (pc := 156) (k := 0) 5 rfl dX7_needs_156 ?_
            refine v_iload hC (pc := 157) 2 rfl dX7_needs_157 ?_
            refine v_iconst hC (pc := 159) (v := 3) (by decide) dX7_needs_159 ?_
            refine v_callV hC (pc := 160) (As := [_, _]) dX7_needs_160 rfl (m_glovesBy _ _ (d := d - 1) (by omega) _ hg hg9 (row := k) (k := 3) hk (by decide)) cv_X7_280 rfl (by decide) rfl (by first | rfl | exact ok_c hq rfl | exact ok_w hq hw | exact ok_w (by omega) (by omega) | exact ok_s (by omega) (by omega) | exact ok_c (by omega) rfl | assumption) (Nat.le_of_ble_eq_true rfl) (by omega) (fun r h' hr => ?_)
            obtain ⟨he9, rfl⟩ := hr
            rw [he9]
            clear he9 h'
            show V _ _ _ (160 + 3) _ (_ :: _) _
            refine v_iadd hC (pc := 163) dX7_needs_163 ?_
            rw [nI_add]
            refine v_iload_n hC (pc := 164) (k := 2) 7 rfl dX7_needs_164 ?_
            refine v_icmp_lt hC (pc := 165) (tgt := 172) dX7_needs_165 (by decide) (fun c_165 => ?_) (fun c_165 => ?_)
            · skip
              have q9a := dg_le hk 0
              have q9b := dg_le hk 3
              have q9c := hg9 0 (by decide)
              have q9d := hg9 3 (by decide)
              have hno : ¬ okN g l r0 k := fun z => absurd c_165 (nI_ge2 z.2.2.2 (by omega))
              refine v_iconst hC (pc := 172) (v := 0) (by decide) dX7_needs_172 ?_
              refine v_istore hC (pc := 173) (l' := [(9, _), (8, _), (7, _), (6, _), (5, _), (4, _), (0, _), (1, _), (2, _), (3, _)]) dX7_needs_173 (by decide) rfl ?_
              refine v_iload hC (pc := 175) 1 rfl dX7_needs_175 ?_
              refine v_if_eq hC (pc := 177) (tgt := 197) dX7_needs_177 (by decide) (fun c_177 => ?_) (fun c_177 => ?_)
              · skip
                refine v_iload hC (pc := 197) 4 rfl dX7_needs_197 ?_
                refine v_istore hC (pc := 199) (l' := [(5, _), (9, _), (8, _), (7, _), (6, _), (4, _), (0, _), (1, _), (2, _), (3, _)]) dX7_needs_199 (by decide) rfl ?_
                refine v_iload hC (pc := 201) 2 rfl dX7_needs_201 ?_
                refine v_if_eq hC (pc := 203) (tgt := 223) dX7_needs_203 (by decide) (fun c_203 => ?_) (fun c_203 => ?_)
                · skip
                  refine v_iload hC (pc := 223) 5 rfl dX7_needs_223 ?_
                  refine v_istore hC (pc := 225) (l' := [(4, _), (5, _), (9, _), (8, _), (7, _), (6, _), (0, _), (1, _), (2, _), (3, _)]) dX7_needs_225 (by decide) rfl ?_
                  refine v_iinc hC (pc := 227) (l' := [(6, _), (4, _), (5, _), (9, _), (8, _), (7, _), (0, _), (1, _), (2, _), (3, _)]) 5 (v := nI (k + 1)) dX7_needs_227 rfl (nI_inc k) (by decide) rfl ?_
                  refine v_goto hC (pc := 230) (tgt := 45) dX7_needs_230 (by decide) ?_
                  refine v_loc (l' := [(6, _), (5, _), (4, _), (0, _), (1, _), (2, _), (3, _)]) [0, 2, 1, 6, 7, 8, 9] rfl ?_
                  first | exact ih (k + 1) _ _ (by omega) (by omega) (nst_no hst hno) | exact ih (k + 1) _ _ (by omega) (by omega) (nst_lt hk hst ⟨o101, o120, o146, o165⟩ c_189) | exact ih (k + 1) _ _ (by omega) (by omega) (nst_ge hk hst c_189) | exact absurd c_215 c_189 | exact absurd c_189 c_215
                · exact absurd c_203 (by decide)
              · exact absurd c_177 (by decide)
            · skip
              have q9a := dg_le hk 0
              have q9b := dg_le hk 3
              have q9c := hg9 0 (by decide)
              have q9d := hg9 3 (by decide)
              have o165 : r0 ≤ (g 0 + dg k 0) + (g 3 + dg k 3) := lp_ngt c_165 (by omega) (by omega)
              refine v_iconst hC (pc := 168) (v := 1) (by decide) dX7_needs_168 ?_
              refine v_goto hC (pc := 169) (tgt := 173) dX7_needs_169 (by decide) ?_
              refine v_istore hC (pc := 173) (l' := [(9, _), (8, _), (7, _), (6, _), (5, _), (4, _), (0, _), (1, _), (2, _), (3, _)]) dX7_needs_173 (by decide) rfl ?_
              refine v_iload hC (pc := 175) 1 rfl dX7_needs_175 ?_
              refine v_if_eq hC (pc := 177) (tgt := 197) dX7_needs_177 (by decide) (fun c_177 => ?_) (fun c_177 => ?_)
              · skip
                refine v_iload hC (pc := 197) 4 rfl dX7_needs_197 ?_
                refine v_istore hC (pc := 199) (l' := [(5, _), (9, _), (8, _), (7, _), (6, _), (4, _), (0, _), (1, _), (2, _), (3, _)]) dX7_needs_199 (by decide) rfl ?_
                refine v_iload hC (pc := 201) 2 rfl dX7_needs_201 ?_
                refine v_if_eq hC (pc := 203) (tgt := 223) dX7_needs_203 (by decide) (fun c_203 => ?_) (fun c_203 => ?_)
                · skip
                  refine v_iload hC (pc := 223) 5 rfl dX7_needs_223 ?_
                  refine v_istore hC (pc := 225) (l' := [(4, _), (5, _), (9, _), (8, _), (7, _), (6, _), (0, _), (1, _), (2, _), (3, _)]) dX7_needs_225 (by decide) rfl ?_
                  refine v_iinc hC (pc := 227) (l' := [(6, _), (4, _), (5, _), (9, _), (8, _), (7, _), (0, _), (1, _), (2, _), (3, _)]) 5 (v := nI (k + 1)) dX7_needs_227 rfl (nI_inc k) (by decide) rfl ?_
                  refine v_goto hC (pc := 230) (tgt := 45) dX7_needs_230 (by decide) ?_
                  refine v_loc (l' := [(6, _), (5, _), (4, _), (0, _), (1, _), (2, _), (3, _)]) [0, 2, 1, 6, 7, 8, 9] rfl ?_
                  first | exact ih (k + 1) _ _ (by omega) (by omega) (nst_no hst hno) | exact ih (k + 1) _ _ (by omega) (by omega) (nst_lt hk hst ⟨o101, o120, o146, o165⟩ c_189) | exact ih (k + 1) _ _ (by omega) (by omega) (nst_ge hk hst c_189) | exact absurd c_215 c_189 | exact absurd c_189 c_215
                · exact absurd c_203 (by decide)
              · exact absurd c_177 (by decide)
        · skip
          have q9a := dg_le hk 0
          have q9b := dg_le hk 2
          have q9c := hg9 0 (by decide)
          have q9d := hg9 2 (by decide)
          have o101 : l ≤ (g 0 + dg k 0) + (g 2 + dg k 2) := lp_ngt c_101 (by omega) (by omega)
          refine v_aload_n hC (pc := 104) (k := 0) 4 rfl dX7_needs_104 ?_
          refine v_iload hC (pc := 105) 1 rfl dX7_needs_105 ?_
          refine v_iconst hC (pc := 107) (v := 1) (by decide) dX7_needs_107 ?_
          refine v_callV hC (pc := 108) (As := [_, _]) dX7_needs_108 rfl (m_glovesBy _ _ (d := d - 1) (by omega) _ hg hg9 (row := k) (k := 1) hk (by decide)) cv_X7_280 rfl (by decide) rfl (by first | rfl | exact ok_c hq rfl | exact ok_w hq hw | exact ok_w (by omega) (by omega) | exact ok_s (by omega) (by omega) | exact ok_c (by omega) rfl | assumption) (Nat.le_of_ble_eq_true rfl) (by omega) (fun r h' hr => ?_)
          obtain ⟨he9, rfl⟩ := hr
          rw [he9]
          clear he9 h'
          show V _ _ _ (108 + 3) _ (_ :: _) _
          refine v_aload_n hC (pc := 111) (k := 0) 4 rfl dX7_needs_111 ?_
          refine v_iload hC (pc := 112) 1 rfl dX7_needs_112 ?_
          refine v_iconst hC (pc := 114) (v := 2) (by decide) dX7_needs_114 ?_
          refine v_callV hC (pc := 115) (As := [_, _]) dX7_needs_115 rfl (m_glovesBy _ _ (d := d - 1) (by omega) _ hg hg9 (row := k) (k := 2) hk (by decide)) cv_X7_280 rfl (by decide) rfl (by first | rfl | exact ok_c hq rfl | exact ok_w hq hw | exact ok_w (by omega) (by omega) | exact ok_s (by omega) (by omega) | exact ok_c (by omega) rfl | assumption) (Nat.le_of_ble_eq_true rfl) (by omega) (fun r h' hr => ?_)
          obtain ⟨he9, rfl⟩ := hr
          rw [he9]
          clear he9 h'
          show V _ _ _ (115 + 3) _ (_ :: _) _
          refine v_iadd hC (pc := 118) dX7_needs_118 ?_
          rw [nI_add]
          refine v_iload_n hC (pc := 119) (k := 1) 5 rfl dX7_needs_119 ?_
          refine v_icmp_lt hC (pc := 120) (tgt := 127) dX7_needs_120 (by decide) (fun c_120 => ?_) (fun c_120 => ?_)
          · skip
            have q9a := dg_le hk 1
            have q9b := dg_le hk 2
            have q9c := hg9 1 (by decide)
            have q9d := hg9 2 (by decide)
            have hno : ¬ okN g l r0 k := fun z => absurd c_120 (nI_ge2 z.2.1 (by omega))
            refine v_iconst hC (pc := 127) (v := 0) (by decide) dX7_needs_127 ?_
            refine v_istore hC (pc := 128) (l' := [(8, _), (7, _), (6, _), (5, _), (4, _), (0, _), (1, _), (2, _), (3, _)]) dX7_needs_128 (by decide) rfl ?_
            refine v_aload_n hC (pc := 130) (k := 0) 5 rfl dX7_needs_130 ?_
            refine v_iload hC (pc := 131) 2 rfl dX7_needs_131 ?_
            refine v_iconst hC (pc := 133) (v := 1) (by decide) dX7_needs_133 ?_
            refine v_callV hC (pc := 134) (As := [_, _]) dX7_needs_134 rfl (m_glovesBy _ _ (d := d - 1) (by omega) _ hg hg9 (row := k) (k := 1) hk (by decide)) cv_X7_280 rfl (by decide) rfl (by first | rfl | exact ok_c hq rfl | exact ok_w hq hw | exact ok_w (by omega) (by omega) | exact ok_s (by omega) (by omega) | exact ok_c (by omega) rfl | assumption) (Nat.le_of_ble_eq_true rfl) (by omega) (fun r h' hr => ?_)
            obtain ⟨he9, rfl⟩ := hr
            rw [he9]
            clear he9 h'
            show V _ _ _ (134 + 3) _ (_ :: _) _
            refine v_aload_n hC (pc := 137) (k := 0) 5 rfl dX7_needs_137 ?_
            refine v_iload hC (pc := 138) 2 rfl dX7_needs_138 ?_
            refine v_iconst hC (pc := 140) (v := 3) (by decide) dX7_needs_140 ?_
            refine v_callV hC (pc := 141) (As := [_, _]) dX7_needs_141 rfl (m_glovesBy _ _ (d := d - 1) (by omega) _ hg hg9 (row := k) (k := 3) hk (by decide)) cv_X7_280 rfl (by decide) rfl (by first | rfl | exact ok_c hq rfl | exact ok_w hq hw | exact ok_w (by omega) (by omega) | exact ok_s (by omega) (by omega) | exact ok_c (by omega) rfl | assumption) (Nat.le_of_ble_eq_true rfl) (by omega) (fun r h' hr => ?_)
            obtain ⟨he9, rfl⟩ := hr
            rw [he9]
            clear he9 h'
            show V _ _ _ (141 + 3) _ (_ :: _) _
            refine v_iadd hC (pc := 144) dX7_needs_144 ?_
            rw [nI_add]
            refine v_iload_n hC (pc := 145) (k := 2) 7 rfl dX7_needs_145 ?_
            refine v_icmp_lt hC (pc := 146) (tgt := 172) dX7_needs_146 (by decide) (fun c_146 => ?_) (fun c_146 => ?_)
            · skip
              have q9a := dg_le hk 1
              have q9b := dg_le hk 3
              have q9c := hg9 1 (by decide)
              have q9d := hg9 3 (by decide)
              have hno : ¬ okN g l r0 k := fun z => absurd c_146 (nI_ge2 z.2.2.1 (by omega))
              refine v_iconst hC (pc := 172) (v := 0) (by decide) dX7_needs_172 ?_
              refine v_istore hC (pc := 173) (l' := [(9, _), (8, _), (7, _), (6, _), (5, _), (4, _), (0, _), (1, _), (2, _), (3, _)]) dX7_needs_173 (by decide) rfl ?_
              refine v_iload hC (pc := 175) 1 rfl dX7_needs_175 ?_
              refine v_if_eq hC (pc := 177) (tgt := 197) dX7_needs_177 (by decide) (fun c_177 => ?_) (fun c_177 => ?_)
              · skip
                refine v_iload hC (pc := 197) 4 rfl dX7_needs_197 ?_
                refine v_istore hC (pc := 199) (l' := [(5, _), (9, _), (8, _), (7, _), (6, _), (4, _), (0, _), (1, _), (2, _), (3, _)]) dX7_needs_199 (by decide) rfl ?_
                refine v_iload hC (pc := 201) 2 rfl dX7_needs_201 ?_
                refine v_if_eq hC (pc := 203) (tgt := 223) dX7_needs_203 (by decide) (fun c_203 => ?_) (fun c_203 => ?_)
                · skip
                  refine v_iload hC (pc := 223) 5 rfl dX7_needs_223 ?_
                  refine v_istore hC (pc := 225) (l' := [(4, _), (5, _), (9, _), (8, _), (7, _), (6, _), (0, _), (1, _), (2, _), (3, _)]) dX7_needs_225 (by decide) rfl ?_
                  refine v_iinc hC (pc := 227) (l' := [(6, _), (4, _), (5, _), (9, _), (8, _), (7, _), (0, _), (1, _), (2, _), (3, _)]) 5 (v := nI (k + 1)) dX7_needs_227 rfl (nI_inc k) (by decide) rfl ?_
                  refine v_goto hC (pc := 230) (tgt := 45) dX7_needs_230 (by decide) ?_
                  refine v_loc (l' := [(6, _), (5, _), (4, _), (0, _), (1, _), (2, _), (3, _)]) [0, 2, 1, 6, 7, 8, 9] rfl ?_
                  first | exact ih (k + 1) _ _ (by omega) (by omega) (nst_no hst hno) | exact ih (k + 1) _ _ (by omega) (by omega) (nst_lt hk hst ⟨o101, o120, o146, o165⟩ c_189) | exact ih (k + 1) _ _ (by omega) (by omega) (nst_ge hk hst c_189) | exact absurd c_215 c_189 | exact absurd c_189 c_215
                · exact absurd c_203 (by decide)
              · exact absurd c_177 (by decide)
            · skip
              have q9a := dg_le hk 1
              have q9b := dg_le hk 3
              have q9c := hg9 1 (by decide)
              have q9d := hg9 3 (by decide)
              have o146 : r0 ≤ (g 1 + dg k 1) + (g 3 + dg k 3) := lp_ngt c_146 (by omega) (by omega)
              refine v_aload_n hC (pc := 149) (k := 0) 5 rfl dX7_needs_149 ?_
              refine v_iload hC (pc := 150) 2 rfl dX7_needs_150 ?_
              refine v_iconst hC (pc := 152) (v := 0) (by decide) dX7_needs_152 ?_
              refine v_callV hC (pc := 153) (As := [_, _]) dX7_needs_153 rfl (m_glovesBy _ _ (d := d - 1) (by omega) _ hg hg9 (row := k) (k := 0) hk (by decide)) cv_X7_280 rfl (by decide) rfl (by first | rfl | exact ok_c hq rfl | exact ok_w hq hw | exact ok_w (by omega) (by omega) | exact ok_s (by omega) (by omega) | exact ok_c (by omega) rfl | assumption) (Nat.le_of_ble_eq_true rfl) (by omega) (fun r h' hr => ?_)
              obtain ⟨he9, rfl⟩ := hr
              rw [he9]
              clear he9 h'
              show V _ _ _ (153 + 3) _ (_ :: _) _
              refine v_aload_n hC (pc := 156) (k := 0) 5 rfl dX7_needs_156 ?_
              refine v_iload hC (pc := 157) 2 rfl dX7_needs_157 ?_
              refine v_iconst hC (pc := 159) (v := 3) (by decide) dX7_needs_159 ?_
              refine v_callV hC (pc := 160) (As := [_, _]) dX7_needs_160 rfl (m_glovesBy _ _ (d := d - 1) (by omega) _ hg hg9 (row := k) (k := 3) hk (by decide)) cv_X7_280 rfl (by decide) rfl (by first | rfl | exact ok_c hq rfl | exact ok_w hq hw | exact ok_w (by omega) (by omega) | exact ok_s (by omega) (by omega) | exact ok_c (by omega) rfl | assumption) (Nat.le_of_ble_eq_true rfl) (by omega) (fun r h' hr => ?_)
              obtain ⟨he9, rfl⟩ := hr
              rw [he9]
              clear he9 h'
              show V _ _ _ (160 + 3) _ (_ :: _) _
              refine v_iadd hC (pc := 163) dX7_needs_163 ?_
              rw [nI_add]
              refine v_iload_n hC (pc := 164) (k := 2) 7 rfl dX7_needs_164 ?_
              refine v_icmp_lt hC (pc := 165) (tgt := 172) dX7_needs_165 (by decide) (fun c_165 => ?_) (fun c_165 => ?_)
              · skip
                have q9a := dg_le hk 0
                have q9b := dg_le hk 3
                have q9c := hg9 0 (by decide)
                have q9d := hg9 3 (by decide)
                have hno : ¬ okN g l r0 k := fun z => absurd c_165 (nI_ge2 z.2.2.2 (by omega))
                refine v_iconst hC (pc := 172) (v := 0) (by decide) dX7_needs_172 ?_
                refine v_istore hC (pc := 173) (l' := [(9, _), (8, _), (7, _), (6, _), (5, _), (4, _), (0, _), (1, _), (2, _), (3, _)]) dX7_needs_173 (by decide) rfl ?_
                refine v_iload hC (pc := 175) 1 rfl dX7_needs_175 ?_
                refine v_if_eq hC (pc := 177) (tgt := 197) dX7_needs_177 (by decide) (fun c_177 => ?_) (fun c_177 => ?_)
                · skip
                  refine v_iload hC (pc := 197) 4 rfl dX7_needs_197 ?_
                  refine v_istore hC (pc := 199) (l' := [(5, _), (9, _), (8, _), (7, _), (6, _), (4, _), (0, _), (1, _), (2, _), (3, _)]) dX7_needs_199 (by decide) rfl ?_
                  refine v_iload hC (pc := 201) 2 rfl dX7_needs_201 ?_
                  refine v_if_eq hC (pc := 203) (tgt := 223) dX7_needs_203 (by decide) (fun c_203 => ?_) (fun c_203 => ?_)
                  · skip
                    refine v_iload hC (pc := 223) 5 rfl dX7_needs_223 ?_
                    refine v_istore hC (pc := 225) (l' := [(4, _), (5, _), (9, _), (8, _), (7, _), (6, _), (0, _), (1, _), (2, _), (3, _)]) dX7_needs_225 (by decide) rfl ?_
                    refine v_iinc hC (pc := 227) (l' := [(6, _), (4, _), (5, _), (9, _), (8, _), (7, _), (0, _), (1, _), (2, _), (3, _)]) 5 (v := nI (k + 1)) dX7_needs_227 rfl (nI_inc k) (by decide) rfl ?_
                    refine v_goto hC (pc := 230) (tgt := 45) dX7_needs_230 (by decide) ?_
                    refine v_loc (l' := [(6, _), (5, _), (4, _), (0, _), (1, _), (2, _), (3, _)]) [0, 2, 1, 6, 7, 8, 9] rfl ?_
                    first | exact ih (k + 1) _ _ (by omega) (by omega) (nst_no hst hno) | exact ih (k + 1) _ _ (by omega) (by omega) (nst_lt hk hst ⟨o101, o120, o146, o165⟩ c_189) | exact ih (k + 1) _ _ (by omega) (by omega) (nst_ge hk hst c_189) | exact absurd c_215 c_189 | exact absurd c_189 c_215
                  · exact absurd c_203 (by decide)
                · exact absurd c_177 (by decide)
              · skip
                have q9a := dg_le hk 0
                have q9b := dg_le hk 3
                have q9c := hg9 0 (by decide)
                have q9d := hg9 3 (by decide)
                have o165 : r0 ≤ (g 0 + dg k 0) + (g 3 + dg k 3) := lp_ngt c_165 (by omega) (by omega)
                refine v_iconst hC (pc := 168) (v := 1) (by decide) dX7_needs_168 ?_
                refine v_goto hC (pc := 169) (tgt := 173) dX7_needs_169 (by decide) ?_
                refine v_istore hC (pc := 173) (l' := [(9, _), (8, _), (7, _), (6, _), (5, _), (4, _), (0, _), (1, _), (2, _), (3, _)]) dX7_needs_173 (by decide) rfl ?_
                refine v_iload hC (pc := 175) 1 rfl dX7_needs_175 ?_
                refine v_if_eq hC (pc := 177) (tgt := 197) dX7_needs_177 (by decide) (fun c_177 => ?_) (fun c_177 => ?_)
                · skip
                  refine v_iload hC (pc := 197) 4 rfl dX7_needs_197 ?_
                  refine v_istore hC (pc := 199) (l' := [(5, _), (9, _), (8, _), (7, _), (6, _), (4, _), (0, _), (1, _), (2, _), (3, _)]) dX7_needs_199 (by decide) rfl ?_
                  refine v_iload hC (pc := 201) 2 rfl dX7_needs_201 ?_
                  refine v_if_eq hC (pc := 203) (tgt := 223) dX7_needs_203 (by decide) (fun c_203 => ?_) (fun c_203 => ?_)
                  · skip
                    refine v_iload hC (pc := 223) 5 rfl dX7_needs_223 ?_
                    refine v_istore hC (pc := 225) (l' := [(4, _), (5, _), (9, _), (8, _), (7, _), (6, _), (0, _), (1, _), (2, _), (3, _)]) dX7_needs_225 (by decide) rfl ?_
                    refine v_iinc hC (pc := 227) (l' := [(6, _), (4, _), (5, _), (9, _), (8, _), (7, _), (0, _), (1, _), (2, _), (3, _)]) 5 (v := nI (k + 1)) dX7_needs_227 rfl (nI_inc k) (by decide) rfl ?_
                    refine v_goto hC (pc := 230) (tgt := 45) dX7_needs_230 (by decide) ?_
                    refine v_loc (l' := [(6, _), (5, _), (4, _), (0, _), (1, _), (2, _), (3, _)]) [0, 2, 1, 6, 7, 8, 9] rfl ?_
                    first | exact ih (k + 1) _ _ (by omega) (by omega) (nst_no hst hno) | exact ih (k + 1) _ _ (by omega) (by omega) (nst_lt hk hst ⟨o101, o120, o146, o165⟩ c_189) | exact ih (k + 1) _ _ (by omega) (by omega) (nst_ge hk hst c_189) | exact absurd c_215 c_189 | exact absurd c_189 c_215
                  · exact absurd c_203 (by decide)
                · exact absurd c_177 (by decide)
          · skip
            have q9a := dg_le hk 1
            have q9b := dg_le hk 2
            have q9c := hg9 1 (by decide)
            have q9d := hg9 2 (by decide)
            have o120 : l ≤ (g 1 + dg k 1) + (g 2 + dg k 2) := lp_ngt c_120 (by omega) (by omega)
            refine v_iconst hC (pc := 123) (v := 1) (by decide) dX7_needs_123 ?_
            refine v_goto hC (pc := 124) (tgt := 128) dX7_needs_124 (by decide) ?_
            refine v_istore hC (pc := 128) (l' := [(8, _), (7, _), (6, _), (5, _), (4, _), (0, _), (1, _), (2, _), (3, _)]) dX7_needs_128 (by decide) rfl ?_
            refine v_aload_n hC (pc := 130) (k := 0) 5 rfl dX7_needs_130 ?_
            refine v_iload hC (pc := 131) 2 rfl dX7_needs_131 ?_
            refine v_iconst hC (pc := 133) (v := 1) (by decide) dX7_needs_133 ?_
            refine v_callV hC (pc := 134) (As := [_, _]) dX7_needs_134 rfl (m_glovesBy _ _ (d := d - 1) (by omega) _ hg hg9 (row := k) (k := 1) hk (by decide)) cv_X7_280 rfl (by decide) rfl (by first | rfl | exact ok_c hq rfl | exact ok_w hq hw | exact ok_w (by omega) (by omega) | exact ok_s (by omega) (by omega) | exact ok_c (by omega) rfl | assumption) (Nat.le_of_ble_eq_true rfl) (by omega) (fun r h' hr => ?_)
            obtain ⟨he9, rfl⟩ := hr
            rw [he9]
            clear he9 h'
            show V _ _ _ (134 + 3) _ (_ :: _) _
            refine v_aload_n hC (pc := 137) (k := 0) 5 rfl dX7_needs_137 ?_
            refine v_iload hC (pc := 138) 2 rfl dX7_needs_138 ?_
            refine v_iconst hC (pc := 140) (v := 3) (by decide) dX7_needs_140 ?_
            refine v_callV hC (pc := 141) (As := [_, _]) dX7_needs_141 rfl (m_glovesBy _ _ (d := d - 1) (by omega) _ hg hg9 (row := k) (k := 3) hk (by decide)) cv_X7_280 rfl (by decide) rfl (by first | rfl | exact ok_c hq rfl | exact ok_w hq hw | exact ok_w (by omega) (by omega) | exact ok_s (by omega) (by omega) | exact ok_c (by omega) rfl | assumption) (Nat.le_of_ble_eq_true rfl) (by omega) (fun r h' hr => ?_)
            obtain ⟨he9, rfl⟩ := hr
            rw [he9]
            clear he9 h'
            show V _ _ _ (141 + 3) _ (_ :: _) _
            refine v_iadd hC (pc := 144) dX7_needs_144 ?_
            rw [nI_add]
            refine v_iload_n hC (pc := 145) (k := 2) 7 rfl dX7_needs_145 ?_
            refine v_icmp_lt hC (pc := 146) (tgt := 172) dX7_needs_146 (by decide) (fun c_146 => ?_) (fun c_146 => ?_)
            · skip
              have q9a := dg_le hk 1
              have q9b := dg_le hk 3
              have q9c := hg9 1 (by decide)
              have q9d := hg9 3 (by decide)
              have hno : ¬ okN g l r0 k := fun z => absurd c_146 (nI_ge2 z.2.2.1 (by omega))
              refine v_iconst hC (pc := 172) (v := 0) (by decide) dX7_needs_172 ?_
              refine v_istore hC (pc := 173) (l' := [(9, _), (8, _), (7, _), (6, _), (5, _), (4, _), (0, _), (1, _), (2, _), (3, _)]) dX7_needs_173 (by decide) rfl ?_
              refine v_iload hC (pc := 175) 1 rfl dX7_needs_175 ?_
              refine v_if_eq hC (pc := 177) (tgt := 197) dX7_needs_177 (by decide) (fun c_177 => ?_) (fun c_177 => ?_)
              · exact absurd c_177 (by decide)
              · skip
                refine v_iload hC (pc := 180) 0 rfl dX7_needs_180 ?_
                refine v_if_eq hC (pc := 182) (tgt := 197) dX7_needs_182 (by decide) (fun c_182 => ?_) (fun c_182 => ?_)
                · skip
                  refine v_iload hC (pc := 197) 4 rfl dX7_needs_197 ?_
                  refine v_istore hC (pc := 199) (l' := [(5, _), (9, _), (8, _), (7, _), (6, _), (4, _), (0, _), (1, _), (2, _), (3, _)]) dX7_needs_199 (by decide) rfl ?_
                  refine v_iload hC (pc := 201) 2 rfl dX7_needs_201 ?_
                  refine v_if_eq hC (pc := 203) (tgt := 223) dX7_needs_203 (by decide) (fun c_203 => ?_) (fun c_203 => ?_)
                  · exact absurd c_203 (by decide)
                  · skip
                    refine v_iload hC (pc := 206) 1 rfl dX7_needs_206 ?_
                    refine v_if_eq hC (pc := 208) (tgt := 223) dX7_needs_208 (by decide) (fun c_208 => ?_) (fun c_208 => ?_)
                    · skip
                      refine v_iload hC (pc := 223) 5 rfl dX7_needs_223 ?_
                      refine v_istore hC (pc := 225) (l' := [(4, _), (5, _), (9, _), (8, _), (7, _), (6, _), (0, _), (1, _), (2, _), (3, _)]) dX7_needs_225 (by decide) rfl ?_
                      refine v_iinc hC (pc := 227) (l' := [(6, _), (4, _), (5, _), (9, _), (8, _), (7, _), (0, _), (1, _), (2, _), (3, _)]) 5 (v := nI (k + 1)) dX7_needs_227 rfl (nI_inc k) (by decide) rfl ?_
                      refine v_goto hC (pc := 230) (tgt := 45) dX7_needs_230 (by decide) ?_
                      refine v_loc (l' := [(6, _), (5, _), (4, _), (0, _), (1, _), (2, _), (3, _)]) [0, 2, 1, 6, 7, 8, 9] rfl ?_
                      first | exact ih (k + 1) _ _ (by omega) (by omega) (nst_no hst hno) | exact ih (k + 1) _ _ (by omega) (by omega) (nst_lt hk hst ⟨o101, o120, o146, o165⟩ c_189) | exact ih (k + 1) _ _ (by omega) (by omega) (nst_ge hk hst c_189) | exact absurd c_215 c_189 | exact absurd c_189 c_215
                    · exact absurd c_208 (by decide)
                · exact absurd c_182 (by decide)
            · skip
              have q9a := dg_le hk 1
              have q9b := dg_le hk 3
              have q9c := hg9 1 (by decide)
              have q9d := hg9 3 (by decide)
              have o146 : r0 ≤ (g 1 + dg k 1) + (g 3 + dg k 3) := lp_ngt c_146 (by omega) (by omega)
              refine v_aload_n hC (pc := 149) (k := 0) 5 rfl dX7_needs_149 ?_
              refine v_iload hC (pc := 150) 2 rfl dX7_needs_150 ?_
              refine v_iconst hC (pc := 152) (v := 0) (by decide) dX7_needs_152 ?_
              refine v_callV hC (pc := 153) (As := [_, _]) dX7_needs_153 rfl (m_glovesBy _ _ (d := d - 1) (by omega) _ hg hg9 (row := k) (k := 0) hk (by decide)) cv_X7_280 rfl (by decide) rfl (by first | rfl | exact ok_c hq rfl | exact ok_w hq hw | exact ok_w (by omega) (by omega) | exact ok_s (by omega) (by omega) | exact ok_c (by omega) rfl | assumption) (Nat.le_of_ble_eq_true rfl) (by omega) (fun r h' hr => ?_)
              obtain ⟨he9, rfl⟩ := hr
              rw [he9]
              clear he9 h'
              show V _ _ _ (153 + 3) _ (_ :: _) _
              refine v_aload_n hC (pc := 156) (k := 0) 5 rfl dX7_needs_156 ?_
              refine v_iload hC (pc := 157) 2 rfl dX7_needs_157 ?_
              refine v_iconst hC (pc := 159) (v := 3) (by decide) dX7_needs_159 ?_
              refine v_callV hC (pc := 160) (As := [_, _]) dX7_needs_160 rfl (m_glovesBy _ _ (d := d - 1) (by omega) _ hg hg9 (row := k) (k := 3) hk (by decide)) cv_X7_280 rfl (by decide) rfl (by first | rfl | exact ok_c hq rfl | exact ok_w hq hw | exact ok_w (by omega) (by omega) | exact ok_s (by omega) (by omega) | exact ok_c (by omega) rfl | assumption) (Nat.le_of_ble_eq_true rfl) (by omega) (fun r h' hr => ?_)
              obtain ⟨he9, rfl⟩ := hr
              rw [he9]
              clear he9 h'
              show V _ _ _ (160 + 3) _ (_ :: _) _
              refine v_iadd hC (pc := 163) dX7_needs_163 ?_
              rw [nI_add]
              refine v_iload_n hC (pc := 164) (k := 2) 7 rfl dX7_needs_164 ?_
              refine v_icmp_lt hC (pc := 165) (tgt := 172) dX7_needs_165 (by decide) (fun c_165 => ?_) (fun c_165 => ?_)
              · skip
                have q9a := dg_le hk 0
                have q9b := dg_le hk 3
                have q9c := hg9 0 (by decide)
                have q9d := hg9 3 (by decide)
                have hno : ¬ okN g l r0 k := fun z => absurd c_165 (nI_ge2 z.2.2.2 (by omega))
                refine v_iconst hC (pc := 172) (v := 0) (by decide) dX7_needs_172 ?_
                refine v_istore hC (pc := 173) (l' := [(9, _), (8, _), (7, _), (6, _), (5, _), (4, _), (0, _), (1, _), (2, _), (3, _)]) dX7_needs_173 (by decide) rfl ?_
                refine v_iload hC (pc := 175) 1 rfl dX7_needs_175 ?_
                refine v_if_eq hC (pc := 177) (tgt := 197) dX7_needs_177 (by decide) (fun c_177 => ?_) (fun c_177 => ?_)
                · exact absurd c_177 (by decide)
                · skip
                  refine v_iload hC (pc := 180) 0 rfl dX7_needs_180 ?_
                  refine v_if_eq hC (pc := 182) (tgt := 197) dX7_needs_182 (by decide) (fun c_182 => ?_) (fun c_182 => ?_)
                  · skip
                    refine v_iload hC (pc := 197) 4 rfl dX7_needs_197 ?_
                    refine v_istore hC (pc := 199) (l' := [(5, _), (9, _), (8, _), (7, _), (6, _), (4, _), (0, _), (1, _), (2, _), (3, _)]) dX7_needs_199 (by decide) rfl ?_
                    refine v_iload hC (pc := 201) 2 rfl dX7_needs_201 ?_
                    refine v_if_eq hC (pc := 203) (tgt := 223) dX7_needs_203 (by decide) (fun c_203 => ?_) (fun c_203 => ?_)
                    · exact absurd c_203 (by decide)
                    · skip
                      refine v_iload hC (pc := 206) 1 rfl dX7_needs_206 ?_
                      refine v_if_eq hC (pc := 208) (tgt := 223) dX7_needs_208 (by decide) (fun c_208 => ?_) (fun c_208 => ?_)
                      · skip
                        refine v_iload hC (pc := 223) 5 rfl dX7_needs_223 ?_
                        refine v_istore hC (pc := 225) (l' := [(4, _), (5, _), (9, _), (8, _), (7, _), (6, _), (0, _), (1, _), (2, _), (3, _)]) dX7_needs_225 (by decide) rfl ?_
                        refine v_iinc hC (pc := 227) (l' := [(6, _), (4, _), (5, _), (9, _), (8, _), (7, _), (0, _), (1, _), (2, _), (3, _)]) 5 (v := nI (k + 1)) dX7_needs_227 rfl (nI_inc k) (by decide) rfl ?_
                        refine v_goto hC (pc := 230) (tgt := 45) dX7_needs_230 (by decide) ?_
                        refine v_loc (l' := [(6, _), (5, _), (4, _), (0, _), (1, _), (2, _), (3, _)]) [0, 2, 1, 6, 7, 8, 9] rfl ?_
                        first | exact ih (k + 1) _ _ (by omega) (by omega) (nst_no hst hno) | exact ih (k + 1) _ _ (by omega) (by omega) (nst_lt hk hst ⟨o101, o120, o146, o165⟩ c_189) | exact ih (k + 1) _ _ (by omega) (by omega) (nst_ge hk hst c_189) | exact absurd c_215 c_189 | exact absurd c_189 c_215
                      · exact absurd c_208 (by decide)
                  · exact absurd c_182 (by decide)
              · skip
                have q9a := dg_le hk 0
                have q9b := dg_le hk 3
                have q9c := hg9 0 (by decide)
                have q9d := hg9 3 (by decide)
                have o165 : r0 ≤ (g 0 + dg k 0) + (g 3 + dg k 3) := lp_ngt c_165 (by omega) (by omega)
                refine v_iconst hC (pc := 168) (v := 1) (by decide) dX7_needs_168 ?_
                refine v_goto hC (pc := 169) (tgt := 173) dX7_needs_169 (by decide) ?_
                refine v_istore hC (pc := 173) (l' := [(9, _), (8, _), (7, _), (6, _), (5, _), (4, _), (0, _), (1, _), (2, _), (3, _)]) dX7_needs_173 (by decide) rfl ?_
                refine v_iload hC (pc := 175) 1 rfl dX7_needs_175 ?_
                refine v_if_eq hC (pc := 177) (tgt := 197) dX7_needs_177 (by decide) (fun c_177 => ?_) (fun c_177 => ?_)
                · exact absurd c_177 (by decide)
                · skip
                  refine v_iload hC (pc := 180) 0 rfl dX7_needs_180 ?_
                  refine v_if_eq hC (pc := 182) (tgt := 197) dX7_needs_182 (by decide) (fun c_182 => ?_) (fun c_182 => ?_)
                  · exact absurd c_182 (by decide)
                  · skip
                    refine v_iload hC (pc := 185) 2 rfl dX7_needs_185 ?_
                    refine v_iload hC (pc := 187) 5 rfl dX7_needs_187 ?_
                    refine v_icmp_ge hC (pc := 189) (tgt := 197) dX7_needs_189 (by decide) (fun c_189 => ?_) (fun c_189 => ?_)
                    · skip
                      refine v_iload hC (pc := 197) 4 rfl dX7_needs_197 ?_
                      refine v_istore hC (pc := 199) (l' := [(5, _), (9, _), (8, _), (7, _), (6, _), (4, _), (0, _), (1, _), (2, _), (3, _)]) dX7_needs_199 (by decide) rfl ?_
                      refine v_iload hC (pc := 201) 2 rfl dX7_needs_201 ?_
                      refine v_if_eq hC (pc := 203) (tgt := 223) dX7_needs_203 (by decide) (fun c_203 => ?_) (fun c_203 => ?_)
                      · exact absurd c_203 (by decide)
                      · skip
                        refine v_iload hC (pc := 206) 1 rfl dX7_needs_206 ?_
                        refine v_if_eq hC (pc := 208) (tgt := 223) dX7_needs_208 (by decide) (fun c_208 => ?_) (fun c_208 => ?_)
                        · exact absurd c_208 (by decide)
                        · skip
                          refine v_iload hC (pc := 211) 3 rfl dX7_needs_211 ?_
                          refine v_iload hC (pc := 213) 5 rfl dX7_needs_213 ?_
                          refine v_icmp_ge hC (pc := 215) (tgt := 223) dX7_needs_215 (by decide) (fun c_215 => ?_) (fun c_215 => ?_)
                          · skip
                            refine v_iload hC (pc := 223) 5 rfl dX7_needs_223 ?_
                            refine v_istore hC (pc := 225) (l' := [(4, _), (5, _), (9, _), (8, _), (7, _), (6, _), (0, _), (1, _), (2, _), (3, _)]) dX7_needs_225 (by decide) rfl ?_
                            refine v_iinc hC (pc := 227) (l' := [(6, _), (4, _), (5, _), (9, _), (8, _), (7, _), (0, _), (1, _), (2, _), (3, _)]) 5 (v := nI (k + 1)) dX7_needs_227 rfl (nI_inc k) (by decide) rfl ?_
                            refine v_goto hC (pc := 230) (tgt := 45) dX7_needs_230 (by decide) ?_
                            refine v_loc (l' := [(6, _), (5, _), (4, _), (0, _), (1, _), (2, _), (3, _)]) [0, 2, 1, 6, 7, 8, 9] rfl ?_
                            first | exact ih (k + 1) _ _ (by omega) (by omega) (nst_no hst hno) | exact ih (k + 1) _ _ (by omega) (by omega) (nst_lt hk hst ⟨o101, o120, o146, o165⟩ c_189) | exact ih (k + 1) _ _ (by omega) (by omega) (nst_ge hk hst c_189) | exact absurd c_215 c_189 | exact absurd c_189 c_215
                          · skip
                            refine v_iload hC (pc := 218) 3 rfl dX7_needs_218 ?_
                            refine v_goto hC (pc := 220) (tgt := 225) dX7_needs_220 (by decide) ?_
                            refine v_istore hC (pc := 225) (l' := [(4, _), (5, _), (9, _), (8, _), (7, _), (6, _), (0, _), (1, _), (2, _), (3, _)]) dX7_needs_225 (by decide) rfl ?_
                            refine v_iinc hC (pc := 227) (l' := [(6, _), (4, _), (5, _), (9, _), (8, _), (7, _), (0, _), (1, _), (2, _), (3, _)]) 5 (v := nI (k + 1)) dX7_needs_227 rfl (nI_inc k) (by decide) rfl ?_
                            refine v_goto hC (pc := 230) (tgt := 45) dX7_needs_230 (by decide) ?_
                            refine v_loc (l' := [(6, _), (5, _), (4, _), (0, _), (1, _), (2, _), (3, _)]) [0, 2, 1, 6, 7, 8, 9] rfl ?_
                            first | exact ih (k + 1) _ _ (by omega) (by omega) (nst_no hst hno) | exact ih (k + 1) _ _ (by omega) (by omega) (nst_lt hk hst ⟨o101, o120, o146, o165⟩ c_189) | exact ih (k + 1) _ _ (by omega) (by omega) (nst_ge hk hst c_189) | exact absurd c_215 c_189 | exact absurd c_189 c_215
                    · skip
                      refine v_iload hC (pc := 192) 3 rfl dX7_needs_192 ?_
                      refine v_goto hC (pc := 194) (tgt := 199) dX7_needs_194 (by decide) ?_
                      refine v_istore hC (pc := 199) (l' := [(5, _), (9, _), (8, _), (7, _), (6, _), (4, _), (0, _), (1, _), (2, _), (3, _)]) dX7_needs_199 (by decide) rfl ?_
                      refine v_iload hC (pc := 201) 2 rfl dX7_needs_201 ?_
                      refine v_if_eq hC (pc := 203) (tgt := 223) dX7_needs_203 (by decide) (fun c_203 => ?_) (fun c_203 => ?_)
                      · exact absurd c_203 (by decide)
                      · skip
                        refine v_iload hC (pc := 206) 1 rfl dX7_needs_206 ?_
                        refine v_if_eq hC (pc := 208) (tgt := 223) dX7_needs_208 (by decide) (fun c_208 => ?_) (fun c_208 => ?_)
                        · exact absurd c_208 (by decide)
                        · skip
                          refine v_iload hC (pc := 211) 3 rfl dX7_needs_211 ?_
                          refine v_iload hC (pc := 213) 5 rfl dX7_needs_213 ?_
                          refine v_icmp_ge hC (pc := 215) (tgt := 223) dX7_needs_215 (by decide) (fun c_215 => ?_) (fun c_215 => ?_)
                          · skip
                            refine v_iload hC (pc := 223) 5 rfl dX7_needs_223 ?_
                            refine v_istore hC (pc := 225) (l' := [(4, _), (5, _), (9, _), (8, _), (7, _), (6, _), (0, _), (1, _), (2, _), (3, _)]) dX7_needs_225 (by decide) rfl ?_
                            refine v_iinc hC (pc := 227) (l' := [(6, _), (4, _), (5, _), (9, _), (8, _), (7, _), (0, _), (1, _), (2, _), (3, _)]) 5 (v := nI (k + 1)) dX7_needs_227 rfl (nI_inc k) (by decide) rfl ?_
                            refine v_goto hC (pc := 230) (tgt := 45) dX7_needs_230 (by decide) ?_
                            refine v_loc (l' := [(6, _), (5, _), (4, _), (0, _), (1, _), (2, _), (3, _)]) [0, 2, 1, 6, 7, 8, 9] rfl ?_
                            first | exact ih (k + 1) _ _ (by omega) (by omega) (nst_no hst hno) | exact ih (k + 1) _ _ (by omega) (by omega) (nst_lt hk hst ⟨o101, o120, o146, o165⟩ c_189) | exact ih (k + 1) _ _ (by omega) (by omega) (nst_ge hk hst c_189) | exact absurd c_215 c_189 | exact absurd c_189 c_215
                          · skip
                            refine v_iload hC (pc := 218) 3 rfl dX7_needs_218 ?_
                            refine v_goto hC (pc := 220) (tgt := 225) dX7_needs_220 (by decide) ?_
                            refine v_istore hC (pc := 225) (l' := [(4, _), (5, _), (9, _), (8, _), (7, _), (6, _), (0, _), (1, _), (2, _), (3, _)]) dX7_needs_225 (by decide) rfl ?_
                            refine v_iinc hC (pc := 227) (l' := [(6, _), (4, _), (5, _), (9, _), (8, _), (7, _), (0, _), (1, _), (2, _), (3, _)]) 5 (v := nI (k + 1)) dX7_needs_227 rfl (nI_inc k) (by decide) rfl ?_
                            refine v_goto hC (pc := 230) (tgt := 45) dX7_needs_230 (by decide) ?_
                            refine v_loc (l' := [(6, _), (5, _), (4, _), (0, _), (1, _), (2, _), (3, _)]) [0, 2, 1, 6, 7, 8, 9] rfl ?_
                            first | exact ih (k + 1) _ _ (by omega) (by omega) (nst_no hst hno) | exact ih (k + 1) _ _ (by omega) (by omega) (nst_lt hk hst ⟨o101, o120, o146, o165⟩ c_189) | exact ih (k + 1) _ _ (by omega) (by omega) (nst_ge hk hst c_189) | exact absurd c_215 c_189 | exact absurd c_189 c_215
  refine v_iload_n hC (pc := 0) (k := 1) 1 rfl dX7_needs_0 ?_
  refine v_i2l hC (pc := 1) dX7_needs_1 ?_
  refine v_lconst hC (pc := 2) (v := 0) (by decide) dX7_needs_2 ?_
  refine v_ldc2 hC (pc := 3) k_X7_233 dX7_needs_3 ?_
  refine v_callS hC (pc := 6) (As := [_, _, _]) dX7_needs_6 rfl (m_in_t _ _ (d := d - 1) (by omega) _ (nI l) 0 9 ⟨nI_pos (by omega), nI_nlt hl (by decide)⟩) cs_X7_84 (Nat.le_of_ble_eq_true rfl) (by omega) (fun r h' hr => ?_)
  obtain ⟨he9, rfl⟩ := hr
  rw [he9]
  clear he9 h'
  show V _ _ _ (6 + 3) _ (_ :: _) _
  refine v_if_eq hC (pc := 9) (tgt := 31) dX7_needs_9 (by decide) (fun c_9 => ?_) (fun c_9 => ?_)
  · exact absurd c_9 (by decide)
  · skip
    refine v_iload_n hC (pc := 12) (k := 2) 2 rfl dX7_needs_12 ?_
    refine v_i2l hC (pc := 13) dX7_needs_13 ?_
    refine v_lconst hC (pc := 14) (v := 0) (by decide) dX7_needs_14 ?_
    refine v_ldc2 hC (pc := 15) k_X7_233 dX7_needs_15 ?_
    refine v_callS hC (pc := 18) (As := [_, _, _]) dX7_needs_18 rfl (m_in_t _ _ (d := d - 1) (by omega) _ (nI r0) 0 9 ⟨nI_pos (by omega), nI_nlt hr0 (by decide)⟩) cs_X7_84 (Nat.le_of_ble_eq_true rfl) (by omega) (fun r h' hr => ?_)
    obtain ⟨he9, rfl⟩ := hr
    rw [he9]
    clear he9 h'
    show V _ _ _ (18 + 3) _ (_ :: _) _
    refine v_if_eq hC (pc := 21) (tgt := 31) dX7_needs_21 (by decide) (fun c_21 => ?_) (fun c_21 => ?_)
    · exact absurd c_21 (by decide)
    · skip
      refine v_iload_n hC (pc := 24) (k := 3) 3 rfl dX7_needs_24 ?_
      refine v_callS hC (pc := 25) (As := [_]) dX7_needs_25 rfl (m_isPart_t _ _ (d := d - 1) (by omega) _ (s := x) (by assumption)) cs_X7_213 (Nat.le_of_ble_eq_true rfl) (by omega) (fun r h' hr => ?_)
      obtain ⟨he9, rfl⟩ := hr
      rw [he9]
      clear he9 h'
      show V _ _ _ (25 + 3) _ (_ :: _) _
      refine v_if_ne hC (pc := 28) (tgt := 33) dX7_needs_28 (by decide) (fun c_28 => ?_) (fun c_28 => ?_)
      · skip
        refine v_ldcw hC (pc := 33) k_X7_268 dX7_needs_33 ?_
        refine v_istore hC (pc := 36) (l' := [(4, _), (0, _), (1, _), (2, _), (3, _)]) dX7_needs_36 (by decide) rfl ?_
        refine v_bipush hC (pc := 38) (v := (-4)) (by decide +kernel) dX7_needs_38 ?_
        refine v_istore hC (pc := 40) (l' := [(5, _), (4, _), (0, _), (1, _), (2, _), (3, _)]) dX7_needs_40 (by decide) rfl ?_
        refine v_iconst hC (pc := 42) (v := 0) (by decide) dX7_needs_42 ?_
        refine v_istore hC (pc := 43) (l' := [(6, _), (5, _), (4, _), (0, _), (1, _), (2, _), (3, _)]) dX7_needs_43 (by decide) rfl ?_
        exact loop 10001 0 _ _ (by omega) (by omega) (Or.inl ⟨fun m y => absurd y (Nat.not_lt_zero _), rfl, rfl⟩)
      · exact absurd c_28 (by decide)

set_option maxRecDepth 20000 in
set_option maxHeartbeats 2000000 in
theorem m_needs_bad (l9 : Launch) (G : WT) {d : Nat} (hd : 3 ≤ d) (h : HP) (l r0 x : Int32) (hbad : ¬ ((¬ l < 0 ∧ ¬ 9 < l) ∧ (¬ r0 < 0 ∧ ¬ 9 < r0) ∧ (x = 0 ∨ x = 1))) : MS l9 G yX7_needs cX7_needs 10 (some .int) d [vr (3, 0, 0), vi l, vi r0, vi x] h (fun r h1 => h1 = h ∧ r = some (vi (-1))) := by
  refine MS_of (by decide +kernel) (Nat.le_of_ble_eq_true rfl) (fun X hC hX => ?_)
  show V X G 10 0 _ [] _
  refine v_iload_n hC (pc := 0) (k := 1) 1 rfl dX7_needs_0 ?_
  refine v_i2l hC (pc := 1) dX7_needs_1 ?_
  refine v_lconst hC (pc := 2) (v := 0) (by decide) dX7_needs_2 ?_
  refine v_ldc2 hC (pc := 3) k_X7_233 dX7_needs_3 ?_
  refine v_callS hC (pc := 6) (As := [_, _, _]) dX7_needs_6 rfl (m_in _ _ (d := d - 1) (by omega) _ (l) (0) (9)) cs_X7_84 (Nat.le_of_ble_eq_true rfl) (by omega) (fun r h' hr => ?_)
  obtain ⟨he9, rfl⟩ := hr
  rw [he9]
  clear he9 h'
  show V _ _ _ (6 + 3) _ (_ :: _) _
  refine v_ifb_eq hC (pc := 9) (tgt := 31) dX7_needs_9 (by decide) (fun c_9 => ?_) (fun c_9 => ?_)
  · skip
    refine v_iconst hC (pc := 31) (v := (-1)) (by decide) dX7_needs_31 ?_
    refine v_iret hC hX (pc := 32) dX7_needs_32 ?_
    exact ⟨rfl, rfl⟩
  · skip
    refine v_iload_n hC (pc := 12) (k := 2) 2 rfl dX7_needs_12 ?_
    refine v_i2l hC (pc := 13) dX7_needs_13 ?_
    refine v_lconst hC (pc := 14) (v := 0) (by decide) dX7_needs_14 ?_
    refine v_ldc2 hC (pc := 15) k_X7_233 dX7_needs_15 ?_
    refine v_callS hC (pc := 18) (As := [_, _, _]) dX7_needs_18 rfl (m_in _ _ (d := d - 1) (by omega) _ (r0) (0) (9)) cs_X7_84 (Nat.le_of_ble_eq_true rfl) (by omega) (fun r h' hr => ?_)
    obtain ⟨he9, rfl⟩ := hr
    rw [he9]
    clear he9 h'
    show V _ _ _ (18 + 3) _ (_ :: _) _
    refine v_ifb_eq hC (pc := 21) (tgt := 31) dX7_needs_21 (by decide) (fun c_21 => ?_) (fun c_21 => ?_)
    · skip
      refine v_iconst hC (pc := 31) (v := (-1)) (by decide) dX7_needs_31 ?_
      refine v_iret hC hX (pc := 32) dX7_needs_32 ?_
      exact ⟨rfl, rfl⟩
    · skip
      refine v_iload_n hC (pc := 24) (k := 3) 3 rfl dX7_needs_24 ?_
      refine v_callS hC (pc := 25) (As := [_]) dX7_needs_25 rfl (m_isPart _ _ (d := d - 1) (by omega) _ _) cs_X7_213 (Nat.le_of_ble_eq_true rfl) (by omega) (fun r h' hr => ?_)
      obtain ⟨he9, rfl⟩ := hr
      rw [he9]
      clear he9 h'
      show V _ _ _ (25 + 3) _ (_ :: _) _
      refine v_ifb_ne hC (pc := 28) (tgt := 33) dX7_needs_28 (by decide) (fun c_28 => ?_) (fun c_28 => ?_)
      · skip
        exact absurd ⟨c_9, c_21, c_28⟩ hbad
      · skip
        refine v_iconst hC (pc := 31) (v := (-1)) (by decide) dX7_needs_31 ?_
        refine v_iret hC hX (pc := 32) dX7_needs_32 ?_
        exact ⟨rfl, rfl⟩

