/-! THE REFERENCE: rows copied, hours -/
/-- the first n places of a row out of another one -/
def cpR (f g : Nat → Int32) (n : Nat) : Nat → Int32 := fun k => if k < n then g k else f k
theorem cpR_s (f g : Nat → Int32) (n : Nat) : upd (cpR f g n) n (g n) = cpR f g (n + 1) := by
  funext k
  unfold upd cpR
  by_cases e : k = n
  · subst e; simp
  · have e5 : k < n + 1 ↔ k < n := by omega
    simp [e, e5]
theorem cpR_0 (f g : Nat → Int32) : cpR f g 0 = f := by funext k; simp [cpR]
/-- places of a row moved within it -/
def mvR (f : Nat → Int32) (to fr n : Nat) : Nat → Int32 := fun k => if to ≤ k ∧ k < to + n then f (fr + (k - to)) else f k
theorem mvR_0 (f : Nat → Int32) (to fr : Nat) : mvR f to fr 0 = f := by
  funext k
  unfold mvR
  rw [if_neg (by omega)]
theorem mvR_s (f : Nat → Int32) (to fr n : Nat) (h : fr + n < to ∨ to + n < fr + n) : upd (mvR f to fr n) (to + n) (mvR f to fr n (fr + n)) = mvR f to fr (n + 1) := by
  funext k
  unfold upd mvR
  have h1 : ¬ (to ≤ fr + n ∧ fr + n < to + n) ∨ fr = to := by omega
  rcases h1 with h1 | h1
  · rw [if_neg h1]
    by_cases e : k = to + n
    · subst e
      rw [if_pos rfl, if_pos (by omega), show fr + (to + n - to) = fr + n by omega]
    · rw [if_neg e]
      by_cases e2 : to ≤ k ∧ k < to + n
      · rw [if_pos e2, if_pos (by omega)]
      · rw [if_neg e2, if_neg (by omega)]
  · omega
set_option maxRecDepth 20000 in
set_option maxHeartbeats 2000000 in
theorem m_starts (l9 : Launch) (G : WT) {d : Nat} (hd : 1 ≤ d) (h : HP) : MS l9 G yX7_starts cX7_starts 2 none d [vr (3, 0, 0)] h (fun r h1 => r = none ∧ h1 = upR h (3, 0, 2) (cpR (h.1 (3, 0, 2)) (h.1 (3, 0, 1)) 80)) := by
  refine MS_of (by decide +kernel) (Nat.le_of_ble_eq_true rfl) (fun X hC hX => ?_)
  show V X G 2 0 _ [] _
  have loop : ∀ (n k : Nat) , k ≤ 80 → 80 + 1 ≤ k + n → V X G 2 2 [(1, vi (nI k)), (0, vr (3, 0, 0))] [] (upR h (3, 0, 2) (cpR (h.1 (3, 0, 2)) (h.1 (3, 0, 1)) k)) := by
    intro n
    induction n with
    | zero => intro k  h1 h2; exact absurd h2 (by omega)
    | succ n ih =>
      intro k  h1 h2
      refine v_iload_n hC (pc := 2) (k := 1) 0 rfl dX7_starts_2 ?_
      refine v_bipush hC (pc := 3) (v := 80) (by decide +kernel) dX7_starts_3 ?_
      refine v_icmp_ge hC (pc := 5) (tgt := 26) dX7_starts_5 (by decide) (fun c_5 => ?_) (fun c_5 => ?_)
      · skip
        have hi : k = 80 := lp_ex (N := 80) (c_5) h1 (by omega)
        refine v_vret hC hX (pc := 26) dX7_starts_26 ?_
        subst hi
        exact ⟨rfl, rfl⟩
      · skip
        have hi : k < 80 := lp_in (N := 80) (c_5) h1 (by omega)
        refine v_aload_n hC (pc := 8) (k := 0) 1 rfl dX7_starts_8 ?_
        refine v_getR hC (pc := 9) dX7_starts_9 fl_X7_13 rfl (by first | rfl | exact ok_c hq rfl | exact ok_w hq hw | exact ok_w (by omega) (by omega) | exact ok_s (by omega) (by omega) | exact ok_c (by omega) rfl | assumption) rfl (by decide) (by decide) rfl ?_
        refine v_iload_n hC (pc := 12) (k := 1) 0 rfl dX7_starts_12 ?_
        refine v_aload_n hC (pc := 13) (k := 0) 1 rfl dX7_starts_13 ?_
        refine v_getR hC (pc := 14) dX7_starts_14 fl_X7_7 rfl (by first | rfl | exact ok_c hq rfl | exact ok_w hq hw | exact ok_w (by omega) (by omega) | exact ok_s (by omega) (by omega) | exact ok_c (by omega) rfl | assumption) rfl (by decide) (by decide) rfl ?_
        refine v_iload_n hC (pc := 17) (k := 1) 0 rfl dX7_starts_17 ?_
        refine v_iald hC (pc := 18) dX7_starts_18 rfl (by first | rfl | exact ok_c hq rfl | exact ok_w hq hw | exact ok_w (by omega) (by omega) | exact ok_s (by omega) (by omega) | exact ok_c (by omega) rfl | assumption) (vp_nat (by omega) (by decide)) ?_
        refine v_iast hC (pc := 19) dX7_starts_19 rfl (by first | rfl | exact ok_c hq rfl | exact ok_w hq hw | exact ok_w (by omega) (by omega) | exact ok_s (by omega) (by omega) | exact ok_c (by omega) rfl | assumption) (vp_nat (by omega) (by decide)) ?_
        refine v_heap (show _ = upR h (3, 0, 2) (cpR (h.1 (3, 0, 2)) (h.1 (3, 0, 1)) (k + 1)) from ?_) ?_
        · rw [nI_clamp (show k < 2 ^ 31 by omega), upI_upR, upR_ne h _ (show ((3, 0, 1) : PId) ≠ (3, 0, 2) by decide), cpR_s]
        refine v_iinc hC (pc := 20) (l' := [(1, _), (0, _)]) 0 (v := nI (k + 1)) dX7_starts_20 rfl (nI_inc k) (by decide) rfl ?_
        refine v_goto hC (pc := 23) (tgt := 2) dX7_starts_23 (by decide) ?_
        exact ih (k + 1) (by omega) (by omega)
  refine v_iconst hC (pc := 0) (v := 0) (by decide) dX7_starts_0 ?_
  refine v_istore_n hC (pc := 1) (l' := [(1, _), (0, _)]) dX7_starts_1 (by decide) rfl ?_
  refine v_heap (show h = upR h (3, 0, 2) (cpR (h.1 (3, 0, 2)) (h.1 (3, 0, 1)) 0) from ?_) ?_
  · rw [cpR_0, upR_id]
  · exact loop 81 0 (by omega) (by omega)

set_option maxRecDepth 20000 in
set_option maxHeartbeats 2000000 in
theorem m_copies (l9 : Launch) (G : WT) {d : Nat} (hd : 1 ≤ d) (h : HP) {to fr : Nat} (hto : to ≤ 160) (hfr : fr ≤ 160) (hne : fr + 80 ≤ to ∨ to + 80 ≤ fr) : MS l9 G yX7_copies cX7_copies 4 none d [vr (3, 0, 0), vi (nI to), vi (nI fr)] h (fun r h1 => r = none ∧ h1 = upR h (3, 0, 1) (mvR (h.1 (3, 0, 1)) to fr 80)) := by
  refine MS_of (by decide +kernel) (Nat.le_of_ble_eq_true rfl) (fun X hC hX => ?_)
  show V X G 4 0 _ [] _
  have loop : ∀ (n k : Nat) , k ≤ 80 → 80 + 1 ≤ k + n → V X G 4 2 [(3, vi (nI k)), (0, vr (3, 0, 0)), (1, vi (nI to)), (2, vi (nI fr))] [] (upR h (3, 0, 1) (mvR (h.1 (3, 0, 1)) to fr k)) := by
    intro n
    induction n with
    | zero => intro k  h1 h2; exact absurd h2 (by omega)
    | succ n ih =>
      intro k  h1 h2
      refine v_iload_n hC (pc := 2) (k := 3) 0 rfl dX7_copies_2 ?_
      refine v_bipush hC (pc := 3) (v := 80) (by decide +kernel) dX7_copies_3 ?_
      refine v_icmp_ge hC (pc := 5) (tgt := 30) dX7_copies_5 (by decide) (fun c_5 => ?_) (fun c_5 => ?_)
      · skip
        have hi : k = 80 := lp_ex (N := 80) (c_5) h1 (by omega)
        refine v_vret hC hX (pc := 30) dX7_copies_30 ?_
        subst hi
        exact ⟨rfl, rfl⟩
      · skip
        have hi : k < 80 := lp_in (N := 80) (c_5) h1 (by omega)
        refine v_aload_n hC (pc := 8) (k := 0) 1 rfl dX7_copies_8 ?_
        refine v_getR hC (pc := 9) dX7_copies_9 fl_X7_7 rfl (by first | rfl | exact ok_c hq rfl | exact ok_w hq hw | exact ok_w (by omega) (by omega) | exact ok_s (by omega) (by omega) | exact ok_c (by omega) rfl | assumption) rfl (by decide) (by decide) rfl ?_
        refine v_iload_n hC (pc := 12) (k := 1) 2 rfl dX7_copies_12 ?_
        refine v_iload_n hC (pc := 13) (k := 3) 0 rfl dX7_copies_13 ?_
        refine v_iadd hC (pc := 14) dX7_copies_14 ?_
        refine v_aload_n hC (pc := 15) (k := 0) 1 rfl dX7_copies_15 ?_
        refine v_getR hC (pc := 16) dX7_copies_16 fl_X7_7 rfl (by first | rfl | exact ok_c hq rfl | exact ok_w hq hw | exact ok_w (by omega) (by omega) | exact ok_s (by omega) (by omega) | exact ok_c (by omega) rfl | assumption) rfl (by decide) (by decide) rfl ?_
        refine v_iload_n hC (pc := 19) (k := 2) 3 rfl dX7_copies_19 ?_
        refine v_iload_n hC (pc := 20) (k := 3) 0 rfl dX7_copies_20 ?_
        refine v_iadd hC (pc := 21) dX7_copies_21 ?_
        refine v_iald hC (pc := 22) dX7_copies_22 rfl (by first | rfl | exact ok_c hq rfl | exact ok_w hq hw | exact ok_w (by omega) (by omega) | exact ok_s (by omega) (by omega) | exact ok_c (by omega) rfl | assumption) (by rw [nI_add]; exact vp_nat (by omega) (by decide)) ?_
        refine v_iast hC (pc := 23) dX7_copies_23 rfl (by first | rfl | exact ok_c hq rfl | exact ok_w hq hw | exact ok_w (by omega) (by omega) | exact ok_s (by omega) (by omega) | exact ok_c (by omega) rfl | assumption) (by rw [nI_add]; exact vp_nat (by omega) (by decide)) ?_
        refine v_heap (show _ = upR h (3, 0, 1) (mvR (h.1 (3, 0, 1)) to fr (k + 1)) from ?_) ?_
        · rw [nI_add, nI_add, nI_clamp (show to + k < 2 ^ 31 by omega), nI_clamp (show fr + k < 2 ^ 31 by omega), upI_upR, upR_same, mvR_s _ _ _ _ (by omega)]
        refine v_iinc hC (pc := 24) (l' := [(3, _), (0, _), (1, _), (2, _)]) 0 (v := nI (k + 1)) dX7_copies_24 rfl (nI_inc k) (by decide) rfl ?_
        refine v_goto hC (pc := 27) (tgt := 2) dX7_copies_27 (by decide) ?_
        exact ih (k + 1) (by omega) (by omega)
  refine v_iconst hC (pc := 0) (v := 0) (by decide) dX7_copies_0 ?_
  refine v_istore_n hC (pc := 1) (l' := [(3, _), (0, _), (1, _), (2, _)]) dX7_copies_1 (by decide) rfl ?_
  refine v_heap (show h = upR h (3, 0, 1) (mvR (h.1 (3, 0, 1)) to fr 0) from ?_) ?_
  · rw [mvR_0, upR_id]
  · exact loop 81 0 (by omega) (by omega)

def bitsF (x : Int32) (n : Nat) : Int32 := itN (fun k a => a + ((x >>> (nI k &&& 31)) &&& 1)) n 0
set_option maxRecDepth 20000 in
set_option maxHeartbeats 2000000 in
theorem m_bitsOf (l9 : Launch) (G : WT) {d : Nat} (hd : 1 ≤ d) (h : HP) (x : Int32) : MS l9 G yX7_bitsOf cX7_bitsOf 3 (some .int) d [vi x] h (fun r h1 => h1 = h ∧ r = some (vi (bitsF x 8))) := by
  refine MS_of (by decide +kernel) (Nat.le_of_ble_eq_true rfl) (fun X hC hX => ?_)
  show V X G 3 0 _ [] _
  have loop : ∀ (n k : Nat) (a : Int32), k ≤ 8 → 8 + 1 ≤ k + n → a = bitsF x k → V X G 3 4 [(2, vi (nI k)), (1, vi a), (0, vi x)] [] (h) := by
    intro n
    induction n with
    | zero => intro k a h1 h2; exact absurd h2 (by omega)
    | succ n ih =>
      intro k a h1 h2 ha
      refine v_iload_n hC (pc := 4) (k := 2) 0 rfl dX7_bitsOf_4 ?_
      refine v_bipush hC (pc := 5) (v := 8) (by decide +kernel) dX7_bitsOf_5 ?_
      refine v_icmp_ge hC (pc := 7) (tgt := 24) dX7_bitsOf_7 (by decide) (fun c_7 => ?_) (fun c_7 => ?_)
      · skip
        have hi : k = 8 := lp_ex (N := 8) (c_7) h1 (by omega)
        refine v_iload_n hC (pc := 24) (k := 1) 1 rfl dX7_bitsOf_24 ?_
        refine v_iret hC hX (pc := 25) dX7_bitsOf_25 ?_
        subst hi
        exact ⟨rfl, by rw [ha]⟩
      · skip
        have hi : k < 8 := lp_in (N := 8) (c_7) h1 (by omega)
        refine v_iload_n hC (pc := 10) (k := 1) 1 rfl dX7_bitsOf_10 ?_
        refine v_iload_n hC (pc := 11) (k := 0) 2 rfl dX7_bitsOf_11 ?_
        refine v_iload_n hC (pc := 12) (k := 2) 0 rfl dX7_bitsOf_12 ?_
        refine v_ishr hC (pc := 13) dX7_bitsOf_13 ?_
        refine v_iconst hC (pc := 14) (v := 1) (by decide) dX7_bitsOf_14 ?_
        refine v_iand hC (pc := 15) dX7_bitsOf_15 ?_
        refine v_iadd hC (pc := 16) dX7_bitsOf_16 ?_
        refine v_istore_n hC (pc := 17) (l' := [(1, _), (2, _), (0, _)]) dX7_bitsOf_17 (by decide) rfl ?_
        refine v_iinc hC (pc := 18) (l' := [(2, _), (1, _), (0, _)]) 1 (v := nI (k + 1)) dX7_bitsOf_18 rfl (nI_inc k) (by decide) rfl ?_
        refine v_goto hC (pc := 21) (tgt := 4) dX7_bitsOf_21 (by decide) ?_
        exact ih (k + 1) _ (by omega) (by omega) (by rw [ha]; rfl)
  refine v_iconst hC (pc := 0) (v := 0) (by decide) dX7_bitsOf_0 ?_
  refine v_istore_n hC (pc := 1) (l' := [(1, _), (0, _)]) dX7_bitsOf_1 (by decide) rfl ?_
  refine v_iconst hC (pc := 2) (v := 0) (by decide) dX7_bitsOf_2 ?_
  refine v_istore_n hC (pc := 3) (l' := [(2, _), (1, _), (0, _)]) dX7_bitsOf_3 (by decide) rfl ?_
  exact loop 9 0 _ (by omega) (by omega) rfl

set_option maxRecDepth 20000 in
set_option maxHeartbeats 2000000 in
theorem m_isSheet (l9 : Launch) (G : WT) {d : Nat} (hd : 2 ≤ d) (h : HP) (k l : Int32) : MS l9 G yX7_isSheet cX7_isSheet 2 (some .boolean) d [vi k, vi l] h (fun r h1 => h1 = h ∧ r = some (vi (bI ((¬ k < 0 ∧ ¬ 3 < k) ∧ ¬ l < 0 ∧ ¬ 2 < l)))) := by
  refine MS_of (by decide +kernel) (Nat.le_of_ble_eq_true rfl) (fun X hC hX => ?_)
  show V X G 2 0 _ [] _
  refine v_iload_n hC (pc := 0) (k := 0) 0 rfl dX7_isSheet_0 ?_
  refine v_i2l hC (pc := 1) dX7_isSheet_1 ?_
  refine v_lconst hC (pc := 2) (v := 0) (by decide) dX7_isSheet_2 ?_
  refine v_ldc2 hC (pc := 3) k_X7_231 dX7_isSheet_3 ?_
  refine v_callS hC (pc := 6) (As := [_, _, _]) dX7_isSheet_6 rfl (m_in _ _ (d := d - 1) (by omega) _ (k) (0) (3)) cs_X7_84 (Nat.le_of_ble_eq_true rfl) (by omega) (fun r h' hr => ?_)
  obtain ⟨he9, rfl⟩ := hr
  rw [he9]
  clear he9 h'
  show V _ _ _ (6 + 3) _ (_ :: _) _
  refine v_ifb_eq hC (pc := 9) (tgt := 28) dX7_isSheet_9 (by decide) (fun c_9 => ?_) (fun c_9 => ?_)
  · skip
    refine v_iconst hC (pc := 28) (v := 0) (by decide) dX7_isSheet_28 ?_
    refine v_zret hC hX (pc := 29) dX7_isSheet_29 (nar_b (by first | exact Or.inl rfl | exact Or.inr rfl | exact bI_01 _)) ?_
    refine ⟨rfl, ?_⟩
    first | (rw [bI_t ⟨c_9, c_21⟩]; done) | (rw [bI_f (fun z => c_9 z.1)]; done) | (rw [bI_f (fun z => c_21 z.2)]; done)
  · skip
    refine v_iload_n hC (pc := 12) (k := 1) 1 rfl dX7_isSheet_12 ?_
    refine v_i2l hC (pc := 13) dX7_isSheet_13 ?_
    refine v_lconst hC (pc := 14) (v := 0) (by decide) dX7_isSheet_14 ?_
    refine v_ldc2 hC (pc := 15) k_X7_167 dX7_isSheet_15 ?_
    refine v_callS hC (pc := 18) (As := [_, _, _]) dX7_isSheet_18 rfl (m_in _ _ (d := d - 1) (by omega) _ (l) (0) (2)) cs_X7_84 (Nat.le_of_ble_eq_true rfl) (by omega) (fun r h' hr => ?_)
    obtain ⟨he9, rfl⟩ := hr
    rw [he9]
    clear he9 h'
    show V _ _ _ (18 + 3) _ (_ :: _) _
    refine v_ifb_eq hC (pc := 21) (tgt := 28) dX7_isSheet_21 (by decide) (fun c_21 => ?_) (fun c_21 => ?_)
    · skip
      refine v_iconst hC (pc := 28) (v := 0) (by decide) dX7_isSheet_28 ?_
      refine v_zret hC hX (pc := 29) dX7_isSheet_29 (nar_b (by first | exact Or.inl rfl | exact Or.inr rfl | exact bI_01 _)) ?_
      refine ⟨rfl, ?_⟩
      first | (rw [bI_t ⟨c_9, c_21⟩]; done) | (rw [bI_f (fun z => c_9 z.1)]; done) | (rw [bI_f (fun z => c_21 z.2)]; done)
    · skip
      refine v_iconst hC (pc := 24) (v := 1) (by decide) dX7_isSheet_24 ?_
      refine v_goto hC (pc := 25) (tgt := 29) dX7_isSheet_25 (by decide) ?_
      refine v_zret hC hX (pc := 29) dX7_isSheet_29 (nar_b (by first | exact Or.inl rfl | exact Or.inr rfl | exact bI_01 _)) ?_
      refine ⟨rfl, ?_⟩
      first | (rw [bI_t ⟨c_9, c_21⟩]; done) | (rw [bI_f (fun z => c_9 z.1)]; done) | (rw [bI_f (fun z => c_21 z.2)]; done)

set_option maxRecDepth 20000 in
set_option maxHeartbeats 2000000 in
theorem m_handIn (l9 : Launch) (G : WT) {d : Nat} (hd : 2 ≤ d) (h : HP) {w : Nat} (hw : w < 4) (hour : Int32) : MS l9 G yX7_handIn cX7_handIn 4 (some .int) d [vr (3, 0, 0), vi (nI w), vi hour] h (fun r h1 => h1 = h ∧ r = some (vi (hndF (h.1 (3, 0, 1) (18 + 6 * w + 1)) (h.1 (3, 0, 1) (18 + 6 * w + 2)) hour))) := by
  refine MS_of (by decide +kernel) (Nat.le_of_ble_eq_true rfl) (fun X hC hX => ?_)
  show V X G 4 0 _ [] _
  refine v_aload_n hC (pc := 0) (k := 0) 0 rfl dX7_handIn_0 ?_
  refine v_getR hC (pc := 1) dX7_handIn_1 fl_X7_7 rfl (by first | rfl | exact ok_c hq rfl | exact ok_w hq hw | exact ok_w (by omega) (by omega) | exact ok_s (by omega) (by omega) | exact ok_c (by omega) rfl | assumption) rfl (by decide) (by decide) rfl ?_
  refine v_bipush hC (pc := 4) (v := 18) (by decide +kernel) dX7_handIn_4 ?_
  refine v_bipush hC (pc := 6) (v := 6) (by decide +kernel) dX7_handIn_6 ?_
  refine v_iload_n hC (pc := 8) (k := 1) 1 rfl dX7_handIn_8 ?_
  refine v_imul hC (pc := 9) dX7_handIn_9 ?_
  refine v_iadd hC (pc := 10) dX7_handIn_10 ?_
  refine v_iconst hC (pc := 11) (v := 1) (by decide) dX7_handIn_11 ?_
  refine v_iadd hC (pc := 12) dX7_handIn_12 ?_
  rw [show (18 : Int32) + 6 * nI w + 1 = nI (18 + 6 * w + 1) from by rw [show (18 : Int32) = nI 18 from rfl, show (6 : Int32) = nI 6 from rfl, show (1 : Int32) = nI 1 from rfl, pk_mul, nI_add, nI_add]]
  refine v_iald hC (pc := 13) dX7_handIn_13 rfl (by first | rfl | exact ok_c hq rfl | exact ok_w hq hw | exact ok_w (by omega) (by omega) | exact ok_s (by omega) (by omega) | exact ok_c (by omega) rfl | assumption) (vp_nat (by omega) (by decide)) ?_
  rw [nI_clamp (show 18 + 6 * w + 1 < 2 ^ 31 by omega)]
  refine v_istore_n hC (pc := 14) (l' := [(3, _), (0, _), (1, _), (2, _)]) dX7_handIn_14 (by decide) rfl ?_
  refine v_iload_n hC (pc := 15) (k := 2) 3 rfl dX7_handIn_15 ?_
  refine v_callS hC (pc := 16) (As := [_]) dX7_handIn_16 rfl (m_isTurned _ _ (d := d - 1) (by omega) _ _) cs_X7_179 (Nat.le_of_ble_eq_true rfl) (by omega) (fun r h' hr => ?_)
  obtain ⟨he9, rfl⟩ := hr
  rw [he9]
  clear he9 h'
  show V _ _ _ (16 + 3) _ (_ :: _) _
  refine v_ifb_eq hC (pc := 19) (tgt := 45) dX7_handIn_19 (by decide) (fun c_19 => ?_) (fun c_19 => ?_)
  · skip
    refine v_iload_n hC (pc := 45) (k := 3) 0 rfl dX7_handIn_45 ?_
    refine v_iret hC hX (pc := 46) dX7_handIn_46 ?_
    exact ⟨rfl, by simp only [c_19, hndF, not_true_eq_false, not_false_eq_true, and_self, and_true, true_and, and_false, false_and, or_true, true_or, or_false, false_or, if_true, if_false, ↓reduceIte, ite_true, ite_false]⟩
  · skip
    refine v_aload_n hC (pc := 22) (k := 0) 1 rfl dX7_handIn_22 ?_
    refine v_getR hC (pc := 23) dX7_handIn_23 fl_X7_7 rfl (by first | rfl | exact ok_c hq rfl | exact ok_w hq hw | exact ok_w (by omega) (by omega) | exact ok_s (by omega) (by omega) | exact ok_c (by omega) rfl | assumption) rfl (by decide) (by decide) rfl ?_
    refine v_bipush hC (pc := 26) (v := 18) (by decide +kernel) dX7_handIn_26 ?_
    refine v_bipush hC (pc := 28) (v := 6) (by decide +kernel) dX7_handIn_28 ?_
    refine v_iload_n hC (pc := 30) (k := 1) 2 rfl dX7_handIn_30 ?_
    refine v_imul hC (pc := 31) dX7_handIn_31 ?_
    refine v_iadd hC (pc := 32) dX7_handIn_32 ?_
    refine v_iconst hC (pc := 33) (v := 2) (by decide) dX7_handIn_33 ?_
    refine v_iadd hC (pc := 34) dX7_handIn_34 ?_
    rw [show (18 : Int32) + 6 * nI w + 2 = nI (18 + 6 * w + 2) from by rw [show (18 : Int32) = nI 18 from rfl, show (6 : Int32) = nI 6 from rfl, show (2 : Int32) = nI 2 from rfl, pk_mul, nI_add, nI_add]]
    refine v_iald hC (pc := 35) dX7_handIn_35 rfl (by first | rfl | exact ok_c hq rfl | exact ok_w hq hw | exact ok_w (by omega) (by omega) | exact ok_s (by omega) (by omega) | exact ok_c (by omega) rfl | assumption) (vp_nat (by omega) (by decide)) ?_
    rw [nI_clamp (show 18 + 6 * w + 2 < 2 ^ 31 by omega)]
    refine v_if_ne hC (pc := 36) (tgt := 45) dX7_handIn_36 (by decide) (fun c_36 => ?_) (fun c_36 => ?_)
    · skip
      refine v_iload_n hC (pc := 45) (k := 3) 0 rfl dX7_handIn_45 ?_
      refine v_iret hC hX (pc := 46) dX7_handIn_46 ?_
      exact ⟨rfl, by simp only [c_19, c_36, hndF, not_true_eq_false, not_false_eq_true, and_self, and_true, true_and, and_false, false_and, or_true, true_or, or_false, false_or, if_true, if_false, ↓reduceIte, ite_true, ite_false]⟩
    · skip
      refine v_iconst hC (pc := 39) (v := 1) (by decide) dX7_handIn_39 ?_
      refine v_iload_n hC (pc := 40) (k := 3) 0 rfl dX7_handIn_40 ?_
      refine v_isub hC (pc := 41) dX7_handIn_41 ?_
      refine v_goto hC (pc := 42) (tgt := 46) dX7_handIn_42 (by decide) ?_
      refine v_iret hC hX (pc := 46) dX7_handIn_46 ?_
      exact ⟨rfl, by simp only [c_19, c_36, hndF, not_true_eq_false, not_false_eq_true, and_self, and_true, true_and, and_false, false_and, or_true, true_or, or_false, false_or, if_true, if_false, ↓reduceIte, ite_true, ite_false]⟩

/-- two walk head on: places, goals, who sets out -/
def dcP (P D g : Nat → Int32) (w v : Nat) : Prop := ¬ g w = 0 ∧ ¬ g v = 0 ∧ ¬ P w = P v ∧ D w = P v ∧ D v = P w
def plM (h : HP) (w : Nat) : Int32 := h.1 (3, 0, 2) (18 + 6 * w + 0)
set_option maxRecDepth 20000 in
set_option maxHeartbeats 2000000 in
theorem m_doClash (l9 : Launch) (G : WT) {d : Nat} (hd : 2 ≤ d) (h : HP) {w v : Nat} (hw : w < 4) (hv : v < 4) : MS l9 G yX7_doClash cX7_doClash 4 (some .boolean) d [vr (3, 0, 0), vi (nI w), vi (nI v)] h (fun r h1 => h1 = h ∧ r = some (vi (bP (dcP (plM h) (h.1 (3, 0, 20)) (h.1 (3, 0, 21)) w v)))) := by
  refine MS_of (by decide +kernel) (Nat.le_of_ble_eq_true rfl) (fun X hC hX => ?_)
  show V X G 4 0 _ [] _
  refine v_aload_n hC (pc := 0) (k := 0) 0 rfl dX7_doClash_0 ?_
  refine v_iload_n hC (pc := 1) (k := 1) 1 rfl dX7_doClash_1 ?_
  refine v_iconst hC (pc := 2) (v := 0) (by decide) dX7_doClash_2 ?_
  refine v_callV hC (pc := 3) (As := [_, _]) dX7_doClash_3 rfl (m_of _ _ (d := d - 1) (by omega) _ (w := w) (by omega) (k := 0) (by decide)) cv_X7_187 rfl (by decide) rfl (by first | rfl | exact ok_c hq rfl | exact ok_w hq hw | exact ok_w (by omega) (by omega) | exact ok_s (by omega) (by omega) | exact ok_c (by omega) rfl | assumption) (Nat.le_of_ble_eq_true rfl) (by omega) (fun r h' hr => ?_)
  obtain ⟨he9, rfl⟩ := hr
  rw [he9]
  clear he9 h'
  show V _ _ _ (3 + 3) _ (_ :: _) _
  refine v_aload_n hC (pc := 6) (k := 0) 0 rfl dX7_doClash_6 ?_
  refine v_iload_n hC (pc := 7) (k := 2) 2 rfl dX7_doClash_7 ?_
  refine v_iconst hC (pc := 8) (v := 0) (by decide) dX7_doClash_8 ?_
  refine v_callV hC (pc := 9) (As := [_, _]) dX7_doClash_9 rfl (m_of _ _ (d := d - 1) (by omega) _ (w := v) (by omega) (k := 0) (by decide)) cv_X7_187 rfl (by decide) rfl (by first | rfl | exact ok_c hq rfl | exact ok_w hq hw | exact ok_w (by omega) (by omega) | exact ok_s (by omega) (by omega) | exact ok_c (by omega) rfl | assumption) (Nat.le_of_ble_eq_true rfl) (by omega) (fun r h' hr => ?_)
  obtain ⟨he9, rfl⟩ := hr
  rw [he9]
  clear he9 h'
  show V _ _ _ (9 + 3) _ (_ :: _) _
  refine v_icmp_eq hC (pc := 12) (tgt := 19) dX7_doClash_12 (by decide) (fun c_12 => ?_) (fun c_12 => ?_)
  · skip
    refine v_iconst hC (pc := 19) (v := 0) (by decide) dX7_doClash_19 ?_
    refine v_istore_n hC (pc := 20) (l' := [(3, _), (0, _), (1, _), (2, _)]) dX7_doClash_20 (by decide) rfl ?_
    refine v_aload_n hC (pc := 21) (k := 0) 1 rfl dX7_doClash_21 ?_
    refine v_getR hC (pc := 22) dX7_doClash_22 fl_X7_32 rfl (by first | rfl | exact ok_c hq rfl | exact ok_w hq hw | exact ok_w (by omega) (by omega) | exact ok_s (by omega) (by omega) | exact ok_c (by omega) rfl | assumption) rfl (by decide) (by decide) rfl ?_
    refine v_iload_n hC (pc := 25) (k := 1) 2 rfl dX7_doClash_25 ?_
    refine v_zald hC (pc := 26) dX7_doClash_26 rfl (by first | rfl | exact ok_c hq rfl | exact ok_w hq hw | exact ok_w (by omega) (by omega) | exact ok_s (by omega) (by omega) | exact ok_c (by omega) rfl | assumption) (vp_nat (by omega) (by decide)) ?_
    rw [nI_clamp (show w < 2 ^ 31 by omega)]
    refine v_if_eq hC (pc := 27) (tgt := 77) dX7_doClash_27 (by decide) (fun c_27 => ?_) (fun c_27 => ?_)
    · skip
      refine v_iconst hC (pc := 77) (v := 0) (by decide) dX7_doClash_77 ?_
      refine v_zret hC hX (pc := 78) dX7_doClash_78 (nar_b (by first | exact Or.inl rfl | exact Or.inr rfl | exact bI_01 _ | exact bP_01 _)) ?_
      refine ⟨rfl, ?_⟩
      first | (rw [bP_t ⟨c_27, c_36, c_12, c_55, c_70⟩]; done) | (rw [bP_f (by first | exact fun z => z.1 c_27 | exact fun z => z.2.1 c_36 | exact fun z => z.2.2.1 c_12 | exact fun z => c_55 z.2.2.2.1 | exact fun z => c_70 z.2.2.2.2)]; done)
    · skip
      refine v_aload_n hC (pc := 30) (k := 0) 1 rfl dX7_doClash_30 ?_
      refine v_getR hC (pc := 31) dX7_doClash_31 fl_X7_32 rfl (by first | rfl | exact ok_c hq rfl | exact ok_w hq hw | exact ok_w (by omega) (by omega) | exact ok_s (by omega) (by omega) | exact ok_c (by omega) rfl | assumption) rfl (by decide) (by decide) rfl ?_
      refine v_iload_n hC (pc := 34) (k := 2) 3 rfl dX7_doClash_34 ?_
      refine v_zald hC (pc := 35) dX7_doClash_35 rfl (by first | rfl | exact ok_c hq rfl | exact ok_w hq hw | exact ok_w (by omega) (by omega) | exact ok_s (by omega) (by omega) | exact ok_c (by omega) rfl | assumption) (vp_nat (by omega) (by decide)) ?_
      rw [nI_clamp (show v < 2 ^ 31 by omega)]
      refine v_if_eq hC (pc := 36) (tgt := 77) dX7_doClash_36 (by decide) (fun c_36 => ?_) (fun c_36 => ?_)
      · skip
        refine v_iconst hC (pc := 77) (v := 0) (by decide) dX7_doClash_77 ?_
        refine v_zret hC hX (pc := 78) dX7_doClash_78 (nar_b (by first | exact Or.inl rfl | exact Or.inr rfl | exact bI_01 _ | exact bP_01 _)) ?_
        refine ⟨rfl, ?_⟩
        first | (rw [bP_t ⟨c_27, c_36, c_12, c_55, c_70⟩]; done) | (rw [bP_f (by first | exact fun z => z.1 c_27 | exact fun z => z.2.1 c_36 | exact fun z => z.2.2.1 c_12 | exact fun z => c_55 z.2.2.2.1 | exact fun z => c_70 z.2.2.2.2)]; done)
      · skip
        refine v_iload_n hC (pc := 39) (k := 3) 0 rfl dX7_doClash_39 ?_
        refine v_if_eq hC (pc := 40) (tgt := 77) dX7_doClash_40 (by decide) (fun c_40 => ?_) (fun c_40 => ?_)
        · skip
          refine v_iconst hC (pc := 77) (v := 0) (by decide) dX7_doClash_77 ?_
          refine v_zret hC hX (pc := 78) dX7_doClash_78 (nar_b (by first | exact Or.inl rfl | exact Or.inr rfl | exact bI_01 _ | exact bP_01 _)) ?_
          refine ⟨rfl, ?_⟩
          first | (rw [bP_t ⟨c_27, c_36, c_12, c_55, c_70⟩]; done) | (rw [bP_f (by first | exact fun z => z.1 c_27 | exact fun z => z.2.1 c_36 | exact fun z => z.2.2.1 c_12 | exact fun z => c_55 z.2.2.2.1 | exact fun z => c_70 z.2.2.2.2)]; done)
        · exact absurd c_40 (by decide)
  · skip
    refine v_iconst hC (pc := 15) (v := 1) (by decide) dX7_doClash_15 ?_
    refine v_goto hC (pc := 16) (tgt := 20) dX7_doClash_16 (by decide) ?_
    refine v_istore_n hC (pc := 20) (l' := [(3, _), (0, _), (1, _), (2, _)]) dX7_doClash_20 (by decide) rfl ?_
    refine v_aload_n hC (pc := 21) (k := 0) 1 rfl dX7_doClash_21 ?_
    refine v_getR hC (pc := 22) dX7_doClash_22 fl_X7_32 rfl (by first | rfl | exact ok_c hq rfl | exact ok_w hq hw | exact ok_w (by omega) (by omega) | exact ok_s (by omega) (by omega) | exact ok_c (by omega) rfl | assumption) rfl (by decide) (by decide) rfl ?_
    refine v_iload_n hC (pc := 25) (k := 1) 2 rfl dX7_doClash_25 ?_
    refine v_zald hC (pc := 26) dX7_doClash_26 rfl (by first | rfl | exact ok_c hq rfl | exact ok_w hq hw | exact ok_w (by omega) (by omega) | exact ok_s (by omega) (by omega) | exact ok_c (by omega) rfl | assumption) (vp_nat (by omega) (by decide)) ?_
    rw [nI_clamp (show w < 2 ^ 31 by omega)]
    refine v_if_eq hC (pc := 27) (tgt := 77) dX7_doClash_27 (by decide) (fun c_27 => ?_) (fun c_27 => ?_)
    · skip
      refine v_iconst hC (pc := 77) (v := 0) (by decide) dX7_doClash_77 ?_
      refine v_zret hC hX (pc := 78) dX7_doClash_78 (nar_b (by first | exact Or.inl rfl | exact Or.inr rfl | exact bI_01 _ | exact bP_01 _)) ?_
      refine ⟨rfl, ?_⟩
      first | (rw [bP_t ⟨c_27, c_36, c_12, c_55, c_70⟩]; done) | (rw [bP_f (by first | exact fun z => z.1 c_27 | exact fun z => z.2.1 c_36 | exact fun z => z.2.2.1 c_12 | exact fun z => c_55 z.2.2.2.1 | exact fun z => c_70 z.2.2.2.2)]; done)
    · skip
      refine v_aload_n hC (pc := 30) (k := 0) 1 rfl dX7_doClash_30 ?_
      refine v_getR hC (pc := 31) dX7_doClash_31 fl_X7_32 rfl (by first | rfl | exact ok_c hq rfl | exact ok_w hq hw | exact ok_w (by omega) (by omega) | exact ok_s (by omega) (by omega) | exact ok_c (by omega) rfl | assumption) rfl (by decide) (by decide) rfl ?_
      refine v_iload_n hC (pc := 34) (k := 2) 3 rfl dX7_doClash_34 ?_
      refine v_zald hC (pc := 35) dX7_doClash_35 rfl (by first | rfl | exact ok_c hq rfl | exact ok_w hq hw | exact ok_w (by omega) (by omega) | exact ok_s (by omega) (by omega) | exact ok_c (by omega) rfl | assumption) (vp_nat (by omega) (by decide)) ?_
      rw [nI_clamp (show v < 2 ^ 31 by omega)]
      refine v_if_eq hC (pc := 36) (tgt := 77) dX7_doClash_36 (by decide) (fun c_36 => ?_) (fun c_36 => ?_)
      · skip
        refine v_iconst hC (pc := 77) (v := 0) (by decide) dX7_doClash_77 ?_
        refine v_zret hC hX (pc := 78) dX7_doClash_78 (nar_b (by first | exact Or.inl rfl | exact Or.inr rfl | exact bI_01 _ | exact bP_01 _)) ?_
        refine ⟨rfl, ?_⟩
        first | (rw [bP_t ⟨c_27, c_36, c_12, c_55, c_70⟩]; done) | (rw [bP_f (by first | exact fun z => z.1 c_27 | exact fun z => z.2.1 c_36 | exact fun z => z.2.2.1 c_12 | exact fun z => c_55 z.2.2.2.1 | exact fun z => c_70 z.2.2.2.2)]; done)
      · skip
        refine v_iload_n hC (pc := 39) (k := 3) 0 rfl dX7_doClash_39 ?_
        refine v_if_eq hC (pc := 40) (tgt := 77) dX7_doClash_40 (by decide) (fun c_40 => ?_) (fun c_40 => ?_)
        · exact absurd c_40 (by decide)
        · skip
          refine v_aload_n hC (pc := 43) (k := 0) 1 rfl dX7_doClash_43 ?_
          refine v_getR hC (pc := 44) dX7_doClash_44 fl_X7_29 rfl (by first | rfl | exact ok_c hq rfl | exact ok_w hq hw | exact ok_w (by omega) (by omega) | exact ok_s (by omega) (by omega) | exact ok_c (by omega) rfl | assumption) rfl (by decide) (by decide) rfl ?_
          refine v_iload_n hC (pc := 47) (k := 1) 2 rfl dX7_doClash_47 ?_
          refine v_iald hC (pc := 48) dX7_doClash_48 rfl (by first | rfl | exact ok_c hq rfl | exact ok_w hq hw | exact ok_w (by omega) (by omega) | exact ok_s (by omega) (by omega) | exact ok_c (by omega) rfl | assumption) (vp_nat (by omega) (by decide)) ?_
          rw [nI_clamp (show w < 2 ^ 31 by omega)]
          refine v_aload_n hC (pc := 49) (k := 0) 1 rfl dX7_doClash_49 ?_
          refine v_iload_n hC (pc := 50) (k := 2) 3 rfl dX7_doClash_50 ?_
          refine v_iconst hC (pc := 51) (v := 0) (by decide) dX7_doClash_51 ?_
          refine v_callV hC (pc := 52) (As := [_, _]) dX7_doClash_52 rfl (m_of _ _ (d := d - 1) (by omega) _ (w := v) (by omega) (k := 0) (by decide)) cv_X7_187 rfl (by decide) rfl (by first | rfl | exact ok_c hq rfl | exact ok_w hq hw | exact ok_w (by omega) (by omega) | exact ok_s (by omega) (by omega) | exact ok_c (by omega) rfl | assumption) (Nat.le_of_ble_eq_true rfl) (by omega) (fun r h' hr => ?_)
          obtain ⟨he9, rfl⟩ := hr
          rw [he9]
          clear he9 h'
          show V _ _ _ (52 + 3) _ (_ :: _) _
          refine v_icmp_ne hC (pc := 55) (tgt := 77) dX7_doClash_55 (by decide) (fun c_55 => ?_) (fun c_55 => ?_)
          · skip
            refine v_iconst hC (pc := 77) (v := 0) (by decide) dX7_doClash_77 ?_
            refine v_zret hC hX (pc := 78) dX7_doClash_78 (nar_b (by first | exact Or.inl rfl | exact Or.inr rfl | exact bI_01 _ | exact bP_01 _)) ?_
            refine ⟨rfl, ?_⟩
            first | (rw [bP_t ⟨c_27, c_36, c_12, c_55, c_70⟩]; done) | (rw [bP_f (by first | exact fun z => z.1 c_27 | exact fun z => z.2.1 c_36 | exact fun z => z.2.2.1 c_12 | exact fun z => c_55 z.2.2.2.1 | exact fun z => c_70 z.2.2.2.2)]; done)
          · skip
            refine v_aload_n hC (pc := 58) (k := 0) 1 rfl dX7_doClash_58 ?_
            refine v_getR hC (pc := 59) dX7_doClash_59 fl_X7_29 rfl (by first | rfl | exact ok_c hq rfl | exact ok_w hq hw | exact ok_w (by omega) (by omega) | exact ok_s (by omega) (by omega) | exact ok_c (by omega) rfl | assumption) rfl (by decide) (by decide) rfl ?_
            refine v_iload_n hC (pc := 62) (k := 2) 3 rfl dX7_doClash_62 ?_
            refine v_iald hC (pc := 63) dX7_doClash_63 rfl (by first | rfl | exact ok_c hq rfl | exact ok_w hq hw | exact ok_w (by omega) (by omega) | exact ok_s (by omega) (by omega) | exact ok_c (by omega) rfl | assumption) (vp_nat (by omega) (by decide)) ?_
            rw [nI_clamp (show v < 2 ^ 31 by omega)]
            refine v_aload_n hC (pc := 64) (k := 0) 1 rfl dX7_doClash_64 ?_
            refine v_iload_n hC (pc := 65) (k := 1) 2 rfl dX7_doClash_65 ?_
            refine v_iconst hC (pc := 66) (v := 0) (by decide) dX7_doClash_66 ?_
            refine v_callV hC (pc := 67) (As := [_, _]) dX7_doClash_67 rfl (m_of _ _ (d := d - 1) (by omega) _ (w := w) (by omega) (k := 0) (by decide)) cv_X7_187 rfl (by decide) rfl (by first | rfl | exact ok_c hq rfl | exact ok_w hq hw | exact ok_w (by omega) (by omega) | exact ok_s (by omega) (by omega) | exact ok_c (by omega) rfl | assumption) (Nat.le_of_ble_eq_true rfl) (by omega) (fun r h' hr => ?_)
            obtain ⟨he9, rfl⟩ := hr
            rw [he9]
            clear he9 h'
            show V _ _ _ (67 + 3) _ (_ :: _) _
            refine v_icmp_ne hC (pc := 70) (tgt := 77) dX7_doClash_70 (by decide) (fun c_70 => ?_) (fun c_70 => ?_)
            · skip
              refine v_iconst hC (pc := 77) (v := 0) (by decide) dX7_doClash_77 ?_
              refine v_zret hC hX (pc := 78) dX7_doClash_78 (nar_b (by first | exact Or.inl rfl | exact Or.inr rfl | exact bI_01 _ | exact bP_01 _)) ?_
              refine ⟨rfl, ?_⟩
              first | (rw [bP_t ⟨c_27, c_36, c_12, c_55, c_70⟩]; done) | (rw [bP_f (by first | exact fun z => z.1 c_27 | exact fun z => z.2.1 c_36 | exact fun z => z.2.2.1 c_12 | exact fun z => c_55 z.2.2.2.1 | exact fun z => c_70 z.2.2.2.2)]; done)
            · skip
              refine v_iconst hC (pc := 73) (v := 1) (by decide) dX7_doClash_73 ?_
              refine v_goto hC (pc := 74) (tgt := 78) dX7_doClash_74 (by decide) ?_
              refine v_zret hC hX (pc := 78) dX7_doClash_78 (nar_b (by first | exact Or.inl rfl | exact Or.inr rfl | exact bI_01 _ | exact bP_01 _)) ?_
              refine ⟨rfl, ?_⟩
              first | (rw [bP_t ⟨c_27, c_36, c_12, c_55, c_70⟩]; done) | (rw [bP_f (by first | exact fun z => z.1 c_27 | exact fun z => z.2.1 c_36 | exact fun z => z.2.2.1 c_12 | exact fun z => c_55 z.2.2.2.1 | exact fun z => c_70 z.2.2.2.2)]; done)

theorem flg_P (p : Prop) : flgF (bP p) = bP p := by
  rcases bP_01 p with e | e <;> rw [e] <;> rfl
noncomputable def ckW (P D g : Nat → Int32) (w : Nat) (a : Int32) : Int32 := itN (fun v a => a + bP (dcP P D g w v)) w a
noncomputable def ckF (P D g : Nat → Int32) (n : Nat) : Int32 := itN (ckW P D g) n 0
/-- the first n of a row at their goals -/
def plR (A D : Nat → Int32) (n : Nat) : Nat → Int32 := fun k => if 18 ≤ k ∧ k < 18 + 6 * n ∧ (k - 18) % 6 = 0 then D ((k - 18) / 6) else A k
theorem plR_0 (A D : Nat → Int32) : plR A D 0 = A := by
  funext k
  unfold plR
  rw [if_neg (by omega)]
theorem plR_s (A D : Nat → Int32) (n : Nat) : upd (plR A D n) (18 + 6 * n + 0) (D n) = plR A D (n + 1) := by
  funext k
  unfold upd plR
  by_cases e : k = 18 + 6 * n + 0
  · subst e
    rw [if_pos rfl, if_pos (by omega), show (18 + 6 * n + 0 - 18) / 6 = n by omega]
  · rw [if_neg e]
    by_cases e2 : 18 ≤ k ∧ k < 18 + 6 * n ∧ (k - 18) % 6 = 0
    · rw [if_pos e2, if_pos (by omega)]
    · rw [if_neg e2, if_neg (by omega)]
def arrR (A D : Nat → Int32) (n : Nat) : Nat → Int32 := upd (plR A D n) 17 (A 17 + 1)
set_option maxRecDepth 20000 in
set_option maxHeartbeats 2000000 in
theorem m_arrive (l9 : Launch) (G : WT) {d : Nat} (hd : 3 ≤ d) (h : HP) {nW : Nat} (hn4 : nW ≤ 4) (hnw : h.1 (3, 0, 0) 4 = nI nW) : MS l9 G yX7_arrive cX7_arrive 4 (some .int) d [vr (3, 0, 0)] h (fun r h1 => r = some (vi (ckF (plM h) (h.1 (3, 0, 20)) (h.1 (3, 0, 21)) nW)) ∧ h1 = upR h (3, 0, 2) (arrR (h.1 (3, 0, 2)) (h.1 (3, 0, 20)) nW)) := by
  refine MS_of (by decide +kernel) (Nat.le_of_ble_eq_true rfl) (fun X hC hX => ?_)
  show V X G 4 0 _ [] _
  have fin : ∀ a : Int32, a = ckF (plM h) (h.1 (3, 0, 20)) (h.1 (3, 0, 21)) nW → V X G 4 43 [(2, vi (nI nW)), (1, vi a), (0, vr (3, 0, 0))] [] h := by
    intro a a9
    have k9 : V X G 4 71 [(2, vi (nI nW)), (1, vi a), (0, vr (3, 0, 0))] [] (upR h (3, 0, 2) (plR (h.1 (3, 0, 2)) (h.1 (3, 0, 20)) nW)) := by
      refine v_aload_n hC (pc := 71) (k := 0) 2 rfl dX7_arrive_71 ?_
      refine v_getR hC (pc := 72) dX7_arrive_72 fl_X7_13 rfl (by first | rfl | exact ok_c hq rfl | exact ok_w hq hw | exact ok_w (by omega) (by omega) | exact ok_s (by omega) (by omega) | exact ok_c (by omega) rfl | assumption) rfl (by decide) (by decide) rfl ?_
      refine v_bipush hC (pc := 75) (v := 17) (by decide +kernel) dX7_arrive_75 ?_
      refine v_dup2 hC (pc := 77) dX7_arrive_77 ?_
      refine v_iald hC (pc := 78) dX7_arrive_78 rfl (by first | rfl | exact ok_c hq rfl | exact ok_w hq hw | exact ok_w (by omega) (by omega) | exact ok_s (by omega) (by omega) | exact ok_c (by omega) rfl | assumption) (vp_nat (n := 17) (by omega) (by decide)) ?_
      refine v_iconst hC (pc := 79) (v := 1) (by decide) dX7_arrive_79 ?_
      refine v_iadd hC (pc := 80) dX7_arrive_80 ?_
      refine v_iast hC (pc := 81) dX7_arrive_81 rfl (by first | rfl | exact ok_c hq rfl | exact ok_w hq hw | exact ok_w (by omega) (by omega) | exact ok_s (by omega) (by omega) | exact ok_c (by omega) rfl | assumption) (vp_nat (n := 17) (by omega) (by decide)) ?_
      refine v_iload_n hC (pc := 82) (k := 1) 1 rfl dX7_arrive_82 ?_
      refine v_iret hC hX (pc := 83) dX7_arrive_83 ?_
      refine ⟨by rw [a9], ?_⟩
      rw [upI_upR, upR_same]
      show upR h (3, 0, 2) (upd (plR (h.1 (3, 0, 2)) (h.1 (3, 0, 20)) nW) 17 (plR (h.1 (3, 0, 2)) (h.1 (3, 0, 20)) nW 17 + 1)) = _
      rw [show plR (h.1 (3, 0, 2)) (h.1 (3, 0, 20)) nW 17 = h.1 (3, 0, 2) 17 from if_neg (by omega)]
      rfl
    have places : ∀ (n w : Nat), w ≤ nW → nW + 1 ≤ w + n → V X G 4 45 [(2, vi (nI w)), (1, vi a), (0, vr (3, 0, 0))] [] (upR h (3, 0, 2) (plR (h.1 (3, 0, 2)) (h.1 (3, 0, 20)) w)) := by
      intro n
      induction n with
      | zero => intro w h1 h2; exact absurd h2 (by omega)
      | succ n ih =>
        intro w h1 h2
        refine v_iload_n hC (pc := 45) (k := 2) 0 rfl dX7_arrive_45 ?_
        refine v_aload_n hC (pc := 46) (k := 0) 2 rfl dX7_arrive_46 ?_
        refine v_getI hC (pc := 47) dX7_arrive_47 fl_X7_79 rfl (by first | rfl | exact ok_c hq rfl | exact ok_w hq hw | exact ok_w (by omega) (by omega) | exact ok_s (by omega) (by omega) | exact ok_c (by omega) rfl | assumption) rfl (by decide) (by decide) ?_
        refine v_icmp_ge hC (pc := 50) (tgt := 71) dX7_arrive_50 (by decide) (fun c_50 => ?_) (fun c_50 => ?_)
        · skip
          have hi : w = nW := lp_ex (by rw [← hnw]; exact c_50) h1 (by omega)
          subst hi
          exact k9
        · skip
          have hi : w < nW := lp_in (by rw [← hnw]; exact c_50) h1 (by omega)
          refine v_aload_n hC (pc := 53) (k := 0) 2 rfl dX7_arrive_53 ?_
          refine v_iload_n hC (pc := 54) (k := 2) 0 rfl dX7_arrive_54 ?_
          refine v_iconst hC (pc := 55) (v := 0) (by decide) dX7_arrive_55 ?_
          refine v_aload_n hC (pc := 56) (k := 0) 2 rfl dX7_arrive_56 ?_
          refine v_getR hC (pc := 57) dX7_arrive_57 fl_X7_29 rfl (by first | rfl | exact ok_c hq rfl | exact ok_w hq hw | exact ok_w (by omega) (by omega) | exact ok_s (by omega) (by omega) | exact ok_c (by omega) rfl | assumption) rfl (by decide) (by decide) rfl ?_
          refine v_iload_n hC (pc := 60) (k := 2) 0 rfl dX7_arrive_60 ?_
          refine v_iald hC (pc := 61) dX7_arrive_61 rfl (by first | rfl | exact ok_c hq rfl | exact ok_w hq hw | exact ok_w (by omega) (by omega) | exact ok_s (by omega) (by omega) | exact ok_c (by omega) rfl | assumption) (vp_nat (by omega) (by decide)) ?_
          refine v_callV hC (pc := 62) (As := [_, _, _]) dX7_arrive_62 rfl (m_becomesOf _ _ (d := d - 1) (by omega) _ (show w < 4 by omega) (k := 0) (by decide) _) cv_X7_193 rfl (by decide) rfl (by first | rfl | exact ok_c hq rfl | exact ok_w hq hw | exact ok_w (by omega) (by omega) | exact ok_s (by omega) (by omega) | exact ok_c (by omega) rfl | assumption) (Nat.le_of_ble_eq_true rfl) (by omega) (fun r h' hr => ?_)
          obtain ⟨rfl, rfl⟩ := hr
          show V _ _ _ (62 + 3) _ _ _
          refine v_iinc hC (pc := 65) (l' := [(2, _), (1, _), (0, _)]) 0 (v := nI (w + 1)) dX7_arrive_65 rfl (nI_inc w) (by decide) rfl ?_
          refine v_goto hC (pc := 68) (tgt := 45) dX7_arrive_68 (by decide) ?_
          refine v_heap (show _ = upR h (3, 0, 2) (plR (h.1 (3, 0, 2)) (h.1 (3, 0, 20)) (w + 1)) from ?_) ?_
          · rw [upI_upR, upR_ne h _ (show ((3, 0, 20) : PId) ≠ (3, 0, 2) by decide), nI_clamp (show w < 2 ^ 31 by omega), plR_s]
          · exact ih (w + 1) (by omega) (by omega)
    refine v_iconst hC (pc := 43) (v := 0) (by decide) dX7_arrive_43 ?_
    refine v_istore_n hC (pc := 44) (l' := [(2, _), (1, _), (0, _)]) dX7_arrive_44 (by decide) rfl ?_
    refine v_heap (show h = upR h (3, 0, 2) (plR (h.1 (3, 0, 2)) (h.1 (3, 0, 20)) 0) from ?_) ?_
    · rw [plR_0, upR_id]
    · exact places (nW + 1) 0 (Nat.zero_le _) (by omega)
  have inner : ∀ (w : Nat), w < nW → ∀ (a0 : Int32), (∀ a : Int32, a = ckW (plM h) (h.1 (3, 0, 20)) (h.1 (3, 0, 21)) w a0 → V X G 4 37 [(3, vi (nI w)), (2, vi (nI w)), (1, vi a), (0, vr (3, 0, 0))] [] h) → ∀ (n v : Nat) (a : Int32), v ≤ w → w + 1 ≤ v + n → a = itN (fun v a => a + bP (dcP (plM h) (h.1 (3, 0, 20)) (h.1 (3, 0, 21)) w v)) v a0 → V X G 4 14 [(3, vi (nI v)), (2, vi (nI w)), (1, vi a), (0, vr (3, 0, 0))] [] h := by
    intro w hwn a0 k9 n
    induction n with
    | zero => intro v a h1 h2; exact absurd h2 (by omega)
    | succ n ih =>
      intro v a h1 h2 ha
      refine v_iload_n hC (pc := 14) (k := 3) 0 rfl dX7_arrive_14 ?_
      refine v_iload_n hC (pc := 15) (k := 2) 1 rfl dX7_arrive_15 ?_
      refine v_icmp_ge hC (pc := 16) (tgt := 37) dX7_arrive_16 (by decide) (fun c_16 => ?_) (fun c_16 => ?_)
      · skip
        have hi : v = w := lp_ex c_16 h1 (by omega)
        subst hi
        exact k9 a ha
      · skip
        have hi : v < w := lp_in c_16 h1 (by omega)
        refine v_iload_n hC (pc := 19) (k := 1) 2 rfl dX7_arrive_19 ?_
        refine v_aload_n hC (pc := 20) (k := 0) 3 rfl dX7_arrive_20 ?_
        refine v_iload_n hC (pc := 21) (k := 2) 1 rfl dX7_arrive_21 ?_
        refine v_iload_n hC (pc := 22) (k := 3) 0 rfl dX7_arrive_22 ?_
        refine v_callV hC (pc := 23) (As := [_, _]) dX7_arrive_23 rfl (m_doClash _ _ (d := d - 1) (by omega) h (show w < 4 by omega) (show v < 4 by omega)) cv_X7_190 rfl (by decide) rfl (by first | rfl | exact ok_c hq rfl | exact ok_w hq hw | exact ok_w (by omega) (by omega) | exact ok_s (by omega) (by omega) | exact ok_c (by omega) rfl | assumption) (Nat.le_of_ble_eq_true rfl) (by omega) (fun r h' hr => ?_)
        obtain ⟨he9, rfl⟩ := hr
        rw [he9]
        clear he9 h'
        show V _ _ _ (23 + 3) _ (_ :: _) _
        refine v_callS hC (pc := 26) (As := [_]) dX7_arrive_26 rfl (m_flag _ _ (d := d - 1) (by omega) _ _) cs_X7_147 (Nat.le_of_ble_eq_true rfl) (by omega) (fun r h' hr => ?_)
        obtain ⟨he9, rfl⟩ := hr
        rw [he9]
        clear he9 h'
        show V _ _ _ (26 + 3) _ (_ :: _) _
        refine v_iadd hC (pc := 29) dX7_arrive_29 ?_
        refine v_istore_n hC (pc := 30) (l' := [(1, _), (3, _), (2, _), (0, _)]) dX7_arrive_30 (by decide) rfl ?_
        refine v_iinc hC (pc := 31) (l' := [(3, _), (1, _), (2, _), (0, _)]) 1 (v := nI (v + 1)) dX7_arrive_31 rfl (nI_inc v) (by decide) rfl ?_
        refine v_goto hC (pc := 34) (tgt := 14) dX7_arrive_34 (by decide) ?_
        refine v_loc (l' := [(3, _), (2, _), (1, _), (0, _)]) [0, 2, 1, 3] rfl ?_
        refine ih (v + 1) _ (by omega) (by omega) ?_
        rw [itN_s, ← ha, flg_P]
  have outer : ∀ (n w : Nat) (a : Int32), w ≤ nW → nW + 1 ≤ w + n → a = itN (ckW (plM h) (h.1 (3, 0, 20)) (h.1 (3, 0, 21))) w 0 → V X G 4 4 [(2, vi (nI w)), (1, vi a), (0, vr (3, 0, 0))] [] h := by
    intro n
    induction n with
    | zero => intro w a h1 h2; exact absurd h2 (by omega)
    | succ n ih =>
      intro w a h1 h2 ha
      refine v_iload_n hC (pc := 4) (k := 2) 0 rfl dX7_arrive_4 ?_
      refine v_aload_n hC (pc := 5) (k := 0) 2 rfl dX7_arrive_5 ?_
      refine v_getI hC (pc := 6) dX7_arrive_6 fl_X7_79 rfl (by first | rfl | exact ok_c hq rfl | exact ok_w hq hw | exact ok_w (by omega) (by omega) | exact ok_s (by omega) (by omega) | exact ok_c (by omega) rfl | assumption) rfl (by decide) (by decide) ?_
      refine v_icmp_ge hC (pc := 9) (tgt := 43) dX7_arrive_9 (by decide) (fun c_9 => ?_) (fun c_9 => ?_)
      · skip
        have hi : w = nW := lp_ex (by rw [← hnw]; exact c_9) h1 (by omega)
        subst hi
        exact fin a ha
      · skip
        have hi : w < nW := lp_in (by rw [← hnw]; exact c_9) h1 (by omega)
        refine v_iconst hC (pc := 12) (v := 0) (by decide) dX7_arrive_12 ?_
        refine v_istore_n hC (pc := 13) (l' := [(3, _), (2, _), (1, _), (0, _)]) dX7_arrive_13 (by decide) rfl ?_
        refine inner w hi a (fun a2 h9 => ?_) (w + 1) 0 a (Nat.zero_le _) (by omega) rfl
        refine v_iinc hC (pc := 37) (l' := [(2, _), (3, _), (1, _), (0, _)]) 1 (v := nI (w + 1)) dX7_arrive_37 rfl (nI_inc w) (by decide) rfl ?_
        refine v_goto hC (pc := 40) (tgt := 4) dX7_arrive_40 (by decide) ?_
        refine v_loc (l' := [(2, _), (1, _), (0, _)]) [0, 2, 3] rfl ?_
        exact ih (w + 1) _ (by omega) (by omega) (by rw [itN_s, ← ha, h9])
  refine v_iconst hC (pc := 0) (v := 0) (by decide) dX7_arrive_0 ?_
  refine v_istore_n hC (pc := 1) (l' := [(1, _), (0, _)]) dX7_arrive_1 (by decide) rfl ?_
  refine v_iconst hC (pc := 2) (v := 0) (by decide) dX7_arrive_2 ?_
  refine v_istore_n hC (pc := 3) (l' := [(2, _), (1, _), (0, _)]) dX7_arrive_3 (by decide) rfl ?_
  exact outer (nW + 1) 0 0 (Nat.zero_le _) (by omega) rfl

