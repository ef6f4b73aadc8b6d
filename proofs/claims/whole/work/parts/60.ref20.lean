/-! THE REFERENCE: luck, the call -/
def sm (f : Nat → Nat) : Nat → Nat
  | 0 => 0
  | n + 1 => sm f n + f n
theorem sm_le {f : Nat → Nat} {k : Nat} : ∀ {n : Nat}, k < n → f k ≤ sm f n
  | n + 1, h => by
    show f k ≤ sm f n + f n
    rcases (show k < n ∨ k = n by omega) with q | rfl
    · have := sm_le (f := f) q
      omega
    · omega
theorem sm_mono {f : Nat → Nat} {m : Nat} : ∀ {n : Nat}, m ≤ n → sm f m ≤ sm f n
  | 0, h => by
    have e : m = 0 := by omega
    rw [e]; exact Nat.le_refl _
  | n + 1, h => by
    show _ ≤ sm f n + f n
    rcases (show m ≤ n ∨ m = n + 1 by omega) with q | rfl
    · have := sm_mono (f := f) q
      omega
    · exact Nat.le_refl _
theorem sm_add (f g : Nat → Nat) : ∀ n, sm (fun x => f x + g x) n = sm f n + sm g n
  | 0 => rfl
  | n + 1 => by
    show sm (fun x => f x + g x) n + (f n + g n) = (sm f n + f n) + (sm g n + g n)
    rw [sm_add f g n]
    omega
theorem sm_0 (k a : Nat) : ∀ n, n ≤ k → sm (fun x => if x = k then a else 0) n = 0
  | 0, _ => rfl
  | n + 1, h => by
    show sm _ n + (if n = k then a else 0) = 0
    rw [sm_0 k a n (by omega), if_neg (by omega)]
theorem sm_pt {k a : Nat} : ∀ {n : Nat}, k < n → sm (fun x => if x = k then a else 0) n = a
  | n + 1, h => by
    show sm _ n + (if n = k then a else 0) = a
    rcases (show k < n ∨ k = n by omega) with q | rfl
    · rw [sm_pt q, if_neg (by omega)]
      rfl
    · rw [sm_0 k a k (Nat.le_refl _), if_pos rfl, Nat.zero_add]
theorem sm_spr {wl bd W N : Nat → Nat} {v c : Nat} (hv : v ≤ 10) (h1 : wl c < 8) (h2 : bd c < 8) : sm (sprS wl bd W v c N) 8 = sm N 8 + W c * 10 := by
  unfold sprS
  rw [sm_add (fun x => N x + if x = wl c then W c * (10 - v) else 0), sm_add N, sm_pt h1, sm_pt h2, Nat.add_assoc, ← Nat.mul_add, show 10 - v + v = 10 by omega]
theorem sm_sprF {wl bd W : Nat → Nat} {v : Nat} (hv : v ≤ 10) : ∀ n, (∀ c, c < n → wl c < 8 ∧ bd c < 8) → sm (sprF wl bd W v n) 8 = sm W n * 10
  | 0, _ => by
    show sm (fun _ => 0) 8 = 0 * 10
    rfl
  | n + 1, h => by
    show sm (sprS wl bd W v n (sprF wl bd W v n)) 8 = (sm W n + W n) * 10
    rw [sm_spr hv (h n (by omega)).1 (h n (by omega)).2, sm_sprF hv n (fun c hc => h c (by omega)), Nat.add_mul]
theorem sm_wgt {wl bd : Nat → Nat → Nat} {v nC p : Nat} (hv : v ≤ 10) (h8 : nC ≤ 8) (hp : p < 8) : ∀ m, (∀ i, i < m → ∀ c, c < nC → wl i c < 8 ∧ bd i c < 8) → sm (wgtF wl bd v nC p m) 8 ≤ 10 ^ m
  | 0, _ => by
    show sm (fun x => if x = p then 1 else 0) 8 ≤ 1
    rw [sm_pt hp]
    exact Nat.le_refl _
  | m + 1, h => by
    show sm (sprF (wl m) (bd m) (wgtF wl bd v nC p m) v nC) 8 ≤ 10 ^ (m + 1)
    rw [sm_sprF hv nC (h m (by omega)), Nat.pow_succ]
    have e1 := sm_mono (f := wgtF wl bd v nC p m) h8
    have e2 := sm_wgt hv h8 hp m (fun i hi => h i (by omega))
    exact Nat.mul_le_mul_right 10 (Nat.le_trans e1 e2)
theorem wgt_le {wl bd : Nat → Nat → Nat} {v nC p m c : Nat} (hv : v ≤ 10) (h8 : nC ≤ 8) (hp : p < 8) (hc : c < 8) (h : ∀ i, i < m → ∀ c, c < nC → wl i c < 8 ∧ bd i c < 8) : wgtF wl bd v nC p m c ≤ 10 ^ m := Nat.le_trans (sm_le hc) (sm_wgt hv h8 hp m h)
theorem p10_lt {m : Nat} (h : m ≤ 10) : 10 ^ m < 2 ^ 34 := Nat.lt_of_le_of_lt (Nat.pow_le_pow_right (by decide) h) (by decide)
set_option maxRecDepth 20000 in
set_option maxHeartbeats 2000000 in
theorem m_luck_ok (l9 : Launch) (G : WT) {d : Nat} (hd : 6 ≤ d) (h : HP) {nC nW : Nat} (hn8 : nC ≤ 8) (hnc : h.1 (3, 0, 0) 3 = nI nC) (hn4 : nW ≤ 4) (hnw : h.1 (3, 0, 0) 4 = nI nW) {w v c x p gn m : Nat} (hw : w < nW) (hv : v ≤ 10) (hc : c < nC) (hx : x < 2) (hpl : ((stH h).1 (3, 0, 2)) (18 + 6 * w + 0) = nI p) (hp : p < nC) (hgn : ((stH h).1 (3, 0, 2)) (18 + 6 * w + 5) = nI gn) (hln : ((stH h).1 (3, 0, 2)) (18 + 6 * w + 3) = nI (gn + m)) (hm10 : m ≤ 10) (hgn10 : gn ≤ 10) {sN : Nat → Nat} (hs : ∀ j, sN j < 2) (hsd : ∀ j, j < m → (((stH h).1 (3, 0, 2)) (18 + 6 * w + 4) >>> (nI (gn + j) &&& 31)) &&& 1 = nI (sN j)) {wl bd : Nat → Nat → Nat} (hwl : ∀ j, j < m → ∀ c, c < nC → goM ((stH h).1 (3, 0, 2)) c (sN j) (((stH h).1 (3, 0, 2)) 17 + nI (gn + j) - ((stH h).1 (3, 0, 2)) (18 + 6 * w + 5)) (kpA ((stH h).1 (3, 0, 2)) w) = nI (wl j c) ∧ wl j c < nC) (hbd : ∀ j, j < m → ∀ c, c < nC → goM ((stH h).1 (3, 0, 2)) c (1 - sN j) (((stH h).1 (3, 0, 2)) 17 + nI (gn + j) - ((stH h).1 (3, 0, 2)) (18 + 6 * w + 5)) (kpA ((stH h).1 (3, 0, 2)) w) = nI (bd j c) ∧ bd j c < nC) : MS l9 G yX7_luck cX7_luck 9 (some .long) d [vr (3, 0, 0), vi (nI w), vi (nI v), vi (nI c), vi (nI x)] h (fun r h1 => scr h h1 ∧ r = some (vl (lN (if x = 0 then wgtF wl bd v nC p m c / Nat.gcd (10 ^ m) (wgtF wl bd v nC p m c) else 10 ^ m / Nat.gcd (10 ^ m) (wgtF wl bd v nC p m c))))) := by
  refine MS_of (by decide +kernel) (Nat.le_of_ble_eq_true rfl) (fun X hC hX => ?_)
  show V X G 9 0 _ [] _
  have lb : ∀ (n j : Nat) (u : HP), j ≤ m → m + 1 ≤ j + n → u.1 = (stH h).1 → (∀ x, x < 8 → u.2 (3, 0, 23) x = lN (wgtF wl bd v nC p j x)) → (∀ i, i ≠ (3, 0, 23) → i ≠ (3, 0, 24) → u.2 i = h.2 i) → V X G 9 98 [(7, vi (nI (gn + j))), (5, vl (lN (10 ^ j))), (0, vr (3, 0, 0)), (1, vi (nI w)), (2, vi (nI v)), (3, vi (nI c)), (4, vi (nI x))] [] u := by
    intro n
    induction n with
    | zero => intro j u h1 h2; exact absurd h2 (by omega)
    | succ n ih =>
      intro j u h1 h2 hu1 hu2 hu3
      refine v_iload hC (pc := 98) 0 rfl dX7_luck_98 ?_
      refine v_aload_n hC (pc := 100) (k := 0) 2 rfl dX7_luck_100 ?_
      refine v_iload_n hC (pc := 101) (k := 1) 3 rfl dX7_luck_101 ?_
      refine v_iconst hC (pc := 102) (v := 3) (by decide) dX7_luck_102 ?_
      refine v_callV hC (pc := 103) (As := [_, _]) dX7_luck_103 rfl (m_of _ _ (d := d - 1) (by omega) _ (w := w) (by omega) (k := 3) (by decide)) cv_X7_187 rfl (by decide) rfl (by first | rfl | exact ok_c hq rfl | exact ok_w hq hw | exact ok_w (by omega) (by omega) | exact ok_s (by omega) (by omega) | exact ok_c (by omega) rfl | assumption) (Nat.le_of_ble_eq_true rfl) (by omega) (fun r h' hr => ?_)
      obtain ⟨he9, rfl⟩ := hr
      rw [he9]
      clear he9 h'
      show V X G 9 106 _ (vi (u.1 (3, 0, 2) (18 + 6 * w + 3)) :: _) _
      rw [hu1, hln]
      show V _ _ _ (103 + 3) _ (_ :: _) _
      refine v_icmp_ge hC (pc := 106) (tgt := 131) dX7_luck_106 (by decide) (fun c_106 => ?_) (fun c_106 => ?_)
      · skip
        have hj : j = m := by
          rcases Nat.lt_or_ge (gn + j) (gn + m) with y | y
          · exact absurd c_106 (nI_ge y (by omega))
          · omega
        subst hj
        refine v_lload hC (pc := 131) 1 rfl dX7_luck_131 ?_
        refine v_aload_n hC (pc := 133) (k := 0) 2 rfl dX7_luck_133 ?_
        refine v_getR hC (pc := 134) dX7_luck_134 fl_X7_38 rfl (by first | rfl | exact ok_c hq rfl | exact ok_w hq hw | exact ok_w (by omega) (by omega) | exact ok_s (by omega) (by omega) | exact ok_c (by omega) rfl | assumption) rfl (by decide) (by decide) rfl ?_
        refine v_iload_n hC (pc := 137) (k := 3) 5 rfl dX7_luck_137 ?_
        refine v_lald hC (pc := 138) dX7_luck_138 rfl (by first | rfl | exact ok_c hq rfl | exact ok_w hq hw | exact ok_w (by omega) (by omega) | exact ok_s (by omega) (by omega) | exact ok_c (by omega) rfl | assumption) (vp_nat (n := c) (by omega) (by decide)) ?_
        rw [nI_clamp (show c < 2 ^ 31 by omega)]
        show V X G 9 139 _ (vl (u.2 (3, 0, 23) c) :: _) _
        rw [hu2 c (by omega)]
        have hp1 := p10_lt hm10
        have hp2 : wgtF wl bd v nC p j c ≤ 10 ^ j := wgt_le hv hn8 (by omega) (by omega) (fun i hi c1 hc1 => ⟨by have := (hwl i hi c1 hc1).2; omega, by have := (hbd i hi c1 hc1).2; omega⟩)
        have hgp : 0 < Nat.gcd (10 ^ j) (wgtF wl bd v nC p j c) := Nat.gcd_pos_of_pos_left _ (Nat.pow_pos (by decide))
        have hgl : Nat.gcd (10 ^ j) (wgtF wl bd v nC p j c) ≤ 10 ^ j := Nat.gcd_le_left _ (Nat.pow_pos (by decide))
        have hg0 : ¬ lN (Nat.gcd (10 ^ j) (wgtF wl bd v nC p j c)) = 0 := fun z => absurd ((pk_lEQ (by omega) (by decide)).mp (show lN _ = lN 0 from z)) (by omega)
        refine v_callS hC (pc := 139) (As := [_, _]) dX7_luck_139 rfl (m_common _ _ (d := d - 1) (by omega) _ (A := 10 ^ j) (B := wgtF wl bd v nC p j c) (by omega) (by omega)) cs_X7_288 (Nat.le_of_ble_eq_true rfl) (by omega) (fun r h' hr => ?_)
        obtain ⟨he9, rfl⟩ := hr
        rw [he9]
        clear he9 h'
        show V _ _ _ (139 + 3) _ (_ :: _) _
        refine v_lstore hC (pc := 142) (l' := [(7, _), (5, _), (0, _), (1, _), (2, _), (3, _), (4, _)]) dX7_luck_142 (by decide) rfl ?_
        refine v_iload hC (pc := 144) 6 rfl dX7_luck_144 ?_
        refine v_if_ne hC (pc := 146) (tgt := 161) dX7_luck_146 (by decide) (fun c_146 => ?_) (fun c_146 => ?_)
        · skip
          refine v_lload hC (pc := 161) 1 rfl dX7_luck_161 ?_
          refine v_lload hC (pc := 163) 0 rfl dX7_luck_163 ?_
          refine v_ldiv hC (pc := 165) hg0 dX7_luck_165 ?_
          try rw [pk_lDiv (by omega) hgp (by omega)]
          refine v_lret hC hX (pc := 166) dX7_luck_166 ?_
          refine ⟨⟨fun i hi => by rw [hu1]; exact (scr_st h).1 i hi, fun i hi => by rw [hu3 i (fun z => hi (by rw [z]; decide)) (fun z => hi (by rw [z]; decide))]⟩, ?_⟩
          first | rw [if_pos (nI_z c_146 (by omega))] | rw [if_neg (fun z => c_146 (by rw [z]; rfl))]
        · skip
          refine v_aload_n hC (pc := 149) (k := 0) 2 rfl dX7_luck_149 ?_
          refine v_getR hC (pc := 150) dX7_luck_150 fl_X7_38 rfl (by first | rfl | exact ok_c hq rfl | exact ok_w hq hw | exact ok_w (by omega) (by omega) | exact ok_s (by omega) (by omega) | exact ok_c (by omega) rfl | assumption) rfl (by decide) (by decide) rfl ?_
          refine v_iload_n hC (pc := 153) (k := 3) 5 rfl dX7_luck_153 ?_
          refine v_lald hC (pc := 154) dX7_luck_154 rfl (by first | rfl | exact ok_c hq rfl | exact ok_w hq hw | exact ok_w (by omega) (by omega) | exact ok_s (by omega) (by omega) | exact ok_c (by omega) rfl | assumption) (vp_nat (n := c) (by omega) (by decide)) ?_
          rw [nI_clamp (show c < 2 ^ 31 by omega)]
          show V X G 9 155 _ (vl (u.2 (3, 0, 23) c) :: _) _
          rw [hu2 c (by omega)]
          refine v_lload hC (pc := 155) 0 rfl dX7_luck_155 ?_
          refine v_ldiv hC (pc := 157) hg0 dX7_luck_157 ?_
          refine v_goto hC (pc := 158) (tgt := 166) dX7_luck_158 (by decide) ?_
          try rw [pk_lDiv (by omega) hgp (by omega)]
          refine v_lret hC hX (pc := 166) dX7_luck_166 ?_
          refine ⟨⟨fun i hi => by rw [hu1]; exact (scr_st h).1 i hi, fun i hi => by rw [hu3 i (fun z => hi (by rw [z]; decide)) (fun z => hi (by rw [z]; decide))]⟩, ?_⟩
          first | rw [if_pos (nI_z c_146 (by omega))] | rw [if_neg (fun z => c_146 (by rw [z]; rfl))]
      · skip
        have hj : j < m := by
          rcases Nat.lt_or_ge (gn + j) (gn + m) with y | y
          · omega
          · exact absurd (nI_le y (by omega)) c_106
        refine v_aload_n hC (pc := 109) (k := 0) 2 rfl dX7_luck_109 ?_
        refine v_iload_n hC (pc := 110) (k := 1) 3 rfl dX7_luck_110 ?_
        refine v_iload hC (pc := 111) 0 rfl dX7_luck_111 ?_
        refine v_iload_n hC (pc := 113) (k := 2) 4 rfl dX7_luck_113 ?_
        refine v_callV hC (pc := 114) (As := [_, _, _]) dX7_luck_114 rfl (m_spreads _ _ (d := d - 1) (by omega) u hn8 (by rw [hu1, stH_o h (by decide)]; exact hnc) (A := ((stH h).1 (3, 0, 2))) (by rw [hu1]) (w := w) (i := gn + j) (v := v) (s := sN j) (by omega) hv (by omega) (hs j) (hsd j hj) rfl (wl := wl j) (bd := bd j) (hwl j hj) (hbd j hj) (W := wgtF wl bd v nC p j) hu2) cv_X7_285 rfl (by decide) rfl (by first | rfl | exact ok_c hq rfl | exact ok_w hq hw | exact ok_w (by omega) (by omega) | exact ok_s (by omega) (by omega) | exact ok_c (by omega) rfl | assumption) (Nat.le_of_ble_eq_true rfl) (by omega) (fun r h' hr => ?_)
        obtain ⟨rfl, z1, z2, z3⟩ := hr
        show V _ _ _ (114 + 3) _ _ _
        refine v_lload hC (pc := 117) 1 rfl dX7_luck_117 ?_
        refine v_ldc2 hC (pc := 119) k_X7_248 dX7_luck_119 ?_
        skip
        refine v_lmul hC (pc := 122) dX7_luck_122 ?_
        rw [show (10 : Int64) = lN 10 from rfl, lN_mul, ← Nat.pow_succ]
        refine v_lstore hC (pc := 123) (l' := [(5, _), (7, _), (0, _), (1, _), (2, _), (3, _), (4, _)]) dX7_luck_123 (by decide) rfl ?_
        refine v_iinc hC (pc := 125) (l' := [(7, _), (5, _), (0, _), (1, _), (2, _), (3, _), (4, _)]) 1 (v := nI ((gn + j) + 1)) dX7_luck_125 rfl (nI_inc (gn + j)) (by decide) rfl ?_
        refine v_goto hC (pc := 128) (tgt := 98) dX7_luck_128 (by decide) ?_
        exact ih (j + 1) _ (by omega) (by omega) (by rw [z1, hu1]) z2 (fun i i1 i2 => by rw [z3 i i1 i2, hu3 i i1 i2])
  have la : ∀ (n k : Nat) (u : HP), k ≤ 8 → 8 + 1 ≤ k + n → u.1 = (stH h).1 → (∀ x, x < k → u.2 (3, 0, 23) x = lN (wgtF wl bd v nC p 0 x)) → (∀ i, i ≠ (3, 0, 23) → u.2 i = h.2 i) → V X G 9 50 [(7, vi (nI k)), (5, vl 1), (0, vr (3, 0, 0)), (1, vi (nI w)), (2, vi (nI v)), (3, vi (nI c)), (4, vi (nI x))] [] u := by
    intro n
    induction n with
    | zero => intro k u h1 h2; exact absurd h2 (by omega)
    | succ n ih =>
      intro k u h1 h2 hu1 hu2 hu3
      refine v_iload hC (pc := 50) 0 rfl dX7_luck_50 ?_
      refine v_bipush hC (pc := 52) (v := 8) (by decide +kernel) dX7_luck_52 ?_
      refine v_icmp_ge hC (pc := 54) (tgt := 90) dX7_luck_54 (by decide) (fun c_54 => ?_) (fun c_54 => ?_)
      · skip
        have hk : k = 8 := lp_ex (N := 8) c_54 h1 (by decide)
        refine v_aload_n hC (pc := 90) (k := 0) 2 rfl dX7_luck_90 ?_
        refine v_iload_n hC (pc := 91) (k := 1) 3 rfl dX7_luck_91 ?_
        refine v_iconst hC (pc := 92) (v := 5) (by decide) dX7_luck_92 ?_
        refine v_callV hC (pc := 93) (As := [_, _]) dX7_luck_93 rfl (m_of _ _ (d := d - 1) (by omega) _ (w := w) (by omega) (k := 5) (by decide)) cv_X7_187 rfl (by decide) rfl (by first | rfl | exact ok_c hq rfl | exact ok_w hq hw | exact ok_w (by omega) (by omega) | exact ok_s (by omega) (by omega) | exact ok_c (by omega) rfl | assumption) (Nat.le_of_ble_eq_true rfl) (by omega) (fun r h' hr => ?_)
        obtain ⟨he9, rfl⟩ := hr
        rw [he9]
        clear he9 h'
        show V X G 9 96 _ (vi (u.1 (3, 0, 2) (18 + 6 * w + 5)) :: _) _
        rw [hu1, hgn]
        show V _ _ _ (93 + 3) _ (_ :: _) _
        refine v_istore hC (pc := 96) (l' := [(7, _), (5, _), (0, _), (1, _), (2, _), (3, _), (4, _)]) dX7_luck_96 (by decide) rfl ?_
        exact lb (m + 1) 0 _ (by omega) (by omega) hu1 (fun x hx => hu2 x (by omega)) (fun i i1 i2 => hu3 i i1)
      · skip
        have hk : k < 8 := lp_in (N := 8) c_54 h1 (by decide)
        refine v_aload_n hC (pc := 57) (k := 0) 2 rfl dX7_luck_57 ?_
        refine v_getR hC (pc := 58) dX7_luck_58 fl_X7_38 rfl (by first | rfl | exact ok_c hq rfl | exact ok_w hq hw | exact ok_w (by omega) (by omega) | exact ok_s (by omega) (by omega) | exact ok_c (by omega) rfl | assumption) rfl (by decide) (by decide) rfl ?_
        refine v_iload hC (pc := 61) 0 rfl dX7_luck_61 ?_
        refine v_iload hC (pc := 63) 0 rfl dX7_luck_63 ?_
        refine v_aload_n hC (pc := 65) (k := 0) 2 rfl dX7_luck_65 ?_
        refine v_iload_n hC (pc := 66) (k := 1) 3 rfl dX7_luck_66 ?_
        refine v_iconst hC (pc := 67) (v := 0) (by decide) dX7_luck_67 ?_
        refine v_callV hC (pc := 68) (As := [_, _]) dX7_luck_68 rfl (m_of _ _ (d := d - 1) (by omega) _ (w := w) (by omega) (k := 0) (by decide)) cv_X7_187 rfl (by decide) rfl (by first | rfl | exact ok_c hq rfl | exact ok_w hq hw | exact ok_w (by omega) (by omega) | exact ok_s (by omega) (by omega) | exact ok_c (by omega) rfl | assumption) (Nat.le_of_ble_eq_true rfl) (by omega) (fun r h' hr => ?_)
        obtain ⟨he9, rfl⟩ := hr
        rw [he9]
        clear he9 h'
        show V X G 9 71 _ (vi (u.1 (3, 0, 2) (18 + 6 * w + 0)) :: _) _
        rw [hu1, hpl]
        show V _ _ _ (68 + 3) _ (_ :: _) _
        refine v_icmp_ne hC (pc := 71) (tgt := 78) dX7_luck_71 (by decide) (fun c_71 => ?_) (fun c_71 => ?_)
        · skip
          refine v_iconst hC (pc := 78) (v := 0) (by decide) dX7_luck_78 ?_
          refine v_callS hC (pc := 79) (As := [_]) dX7_luck_79 rfl (m_flag _ _ (d := d - 1) (by omega) _ _) cs_X7_147 (Nat.le_of_ble_eq_true rfl) (by omega) (fun r h' hr => ?_)
          obtain ⟨he9, rfl⟩ := hr
          rw [he9]
          clear he9 h'
          show V _ _ _ (79 + 3) _ (_ :: _) _
          refine v_i2l hC (pc := 82) dX7_luck_82 ?_
          refine v_last hC (pc := 83) dX7_luck_83 rfl (by first | rfl | exact ok_c hq rfl | exact ok_w hq hw | exact ok_w (by omega) (by omega) | exact ok_s (by omega) (by omega) | exact ok_c (by omega) rfl | assumption) (vp_nat (n := k) (by omega) (by decide)) ?_
          rw [nI_clamp (show k < 2 ^ 31 by omega)]
          refine v_iinc hC (pc := 84) (l' := [(7, _), (5, _), (0, _), (1, _), (2, _), (3, _), (4, _)]) 0 (v := nI (k + 1)) dX7_luck_84 rfl (nI_inc k) (by decide) rfl ?_
          refine v_goto hC (pc := 87) (tgt := 50) dX7_luck_87 (by decide) ?_
          refine ih (k + 1) _ (by omega) (by omega) hu1 (fun x hx => ?_) (fun j j1 => ?_)
          · simp only [upL, true_and]
            by_cases e : x = k
            · subst e
              rw [if_pos rfl]
              show _ = lN (if x = p then 1 else 0)
              first | (rw [if_pos ((nI_eq (by omega) (by omega)).mp c_71)]; decide +kernel) | (rw [if_neg (fun z => c_71 (by rw [z]))]; decide +kernel)
            · rw [if_neg e]; exact hu2 x (by omega)
          · rw [upL_ne _ _ _ j1]; exact hu3 j j1
        · skip
          refine v_iconst hC (pc := 74) (v := 1) (by decide) dX7_luck_74 ?_
          refine v_goto hC (pc := 75) (tgt := 79) dX7_luck_75 (by decide) ?_
          refine v_callS hC (pc := 79) (As := [_]) dX7_luck_79 rfl (m_flag _ _ (d := d - 1) (by omega) _ _) cs_X7_147 (Nat.le_of_ble_eq_true rfl) (by omega) (fun r h' hr => ?_)
          obtain ⟨he9, rfl⟩ := hr
          rw [he9]
          clear he9 h'
          show V _ _ _ (79 + 3) _ (_ :: _) _
          refine v_i2l hC (pc := 82) dX7_luck_82 ?_
          refine v_last hC (pc := 83) dX7_luck_83 rfl (by first | rfl | exact ok_c hq rfl | exact ok_w hq hw | exact ok_w (by omega) (by omega) | exact ok_s (by omega) (by omega) | exact ok_c (by omega) rfl | assumption) (vp_nat (n := k) (by omega) (by decide)) ?_
          rw [nI_clamp (show k < 2 ^ 31 by omega)]
          refine v_iinc hC (pc := 84) (l' := [(7, _), (5, _), (0, _), (1, _), (2, _), (3, _), (4, _)]) 0 (v := nI (k + 1)) dX7_luck_84 rfl (nI_inc k) (by decide) rfl ?_
          refine v_goto hC (pc := 87) (tgt := 50) dX7_luck_87 (by decide) ?_
          refine ih (k + 1) _ (by omega) (by omega) hu1 (fun x hx => ?_) (fun j j1 => ?_)
          · simp only [upL, true_and]
            by_cases e : x = k
            · subst e
              rw [if_pos rfl]
              show _ = lN (if x = p then 1 else 0)
              first | (rw [if_pos ((nI_eq (by omega) (by omega)).mp c_71)]; decide +kernel) | (rw [if_neg (fun z => c_71 (by rw [z]))]; decide +kernel)
            · rw [if_neg e]; exact hu2 x (by omega)
          · rw [upL_ne _ _ _ j1]; exact hu3 j j1
  refine v_aload_n hC (pc := 0) (k := 0) 0 rfl dX7_luck_0 ?_
  refine v_iload_n hC (pc := 1) (k := 1) 1 rfl dX7_luck_1 ?_
  refine v_callV hC (pc := 2) (As := [_]) dX7_luck_2 rfl (m_isWalker_t _ _ (d := d - 1) (by omega) _ (c := w) (by assumption) hn4 hnw) cv_X7_216 rfl (by decide) rfl (by first | rfl | exact ok_c hq rfl | exact ok_w hq hw | exact ok_w (by omega) (by omega) | exact ok_s (by omega) (by omega) | exact ok_c (by omega) rfl | assumption) (Nat.le_of_ble_eq_true rfl) (by omega) (fun r h' hr => ?_)
  obtain ⟨he9, rfl⟩ := hr
  rw [he9]
  clear he9 h'
  show V _ _ _ (2 + 3) _ (_ :: _) _
  refine v_if_eq hC (pc := 5) (tgt := 36) dX7_luck_5 (by decide) (fun c_5 => ?_) (fun c_5 => ?_)
  · exact absurd c_5 (by decide)
  · skip
    refine v_iload_n hC (pc := 8) (k := 2) 2 rfl dX7_luck_8 ?_
    refine v_i2l hC (pc := 9) dX7_luck_9 ?_
    refine v_lconst hC (pc := 10) (v := 0) (by decide) dX7_luck_10 ?_
    refine v_ldc2 hC (pc := 11) k_X7_248 dX7_luck_11 ?_
    refine v_callS hC (pc := 14) (As := [_, _, _]) dX7_luck_14 rfl (m_in_t _ _ (d := d - 1) (by omega) _ (nI v) 0 10 ⟨nI_pos (by omega), nI_nlt hv (by decide)⟩) cs_X7_84 (Nat.le_of_ble_eq_true rfl) (by omega) (fun r h' hr => ?_)
    obtain ⟨he9, rfl⟩ := hr
    rw [he9]
    clear he9 h'
    show V _ _ _ (14 + 3) _ (_ :: _) _
    refine v_if_eq hC (pc := 17) (tgt := 36) dX7_luck_17 (by decide) (fun c_17 => ?_) (fun c_17 => ?_)
    · exact absurd c_17 (by decide)
    · skip
      refine v_aload_n hC (pc := 20) (k := 0) 0 rfl dX7_luck_20 ?_
      refine v_iload_n hC (pc := 21) (k := 3) 3 rfl dX7_luck_21 ?_
      refine v_callV hC (pc := 22) (As := [_]) dX7_luck_22 rfl (m_isCorner_t _ _ (d := d - 1) (by omega) _ (c := c) (by assumption) hn8 hnc) cv_X7_210 rfl (by decide) rfl (by first | rfl | exact ok_c hq rfl | exact ok_w hq hw | exact ok_w (by omega) (by omega) | exact ok_s (by omega) (by omega) | exact ok_c (by omega) rfl | assumption) (Nat.le_of_ble_eq_true rfl) (by omega) (fun r h' hr => ?_)
      obtain ⟨he9, rfl⟩ := hr
      rw [he9]
      clear he9 h'
      show V _ _ _ (22 + 3) _ (_ :: _) _
      refine v_if_eq hC (pc := 25) (tgt := 36) dX7_luck_25 (by decide) (fun c_25 => ?_) (fun c_25 => ?_)
      · exact absurd c_25 (by decide)
      · skip
        refine v_iload hC (pc := 28) 4 rfl dX7_luck_28 ?_
        refine v_callS hC (pc := 30) (As := [_]) dX7_luck_30 rfl (m_isPart_t _ _ (d := d - 1) (by omega) _ (s := x) (by assumption)) cs_X7_213 (Nat.le_of_ble_eq_true rfl) (by omega) (fun r h' hr => ?_)
        obtain ⟨he9, rfl⟩ := hr
        rw [he9]
        clear he9 h'
        show V _ _ _ (30 + 3) _ (_ :: _) _
        refine v_if_ne hC (pc := 33) (tgt := 40) dX7_luck_33 (by decide) (fun c_33 => ?_) (fun c_33 => ?_)
        · skip
          refine v_aload_n hC (pc := 40) (k := 0) 0 rfl dX7_luck_40 ?_
          refine v_callV hC (pc := 41) (As := []) dX7_luck_41 rfl (m_starts _ _ (d := d - 1) (by omega) _) cv_X7_219 rfl (by decide) rfl (by first | rfl | exact ok_c hq rfl | exact ok_w hq hw | exact ok_w (by omega) (by omega) | exact ok_s (by omega) (by omega) | exact ok_c (by omega) rfl | assumption) (Nat.le_of_ble_eq_true rfl) (by omega) (fun r h' hr => ?_)
          obtain ⟨rfl, rfl⟩ := hr
          refine v_heap (show _ = stH h from rfl) ?_
          show V _ _ _ (41 + 3) _ _ _
          refine v_lconst hC (pc := 44) (v := 1) (by decide) dX7_luck_44 ?_
          refine v_lstore hC (pc := 45) (l' := [(5, _), (0, _), (1, _), (2, _), (3, _), (4, _)]) dX7_luck_45 (by decide) rfl ?_
          refine v_iconst hC (pc := 47) (v := 0) (by decide) dX7_luck_47 ?_
          refine v_istore hC (pc := 48) (l' := [(7, _), (5, _), (0, _), (1, _), (2, _), (3, _), (4, _)]) dX7_luck_48 (by decide) rfl ?_
          exact la 9 0 _ (by omega) (by omega) rfl (fun x hx => absurd hx (Nat.not_lt_zero _)) (fun j _ => rfl)
        · exact absurd c_33 (by decide)

set_option maxRecDepth 20000 in
set_option maxHeartbeats 2000000 in
theorem m_luck_bad (l9 : Launch) (G : WT) {d : Nat} (hd : 3 ≤ d) (h : HP) {nC : Nat} (hn8 : nC ≤ 8) (hnc : h.1 (3, 0, 0) 3 = nI nC) {nW : Nat} (hn4 : nW ≤ 4) (hnw : h.1 (3, 0, 0) 4 = nI nW) (w v c x : Int32) (hbad : ¬ ((¬ w < 0 ∧ ¬ nI nW ≤ w) ∧ (¬ v < 0 ∧ ¬ 10 < v) ∧ (¬ c < 0 ∧ ¬ nI nC ≤ c) ∧ (x = 0 ∨ x = 1))) : MS l9 G yX7_luck cX7_luck 9 (some .long) d [vr (3, 0, 0), vi w, vi v, vi c, vi x] h (fun r h1 => h1 = h ∧ r = some (vl (-1))) := by
  refine MS_of (by decide +kernel) (Nat.le_of_ble_eq_true rfl) (fun X hC hX => ?_)
  show V X G 9 0 _ [] _
  refine v_aload_n hC (pc := 0) (k := 0) 0 rfl dX7_luck_0 ?_
  refine v_iload_n hC (pc := 1) (k := 1) 1 rfl dX7_luck_1 ?_
  refine v_callV hC (pc := 2) (As := [_]) dX7_luck_2 rfl (m_isWalker _ _ (d := d - 1) (by omega) _ hn4 hnw _) cv_X7_216 rfl (by decide) rfl (by first | rfl | exact ok_c hq rfl | exact ok_w hq hw | exact ok_w (by omega) (by omega) | exact ok_s (by omega) (by omega) | exact ok_c (by omega) rfl | assumption) (Nat.le_of_ble_eq_true rfl) (by omega) (fun r h' hr => ?_)
  obtain ⟨he9, rfl⟩ := hr
  rw [he9]
  clear he9 h'
  show V _ _ _ (2 + 3) _ (_ :: _) _
  refine v_ifb_eq hC (pc := 5) (tgt := 36) dX7_luck_5 (by decide) (fun c_5 => ?_) (fun c_5 => ?_)
  · skip
    refine v_ldc2 hC (pc := 36) k_X7_283 dX7_luck_36 ?_
    refine v_lret hC hX (pc := 39) dX7_luck_39 ?_
    exact ⟨rfl, rfl⟩
  · skip
    refine v_iload_n hC (pc := 8) (k := 2) 2 rfl dX7_luck_8 ?_
    refine v_i2l hC (pc := 9) dX7_luck_9 ?_
    refine v_lconst hC (pc := 10) (v := 0) (by decide) dX7_luck_10 ?_
    refine v_ldc2 hC (pc := 11) k_X7_248 dX7_luck_11 ?_
    refine v_callS hC (pc := 14) (As := [_, _, _]) dX7_luck_14 rfl (m_in _ _ (d := d - 1) (by omega) _ (v) (0) (10)) cs_X7_84 (Nat.le_of_ble_eq_true rfl) (by omega) (fun r h' hr => ?_)
    obtain ⟨he9, rfl⟩ := hr
    rw [he9]
    clear he9 h'
    show V _ _ _ (14 + 3) _ (_ :: _) _
    refine v_ifb_eq hC (pc := 17) (tgt := 36) dX7_luck_17 (by decide) (fun c_17 => ?_) (fun c_17 => ?_)
    · skip
      refine v_ldc2 hC (pc := 36) k_X7_283 dX7_luck_36 ?_
      refine v_lret hC hX (pc := 39) dX7_luck_39 ?_
      exact ⟨rfl, rfl⟩
    · skip
      refine v_aload_n hC (pc := 20) (k := 0) 0 rfl dX7_luck_20 ?_
      refine v_iload_n hC (pc := 21) (k := 3) 3 rfl dX7_luck_21 ?_
      refine v_callV hC (pc := 22) (As := [_]) dX7_luck_22 rfl (m_isCorner _ _ (d := d - 1) (by omega) _ hn8 hnc _) cv_X7_210 rfl (by decide) rfl (by first | rfl | exact ok_c hq rfl | exact ok_w hq hw | exact ok_w (by omega) (by omega) | exact ok_s (by omega) (by omega) | exact ok_c (by omega) rfl | assumption) (Nat.le_of_ble_eq_true rfl) (by omega) (fun r h' hr => ?_)
      obtain ⟨he9, rfl⟩ := hr
      rw [he9]
      clear he9 h'
      show V _ _ _ (22 + 3) _ (_ :: _) _
      refine v_ifb_eq hC (pc := 25) (tgt := 36) dX7_luck_25 (by decide) (fun c_25 => ?_) (fun c_25 => ?_)
      · skip
        refine v_ldc2 hC (pc := 36) k_X7_283 dX7_luck_36 ?_
        refine v_lret hC hX (pc := 39) dX7_luck_39 ?_
        exact ⟨rfl, rfl⟩
      · skip
        refine v_iload hC (pc := 28) 4 rfl dX7_luck_28 ?_
        refine v_callS hC (pc := 30) (As := [_]) dX7_luck_30 rfl (m_isPart _ _ (d := d - 1) (by omega) _ _) cs_X7_213 (Nat.le_of_ble_eq_true rfl) (by omega) (fun r h' hr => ?_)
        obtain ⟨he9, rfl⟩ := hr
        rw [he9]
        clear he9 h'
        show V _ _ _ (30 + 3) _ (_ :: _) _
        refine v_ifb_ne hC (pc := 33) (tgt := 40) dX7_luck_33 (by decide) (fun c_33 => ?_) (fun c_33 => ?_)
        · skip
          exact absurd ⟨c_5, c_17, c_25, c_33⟩ hbad
        · skip
          refine v_ldc2 hC (pc := 36) k_X7_283 dX7_luck_36 ?_
          refine v_lret hC hX (pc := 39) dX7_luck_39 ?_
          exact ⟨rfl, rfl⟩

