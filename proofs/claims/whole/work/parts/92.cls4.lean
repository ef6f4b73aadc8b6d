/-! THE CLASS: gloves that are wanted, what was seen, images, sheets -/
theorem lt2 {k : Int32} (h : k < 2) : ¬ (1 : Int32) < k := by
  rw [Int32.lt_iff_toInt_lt] at h ⊢
  have e1 : (2 : Int32).toInt = 2 := by decide
  have e2 : (1 : Int32).toInt = 1 := by decide
  omega
theorem mn_n {a b : Nat} (ha : a < 1000) (hb : b < 1000) : (if nI b < nI a then nI b else nI a) = nI (min a b) := by
  by_cases h : b < a
  · rw [if_pos (nI_lt h (by omega)), Nat.min_eq_right (by omega)]
  · rw [if_neg (nI_nlt (by omega) (by omega)), Nat.min_eq_left (by omega)]
theorem mx_n : ∀ l, l < 10 → ∀ s, s < 19 → ∀ g, g < 10 → (if (0 : Int32) < nI l - nI s - nI g then nI l - nI s - nI g else 0) = nI (l - s - g) := by decide +kernel
def lkN (g : Nat → Nat) (l j : Nat) : Nat := l - min (g 0 + j / 10) (g 1 + j % 10) - g 2
def rkN (g : Nat → Nat) (r j : Nat) : Nat := r - min (g 0 + j / 10) (g 1 + j % 10) - g 3
def tjN (g : Nat → Nat) (l r j : Nat) : Nat := j / 10 + j % 10 + lkN g l j + rkN g r j
def rjN (g : Nat → Nat) (l r j : Nat) : Nat := 1000 * (j / 10) + 100 * (j % 10) + 10 * lkN g l j + rkN g r j
def nsC (g : Nat → Nat) (l r k : Nat) (f e : Int32) : Prop := (k = 0 ∧ f = nI 37 ∧ e = nI 0) ∨ ∃ j, j < k ∧ f = nI (tjN g l r j) ∧ e = nI (rjN g l r j) ∧ (∀ i, i < k → tjN g l r j ≤ tjN g l r i) ∧ ∀ i, i < j → tjN g l r j < tjN g l r i
theorem nsC_n {g : Nat → Nat} {l r k : Nat} {f e : Int32} (hl : l ≤ 9) (hr : r ≤ 9) (hk : k < 100) (h : nsC g l r k f e) (hf : ¬ f ≤ nI (tjN g l r k)) : nsC g l r (k + 1) (nI (tjN g l r k)) (nI (rjN g l r k)) := by
  refine Or.inr ⟨k, by omega, rfl, rfl, fun i hi => ?_, fun i hi => ?_⟩
  · rcases h with ⟨h0, -, -⟩ | ⟨j, h1, h2, h3, h4, h5⟩
    · rw [show i = k by omega]; exact Nat.le_refl _
    · rcases (show i < k ∨ i = k by omega) with q | rfl
      · have z := h4 i q
        rw [h2] at hf
        have hb : tjN g l r j < 1000 := by unfold tjN lkN rkN; omega
        have : tjN g l r k < tjN g l r j := Nat.lt_of_not_le (fun y => hf (nI_le y (by unfold tjN lkN rkN; omega)))
        omega
      · exact Nat.le_refl _
  · rcases h with ⟨h0, -, -⟩ | ⟨j, h1, h2, h3, h4, h5⟩
    · omega
    · have z := h4 i hi
      rw [h2] at hf
      have : tjN g l r k < tjN g l r j := Nat.lt_of_not_le (fun y => hf (nI_le y (by unfold tjN lkN rkN; omega)))
      omega
theorem nsC_o {g : Nat → Nat} {l r k : Nat} {f e : Int32} (hl : l ≤ 9) (hr : r ≤ 9) (hk : k < 100) (h : nsC g l r k f e) (hf : f ≤ nI (tjN g l r k)) : nsC g l r (k + 1) f e := by
  rcases h with ⟨h0, h1, -⟩ | ⟨j, h1, h2, h3, h4, h5⟩
  · subst h0
    rw [h1] at hf
    exact absurd ((nI_leI (by decide) (by unfold tjN lkN rkN; omega)).mp hf) (by unfold tjN lkN rkN; omega)
  · refine Or.inr ⟨j, by omega, h2, h3, fun i hi => ?_, h5⟩
    rcases (show i < k ∨ i = k by omega) with q | rfl
    · exact h4 i q
    · rw [h2] at hf
      exact (nI_leI (by unfold tjN lkN rkN; omega) (by unfold tjN lkN rkN; omega)).mp hf
theorem rj_dg {g : Nat → Nat} {l r j : Nat} (hl : l ≤ 9) (hr : r ≤ 9) (hj : j < 100) : rjN g l r j < 10000 ∧ dg (rjN g l r j) 0 = j / 10 ∧ dg (rjN g l r j) 1 = j % 10 ∧ dg (rjN g l r j) 2 = lkN g l j ∧ dg (rjN g l r j) 3 = rkN g r j := by
  have h1 : lkN g l j ≤ 9 := by unfold lkN; omega
  have h2 : rkN g r j ≤ 9 := by unfold rkN; omega
  unfold rjN dg
  generalize lkN g l j = x at h1 ⊢
  generalize rkN g r j = y at h2 ⊢
  refine ⟨by omega, ?_, ?_, ?_, ?_⟩
  · rw [if_pos rfl]; omega
  · rw [if_neg (by decide), if_pos rfl]; omega
  · rw [if_neg (by decide), if_neg (by decide), if_pos rfl]; omega
  · rw [if_neg (by decide), if_neg (by decide), if_neg (by decide)]; omega
theorem nsC_b {g : Nat → Nat} {l r : Nat} {f e : Int32} (hl : l ≤ 9) (hr : r ≤ 9) (h : nsC g l r 100 f e) : ∃ row, bstN g l r 10000 row ∧ f = nI (totN row) ∧ e = nI row := by
  rcases h with ⟨h0, -, -⟩ | ⟨j, hj, h2, h3, h4, h5⟩
  · omega
  · obtain ⟨d9, d0, d1, d2, d3⟩ := rj_dg (g := g) hl hr hj
    have ht : totN (rjN g l r j) = tjN g l r j := by unfold totN tjN; rw [d0, d1, d2, d3]
    have hm : ∀ m, m < 10000 → okN g l r m → m / 100 < 100 ∧ lkN g l (m / 100) ≤ dg m 2 ∧ rkN g r (m / 100) ≤ dg m 3 ∧ totN m = m / 100 / 10 + m / 100 % 10 + dg m 2 + dg m 3 ∧ m = 100 * (m / 100) + 10 * dg m 2 + dg m 3 := by
      intro m hm hok
      obtain ⟨o1, o2, o3, o4⟩ := hok
      have e0 : dg m 0 = m / 100 / 10 := by unfold dg; rw [if_pos rfl]; omega
      have e1 : dg m 1 = m / 100 % 10 := by unfold dg; rw [if_neg (by decide), if_pos rfl]
      have e2 : dg m 2 = m / 10 % 10 := by unfold dg; rw [if_neg (by decide), if_neg (by decide), if_pos rfl]
      have e3 : dg m 3 = m % 10 := by unfold dg; rw [if_neg (by decide), if_neg (by decide), if_neg (by decide)]
      rw [e0] at o1 o4
      rw [e1] at o2 o3
      refine ⟨by omega, ?_, ?_, ?_, by rw [e2, e3]; omega⟩
      · unfold lkN; omega
      · unfold rkN; omega
      · unfold totN; rw [e0, e1]
    refine ⟨rjN g l r j, ⟨d9, ?_, ?_, ?_⟩, by rw [ht]; exact h2, h3⟩
    · unfold okN
      rw [d0, d1, d2, d3]
      unfold lkN rkN
      omega
    · intro m hm9 hok
      obtain ⟨q1, q2, q3, q4, -⟩ := hm m hm9 hok
      have q5 := h4 (m / 100) q1
      rw [ht, q4]
      have : tjN g l r (m / 100) = m / 100 / 10 + m / 100 % 10 + lkN g l (m / 100) + rkN g r (m / 100) := rfl
      omega
    · intro m hm9 hok
      obtain ⟨q1, q2, q3, q4, q5⟩ := hm m (by omega) hok
      have q6 : tjN g l r (m / 100) = m / 100 / 10 + m / 100 % 10 + lkN g l (m / 100) + rkN g r (m / 100) := rfl
      have q7 : rjN g l r j = 1000 * (j / 10) + 100 * (j % 10) + 10 * lkN g l j + rkN g r j := rfl
      have b1 : lkN g l j ≤ 9 := by unfold lkN; omega
      have b2 : rkN g r j ≤ 9 := by unfold rkN; omega
      rcases Nat.lt_trichotomy (m / 100) j with z | z | z
      · have := h5 (m / 100) z
        rw [ht, q4]; omega
      · rw [z] at q2 q3 q5
        omega
      · omega
set_option maxRecDepth 20000 in
set_option maxHeartbeats 2000000 in
theorem k_needs_ok (l9 : Launch) (G : WT) {d : Nat} (hd : 3 ≤ d) (h : HP) {g : Nat → Nat} (hg : ∀ k, k < 4 → h.1 (0, 0, 8) k = nI (g k)) (hg9 : ∀ k, k < 4 → g k ≤ 9) {l r0 x : Nat} (hl : l ≤ 9) (hr0 : r0 ≤ 9) (hx : x < 2) : MS l9 G yX6_needs cX6_needs 12 (some .int) d [vr (1, 0, 0), vi (nI l), vi (nI r0), vi (nI x)] h (fun r h1 => h1 = h ∧ ∃ row, bstN g l r0 10000 row ∧ r = some (vi (if x = 0 then nI (totN row) else nI row))) := by
  refine MS_of (by decide +kernel) (Nat.le_of_ble_eq_true rfl) (fun X hC hX => ?_)
  show V X G 12 0 _ [] _
  have OUT : ∀ (n a : Nat) (f e : Int32), a ≤ 10 → 11 ≤ a + n → nsC g l r0 (10 * a) f e → V X G 12 39 [(6, vi (nI a)), (5, vi e), (4, vi f), (0, vr (1, 0, 0)), (1, vi (nI l)), (2, vi (nI r0)), (3, vi (nI x))] [] h := by
    intro n
    induction n with
    | zero => intro a f e h1 h2; exact absurd h2 (by omega)
    | succ n ih =>
      intro a f e h1 h2 hn
      refine v_iload hC (pc := 39) 0 rfl dX6_needs_39 ?_
      refine v_bipush hC (pc := 41) (v := 9) (by decide +kernel) dX6_needs_41 ?_
      refine v_icmp_gt hC (pc := 43) (tgt := 184) dX6_needs_43 (by decide) (fun c_43 => ?_) (fun c_43 => ?_)
      · skip
        have ha10 : a = 10 := by have := lp_gt (N := 9) c_43 (by decide) (show a < 2 ^ 31 by omega); omega
        subst ha10
        refine v_iload_n hC (pc := 184) (k := 3) 6 rfl dX6_needs_184 ?_
        refine v_if_ne hC (pc := 185) (tgt := 193) dX6_needs_185 (by decide) (fun c_185 => ?_) (fun c_185 => ?_)
        · skip
          refine v_iload hC (pc := 193) 1 rfl dX6_needs_193 ?_
          refine v_iret hC hX (pc := 195) dX6_needs_195 ?_
          refine ⟨rfl, ?_⟩
          obtain ⟨row, q1, q2, q3⟩ := nsC_b hl hr0 hn
          refine ⟨row, q1, ?_⟩
          first | rw [if_pos ((nI_eq (by omega) (by decide)).mp (show nI x = nI 0 from c_185)), q2] | rw [if_neg (fun z => c_185 (congrArg nI z)), q3]
        · skip
          refine v_iload hC (pc := 188) 2 rfl dX6_needs_188 ?_
          refine v_goto hC (pc := 190) (tgt := 195) dX6_needs_190 (by decide) ?_
          refine v_iret hC hX (pc := 195) dX6_needs_195 ?_
          refine ⟨rfl, ?_⟩
          obtain ⟨row, q1, q2, q3⟩ := nsC_b hl hr0 hn
          refine ⟨row, q1, ?_⟩
          first | rw [if_pos ((nI_eq (by omega) (by decide)).mp (show nI x = nI 0 from c_185)), q2] | rw [if_neg (fun z => c_185 (congrArg nI z)), q3]
      · skip
        have ha9 : a ≤ 9 := lp_ngt (N := 9) c_43 (by decide) (show a < 2 ^ 31 by omega)
        refine v_iconst hC (pc := 46) (v := 0) (by decide) dX6_needs_46 ?_
        refine v_istore hC (pc := 47) (l' := [(7, _), (6, _), (5, _), (4, _), (0, _), (1, _), (2, _), (3, _)]) dX6_needs_47 (by decide) rfl ?_
        have IN : ∀ (n b : Nat) (f e : Int32), b ≤ 10 → 11 ≤ b + n → nsC g l r0 (10 * a + b) f e → (∀ f e, nsC g l r0 (10 * (a + 1)) f e → V X G 12 178 [(7, vi (nI 10)), (6, vi (nI a)), (5, vi e), (4, vi f), (0, vr (1, 0, 0)), (1, vi (nI l)), (2, vi (nI r0)), (3, vi (nI x))] [] h) → V X G 12 49 [(7, vi (nI b)), (6, vi (nI a)), (5, vi e), (4, vi f), (0, vr (1, 0, 0)), (1, vi (nI l)), (2, vi (nI r0)), (3, vi (nI x))] [] h := by
          intro n
          induction n with
          | zero => intro b f e h1 h2; exact absurd h2 (by omega)
          | succ n ih =>
            intro b f e h1 h2 hn K
            have ih := fun b f e h1 h2 h3 => ih b f e h1 h2 h3 K
            refine v_iload hC (pc := 49) 0 rfl dX6_needs_49 ?_
            refine v_bipush hC (pc := 51) (v := 9) (by decide +kernel) dX6_needs_51 ?_
            refine v_icmp_gt hC (pc := 53) (tgt := 178) dX6_needs_53 (by decide) (fun c_53 => ?_) (fun c_53 => ?_)
            · skip
              have hb10 : b = 10 := by have := lp_gt (N := 9) c_53 (by decide) (show b < 2 ^ 31 by omega); omega
              subst hb10
              exact K f e (by rw [show 10 * (a + 1) = 10 * a + 10 by omega]; exact hn)
            · skip
              have hb10 : b ≤ 9 := lp_ngt (N := 9) c_53 (by decide) (show b < 2 ^ 31 by omega)
              have hja : a = (10 * a + b) / 10 := by omega
              have hjb : b = (10 * a + b) % 10 := by omega
              refine v_aload_n hC (pc := 56) (k := 0) 4 rfl dX6_needs_56 ?_
              refine v_getR hC (pc := 57) dX6_needs_57 fl_X6_10 rfl (by first | rfl | exact ok_c hq rfl | exact ok_w hq hw | exact ok_w (by omega) (by omega) | exact ok_s (by omega) (by omega) | exact ok_c (by omega) rfl | assumption) rfl (by decide) (by decide) rfl ?_
              refine v_getR hC (pc := 60) dX6_needs_60 fl_X6_165 rfl (by first | rfl | exact ok_c hq rfl | exact ok_w hq hw | exact ok_w (by omega) (by omega) | exact ok_s (by omega) (by omega) | exact ok_c (by omega) rfl | assumption) rfl (by decide) (by decide) rfl ?_
              refine v_iconst hC (pc := 63) (v := 0) (by decide) dX6_needs_63 ?_
              refine v_iald hC (pc := 64) dX6_needs_64 rfl (by first | rfl | exact ok_c hq rfl | exact ok_w hq hw | exact ok_w (by omega) (by omega) | exact ok_s (by omega) (by omega) | exact ok_c (by omega) rfl | assumption) (show vp_in (nI 0) 4 from vp_nat (by decide) (by decide)) ?_
              rw [show h.1 (0, 0, 8) (0 : Int32).toNatClampNeg = nI (g 0) from hg 0 (by decide)]
              refine v_iload hC (pc := 65) 1 rfl dX6_needs_65 ?_
              refine v_iadd hC (pc := 67) dX6_needs_67 ?_
              rw [nI_add]
              refine v_aload_n hC (pc := 68) (k := 0) 4 rfl dX6_needs_68 ?_
              refine v_getR hC (pc := 69) dX6_needs_69 fl_X6_10 rfl (by first | rfl | exact ok_c hq rfl | exact ok_w hq hw | exact ok_w (by omega) (by omega) | exact ok_s (by omega) (by omega) | exact ok_c (by omega) rfl | assumption) rfl (by decide) (by decide) rfl ?_
              refine v_getR hC (pc := 72) dX6_needs_72 fl_X6_165 rfl (by first | rfl | exact ok_c hq rfl | exact ok_w hq hw | exact ok_w (by omega) (by omega) | exact ok_s (by omega) (by omega) | exact ok_c (by omega) rfl | assumption) rfl (by decide) (by decide) rfl ?_
              refine v_iconst hC (pc := 75) (v := 1) (by decide) dX6_needs_75 ?_
              refine v_iald hC (pc := 76) dX6_needs_76 rfl (by first | rfl | exact ok_c hq rfl | exact ok_w hq hw | exact ok_w (by omega) (by omega) | exact ok_s (by omega) (by omega) | exact ok_c (by omega) rfl | assumption) (show vp_in (nI 1) 4 from vp_nat (by decide) (by decide)) ?_
              rw [show h.1 (0, 0, 8) (1 : Int32).toNatClampNeg = nI (g 1) from hg 1 (by decide)]
              refine v_iload hC (pc := 77) 0 rfl dX6_needs_77 ?_
              refine v_iadd hC (pc := 79) dX6_needs_79 ?_
              rw [nI_add]
              refine v_min hC (pc := 80) dX6_needs_80 ml_X6_203 (Nat.le_of_ble_eq_true rfl) (by omega) ?_
              rw [mn_n (by have := hg9 0 (by decide); omega) (by have := hg9 1 (by decide); omega), show min (g 0 + a) (g 1 + b) = min (g 0 + (10 * a + b) / 10) (g 1 + (10 * a + b) % 10) from by rw [← hja, ← hjb]]
              refine v_istore hC (pc := 83) (l' := [(8, _), (7, _), (6, _), (5, _), (4, _), (0, _), (1, _), (2, _), (3, _)]) dX6_needs_83 (by decide) rfl ?_
              refine v_iconst hC (pc := 85) (v := 0) (by decide) dX6_needs_85 ?_
              refine v_iload_n hC (pc := 86) (k := 1) 6 rfl dX6_needs_86 ?_
              refine v_iload hC (pc := 87) 0 rfl dX6_needs_87 ?_
              refine v_isub hC (pc := 89) dX6_needs_89 ?_
              refine v_aload_n hC (pc := 90) (k := 0) 5 rfl dX6_needs_90 ?_
              refine v_getR hC (pc := 91) dX6_needs_91 fl_X6_10 rfl (by first | rfl | exact ok_c hq rfl | exact ok_w hq hw | exact ok_w (by omega) (by omega) | exact ok_s (by omega) (by omega) | exact ok_c (by omega) rfl | assumption) rfl (by decide) (by decide) rfl ?_
              refine v_getR hC (pc := 94) dX6_needs_94 fl_X6_165 rfl (by first | rfl | exact ok_c hq rfl | exact ok_w hq hw | exact ok_w (by omega) (by omega) | exact ok_s (by omega) (by omega) | exact ok_c (by omega) rfl | assumption) rfl (by decide) (by decide) rfl ?_
              refine v_iconst hC (pc := 97) (v := 2) (by decide) dX6_needs_97 ?_
              refine v_iald hC (pc := 98) dX6_needs_98 rfl (by first | rfl | exact ok_c hq rfl | exact ok_w hq hw | exact ok_w (by omega) (by omega) | exact ok_s (by omega) (by omega) | exact ok_c (by omega) rfl | assumption) (show vp_in (nI 2) 4 from vp_nat (by decide) (by decide)) ?_
              rw [show h.1 (0, 0, 8) (2 : Int32).toNatClampNeg = nI (g 2) from hg 2 (by decide)]
              refine v_isub hC (pc := 99) dX6_needs_99 ?_
              refine v_max hC (pc := 100) dX6_needs_100 ml_X6_171 (Nat.le_of_ble_eq_true rfl) (by omega) ?_
              rw [mx_n l (by omega) _ (by have := hg9 0 (by decide); omega) (g 2) (by have := hg9 2 (by decide); omega)]
              refine v_istore hC (pc := 103) (l' := [(9, _), (8, _), (7, _), (6, _), (5, _), (4, _), (0, _), (1, _), (2, _), (3, _)]) dX6_needs_103 (by decide) rfl ?_
              refine v_iconst hC (pc := 105) (v := 0) (by decide) dX6_needs_105 ?_
              refine v_iload_n hC (pc := 106) (k := 2) 8 rfl dX6_needs_106 ?_
              refine v_iload hC (pc := 107) 1 rfl dX6_needs_107 ?_
              refine v_isub hC (pc := 109) dX6_needs_109 ?_
              refine v_aload_n hC (pc := 110) (k := 0) 6 rfl dX6_needs_110 ?_
              refine v_getR hC (pc := 111) dX6_needs_111 fl_X6_10 rfl (by first | rfl | exact ok_c hq rfl | exact ok_w hq hw | exact ok_w (by omega) (by omega) | exact ok_s (by omega) (by omega) | exact ok_c (by omega) rfl | assumption) rfl (by decide) (by decide) rfl ?_
              refine v_getR hC (pc := 114) dX6_needs_114 fl_X6_165 rfl (by first | rfl | exact ok_c hq rfl | exact ok_w hq hw | exact ok_w (by omega) (by omega) | exact ok_s (by omega) (by omega) | exact ok_c (by omega) rfl | assumption) rfl (by decide) (by decide) rfl ?_
              refine v_iconst hC (pc := 117) (v := 3) (by decide) dX6_needs_117 ?_
              refine v_iald hC (pc := 118) dX6_needs_118 rfl (by first | rfl | exact ok_c hq rfl | exact ok_w hq hw | exact ok_w (by omega) (by omega) | exact ok_s (by omega) (by omega) | exact ok_c (by omega) rfl | assumption) (show vp_in (nI 3) 4 from vp_nat (by decide) (by decide)) ?_
              rw [show h.1 (0, 0, 8) (3 : Int32).toNatClampNeg = nI (g 3) from hg 3 (by decide)]
              refine v_isub hC (pc := 119) dX6_needs_119 ?_
              refine v_max hC (pc := 120) dX6_needs_120 ml_X6_171 (Nat.le_of_ble_eq_true rfl) (by omega) ?_
              rw [mx_n r0 (by omega) _ (by have := hg9 0 (by decide); omega) (g 3) (by have := hg9 3 (by decide); omega)]
              refine v_istore hC (pc := 123) (l' := [(10, _), (9, _), (8, _), (7, _), (6, _), (5, _), (4, _), (0, _), (1, _), (2, _), (3, _)]) dX6_needs_123 (by decide) rfl ?_
              refine v_iload hC (pc := 125) 4 rfl dX6_needs_125 ?_
              refine v_iload hC (pc := 127) 3 rfl dX6_needs_127 ?_
              refine v_iadd hC (pc := 129) dX6_needs_129 ?_
              refine v_iload hC (pc := 130) 1 rfl dX6_needs_130 ?_
              refine v_iadd hC (pc := 132) dX6_needs_132 ?_
              refine v_iload hC (pc := 133) 0 rfl dX6_needs_133 ?_
              refine v_iadd hC (pc := 135) dX6_needs_135 ?_
              rw [show nI a + nI b + nI (l - min (g 0 + (10 * a + b) / 10) (g 1 + (10 * a + b) % 10) - g 2) + nI (r0 - min (g 0 + (10 * a + b) / 10) (g 1 + (10 * a + b) % 10) - g 3) = nI (tjN g l r0 (10 * a + b)) from by rw [nI_add, nI_add, nI_add]; unfold tjN lkN rkN; rw [← hja, ← hjb]]
              refine v_istore hC (pc := 136) (l' := [(11, _), (10, _), (9, _), (8, _), (7, _), (6, _), (5, _), (4, _), (0, _), (1, _), (2, _), (3, _)]) dX6_needs_136 (by decide) rfl ?_
              refine v_iload hC (pc := 138) 0 rfl dX6_needs_138 ?_
              refine v_iload hC (pc := 140) 7 rfl dX6_needs_140 ?_
              refine v_icmp_ge hC (pc := 142) (tgt := 172) dX6_needs_142 (by decide) (fun c_142 => ?_) (fun c_142 => ?_)
              · skip
                refine v_iinc hC (pc := 172) (l' := [(7, _), (11, _), (10, _), (9, _), (8, _), (6, _), (5, _), (4, _), (0, _), (1, _), (2, _), (3, _)]) 4 (v := nI (b + 1)) dX6_needs_172 rfl (nI_inc b) (by decide) rfl ?_
                refine v_goto hC (pc := 175) (tgt := 49) dX6_needs_175 (by decide) ?_
                refine v_loc (l' := [(7, _), (6, _), (5, _), (4, _), (0, _), (1, _), (2, _), (3, _)]) [0, 5, 6, 7, 8, 9, 10, 11] rfl ?_
                first
                  | exact ih (b + 1) _ _ (by omega) (by omega) (nsC_o (k := 10 * a + b) hl hr0 (show 10 * a + b < 100 by omega) hn c_142)
                  | exact ih (b + 1) _ _ (by omega) (by omega) (nsC_n (k := 10 * a + b) hl hr0 (show 10 * a + b < 100 by omega) hn c_142)
              · skip
                refine v_iload hC (pc := 145) 0 rfl dX6_needs_145 ?_
                refine v_istore hC (pc := 147) (l' := [(4, _), (11, _), (10, _), (9, _), (8, _), (7, _), (6, _), (5, _), (0, _), (1, _), (2, _), (3, _)]) dX6_needs_147 (by decide) rfl ?_
                refine v_sipush hC (pc := 149) (v := 1000) (by decide +kernel) dX6_needs_149 ?_
                refine v_iload hC (pc := 152) 6 rfl dX6_needs_152 ?_
                refine v_imul hC (pc := 154) dX6_needs_154 ?_
                refine v_bipush hC (pc := 155) (v := 100) (by decide +kernel) dX6_needs_155 ?_
                refine v_iload hC (pc := 157) 5 rfl dX6_needs_157 ?_
                refine v_imul hC (pc := 159) dX6_needs_159 ?_
                refine v_iadd hC (pc := 160) dX6_needs_160 ?_
                refine v_bipush hC (pc := 161) (v := 10) (by decide +kernel) dX6_needs_161 ?_
                refine v_iload hC (pc := 163) 3 rfl dX6_needs_163 ?_
                refine v_imul hC (pc := 165) dX6_needs_165 ?_
                refine v_iadd hC (pc := 166) dX6_needs_166 ?_
                refine v_iload hC (pc := 167) 2 rfl dX6_needs_167 ?_
                refine v_iadd hC (pc := 169) dX6_needs_169 ?_
                rw [show (1000 : Int32) * nI a + 100 * nI b + 10 * nI (l - min (g 0 + (10 * a + b) / 10) (g 1 + (10 * a + b) % 10) - g 2) + nI (r0 - min (g 0 + (10 * a + b) / 10) (g 1 + (10 * a + b) % 10) - g 3) = nI (rjN g l r0 (10 * a + b)) from by rw [show (1000 : Int32) = nI 1000 from rfl, show (100 : Int32) = nI 100 from rfl, show (10 : Int32) = nI 10 from rfl, pk_mul, pk_mul, pk_mul, nI_add, nI_add, nI_add]; unfold rjN lkN rkN; rw [← hja, ← hjb]]
                refine v_istore hC (pc := 170) (l' := [(5, _), (4, _), (11, _), (10, _), (9, _), (8, _), (7, _), (6, _), (0, _), (1, _), (2, _), (3, _)]) dX6_needs_170 (by decide) rfl ?_
                refine v_iinc hC (pc := 172) (l' := [(7, _), (5, _), (4, _), (11, _), (10, _), (9, _), (8, _), (6, _), (0, _), (1, _), (2, _), (3, _)]) 6 (v := nI (b + 1)) dX6_needs_172 rfl (nI_inc b) (by decide) rfl ?_
                refine v_goto hC (pc := 175) (tgt := 49) dX6_needs_175 (by decide) ?_
                refine v_loc (l' := [(7, _), (6, _), (5, _), (4, _), (0, _), (1, _), (2, _), (3, _)]) [0, 7, 1, 2, 8, 9, 10, 11] rfl ?_
                first
                  | exact ih (b + 1) _ _ (by omega) (by omega) (nsC_o (k := 10 * a + b) hl hr0 (show 10 * a + b < 100 by omega) hn c_142)
                  | exact ih (b + 1) _ _ (by omega) (by omega) (nsC_n (k := 10 * a + b) hl hr0 (show 10 * a + b < 100 by omega) hn c_142)
        exact IN 11 0 f e (by omega) (by omega) (by rw [Nat.add_zero]; exact hn) (fun f e hn => by
          refine v_iinc hC (pc := 178) (l' := [(6, _), (7, _), (5, _), (4, _), (0, _), (1, _), (2, _), (3, _)]) 1 (v := nI (a + 1)) dX6_needs_178 rfl (nI_inc a) (by decide) rfl ?_
          refine v_goto hC (pc := 181) (tgt := 39) dX6_needs_181 (by decide) ?_
          refine v_loc (l' := [(6, _), (5, _), (4, _), (0, _), (1, _), (2, _), (3, _)]) [0, 2, 3, 4, 5, 6, 7] rfl ?_
          exact ih (a + 1) f e (by omega) (by omega) hn)
  refine v_iload_n hC (pc := 0) (k := 1) 1 rfl dX6_needs_0 ?_
  refine v_if_lt hC (pc := 1) (tgt := 27) dX6_needs_1 (by decide) (fun c_1 => ?_) (fun c_1 => ?_)
  · exact absurd c_1 (nI_pos (by omega))
  · skip
    refine v_iload_n hC (pc := 4) (k := 1) 1 rfl dX6_needs_4 ?_
    refine v_bipush hC (pc := 5) (v := 9) (by decide +kernel) dX6_needs_5 ?_
    refine v_icmp_gt hC (pc := 7) (tgt := 27) dX6_needs_7 (by decide) (fun c_7 => ?_) (fun c_7 => ?_)
    · exact absurd c_7 (nI_nlt hl (by decide))
    · skip
      refine v_iload_n hC (pc := 10) (k := 2) 2 rfl dX6_needs_10 ?_
      refine v_if_lt hC (pc := 11) (tgt := 27) dX6_needs_11 (by decide) (fun c_11 => ?_) (fun c_11 => ?_)
      · exact absurd c_11 (nI_pos (by omega))
      · skip
        refine v_iload_n hC (pc := 14) (k := 2) 2 rfl dX6_needs_14 ?_
        refine v_bipush hC (pc := 15) (v := 9) (by decide +kernel) dX6_needs_15 ?_
        refine v_icmp_gt hC (pc := 17) (tgt := 27) dX6_needs_17 (by decide) (fun c_17 => ?_) (fun c_17 => ?_)
        · exact absurd c_17 (nI_nlt hr0 (by decide))
        · skip
          refine v_iload_n hC (pc := 20) (k := 3) 3 rfl dX6_needs_20 ?_
          refine v_callS hC (pc := 21) (As := [_]) dX6_needs_21 rfl (t_isZeroOrOne_t _ _ (d := d - 1) (by omega) _ (s := x) (by assumption)) cs_X6_108 (Nat.le_of_ble_eq_true rfl) (by omega) (fun r h' hr => ?_)
          obtain ⟨he9, rfl⟩ := hr
          rw [he9]
          clear he9 h'
          show V _ _ _ (21 + 3) _ (_ :: _) _
          refine v_if_ne hC (pc := 24) (tgt := 29) dX6_needs_24 (by decide) (fun c_24 => ?_) (fun c_24 => ?_)
          · skip
            refine v_bipush hC (pc := 29) (v := 37) (by decide +kernel) dX6_needs_29 ?_
            refine v_istore hC (pc := 31) (l' := [(4, _), (0, _), (1, _), (2, _), (3, _)]) dX6_needs_31 (by decide) rfl ?_
            refine v_iconst hC (pc := 33) (v := 0) (by decide) dX6_needs_33 ?_
            refine v_istore hC (pc := 34) (l' := [(5, _), (4, _), (0, _), (1, _), (2, _), (3, _)]) dX6_needs_34 (by decide) rfl ?_
            refine v_iconst hC (pc := 36) (v := 0) (by decide) dX6_needs_36 ?_
            refine v_istore hC (pc := 37) (l' := [(6, _), (5, _), (4, _), (0, _), (1, _), (2, _), (3, _)]) dX6_needs_37 (by decide) rfl ?_
            exact OUT 11 0 37 0 (by omega) (by omega) (Or.inl ⟨rfl, rfl, rfl⟩)
          · exact absurd c_24 (by decide)

set_option maxRecDepth 20000 in
set_option maxHeartbeats 2000000 in
theorem k_needs_bad (l9 : Launch) (G : WT) {d : Nat} (hd : 3 ≤ d) (h : HP) (l r0 x : Int32) (hbad : ¬ ((¬ l < 0 ∧ ¬ 9 < l) ∧ (¬ r0 < 0 ∧ ¬ 9 < r0) ∧ (x = 0 ∨ x = 1))) : MS l9 G yX6_needs cX6_needs 12 (some .int) d [vr (1, 0, 0), vi l, vi r0, vi x] h (fun r h1 => h1 = h ∧ r = some (vi (-1))) := by
  refine MS_of (by decide +kernel) (Nat.le_of_ble_eq_true rfl) (fun X hC hX => ?_)
  show V X G 12 0 _ [] _
  refine v_iload_n hC (pc := 0) (k := 1) 1 rfl dX6_needs_0 ?_
  refine v_if_lt hC (pc := 1) (tgt := 27) dX6_needs_1 (by decide) (fun c_1 => ?_) (fun c_1 => ?_)
  · skip
    refine v_iconst hC (pc := 27) (v := (-1)) (by decide) dX6_needs_27 ?_
    refine v_iret hC hX (pc := 28) dX6_needs_28 ?_
    exact ⟨rfl, rfl⟩
  · skip
    refine v_iload_n hC (pc := 4) (k := 1) 1 rfl dX6_needs_4 ?_
    refine v_bipush hC (pc := 5) (v := 9) (by decide +kernel) dX6_needs_5 ?_
    refine v_icmp_gt hC (pc := 7) (tgt := 27) dX6_needs_7 (by decide) (fun c_7 => ?_) (fun c_7 => ?_)
    · skip
      refine v_iconst hC (pc := 27) (v := (-1)) (by decide) dX6_needs_27 ?_
      refine v_iret hC hX (pc := 28) dX6_needs_28 ?_
      exact ⟨rfl, rfl⟩
    · skip
      refine v_iload_n hC (pc := 10) (k := 2) 2 rfl dX6_needs_10 ?_
      refine v_if_lt hC (pc := 11) (tgt := 27) dX6_needs_11 (by decide) (fun c_11 => ?_) (fun c_11 => ?_)
      · skip
        refine v_iconst hC (pc := 27) (v := (-1)) (by decide) dX6_needs_27 ?_
        refine v_iret hC hX (pc := 28) dX6_needs_28 ?_
        exact ⟨rfl, rfl⟩
      · skip
        refine v_iload_n hC (pc := 14) (k := 2) 2 rfl dX6_needs_14 ?_
        refine v_bipush hC (pc := 15) (v := 9) (by decide +kernel) dX6_needs_15 ?_
        refine v_icmp_gt hC (pc := 17) (tgt := 27) dX6_needs_17 (by decide) (fun c_17 => ?_) (fun c_17 => ?_)
        · skip
          refine v_iconst hC (pc := 27) (v := (-1)) (by decide) dX6_needs_27 ?_
          refine v_iret hC hX (pc := 28) dX6_needs_28 ?_
          exact ⟨rfl, rfl⟩
        · skip
          refine v_iload_n hC (pc := 20) (k := 3) 3 rfl dX6_needs_20 ?_
          refine v_callS hC (pc := 21) (As := [_]) dX6_needs_21 rfl (t_isZeroOrOne _ _ (d := d - 1) (by omega) _ _) cs_X6_108 (Nat.le_of_ble_eq_true rfl) (by omega) (fun r h' hr => ?_)
          obtain ⟨he9, rfl⟩ := hr
          rw [he9]
          clear he9 h'
          show V _ _ _ (21 + 3) _ (_ :: _) _
          refine v_ifb_ne hC (pc := 24) (tgt := 29) dX6_needs_24 (by decide) (fun c_24 => ?_) (fun c_24 => ?_)
          · skip
            exact absurd (show _ ∧ _ ∧ _ from ⟨⟨c_1, c_7⟩, ⟨c_11, c_17⟩, c_24⟩) hbad
          · skip
            refine v_iconst hC (pc := 27) (v := (-1)) (by decide) dX6_needs_27 ?_
            refine v_iret hC hX (pc := 28) dX6_needs_28 ?_
            exact ⟨rfl, rfl⟩

set_option maxRecDepth 20000 in
set_option maxHeartbeats 2000000 in
theorem k_see_ok (l9 : Launch) (G : WT) {d : Nat} (hd : 3 ≤ d) (h : HP) {nC : Nat} (hn8 : nC ≤ 8) (hnc : h.1 (0, 0, 0) 0 = nI nC) {nW : Nat} (hn4 : nW ≤ 4) (hnw : h.1 (0, 0, 0) 4 = nI nW) {nS : Nat} (hns : h.1 (0, 0, 0) 5 = nI nS) (hs8 : nS < 8) {w n c : Nat} (hw : w < nW) (hn : n ≤ 10) (hc : c < nC) (b : Int32) : MS l9 G yX6_see cX6_see 5 (some .int) d [vr (1, 0, 0), vi (nI w), vi (nI n), vi (nI c), vi b] h (fun r h1 => r = some (vi (nI (nS + 1))) ∧ h1 = upI (upI (upI (upI (upI h (0, 0, 9) nS (nI w)) (0, 0, 10) nS (nI n)) (0, 0, 11) nS (nI c)) (0, 0, 12) nS (oneF b)) (0, 0, 0) 5 (nI (nS + 1))) := by
  refine MS_of (by decide +kernel) (Nat.le_of_ble_eq_true rfl) (fun X hC hX => ?_)
  show V X G 5 0 _ [] _
  refine v_aload_n hC (pc := 0) (k := 0) 0 rfl dX6_see_0 ?_
  refine v_getR hC (pc := 1) dX6_see_1 fl_X6_10 rfl (by first | rfl | exact ok_c hq rfl | exact ok_w hq hw | exact ok_w (by omega) (by omega) | exact ok_s (by omega) (by omega) | exact ok_c (by omega) rfl | assumption) rfl (by decide) (by decide) rfl ?_
  refine v_iload_n hC (pc := 4) (k := 1) 1 rfl dX6_see_4 ?_
  refine v_callV hC (pc := 5) (As := [_]) dX6_see_5 rfl (t_hasWalker_t _ _ (d := d - 1) (by omega) (q := 0) (by decide) _ (c := w) (by assumption) (by omega) hnw) cv_X6_115 rfl (by decide) rfl (by first | rfl | exact ok_c hq rfl | exact ok_w hq hw | exact ok_w (by omega) (by omega) | exact ok_s (by omega) (by omega) | exact ok_c (by omega) rfl | assumption) (Nat.le_of_ble_eq_true rfl) (by omega) (fun r h' hr => ?_)
  obtain ⟨he9, rfl⟩ := hr
  rw [he9]
  clear he9 h'
  show V _ _ _ (5 + 3) _ (_ :: _) _
  refine v_if_eq hC (pc := 8) (tgt := 32) dX6_see_8 (by decide) (fun c_8 => ?_) (fun c_8 => ?_)
  · exact absurd c_8 (by decide)
  · skip
    refine v_iload_n hC (pc := 11) (k := 2) 2 rfl dX6_see_11 ?_
    refine v_if_lt hC (pc := 12) (tgt := 32) dX6_see_12 (by decide) (fun c_12 => ?_) (fun c_12 => ?_)
    · exact absurd c_12 (nI_pos (by omega))
    · skip
      refine v_iload_n hC (pc := 15) (k := 2) 2 rfl dX6_see_15 ?_
      refine v_bipush hC (pc := 16) (v := 10) (by decide +kernel) dX6_see_16 ?_
      refine v_icmp_gt hC (pc := 18) (tgt := 32) dX6_see_18 (by decide) (fun c_18 => ?_) (fun c_18 => ?_)
      · exact absurd c_18 (nI_nlt hn (by decide))
      · skip
        refine v_aload_n hC (pc := 21) (k := 0) 0 rfl dX6_see_21 ?_
        refine v_getR hC (pc := 22) dX6_see_22 fl_X6_10 rfl (by first | rfl | exact ok_c hq rfl | exact ok_w hq hw | exact ok_w (by omega) (by omega) | exact ok_s (by omega) (by omega) | exact ok_c (by omega) rfl | assumption) rfl (by decide) (by decide) rfl ?_
        refine v_iload_n hC (pc := 25) (k := 3) 3 rfl dX6_see_25 ?_
        refine v_callV hC (pc := 26) (As := [_]) dX6_see_26 rfl (t_hasCorner_t _ _ (d := d - 1) (by omega) (q := 0) (by decide) _ (c := c) (by assumption) (by omega) hnc) cv_X6_105 rfl (by decide) rfl (by first | rfl | exact ok_c hq rfl | exact ok_w hq hw | exact ok_w (by omega) (by omega) | exact ok_s (by omega) (by omega) | exact ok_c (by omega) rfl | assumption) (Nat.le_of_ble_eq_true rfl) (by omega) (fun r h' hr => ?_)
        obtain ⟨he9, rfl⟩ := hr
        rw [he9]
        clear he9 h'
        show V _ _ _ (26 + 3) _ (_ :: _) _
        refine v_if_ne hC (pc := 29) (tgt := 34) dX6_see_29 (by decide) (fun c_29 => ?_) (fun c_29 => ?_)
        · skip
          refine v_aload_n hC (pc := 34) (k := 0) 0 rfl dX6_see_34 ?_
          refine v_getR hC (pc := 35) dX6_see_35 fl_X6_10 rfl (by first | rfl | exact ok_c hq rfl | exact ok_w hq hw | exact ok_w (by omega) (by omega) | exact ok_s (by omega) (by omega) | exact ok_c (by omega) rfl | assumption) rfl (by decide) (by decide) rfl ?_
          refine v_getI hC (pc := 38) dX6_see_38 fl_X6_224 rfl (by first | rfl | exact ok_c hq rfl | exact ok_w hq hw | exact ok_w (by omega) (by omega) | exact ok_s (by omega) (by omega) | exact ok_c (by omega) rfl | assumption) rfl (by decide) (by decide) ?_
          rw [hns]
          refine v_bipush hC (pc := 41) (v := 8) (by decide +kernel) dX6_see_41 ?_
          refine v_icmp_lt hC (pc := 43) (tgt := 49) dX6_see_43 (by decide) (fun c_43 => ?_) (fun c_43 => ?_)
          · skip
            refine v_aload_n hC (pc := 49) (k := 0) 0 rfl dX6_see_49 ?_
            refine v_getR hC (pc := 50) dX6_see_50 fl_X6_10 rfl (by first | rfl | exact ok_c hq rfl | exact ok_w hq hw | exact ok_w (by omega) (by omega) | exact ok_s (by omega) (by omega) | exact ok_c (by omega) rfl | assumption) rfl (by decide) (by decide) rfl ?_
            refine v_iload_n hC (pc := 53) (k := 1) 1 rfl dX6_see_53 ?_
            refine v_iload_n hC (pc := 54) (k := 2) 2 rfl dX6_see_54 ?_
            refine v_iload_n hC (pc := 55) (k := 3) 3 rfl dX6_see_55 ?_
            refine v_iload hC (pc := 56) 4 rfl dX6_see_56 ?_
            refine v_callV hC (pc := 58) (As := [_, _, _, _]) dX6_see_58 rfl (t_addSight _ _ (d := d - 1) (by omega) (q := 0) (by decide) _ hs8 hns _ _ _ _) cv_X6_227 rfl (by decide) rfl (by first | rfl | exact ok_c hq rfl | exact ok_w hq hw | exact ok_w (by omega) (by omega) | exact ok_s (by omega) (by omega) | exact ok_c (by omega) rfl | assumption) (Nat.le_of_ble_eq_true rfl) (by omega) (fun r h' hr => ?_)
            obtain ⟨rfl, he9⟩ := hr
            rw [he9]
            clear he9 h'
            show V _ _ _ (58 + 3) _ _ _
            refine v_aload_n hC (pc := 61) (k := 0) 0 rfl dX6_see_61 ?_
            refine v_getR hC (pc := 62) dX6_see_62 fl_X6_10 rfl (by first | rfl | exact ok_c hq rfl | exact ok_w hq hw | exact ok_w (by omega) (by omega) | exact ok_s (by omega) (by omega) | exact ok_c (by omega) rfl | assumption) rfl (by decide) (by decide) rfl ?_
            refine v_getI hC (pc := 65) dX6_see_65 fl_X6_224 rfl (by first | rfl | exact ok_c hq rfl | exact ok_w hq hw | exact ok_w (by omega) (by omega) | exact ok_s (by omega) (by omega) | exact ok_c (by omega) rfl | assumption) rfl (by decide) (by decide) ?_
            refine v_iret hC hX (pc := 68) dX6_see_68 ?_
            exact ⟨by rw [upI_i], rfl⟩
          · exact absurd (nI_lt hs8 (by decide)) c_43
        · exact absurd c_29 (by decide)

set_option maxRecDepth 20000 in
set_option maxHeartbeats 2000000 in
theorem k_see_full (l9 : Launch) (G : WT) {d : Nat} (hd : 3 ≤ d) (h : HP) {nC : Nat} (hn8 : nC ≤ 8) (hnc : h.1 (0, 0, 0) 0 = nI nC) {nW : Nat} (hn4 : nW ≤ 4) (hnw : h.1 (0, 0, 0) 4 = nI nW) (hns : h.1 (0, 0, 0) 5 = nI 8) {w n c : Nat} (hw : w < nW) (hn : n ≤ 10) (hc : c < nC) (b : Int32) : MS l9 G yX6_see cX6_see 5 (some .int) d [vr (1, 0, 0), vi (nI w), vi (nI n), vi (nI c), vi b] h (fun r h1 => h1 = h ∧ r = some (vi (-3))) := by
  refine MS_of (by decide +kernel) (Nat.le_of_ble_eq_true rfl) (fun X hC hX => ?_)
  show V X G 5 0 _ [] _
  refine v_aload_n hC (pc := 0) (k := 0) 0 rfl dX6_see_0 ?_
  refine v_getR hC (pc := 1) dX6_see_1 fl_X6_10 rfl (by first | rfl | exact ok_c hq rfl | exact ok_w hq hw | exact ok_w (by omega) (by omega) | exact ok_s (by omega) (by omega) | exact ok_c (by omega) rfl | assumption) rfl (by decide) (by decide) rfl ?_
  refine v_iload_n hC (pc := 4) (k := 1) 1 rfl dX6_see_4 ?_
  refine v_callV hC (pc := 5) (As := [_]) dX6_see_5 rfl (t_hasWalker_t _ _ (d := d - 1) (by omega) (q := 0) (by decide) _ (c := w) (by assumption) (by omega) hnw) cv_X6_115 rfl (by decide) rfl (by first | rfl | exact ok_c hq rfl | exact ok_w hq hw | exact ok_w (by omega) (by omega) | exact ok_s (by omega) (by omega) | exact ok_c (by omega) rfl | assumption) (Nat.le_of_ble_eq_true rfl) (by omega) (fun r h' hr => ?_)
  obtain ⟨he9, rfl⟩ := hr
  rw [he9]
  clear he9 h'
  show V _ _ _ (5 + 3) _ (_ :: _) _
  refine v_if_eq hC (pc := 8) (tgt := 32) dX6_see_8 (by decide) (fun c_8 => ?_) (fun c_8 => ?_)
  · exact absurd c_8 (by decide)
  · skip
    refine v_iload_n hC (pc := 11) (k := 2) 2 rfl dX6_see_11 ?_
    refine v_if_lt hC (pc := 12) (tgt := 32) dX6_see_12 (by decide) (fun c_12 => ?_) (fun c_12 => ?_)
    · exact absurd c_12 (nI_pos (by omega))
    · skip
      refine v_iload_n hC (pc := 15) (k := 2) 2 rfl dX6_see_15 ?_
      refine v_bipush hC (pc := 16) (v := 10) (by decide +kernel) dX6_see_16 ?_
      refine v_icmp_gt hC (pc := 18) (tgt := 32) dX6_see_18 (by decide) (fun c_18 => ?_) (fun c_18 => ?_)
      · exact absurd c_18 (nI_nlt hn (by decide))
      · skip
        refine v_aload_n hC (pc := 21) (k := 0) 0 rfl dX6_see_21 ?_
        refine v_getR hC (pc := 22) dX6_see_22 fl_X6_10 rfl (by first | rfl | exact ok_c hq rfl | exact ok_w hq hw | exact ok_w (by omega) (by omega) | exact ok_s (by omega) (by omega) | exact ok_c (by omega) rfl | assumption) rfl (by decide) (by decide) rfl ?_
        refine v_iload_n hC (pc := 25) (k := 3) 3 rfl dX6_see_25 ?_
        refine v_callV hC (pc := 26) (As := [_]) dX6_see_26 rfl (t_hasCorner_t _ _ (d := d - 1) (by omega) (q := 0) (by decide) _ (c := c) (by assumption) (by omega) hnc) cv_X6_105 rfl (by decide) rfl (by first | rfl | exact ok_c hq rfl | exact ok_w hq hw | exact ok_w (by omega) (by omega) | exact ok_s (by omega) (by omega) | exact ok_c (by omega) rfl | assumption) (Nat.le_of_ble_eq_true rfl) (by omega) (fun r h' hr => ?_)
        obtain ⟨he9, rfl⟩ := hr
        rw [he9]
        clear he9 h'
        show V _ _ _ (26 + 3) _ (_ :: _) _
        refine v_if_ne hC (pc := 29) (tgt := 34) dX6_see_29 (by decide) (fun c_29 => ?_) (fun c_29 => ?_)
        · skip
          refine v_aload_n hC (pc := 34) (k := 0) 0 rfl dX6_see_34 ?_
          refine v_getR hC (pc := 35) dX6_see_35 fl_X6_10 rfl (by first | rfl | exact ok_c hq rfl | exact ok_w hq hw | exact ok_w (by omega) (by omega) | exact ok_s (by omega) (by omega) | exact ok_c (by omega) rfl | assumption) rfl (by decide) (by decide) rfl ?_
          refine v_getI hC (pc := 38) dX6_see_38 fl_X6_224 rfl (by first | rfl | exact ok_c hq rfl | exact ok_w hq hw | exact ok_w (by omega) (by omega) | exact ok_s (by omega) (by omega) | exact ok_c (by omega) rfl | assumption) rfl (by decide) (by decide) ?_
          refine v_bipush hC (pc := 41) (v := 8) (by decide +kernel) dX6_see_41 ?_
          refine v_icmp_lt hC (pc := 43) (tgt := 49) dX6_see_43 (by decide) (fun c_43 => ?_) (fun c_43 => ?_)
          · exact absurd c_43 (by rw [hns]; decide)
          · skip
            refine v_bipush hC (pc := 46) (v := (-3)) (by decide +kernel) dX6_see_46 ?_
            refine v_iret hC hX (pc := 48) dX6_see_48 ?_
            exact ⟨rfl, rfl⟩
        · exact absurd c_29 (by decide)

set_option maxRecDepth 20000 in
set_option maxHeartbeats 2000000 in
theorem k_see_bad (l9 : Launch) (G : WT) {d : Nat} (hd : 3 ≤ d) (h : HP) {nC : Nat} (hn8 : nC ≤ 8) (hnc : h.1 (0, 0, 0) 0 = nI nC) {nW : Nat} (hn4 : nW ≤ 4) (hnw : h.1 (0, 0, 0) 4 = nI nW) (w n c b : Int32) (hbad : ¬ ((¬ w < 0 ∧ ¬ nI nW ≤ w) ∧ (¬ n < 0 ∧ ¬ 10 < n) ∧ ¬ c < 0 ∧ ¬ nI nC ≤ c)) : MS l9 G yX6_see cX6_see 5 (some .int) d [vr (1, 0, 0), vi w, vi n, vi c, vi b] h (fun r h1 => h1 = h ∧ r = some (vi (-1))) := by
  refine MS_of (by decide +kernel) (Nat.le_of_ble_eq_true rfl) (fun X hC hX => ?_)
  show V X G 5 0 _ [] _
  refine v_aload_n hC (pc := 0) (k := 0) 0 rfl dX6_see_0 ?_
  refine v_getR hC (pc := 1) dX6_see_1 fl_X6_10 rfl (by first | rfl | exact ok_c hq rfl | exact ok_w hq hw | exact ok_w (by omega) (by omega) | exact ok_s (by omega) (by omega) | exact ok_c (by omega) rfl | assumption) rfl (by decide) (by decide) rfl ?_
  refine v_iload_n hC (pc := 4) (k := 1) 1 rfl dX6_see_4 ?_
  refine v_callV hC (pc := 5) (As := [_]) dX6_see_5 rfl (t_hasWalker _ _ (d := d - 1) (by omega) (q := 0) (by decide) _ _) cv_X6_115 rfl (by decide) rfl (by first | rfl | exact ok_c hq rfl | exact ok_w hq hw | exact ok_w (by omega) (by omega) | exact ok_s (by omega) (by omega) | exact ok_c (by omega) rfl | assumption) (Nat.le_of_ble_eq_true rfl) (by omega) (fun r h' hr => ?_)
  obtain ⟨he9, rfl⟩ := hr
  rw [he9, hnw]
  clear he9 h'
  show V _ _ _ (5 + 3) _ (_ :: _) _
  refine v_ifb_eq hC (pc := 8) (tgt := 32) dX6_see_8 (by decide) (fun c_8 => ?_) (fun c_8 => ?_)
  · skip
    refine v_iconst hC (pc := 32) (v := (-1)) (by decide) dX6_see_32 ?_
    refine v_iret hC hX (pc := 33) dX6_see_33 ?_
    exact ⟨rfl, rfl⟩
  · skip
    refine v_iload_n hC (pc := 11) (k := 2) 2 rfl dX6_see_11 ?_
    refine v_if_lt hC (pc := 12) (tgt := 32) dX6_see_12 (by decide) (fun c_12 => ?_) (fun c_12 => ?_)
    · skip
      refine v_iconst hC (pc := 32) (v := (-1)) (by decide) dX6_see_32 ?_
      refine v_iret hC hX (pc := 33) dX6_see_33 ?_
      exact ⟨rfl, rfl⟩
    · skip
      refine v_iload_n hC (pc := 15) (k := 2) 2 rfl dX6_see_15 ?_
      refine v_bipush hC (pc := 16) (v := 10) (by decide +kernel) dX6_see_16 ?_
      refine v_icmp_gt hC (pc := 18) (tgt := 32) dX6_see_18 (by decide) (fun c_18 => ?_) (fun c_18 => ?_)
      · skip
        refine v_iconst hC (pc := 32) (v := (-1)) (by decide) dX6_see_32 ?_
        refine v_iret hC hX (pc := 33) dX6_see_33 ?_
        exact ⟨rfl, rfl⟩
      · skip
        refine v_aload_n hC (pc := 21) (k := 0) 0 rfl dX6_see_21 ?_
        refine v_getR hC (pc := 22) dX6_see_22 fl_X6_10 rfl (by first | rfl | exact ok_c hq rfl | exact ok_w hq hw | exact ok_w (by omega) (by omega) | exact ok_s (by omega) (by omega) | exact ok_c (by omega) rfl | assumption) rfl (by decide) (by decide) rfl ?_
        refine v_iload_n hC (pc := 25) (k := 3) 3 rfl dX6_see_25 ?_
        refine v_callV hC (pc := 26) (As := [_]) dX6_see_26 rfl (t_hasCorner _ _ (d := d - 1) (by omega) (q := 0) (by decide) _ _) cv_X6_105 rfl (by decide) rfl (by first | rfl | exact ok_c hq rfl | exact ok_w hq hw | exact ok_w (by omega) (by omega) | exact ok_s (by omega) (by omega) | exact ok_c (by omega) rfl | assumption) (Nat.le_of_ble_eq_true rfl) (by omega) (fun r h' hr => ?_)
        obtain ⟨he9, rfl⟩ := hr
        rw [he9, hnc]
        clear he9 h'
        show V _ _ _ (26 + 3) _ (_ :: _) _
        refine v_ifb_ne hC (pc := 29) (tgt := 34) dX6_see_29 (by decide) (fun c_29 => ?_) (fun c_29 => ?_)
        · skip
          exact absurd (show _ ∧ _ ∧ _ from ⟨c_8, ⟨c_12, c_18⟩, c_29⟩) hbad
        · skip
          refine v_iconst hC (pc := 32) (v := (-1)) (by decide) dX6_see_32 ?_
          refine v_iret hC hX (pc := 33) dX6_see_33 ?_
          exact ⟨rfl, rfl⟩

set_option maxRecDepth 20000 in
set_option maxHeartbeats 2000000 in
theorem k_forget_ok (l9 : Launch) (G : WT) {d : Nat} (hd : 3 ≤ d) (h : HP) {nS : Nat} (hs8 : nS ≤ 8) (hns : h.1 (0, 0, 0) 5 = nI nS) {n : Nat} (hn : n ≤ nS) : MS l9 G yX6_forget cX6_forget 3 (some .int) d [vr (1, 0, 0), vi (nI n)] h (fun r h1 => r = some (vi (h.1 (0, 0, 0) 5)) ∧ h1 = upI h (0, 0, 0) 5 (nI n)) := by
  refine MS_of (by decide +kernel) (Nat.le_of_ble_eq_true rfl) (fun X hC hX => ?_)
  show V X G 3 0 _ [] _
  refine v_iload_n hC (pc := 0) (k := 1) 1 rfl dX6_forget_0 ?_
  refine v_if_lt hC (pc := 1) (tgt := 15) dX6_forget_1 (by decide) (fun c_1 => ?_) (fun c_1 => ?_)
  · exact absurd c_1 (nI_pos (by omega))
  · skip
    refine v_iload_n hC (pc := 4) (k := 1) 1 rfl dX6_forget_4 ?_
    refine v_aload_n hC (pc := 5) (k := 0) 0 rfl dX6_forget_5 ?_
    refine v_getR hC (pc := 6) dX6_forget_6 fl_X6_10 rfl (by first | rfl | exact ok_c hq rfl | exact ok_w hq hw | exact ok_w (by omega) (by omega) | exact ok_s (by omega) (by omega) | exact ok_c (by omega) rfl | assumption) rfl (by decide) (by decide) rfl ?_
    refine v_getI hC (pc := 9) dX6_forget_9 fl_X6_224 rfl (by first | rfl | exact ok_c hq rfl | exact ok_w hq hw | exact ok_w (by omega) (by omega) | exact ok_s (by omega) (by omega) | exact ok_c (by omega) rfl | assumption) rfl (by decide) (by decide) ?_
    rw [hns]
    refine v_icmp_le hC (pc := 12) (tgt := 17) dX6_forget_12 (by decide) (fun c_12 => ?_) (fun c_12 => ?_)
    · skip
      refine v_aload_n hC (pc := 17) (k := 0) 0 rfl dX6_forget_17 ?_
      refine v_getR hC (pc := 18) dX6_forget_18 fl_X6_10 rfl (by first | rfl | exact ok_c hq rfl | exact ok_w hq hw | exact ok_w (by omega) (by omega) | exact ok_s (by omega) (by omega) | exact ok_c (by omega) rfl | assumption) rfl (by decide) (by decide) rfl ?_
      refine v_getI hC (pc := 21) dX6_forget_21 fl_X6_224 rfl (by first | rfl | exact ok_c hq rfl | exact ok_w hq hw | exact ok_w (by omega) (by omega) | exact ok_s (by omega) (by omega) | exact ok_c (by omega) rfl | assumption) rfl (by decide) (by decide) ?_
      refine v_istore_n hC (pc := 24) (l' := [(2, _), (0, _), (1, _)]) dX6_forget_24 (by decide) rfl ?_
      refine v_aload_n hC (pc := 25) (k := 0) 1 rfl dX6_forget_25 ?_
      refine v_getR hC (pc := 26) dX6_forget_26 fl_X6_10 rfl (by first | rfl | exact ok_c hq rfl | exact ok_w hq hw | exact ok_w (by omega) (by omega) | exact ok_s (by omega) (by omega) | exact ok_c (by omega) rfl | assumption) rfl (by decide) (by decide) rfl ?_
      refine v_iload_n hC (pc := 29) (k := 1) 2 rfl dX6_forget_29 ?_
      refine v_putI hC (pc := 30) dX6_forget_30 fs_X6_224 rfl (by first | rfl | exact ok_c hq rfl | exact ok_w hq hw | exact ok_w (by omega) (by omega) | exact ok_s (by omega) (by omega) | exact ok_c (by omega) rfl | assumption) rfl (by decide) (by decide) ?_
      refine v_iload_n hC (pc := 33) (k := 2) 0 rfl dX6_forget_33 ?_
      refine v_iret hC hX (pc := 34) dX6_forget_34 ?_
      exact ⟨rfl, rfl⟩
    · exact absurd (nI_le hn (by omega)) c_12

set_option maxRecDepth 20000 in
set_option maxHeartbeats 2000000 in
theorem k_forget_bad (l9 : Launch) (G : WT) {d : Nat} (hd : 3 ≤ d) (h : HP) {nS : Nat} (hs8 : nS ≤ 8) (hns : h.1 (0, 0, 0) 5 = nI nS) (n : Int32) (hbad : ¬ (¬ n < 0 ∧ ¬ nI nS < n)) : MS l9 G yX6_forget cX6_forget 3 (some .int) d [vr (1, 0, 0), vi n] h (fun r h1 => h1 = h ∧ r = some (vi (-1))) := by
  refine MS_of (by decide +kernel) (Nat.le_of_ble_eq_true rfl) (fun X hC hX => ?_)
  show V X G 3 0 _ [] _
  refine v_iload_n hC (pc := 0) (k := 1) 1 rfl dX6_forget_0 ?_
  refine v_if_lt hC (pc := 1) (tgt := 15) dX6_forget_1 (by decide) (fun c_1 => ?_) (fun c_1 => ?_)
  · skip
    refine v_iconst hC (pc := 15) (v := (-1)) (by decide) dX6_forget_15 ?_
    refine v_iret hC hX (pc := 16) dX6_forget_16 ?_
    exact ⟨rfl, rfl⟩
  · skip
    refine v_iload_n hC (pc := 4) (k := 1) 1 rfl dX6_forget_4 ?_
    refine v_aload_n hC (pc := 5) (k := 0) 0 rfl dX6_forget_5 ?_
    refine v_getR hC (pc := 6) dX6_forget_6 fl_X6_10 rfl (by first | rfl | exact ok_c hq rfl | exact ok_w hq hw | exact ok_w (by omega) (by omega) | exact ok_s (by omega) (by omega) | exact ok_c (by omega) rfl | assumption) rfl (by decide) (by decide) rfl ?_
    refine v_getI hC (pc := 9) dX6_forget_9 fl_X6_224 rfl (by first | rfl | exact ok_c hq rfl | exact ok_w hq hw | exact ok_w (by omega) (by omega) | exact ok_s (by omega) (by omega) | exact ok_c (by omega) rfl | assumption) rfl (by decide) (by decide) ?_
    rw [hns]
    refine v_icmp_le hC (pc := 12) (tgt := 17) dX6_forget_12 (by decide) (fun c_12 => ?_) (fun c_12 => ?_)
    · skip
      exact absurd (show ¬ n < 0 ∧ ¬ nI nS < n from ⟨c_1, Int32.not_lt.mpr c_12⟩) hbad
    · skip
      refine v_iconst hC (pc := 15) (v := (-1)) (by decide) dX6_forget_15 ?_
      refine v_iret hC hX (pc := 16) dX6_forget_16 ?_
      exact ⟨rfl, rfl⟩

theorem ok_img {k : Nat} (hk : k < 2) : ok (0, 2 + k, 0) = true := ok_c (by omega) rfl
set_option maxRecDepth 20000 in
set_option maxHeartbeats 2000000 in
theorem k_keep_ok (l9 : Launch) (G : WT) {d : Nat} (hd : 3 ≤ d) (h : HP) {k : Nat} (hk : k < 2) (hz : ∀ w, w < 4 → h.1 (6, 0, w) 2 = 0 ∨ h.1 (6, 0, w) 2 = 1) : MS l9 G yX6_keep cX6_keep 3 (some .int) d [vr (1, 0, 0), vi (nI k)] h (fun r h1 => r = some (vi ((h.1 (1, 0, 0) 7 >>> (nI k &&& 31)) &&& 1)) ∧ ∃ u, SamC u h (2 + k) 0 ∧ FrC u h (2 + k) ∧ h1 = upI u (1, 0, 0) 7 (u.1 (1, 0, 0) 7 ||| (1 <<< (nI k &&& 31)))) := by
  refine MS_of (by decide +kernel) (Nat.le_of_ble_eq_true rfl) (fun X hC hX => ?_)
  show V X G 3 0 _ [] _
  refine v_iload_n hC (pc := 0) (k := 1) 1 rfl dX6_keep_0 ?_
  refine v_if_lt hC (pc := 1) (tgt := 9) dX6_keep_1 (by decide) (fun c_1 => ?_) (fun c_1 => ?_)
  · exact absurd c_1 (nI_pos (by omega))
  · skip
    refine v_iload_n hC (pc := 4) (k := 1) 1 rfl dX6_keep_4 ?_
    refine v_iconst hC (pc := 5) (v := 2) (by decide) dX6_keep_5 ?_
    refine v_icmp_lt hC (pc := 6) (tgt := 11) dX6_keep_6 (by decide) (fun c_6 => ?_) (fun c_6 => ?_)
    · skip
      refine v_aload_n hC (pc := 11) (k := 0) 0 rfl dX6_keep_11 ?_
      refine v_getI hC (pc := 12) dX6_keep_12 fl_X6_79 rfl (by first | rfl | exact ok_c hq rfl | exact ok_w hq hw | exact ok_w (by omega) (by omega) | exact ok_s (by omega) (by omega) | exact ok_c (by omega) rfl | assumption) rfl (by decide) (by decide) ?_
      refine v_iload_n hC (pc := 15) (k := 1) 1 rfl dX6_keep_15 ?_
      refine v_ishr hC (pc := 16) dX6_keep_16 ?_
      refine v_iconst hC (pc := 17) (v := 1) (by decide) dX6_keep_17 ?_
      refine v_iand hC (pc := 18) dX6_keep_18 ?_
      refine v_istore_n hC (pc := 19) (l' := [(2, _), (0, _), (1, _)]) dX6_keep_19 (by decide) rfl ?_
      refine v_aload_n hC (pc := 20) (k := 0) 1 rfl dX6_keep_20 ?_
      refine v_getR hC (pc := 21) dX6_keep_21 fl_X6_19 rfl (by first | rfl | exact ok_c hq rfl | exact ok_w hq hw | exact ok_w (by omega) (by omega) | exact ok_s (by omega) (by omega) | exact ok_c (by omega) rfl | assumption) rfl (by decide) (by decide) rfl ?_
      refine v_iload_n hC (pc := 24) (k := 1) 2 rfl dX6_keep_24 ?_
      refine v_aald hC (pc := 25) (j := (0, 2 + k, 0)) 3 dX6_keep_25 rfl (by decide) (fun _ => rfl) (by first | rfl | exact ok_c hq rfl | exact ok_w hq hw | exact ok_w (by omega) (by omega) | exact ok_s (by omega) (by omega) | exact ok_c (by omega) rfl | assumption) (vp_nat (n := k) (by omega) (by decide)) (by rw [nI_clamp (show k < 2 ^ 31 by omega)]; rfl) ?_
      refine v_aload_n hC (pc := 26) (k := 0) 1 rfl dX6_keep_26 ?_
      refine v_getR hC (pc := 27) dX6_keep_27 fl_X6_10 rfl (by first | rfl | exact ok_c hq rfl | exact ok_w hq hw | exact ok_w (by omega) (by omega) | exact ok_s (by omega) (by omega) | exact ok_c (by omega) rfl | assumption) rfl (by decide) (by decide) rfl ?_
      refine v_callV hC (pc := 30) (As := [_]) dX6_keep_30 rfl (t_copyOf _ _ (d := d - 1) (by omega) (q := 2 + k) (p := 0) (by omega) (by decide) (by omega) _ hz) cv_X6_75 rfl (by decide) rfl (ok_img hk) (Nat.le_of_ble_eq_true rfl) (by omega) (fun r h' hr => ?_)
      obtain ⟨rfl, hs, hf⟩ := hr
      generalize h' = u at hs hf ⊢
      show V _ _ _ (30 + 3) _ _ _
      refine v_aload_n hC (pc := 33) (k := 0) 1 rfl dX6_keep_33 ?_
      refine v_dup hC (pc := 34) rfl dX6_keep_34 ?_
      refine v_getI hC (pc := 35) dX6_keep_35 fl_X6_79 rfl (by first | rfl | exact ok_c hq rfl | exact ok_w hq hw | exact ok_w (by omega) (by omega) | exact ok_s (by omega) (by omega) | exact ok_c (by omega) rfl | assumption) rfl (by decide) (by decide) ?_
      refine v_iconst hC (pc := 38) (v := 1) (by decide) dX6_keep_38 ?_
      refine v_iload_n hC (pc := 39) (k := 1) 2 rfl dX6_keep_39 ?_
      refine v_ishl hC (pc := 40) dX6_keep_40 ?_
      refine v_ior hC (pc := 41) dX6_keep_41 ?_
      refine v_putI hC (pc := 42) dX6_keep_42 fs_X6_79 rfl (by first | rfl | exact ok_c hq rfl | exact ok_w hq hw | exact ok_w (by omega) (by omega) | exact ok_s (by omega) (by omega) | exact ok_c (by omega) rfl | assumption) rfl (by decide) (by decide) ?_
      refine v_iload_n hC (pc := 45) (k := 2) 0 rfl dX6_keep_45 ?_
      refine v_iret hC hX (pc := 46) dX6_keep_46 ?_
      exact ⟨rfl, u, hs, hf, rfl⟩
    · exact absurd (nI_lt hk (by decide)) c_6

set_option maxRecDepth 20000 in
set_option maxHeartbeats 2000000 in
theorem k_keep_bad (l9 : Launch) (G : WT) {d : Nat} (hd : 3 ≤ d) (h : HP) (k : Int32) (hbad : ¬ (¬ k < 0 ∧ ¬ 1 < k)) : MS l9 G yX6_keep cX6_keep 3 (some .int) d [vr (1, 0, 0), vi k] h (fun r h1 => h1 = h ∧ r = some (vi (-1))) := by
  refine MS_of (by decide +kernel) (Nat.le_of_ble_eq_true rfl) (fun X hC hX => ?_)
  show V X G 3 0 _ [] _
  refine v_iload_n hC (pc := 0) (k := 1) 1 rfl dX6_keep_0 ?_
  refine v_if_lt hC (pc := 1) (tgt := 9) dX6_keep_1 (by decide) (fun c_1 => ?_) (fun c_1 => ?_)
  · skip
    refine v_iconst hC (pc := 9) (v := (-1)) (by decide) dX6_keep_9 ?_
    refine v_iret hC hX (pc := 10) dX6_keep_10 ?_
    exact ⟨rfl, rfl⟩
  · skip
    refine v_iload_n hC (pc := 4) (k := 1) 1 rfl dX6_keep_4 ?_
    refine v_iconst hC (pc := 5) (v := 2) (by decide) dX6_keep_5 ?_
    refine v_icmp_lt hC (pc := 6) (tgt := 11) dX6_keep_6 (by decide) (fun c_6 => ?_) (fun c_6 => ?_)
    · skip
      exact absurd (show ¬ k < 0 ∧ ¬ 1 < k from ⟨c_1, lt2 c_6⟩) hbad
    · skip
      refine v_iconst hC (pc := 9) (v := (-1)) (by decide) dX6_keep_9 ?_
      refine v_iret hC hX (pc := 10) dX6_keep_10 ?_
      exact ⟨rfl, rfl⟩

set_option maxRecDepth 20000 in
set_option maxHeartbeats 2000000 in
theorem k_back_ok (l9 : Launch) (G : WT) {d : Nat} (hd : 3 ≤ d) (h : HP) {k : Nat} (hk : k < 2) (hkp : ¬ (h.1 (1, 0, 0) 7 >>> (nI k &&& 31)) &&& 1 = 0) (hz : ∀ w, w < 4 → h.1 (6, 2 + k, w) 2 = 0 ∨ h.1 (6, 2 + k, w) 2 = 1) : MS l9 G yX6_back cX6_back 2 (some .int) d [vr (1, 0, 0), vi (nI k)] h (fun r h1 => SamC h1 h 0 (2 + k) ∧ FrC h1 h 0 ∧ r = some (vi (h1.1 (0, 0, 0) 2))) := by
  refine MS_of (by decide +kernel) (Nat.le_of_ble_eq_true rfl) (fun X hC hX => ?_)
  show V X G 2 0 _ [] _
  refine v_iload_n hC (pc := 0) (k := 1) 1 rfl dX6_back_0 ?_
  refine v_if_lt hC (pc := 1) (tgt := 9) dX6_back_1 (by decide) (fun c_1 => ?_) (fun c_1 => ?_)
  · exact absurd c_1 (nI_pos (by omega))
  · skip
    refine v_iload_n hC (pc := 4) (k := 1) 1 rfl dX6_back_4 ?_
    refine v_iconst hC (pc := 5) (v := 2) (by decide) dX6_back_5 ?_
    refine v_icmp_lt hC (pc := 6) (tgt := 11) dX6_back_6 (by decide) (fun c_6 => ?_) (fun c_6 => ?_)
    · skip
      refine v_aload_n hC (pc := 11) (k := 0) 0 rfl dX6_back_11 ?_
      refine v_getI hC (pc := 12) dX6_back_12 fl_X6_79 rfl (by first | rfl | exact ok_c hq rfl | exact ok_w hq hw | exact ok_w (by omega) (by omega) | exact ok_s (by omega) (by omega) | exact ok_c (by omega) rfl | assumption) rfl (by decide) (by decide) ?_
      refine v_iload_n hC (pc := 15) (k := 1) 1 rfl dX6_back_15 ?_
      refine v_ishr hC (pc := 16) dX6_back_16 ?_
      refine v_iconst hC (pc := 17) (v := 1) (by decide) dX6_back_17 ?_
      refine v_iand hC (pc := 18) dX6_back_18 ?_
      refine v_if_ne hC (pc := 19) (tgt := 25) dX6_back_19 (by decide) (fun c_19 => ?_) (fun c_19 => ?_)
      · skip
        refine v_aload_n hC (pc := 25) (k := 0) 0 rfl dX6_back_25 ?_
        refine v_getR hC (pc := 26) dX6_back_26 fl_X6_10 rfl (by first | rfl | exact ok_c hq rfl | exact ok_w hq hw | exact ok_w (by omega) (by omega) | exact ok_s (by omega) (by omega) | exact ok_c (by omega) rfl | assumption) rfl (by decide) (by decide) rfl ?_
        refine v_aload_n hC (pc := 29) (k := 0) 0 rfl dX6_back_29 ?_
        refine v_getR hC (pc := 30) dX6_back_30 fl_X6_19 rfl (by first | rfl | exact ok_c hq rfl | exact ok_w hq hw | exact ok_w (by omega) (by omega) | exact ok_s (by omega) (by omega) | exact ok_c (by omega) rfl | assumption) rfl (by decide) (by decide) rfl ?_
        refine v_iload_n hC (pc := 33) (k := 1) 1 rfl dX6_back_33 ?_
        refine v_aald hC (pc := 34) (j := (0, 2 + k, 0)) 3 dX6_back_34 rfl (by decide) (fun _ => rfl) (by first | rfl | exact ok_c hq rfl | exact ok_w hq hw | exact ok_w (by omega) (by omega) | exact ok_s (by omega) (by omega) | exact ok_c (by omega) rfl | assumption) (vp_nat (n := k) (by omega) (by decide)) (by rw [nI_clamp (show k < 2 ^ 31 by omega)]; rfl) ?_
        refine v_callV hC (pc := 35) (As := [_]) dX6_back_35 rfl (t_copyOf _ _ (d := d - 1) (by omega) (q := 0) (p := 2 + k) (by decide) (by omega) (by omega) _ hz) cv_X6_75 rfl (by decide) rfl (by first | rfl | exact ok_c hq rfl | exact ok_w hq hw | exact ok_w (by omega) (by omega) | exact ok_s (by omega) (by omega) | exact ok_c (by omega) rfl | assumption) (Nat.le_of_ble_eq_true rfl) (by omega) (fun r h' hr => ?_)
        obtain ⟨rfl, hs, hf⟩ := hr
        generalize h' = u at hs hf ⊢
        show V _ _ _ (35 + 3) _ _ _
        refine v_aload_n hC (pc := 38) (k := 0) 0 rfl dX6_back_38 ?_
        refine v_getR hC (pc := 39) dX6_back_39 fl_X6_10 rfl (by first | rfl | exact ok_c hq rfl | exact ok_w hq hw | exact ok_w (by omega) (by omega) | exact ok_s (by omega) (by omega) | exact ok_c (by omega) rfl | assumption) rfl (by decide) (by decide) rfl ?_
        refine v_getI hC (pc := 42) dX6_back_42 fl_X6_85 rfl (by first | rfl | exact ok_c hq rfl | exact ok_w hq hw | exact ok_w (by omega) (by omega) | exact ok_s (by omega) (by omega) | exact ok_c (by omega) rfl | assumption) rfl (by decide) (by decide) ?_
        refine v_iret hC hX (pc := 45) dX6_back_45 ?_
        exact ⟨hs, hf, rfl⟩
      · exact absurd c_19 hkp
    · exact absurd (nI_lt hk (by decide)) c_6

set_option maxRecDepth 20000 in
set_option maxHeartbeats 2000000 in
theorem k_back_none (l9 : Launch) (G : WT) {d : Nat} (hd : 3 ≤ d) (h : HP) {k : Nat} (hk : k < 2) (hkp : (h.1 (1, 0, 0) 7 >>> (nI k &&& 31)) &&& 1 = 0) : MS l9 G yX6_back cX6_back 2 (some .int) d [vr (1, 0, 0), vi (nI k)] h (fun r h1 => h1 = h ∧ r = some (vi (-2))) := by
  refine MS_of (by decide +kernel) (Nat.le_of_ble_eq_true rfl) (fun X hC hX => ?_)
  show V X G 2 0 _ [] _
  refine v_iload_n hC (pc := 0) (k := 1) 1 rfl dX6_back_0 ?_
  refine v_if_lt hC (pc := 1) (tgt := 9) dX6_back_1 (by decide) (fun c_1 => ?_) (fun c_1 => ?_)
  · exact absurd c_1 (nI_pos (by omega))
  · skip
    refine v_iload_n hC (pc := 4) (k := 1) 1 rfl dX6_back_4 ?_
    refine v_iconst hC (pc := 5) (v := 2) (by decide) dX6_back_5 ?_
    refine v_icmp_lt hC (pc := 6) (tgt := 11) dX6_back_6 (by decide) (fun c_6 => ?_) (fun c_6 => ?_)
    · skip
      refine v_aload_n hC (pc := 11) (k := 0) 0 rfl dX6_back_11 ?_
      refine v_getI hC (pc := 12) dX6_back_12 fl_X6_79 rfl (by first | rfl | exact ok_c hq rfl | exact ok_w hq hw | exact ok_w (by omega) (by omega) | exact ok_s (by omega) (by omega) | exact ok_c (by omega) rfl | assumption) rfl (by decide) (by decide) ?_
      refine v_iload_n hC (pc := 15) (k := 1) 1 rfl dX6_back_15 ?_
      refine v_ishr hC (pc := 16) dX6_back_16 ?_
      refine v_iconst hC (pc := 17) (v := 1) (by decide) dX6_back_17 ?_
      refine v_iand hC (pc := 18) dX6_back_18 ?_
      refine v_if_ne hC (pc := 19) (tgt := 25) dX6_back_19 (by decide) (fun c_19 => ?_) (fun c_19 => ?_)
      · exact absurd hkp c_19
      · skip
        refine v_bipush hC (pc := 22) (v := (-2)) (by decide +kernel) dX6_back_22 ?_
        refine v_iret hC hX (pc := 24) dX6_back_24 ?_
        exact ⟨rfl, rfl⟩
    · exact absurd (nI_lt hk (by decide)) c_6

set_option maxRecDepth 20000 in
set_option maxHeartbeats 2000000 in
theorem k_back_bad (l9 : Launch) (G : WT) {d : Nat} (hd : 3 ≤ d) (h : HP) (k : Int32) (hbad : ¬ (¬ k < 0 ∧ ¬ 1 < k)) : MS l9 G yX6_back cX6_back 2 (some .int) d [vr (1, 0, 0), vi k] h (fun r h1 => h1 = h ∧ r = some (vi (-1))) := by
  refine MS_of (by decide +kernel) (Nat.le_of_ble_eq_true rfl) (fun X hC hX => ?_)
  show V X G 2 0 _ [] _
  refine v_iload_n hC (pc := 0) (k := 1) 1 rfl dX6_back_0 ?_
  refine v_if_lt hC (pc := 1) (tgt := 9) dX6_back_1 (by decide) (fun c_1 => ?_) (fun c_1 => ?_)
  · skip
    refine v_iconst hC (pc := 9) (v := (-1)) (by decide) dX6_back_9 ?_
    refine v_iret hC hX (pc := 10) dX6_back_10 ?_
    exact ⟨rfl, rfl⟩
  · skip
    refine v_iload_n hC (pc := 4) (k := 1) 1 rfl dX6_back_4 ?_
    refine v_iconst hC (pc := 5) (v := 2) (by decide) dX6_back_5 ?_
    refine v_icmp_lt hC (pc := 6) (tgt := 11) dX6_back_6 (by decide) (fun c_6 => ?_) (fun c_6 => ?_)
    · skip
      exact absurd (show ¬ k < 0 ∧ ¬ 1 < k from ⟨c_1, lt2 c_6⟩) hbad
    · skip
      refine v_iconst hC (pc := 9) (v := (-1)) (by decide) dX6_back_9 ?_
      refine v_iret hC hX (pc := 10) dX6_back_10 ?_
      exact ⟨rfl, rfl⟩

set_option maxRecDepth 20000 in
set_option maxHeartbeats 2000000 in
theorem k_sheet_ok (l9 : Launch) (G : WT) {d : Nat} (hd : 3 ≤ d) (h : HP) {k l n0 : Nat} (hk : k < 4) (hl : l < 3) (hn : n0 ≤ 40) : MS l9 G yX6_sheet cX6_sheet 4 (some .int) d [vr (1, 0, 0), vi (nI k), vi (nI l), vi (nI n0)] h (fun r h1 => r = some (vi (1)) ∧ h1 = upR (upI (upI h (2, k, 0) 1 (nI l)) (2, k, 0) 2 (nI n0)) (2, k, 1) (filR (h.1 (2, k, 1)) 40 0)) := by
  refine MS_of (by decide +kernel) (Nat.le_of_ble_eq_true rfl) (fun X hC hX => ?_)
  show V X G 4 0 _ [] _
  refine v_iload_n hC (pc := 0) (k := 1) 1 rfl dX6_sheet_0 ?_
  refine v_if_lt hC (pc := 1) (tgt := 22) dX6_sheet_1 (by decide) (fun c_1 => ?_) (fun c_1 => ?_)
  · exact absurd c_1 (nI_pos (by omega))
  · skip
    refine v_iload_n hC (pc := 4) (k := 1) 1 rfl dX6_sheet_4 ?_
    refine v_iconst hC (pc := 5) (v := 4) (by decide) dX6_sheet_5 ?_
    refine v_icmp_ge hC (pc := 6) (tgt := 22) dX6_sheet_6 (by decide) (fun c_6 => ?_) (fun c_6 => ?_)
    · exact absurd c_6 (nI_ge hk (by decide))
    · skip
      refine v_iload_n hC (pc := 9) (k := 2) 2 rfl dX6_sheet_9 ?_
      refine v_callS hC (pc := 10) (As := [_]) dX6_sheet_10 rfl (t_isLane_t _ _ (d := d - 1) (by omega) _ (s := l) (by assumption)) cs_X6_241 (Nat.le_of_ble_eq_true rfl) (by omega) (fun r h' hr => ?_)
      obtain ⟨he9, rfl⟩ := hr
      rw [he9]
      clear he9 h'
      show V _ _ _ (10 + 3) _ (_ :: _) _
      refine v_if_eq hC (pc := 13) (tgt := 22) dX6_sheet_13 (by decide) (fun c_13 => ?_) (fun c_13 => ?_)
      · exact absurd c_13 (by decide)
      · skip
        refine v_iload_n hC (pc := 16) (k := 3) 3 rfl dX6_sheet_16 ?_
        refine v_bipush hC (pc := 17) (v := 40) (by decide +kernel) dX6_sheet_17 ?_
        refine v_icmp_le hC (pc := 19) (tgt := 24) dX6_sheet_19 (by decide) (fun c_19 => ?_) (fun c_19 => ?_)
        · skip
          refine v_iload_n hC (pc := 24) (k := 3) 3 rfl dX6_sheet_24 ?_
          refine v_if_ge hC (pc := 25) (tgt := 31) dX6_sheet_25 (by decide) (fun c_25 => ?_) (fun c_25 => ?_)
          · skip
            refine v_aload_n hC (pc := 31) (k := 0) 0 rfl dX6_sheet_31 ?_
            refine v_getR hC (pc := 32) dX6_sheet_32 fl_X6_32 rfl (by first | rfl | exact ok_c hq rfl | exact ok_w hq hw | exact ok_w (by omega) (by omega) | exact ok_s (by omega) (by omega) | exact ok_c (by omega) rfl | assumption) rfl (by decide) (by decide) rfl ?_
            refine v_iload_n hC (pc := 35) (k := 1) 1 rfl dX6_sheet_35 ?_
            refine v_aald hC (pc := 36) (j := (2, k, 0)) 4 dX6_sheet_36 rfl (by decide) (fun _ => rfl) (by first | rfl | exact ok_c hq rfl | exact ok_w hq hw | exact ok_w (by omega) (by omega) | exact ok_s (by omega) (by omega) | exact ok_c (by omega) rfl | assumption) (vp_nat (n := k) (by omega) (by decide)) (by rw [nI_clamp (show k < 2 ^ 31 by omega)]; rfl) ?_
            refine v_iload_n hC (pc := 37) (k := 2) 2 rfl dX6_sheet_37 ?_
            refine v_iload_n hC (pc := 38) (k := 3) 3 rfl dX6_sheet_38 ?_
            refine v_callV hC (pc := 39) (As := [_, _]) dX6_sheet_39 rfl (t_makeNew _ _ (d := d - 1) (by omega) hk _ _ _) cv_X6_244 rfl (by decide) rfl (ok_s hk (by decide)) (Nat.le_of_ble_eq_true rfl) (by omega) (fun r h' hr => ?_)
            obtain ⟨rfl, he9⟩ := hr
            rw [he9]
            clear he9 h'
            show V _ _ _ (39 + 3) _ _ _
            refine v_iconst hC (pc := 42) (v := 1) (by decide) dX6_sheet_42 ?_
            refine v_iret hC hX (pc := 43) dX6_sheet_43 ?_
            exact ⟨rfl, rfl⟩
          · exact absurd (nI_pos' (by omega)) c_25
        · exact absurd (nI_le hn (by decide)) c_19

set_option maxRecDepth 20000 in
set_option maxHeartbeats 2000000 in
theorem k_sheet_size (l9 : Launch) (G : WT) {d : Nat} (hd : 3 ≤ d) (h : HP) {k l : Nat} (hk : k < 4) (hl : l < 3) (n : Int32) (hn : n < 0) : MS l9 G yX6_sheet cX6_sheet 4 (some .int) d [vr (1, 0, 0), vi (nI k), vi (nI l), vi n] h (fun r h1 => h1 = h ∧ r = some (vi (-14))) := by
  refine MS_of (by decide +kernel) (Nat.le_of_ble_eq_true rfl) (fun X hC hX => ?_)
  show V X G 4 0 _ [] _
  refine v_iload_n hC (pc := 0) (k := 1) 1 rfl dX6_sheet_0 ?_
  refine v_if_lt hC (pc := 1) (tgt := 22) dX6_sheet_1 (by decide) (fun c_1 => ?_) (fun c_1 => ?_)
  · exact absurd c_1 (nI_pos (by omega))
  · skip
    refine v_iload_n hC (pc := 4) (k := 1) 1 rfl dX6_sheet_4 ?_
    refine v_iconst hC (pc := 5) (v := 4) (by decide) dX6_sheet_5 ?_
    refine v_icmp_ge hC (pc := 6) (tgt := 22) dX6_sheet_6 (by decide) (fun c_6 => ?_) (fun c_6 => ?_)
    · exact absurd c_6 (nI_ge hk (by decide))
    · skip
      refine v_iload_n hC (pc := 9) (k := 2) 2 rfl dX6_sheet_9 ?_
      refine v_callS hC (pc := 10) (As := [_]) dX6_sheet_10 rfl (t_isLane_t _ _ (d := d - 1) (by omega) _ (s := l) (by assumption)) cs_X6_241 (Nat.le_of_ble_eq_true rfl) (by omega) (fun r h' hr => ?_)
      obtain ⟨he9, rfl⟩ := hr
      rw [he9]
      clear he9 h'
      show V _ _ _ (10 + 3) _ (_ :: _) _
      refine v_if_eq hC (pc := 13) (tgt := 22) dX6_sheet_13 (by decide) (fun c_13 => ?_) (fun c_13 => ?_)
      · exact absurd c_13 (by decide)
      · skip
        refine v_iload_n hC (pc := 16) (k := 3) 3 rfl dX6_sheet_16 ?_
        refine v_bipush hC (pc := 17) (v := 40) (by decide +kernel) dX6_sheet_17 ?_
        refine v_icmp_le hC (pc := 19) (tgt := 24) dX6_sheet_19 (by decide) (fun c_19 => ?_) (fun c_19 => ?_)
        · skip
          refine v_iload_n hC (pc := 24) (k := 3) 3 rfl dX6_sheet_24 ?_
          refine v_if_ge hC (pc := 25) (tgt := 31) dX6_sheet_25 (by decide) (fun c_25 => ?_) (fun c_25 => ?_)
          · exact absurd hn (Int32.not_lt.mpr c_25)
          · skip
            refine v_bipush hC (pc := 28) (v := (-14)) (by decide +kernel) dX6_sheet_28 ?_
            refine v_iret hC hX (pc := 30) dX6_sheet_30 ?_
            exact ⟨rfl, rfl⟩
        · exact absurd (Int32.le_of_lt (Int32.lt_trans hn (by decide))) c_19

set_option maxRecDepth 20000 in
set_option maxHeartbeats 2000000 in
theorem k_sheet_bad (l9 : Launch) (G : WT) {d : Nat} (hd : 3 ≤ d) (h : HP) (k l n : Int32) (hbad : ¬ (((¬ k < 0 ∧ ¬ 3 < k) ∧ ¬ l < 0 ∧ ¬ 2 < l) ∧ n ≤ 40)) : MS l9 G yX6_sheet cX6_sheet 4 (some .int) d [vr (1, 0, 0), vi k, vi l, vi n] h (fun r h1 => h1 = h ∧ r = some (vi (-1))) := by
  refine MS_of (by decide +kernel) (Nat.le_of_ble_eq_true rfl) (fun X hC hX => ?_)
  show V X G 4 0 _ [] _
  refine v_iload_n hC (pc := 0) (k := 1) 1 rfl dX6_sheet_0 ?_
  refine v_if_lt hC (pc := 1) (tgt := 22) dX6_sheet_1 (by decide) (fun c_1 => ?_) (fun c_1 => ?_)
  · skip
    refine v_iconst hC (pc := 22) (v := (-1)) (by decide) dX6_sheet_22 ?_
    refine v_iret hC hX (pc := 23) dX6_sheet_23 ?_
    exact ⟨rfl, rfl⟩
  · skip
    refine v_iload_n hC (pc := 4) (k := 1) 1 rfl dX6_sheet_4 ?_
    refine v_iconst hC (pc := 5) (v := 4) (by decide) dX6_sheet_5 ?_
    refine v_icmp_ge hC (pc := 6) (tgt := 22) dX6_sheet_6 (by decide) (fun c_6 => ?_) (fun c_6 => ?_)
    · skip
      refine v_iconst hC (pc := 22) (v := (-1)) (by decide) dX6_sheet_22 ?_
      refine v_iret hC hX (pc := 23) dX6_sheet_23 ?_
      exact ⟨rfl, rfl⟩
    · skip
      refine v_iload_n hC (pc := 9) (k := 2) 2 rfl dX6_sheet_9 ?_
      refine v_callS hC (pc := 10) (As := [_]) dX6_sheet_10 rfl (t_isLane _ _ (d := d - 1) (by omega) _ _) cs_X6_241 (Nat.le_of_ble_eq_true rfl) (by omega) (fun r h' hr => ?_)
      obtain ⟨he9, rfl⟩ := hr
      rw [he9]
      clear he9 h'
      show V _ _ _ (10 + 3) _ (_ :: _) _
      refine v_ifb_eq hC (pc := 13) (tgt := 22) dX6_sheet_13 (by decide) (fun c_13 => ?_) (fun c_13 => ?_)
      · skip
        refine v_iconst hC (pc := 22) (v := (-1)) (by decide) dX6_sheet_22 ?_
        refine v_iret hC hX (pc := 23) dX6_sheet_23 ?_
        exact ⟨rfl, rfl⟩
      · skip
        refine v_iload_n hC (pc := 16) (k := 3) 3 rfl dX6_sheet_16 ?_
        refine v_bipush hC (pc := 17) (v := 40) (by decide +kernel) dX6_sheet_17 ?_
        refine v_icmp_le hC (pc := 19) (tgt := 24) dX6_sheet_19 (by decide) (fun c_19 => ?_) (fun c_19 => ?_)
        · skip
          exact absurd (show _ ∧ _ from ⟨⟨⟨c_1, lt4 c_6⟩, c_13⟩, c_19⟩) hbad
        · skip
          refine v_iconst hC (pc := 22) (v := (-1)) (by decide) dX6_sheet_22 ?_
          refine v_iret hC hX (pc := 23) dX6_sheet_23 ?_
          exact ⟨rfl, rfl⟩

set_option maxRecDepth 20000 in
set_option maxHeartbeats 2000000 in
theorem k_lay_null (l9 : Launch) (G : WT) {d : Nat} (hd : 3 ≤ d) (h : HP) {k : Nat} (hk : k < 4) (hl : h.1 (2, k, 0) 2 < 0) (i v : Int32) : MS l9 G yX6_lay cX6_lay 5 (some .int) d [vr (1, 0, 0), vi (nI k), vi i, vi v] h (fun r h1 => h1 = h ∧ r = some (vi (-11))) := by
  refine MS_of (by decide +kernel) (Nat.le_of_ble_eq_true rfl) (fun X hC hX => ?_)
  show V X G 5 0 _ [] _
  refine v_iload_n hC (pc := 0) (k := 1) 1 rfl dX6_lay_0 ?_
  refine v_if_lt hC (pc := 1) (tgt := 9) dX6_lay_1 (by decide) (fun c_1 => ?_) (fun c_1 => ?_)
  · exact absurd c_1 (nI_pos (by omega))
  · skip
    refine v_iload_n hC (pc := 4) (k := 1) 1 rfl dX6_lay_4 ?_
    refine v_iconst hC (pc := 5) (v := 4) (by decide) dX6_lay_5 ?_
    refine v_icmp_lt hC (pc := 6) (tgt := 11) dX6_lay_6 (by decide) (fun c_6 => ?_) (fun c_6 => ?_)
    · skip
      refine v_aload_n hC (pc := 11) (k := 0) 0 rfl dX6_lay_11 ?_
      refine v_getR hC (pc := 12) dX6_lay_12 fl_X6_32 rfl (by first | rfl | exact ok_c hq rfl | exact ok_w hq hw | exact ok_w (by omega) (by omega) | exact ok_s (by omega) (by omega) | exact ok_c (by omega) rfl | assumption) rfl (by decide) (by decide) rfl ?_
      refine v_iload_n hC (pc := 15) (k := 1) 1 rfl dX6_lay_15 ?_
      refine v_aald hC (pc := 16) (j := (2, k, 0)) 4 dX6_lay_16 rfl (by decide) (fun _ => rfl) (by first | rfl | exact ok_c hq rfl | exact ok_w hq hw | exact ok_w (by omega) (by omega) | exact ok_s (by omega) (by omega) | exact ok_c (by omega) rfl | assumption) (vp_nat (n := k) (by omega) (by decide)) (by rw [nI_clamp (show k < 2 ^ 31 by omega)]; rfl) ?_
      refine v_astore hC (pc := 17) (l' := [(4, _), (0, _), (1, _), (2, _), (3, _)]) dX6_lay_17 (by decide) rfl ?_
      refine v_aload hC (pc := 19) 0 rfl dX6_lay_19 ?_
      refine v_getI hC (pc := 21) dX6_lay_21 fl_X6_248 rfl (ok_s hk (by decide)) rfl (by decide) (by decide) ?_
      refine v_if_ge hC (pc := 24) (tgt := 30) dX6_lay_24 (by decide) (fun c_24 => ?_) (fun c_24 => ?_)
      · exact absurd hl (Int32.not_lt.mpr c_24)
      · skip
        refine v_bipush hC (pc := 27) (v := (-11)) (by decide +kernel) dX6_lay_27 ?_
        refine v_iret hC hX (pc := 29) dX6_lay_29 ?_
        exact ⟨rfl, rfl⟩
    · exact absurd (nI_lt hk (by decide)) c_6

set_option maxRecDepth 20000 in
set_option maxHeartbeats 2000000 in
theorem k_lay_ok (l9 : Launch) (G : WT) {d : Nat} (hd : 3 ≤ d) (h : HP) {k : Nat} (hk : k < 4) {i n : Nat} (hsz : h.1 (2, k, 0) 2 = nI n) (hn : n ≤ 40) (hi : i < n) (v : Int32) : MS l9 G yX6_lay cX6_lay 5 (some .int) d [vr (1, 0, 0), vi (nI k), vi (nI i), vi v] h (fun r h1 => r = some (vi (1)) ∧ h1 = upI h (2, k, 1) i (cutF (h.1 (2, k, 0) 1) v)) := by
  refine MS_of (by decide +kernel) (Nat.le_of_ble_eq_true rfl) (fun X hC hX => ?_)
  show V X G 5 0 _ [] _
  refine v_iload_n hC (pc := 0) (k := 1) 1 rfl dX6_lay_0 ?_
  refine v_if_lt hC (pc := 1) (tgt := 9) dX6_lay_1 (by decide) (fun c_1 => ?_) (fun c_1 => ?_)
  · exact absurd c_1 (nI_pos (by omega))
  · skip
    refine v_iload_n hC (pc := 4) (k := 1) 1 rfl dX6_lay_4 ?_
    refine v_iconst hC (pc := 5) (v := 4) (by decide) dX6_lay_5 ?_
    refine v_icmp_lt hC (pc := 6) (tgt := 11) dX6_lay_6 (by decide) (fun c_6 => ?_) (fun c_6 => ?_)
    · skip
      refine v_aload_n hC (pc := 11) (k := 0) 0 rfl dX6_lay_11 ?_
      refine v_getR hC (pc := 12) dX6_lay_12 fl_X6_32 rfl (by first | rfl | exact ok_c hq rfl | exact ok_w hq hw | exact ok_w (by omega) (by omega) | exact ok_s (by omega) (by omega) | exact ok_c (by omega) rfl | assumption) rfl (by decide) (by decide) rfl ?_
      refine v_iload_n hC (pc := 15) (k := 1) 1 rfl dX6_lay_15 ?_
      refine v_aald hC (pc := 16) (j := (2, k, 0)) 4 dX6_lay_16 rfl (by decide) (fun _ => rfl) (by first | rfl | exact ok_c hq rfl | exact ok_w hq hw | exact ok_w (by omega) (by omega) | exact ok_s (by omega) (by omega) | exact ok_c (by omega) rfl | assumption) (vp_nat (n := k) (by omega) (by decide)) (by rw [nI_clamp (show k < 2 ^ 31 by omega)]; rfl) ?_
      refine v_astore hC (pc := 17) (l' := [(4, _), (0, _), (1, _), (2, _), (3, _)]) dX6_lay_17 (by decide) rfl ?_
      refine v_aload hC (pc := 19) 0 rfl dX6_lay_19 ?_
      refine v_getI hC (pc := 21) dX6_lay_21 fl_X6_248 rfl (ok_s hk (by decide)) rfl (by decide) (by decide) ?_
      rw [hsz]
      refine v_if_ge hC (pc := 24) (tgt := 30) dX6_lay_24 (by decide) (fun c_24 => ?_) (fun c_24 => ?_)
      · skip
        refine v_iload_n hC (pc := 30) (k := 2) 3 rfl dX6_lay_30 ?_
        refine v_if_lt hC (pc := 31) (tgt := 43) dX6_lay_31 (by decide) (fun c_31 => ?_) (fun c_31 => ?_)
        · exact absurd c_31 (nI_pos (by omega))
        · skip
          refine v_iload_n hC (pc := 34) (k := 2) 3 rfl dX6_lay_34 ?_
          refine v_aload hC (pc := 35) 0 rfl dX6_lay_35 ?_
          refine v_getI hC (pc := 37) dX6_lay_37 fl_X6_248 rfl (ok_s hk (by decide)) rfl (by decide) (by decide) ?_
          rw [hsz]
          refine v_icmp_lt hC (pc := 40) (tgt := 46) dX6_lay_40 (by decide) (fun c_40 => ?_) (fun c_40 => ?_)
          · skip
            refine v_aload hC (pc := 46) 0 rfl dX6_lay_46 ?_
            refine v_getR hC (pc := 48) dX6_lay_48 fl_X6_251 rfl (ok_s hk (by decide)) rfl (by decide) (by decide) rfl ?_
            refine v_iload_n hC (pc := 51) (k := 2) 3 rfl dX6_lay_51 ?_
            refine v_aload hC (pc := 52) 0 rfl dX6_lay_52 ?_
            refine v_iload_n hC (pc := 54) (k := 3) 4 rfl dX6_lay_54 ?_
            refine v_callV hC (pc := 55) (As := [_]) dX6_lay_55 rfl (t_cut _ _ (d := d - 1) (by omega) hk _ _) cv_X6_254 rfl (by decide) rfl (ok_s hk (by decide)) (Nat.le_of_ble_eq_true rfl) (by omega) (fun r h' hr => ?_)
            obtain ⟨he9, rfl⟩ := hr
            rw [he9]
            clear he9 h'
            show V _ _ _ (55 + 3) _ (_ :: _) _
            refine v_iast hC (pc := 58) dX6_lay_58 rfl (ok_s hk (by decide)) (vp_nat (n := i) (by omega) (by decide)) ?_
            refine v_iconst hC (pc := 59) (v := 1) (by decide) dX6_lay_59 ?_
            refine v_iret hC hX (pc := 60) dX6_lay_60 ?_
            exact ⟨rfl, by rw [nI_clamp (show i < 2 ^ 31 by omega)]⟩
          · exact absurd (nI_lt hi (by omega)) c_40
      · exact absurd (nI_pos' (by omega)) c_24
    · exact absurd (nI_lt hk (by decide)) c_6

set_option maxRecDepth 20000 in
set_option maxHeartbeats 2000000 in
theorem k_lay_index (l9 : Launch) (G : WT) {d : Nat} (hd : 3 ≤ d) (h : HP) {k : Nat} (hk : k < 4) {n : Nat} (hsz : h.1 (2, k, 0) 2 = nI n) (hn : n ≤ 40) (i v : Int32) (hi : ¬ (¬ i < 0 ∧ ¬ nI n ≤ i)) : MS l9 G yX6_lay cX6_lay 5 (some .int) d [vr (1, 0, 0), vi (nI k), vi i, vi v] h (fun r h1 => h1 = h ∧ r = some (vi (-12))) := by
  refine MS_of (by decide +kernel) (Nat.le_of_ble_eq_true rfl) (fun X hC hX => ?_)
  show V X G 5 0 _ [] _
  refine v_iload_n hC (pc := 0) (k := 1) 1 rfl dX6_lay_0 ?_
  refine v_if_lt hC (pc := 1) (tgt := 9) dX6_lay_1 (by decide) (fun c_1 => ?_) (fun c_1 => ?_)
  · exact absurd c_1 (nI_pos (by omega))
  · skip
    refine v_iload_n hC (pc := 4) (k := 1) 1 rfl dX6_lay_4 ?_
    refine v_iconst hC (pc := 5) (v := 4) (by decide) dX6_lay_5 ?_
    refine v_icmp_lt hC (pc := 6) (tgt := 11) dX6_lay_6 (by decide) (fun c_6 => ?_) (fun c_6 => ?_)
    · skip
      refine v_aload_n hC (pc := 11) (k := 0) 0 rfl dX6_lay_11 ?_
      refine v_getR hC (pc := 12) dX6_lay_12 fl_X6_32 rfl (by first | rfl | exact ok_c hq rfl | exact ok_w hq hw | exact ok_w (by omega) (by omega) | exact ok_s (by omega) (by omega) | exact ok_c (by omega) rfl | assumption) rfl (by decide) (by decide) rfl ?_
      refine v_iload_n hC (pc := 15) (k := 1) 1 rfl dX6_lay_15 ?_
      refine v_aald hC (pc := 16) (j := (2, k, 0)) 4 dX6_lay_16 rfl (by decide) (fun _ => rfl) (by first | rfl | exact ok_c hq rfl | exact ok_w hq hw | exact ok_w (by omega) (by omega) | exact ok_s (by omega) (by omega) | exact ok_c (by omega) rfl | assumption) (vp_nat (n := k) (by omega) (by decide)) (by rw [nI_clamp (show k < 2 ^ 31 by omega)]; rfl) ?_
      refine v_astore hC (pc := 17) (l' := [(4, _), (0, _), (1, _), (2, _), (3, _)]) dX6_lay_17 (by decide) rfl ?_
      refine v_aload hC (pc := 19) 0 rfl dX6_lay_19 ?_
      refine v_getI hC (pc := 21) dX6_lay_21 fl_X6_248 rfl (ok_s hk (by decide)) rfl (by decide) (by decide) ?_
      rw [hsz]
      refine v_if_ge hC (pc := 24) (tgt := 30) dX6_lay_24 (by decide) (fun c_24 => ?_) (fun c_24 => ?_)
      · skip
        refine v_iload_n hC (pc := 30) (k := 2) 3 rfl dX6_lay_30 ?_
        refine v_if_lt hC (pc := 31) (tgt := 43) dX6_lay_31 (by decide) (fun c_31 => ?_) (fun c_31 => ?_)
        · skip
          refine v_bipush hC (pc := 43) (v := (-12)) (by decide +kernel) dX6_lay_43 ?_
          refine v_iret hC hX (pc := 45) dX6_lay_45 ?_
          exact ⟨rfl, rfl⟩
        · skip
          refine v_iload_n hC (pc := 34) (k := 2) 3 rfl dX6_lay_34 ?_
          refine v_aload hC (pc := 35) 0 rfl dX6_lay_35 ?_
          refine v_getI hC (pc := 37) dX6_lay_37 fl_X6_248 rfl (ok_s hk (by decide)) rfl (by decide) (by decide) ?_
          rw [hsz]
          refine v_icmp_lt hC (pc := 40) (tgt := 46) dX6_lay_40 (by decide) (fun c_40 => ?_) (fun c_40 => ?_)
          · exact absurd ⟨c_31, Int32.not_le.mpr c_40⟩ hi
          · skip
            refine v_bipush hC (pc := 43) (v := (-12)) (by decide +kernel) dX6_lay_43 ?_
            refine v_iret hC hX (pc := 45) dX6_lay_45 ?_
            exact ⟨rfl, rfl⟩
      · exact absurd (nI_pos' (by omega)) c_24
    · exact absurd (nI_lt hk (by decide)) c_6

set_option maxRecDepth 20000 in
set_option maxHeartbeats 2000000 in
theorem k_lay_bad (l9 : Launch) (G : WT) {d : Nat} (hd : 3 ≤ d) (h : HP) (k i v : Int32) (hbad : ¬ (¬ k < 0 ∧ ¬ 3 < k)) : MS l9 G yX6_lay cX6_lay 5 (some .int) d [vr (1, 0, 0), vi k, vi i, vi v] h (fun r h1 => h1 = h ∧ r = some (vi (-1))) := by
  refine MS_of (by decide +kernel) (Nat.le_of_ble_eq_true rfl) (fun X hC hX => ?_)
  show V X G 5 0 _ [] _
  refine v_iload_n hC (pc := 0) (k := 1) 1 rfl dX6_lay_0 ?_
  refine v_if_lt hC (pc := 1) (tgt := 9) dX6_lay_1 (by decide) (fun c_1 => ?_) (fun c_1 => ?_)
  · skip
    refine v_iconst hC (pc := 9) (v := (-1)) (by decide) dX6_lay_9 ?_
    refine v_iret hC hX (pc := 10) dX6_lay_10 ?_
    exact ⟨rfl, rfl⟩
  · skip
    refine v_iload_n hC (pc := 4) (k := 1) 1 rfl dX6_lay_4 ?_
    refine v_iconst hC (pc := 5) (v := 4) (by decide) dX6_lay_5 ?_
    refine v_icmp_lt hC (pc := 6) (tgt := 11) dX6_lay_6 (by decide) (fun c_6 => ?_) (fun c_6 => ?_)
    · skip
      exact absurd (show ¬ k < 0 ∧ ¬ 3 < k from ⟨c_1, lt4 (Int32.not_le.mpr c_6)⟩) hbad
    · skip
      refine v_iconst hC (pc := 9) (v := (-1)) (by decide) dX6_lay_9 ?_
      refine v_iret hC hX (pc := 10) dX6_lay_10 ?_
      exact ⟨rfl, rfl⟩

