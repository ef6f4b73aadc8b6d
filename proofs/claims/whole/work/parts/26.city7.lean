/-! CITY: copied whole, cleared, a sight more -/
/-- the cells of a city -/
def isC (q : Nat) (i : PId) : Prop := (i.1 = 0 ∨ i.1 = 6) ∧ i.2.1 = q
/-- a city holds what another one held -/
def SamC (h1 h : HP) (q p : Nat) : Prop := (∀ k, k < 6 → h1.1 (0, q, 0) k = h.1 (0, p, 0) k) ∧ (∀ w k, w < 4 → k < 6 → h1.1 (6, q, w) k = h.1 (6, p, w) k) ∧ (∀ k, k < 16 → h1.1 (0, q, 6) k = h.1 (0, p, 6) k) ∧ (∀ k, k < 4 → h1.1 (0, q, 8) k = h.1 (0, p, 8) k) ∧ (∀ k, k < 8 → h1.1 (0, q, 9) k = h.1 (0, p, 9) k) ∧ (∀ k, k < 8 → h1.1 (0, q, 10) k = h.1 (0, p, 10) k) ∧ (∀ k, k < 8 → h1.1 (0, q, 11) k = h.1 (0, p, 11) k) ∧ (∀ k, k < 8 → h1.1 (0, q, 12) k = h.1 (0, p, 12) k)
/-- all but a city stays -/
def FrC (h1 h : HP) (q : Nat) : Prop := (∀ i, ¬ isC q i → h1.1 i = h.1 i) ∧ h1.2 = h.2
def wcN (h : HP) (q p n : Nat) : HP := (fun i k => if i.1 = 6 ∧ i.2.1 = q ∧ i.2.2 < n ∧ k < 6 then h.1 (6, p, i.2.2) k else h.1 i k, h.2)
theorem wcN_0 (h : HP) (q p : Nat) : wcN h q p 0 = h := by
  unfold wcN
  simp
theorem wcN_p (h : HP) {q p : Nat} (hqp : ¬ q = p) (n w : Nat) : (wcN h q p n).1 (6, p, w) = h.1 (6, p, w) := by
  funext k
  simp [wcN, fun z : p = q => hqp z.symm]
theorem wcN_s (h : HP) {q p : Nat} (hqp : ¬ q = p) (n : Nat) : wcpH (wcN h q p n) q p n = wcN h q p (n + 1) := by
  unfold wcpH
  rw [wcN_p h hqp]
  unfold wcN
  refine Prod.ext (funext fun i => funext fun k => ?_) rfl
  obtain ⟨a, b, c⟩ := i
  by_cases e1 : a = 6
  · subst e1
    by_cases e2 : b = q
    · subst e2
      by_cases e4 : c = n
      · subst e4
        by_cases e5 : k < 6 <;> simp [e5]
      · have e5 : c < n + 1 ↔ c < n := by omega
        simp [e4, e5]
    · simp [e2]
  · simp [e1]
theorem wcN_n6 (h : HP) (q p n : Nat) {i : PId} (hi : i.1 ≠ 6) : (wcN h q p n).1 i = h.1 i := by
  funext k
  simp [wcN, hi]
set_option maxRecDepth 20000 in
set_option maxHeartbeats 2000000 in
theorem t_copyOf (l9 : Launch) (G : WT) {d : Nat} (hd : 2 ≤ d) {q p : Nat} (hq : q < 5) (hp : p < 5) (hqp : ¬ q = p) (h : HP) (hz : ∀ w, w < 4 → h.1 (6, p, w) 2 = 0 ∨ h.1 (6, p, w) 2 = 1) : MS l9 G yX0_copyOf cX0_copyOf 3 none d [vr (0, q, 0), vr (0, p, 0)] h (fun r h1 => r = none ∧ SamC h1 h q p ∧ FrC h1 h q) := by
  refine MS_of (by decide +kernel) (Nat.le_of_ble_eq_true rfl) (fun X hC hX => ?_)
  show V X G 3 0 _ [] _
  have e0 : ∀ j : Nat, ((0, p, j) : PId) ≠ (0, q, 0) := fun j z => hqp (congrArg (fun t : PId => t.2.1) z).symm
  have loop : ∀ (u : HP), (∀ w, w < 4 → u.1 (6, p, w) 2 = 0 ∨ u.1 (6, p, w) 2 = 1) → V X G 3 76 [(2, vi (nI 4)), (0, vr (0, q, 0)), (1, vr (0, p, 0))] [] (wcN u q p 4) → ∀ (n w : Nat), w ≤ 4 → 4 + 1 ≤ w + n → V X G 3 50 [(2, vi (nI w)), (0, vr (0, q, 0)), (1, vr (0, p, 0))] [] (wcN u q p w) := by
    intro u hz k9 n
    induction n with
    | zero => intro w  h1 h2; exact absurd h2 (by omega)
    | succ n ih =>
      intro w  h1 h2
      refine v_iload_n hC (pc := 50) (k := 2) 0 rfl dX0_copyOf_50 ?_
      refine v_iconst hC (pc := 51) (v := 4) (by decide) dX0_copyOf_51 ?_
      refine v_icmp_ge hC (pc := 52) (tgt := 76) dX0_copyOf_52 (by decide) (fun c_52 => ?_) (fun c_52 => ?_)
      · skip
        have hi : w = 4 := lp_ex (N := 4) (c_52) h1 (by omega)
        subst hi
        exact k9
      · skip
        have hi : w < 4 := lp_in (N := 4) (c_52) h1 (by omega)
        refine v_aload_n hC (pc := 55) (k := 0) 1 rfl dX0_copyOf_55 ?_
        refine v_getR hC (pc := 56) dX0_copyOf_56 fl_X0_17 rfl (by first | exact ok_c hq rfl | exact ok_c hp rfl) rfl (by decide) (by decide) rfl ?_
        refine v_iload_n hC (pc := 59) (k := 2) 0 rfl dX0_copyOf_59 ?_
        refine v_aald hC (pc := 60) 5 dX0_copyOf_60 rfl (by decide) (fun _ => rfl) (by first | exact ok_c hq rfl | exact ok_c hp rfl) (vp_nat (by omega) (by decide)) (by rw [nI_clamp (by omega)]; rfl) ?_
        refine v_aload_n hC (pc := 61) (k := 1) 2 rfl dX0_copyOf_61 ?_
        refine v_getR hC (pc := 62) dX0_copyOf_62 fl_X0_17 rfl (by first | exact ok_c hq rfl | exact ok_c hp rfl) rfl (by decide) (by decide) rfl ?_
        refine v_iload_n hC (pc := 65) (k := 2) 0 rfl dX0_copyOf_65 ?_
        refine v_aald hC (pc := 66) 5 dX0_copyOf_66 rfl (by decide) (fun _ => rfl) (by first | exact ok_c hq rfl | exact ok_c hp rfl) (vp_nat (by omega) (by decide)) (by rw [nI_clamp (by omega)]; rfl) ?_
        refine v_callV hC (pc := 67) (As := [_]) dX0_copyOf_67 rfl (t_wcopy _ _ (d := d - 1) (by omega) hq hp (show w < 4 by omega) hqp _ (by rw [wcN_p _ hqp]; exact hz w (by omega))) cv_X0_65 rfl (by decide) rfl (ok_w hq (by omega)) (Nat.le_of_ble_eq_true rfl) (by omega) (fun r h' hr => ?_)
        obtain ⟨rfl, rfl⟩ := hr
        show V _ _ _ (67 + 3) _ _ _
        refine v_heap (wcN_s u hqp w) ?_
        refine v_iinc hC (pc := 70) (l' := [(2, _), (0, _), (1, _)]) 0 (v := nI (w + 1)) dX0_copyOf_70 rfl (nI_inc w) (by decide) rfl ?_
        refine v_goto hC (pc := 73) (tgt := 50) dX0_copyOf_73 (by decide) ?_
        exact ih (w + 1) (by omega) (by omega)
  refine v_aload_n hC (pc := 0) (k := 0) 0 rfl dX0_copyOf_0 ?_
  refine v_aload_n hC (pc := 1) (k := 1) 1 rfl dX0_copyOf_1 ?_
  refine v_getI hC (pc := 2) dX0_copyOf_2 fl_X0_40 rfl (by first | exact ok_c hq rfl | exact ok_c hp rfl) rfl (by decide) (by decide) ?_
  refine v_putI hC (pc := 5) dX0_copyOf_5 fs_X0_40 rfl (by first | exact ok_c hq rfl | exact ok_c hp rfl) rfl (by decide) (by decide) ?_
  refine v_aload_n hC (pc := 8) (k := 0) 0 rfl dX0_copyOf_8 ?_
  refine v_aload_n hC (pc := 9) (k := 1) 1 rfl dX0_copyOf_9 ?_
  refine v_getI hC (pc := 10) dX0_copyOf_10 fl_X0_50 rfl (by first | exact ok_c hq rfl | exact ok_c hp rfl) rfl (by decide) (by decide) ?_
  refine v_putI hC (pc := 13) dX0_copyOf_13 fs_X0_50 rfl (by first | exact ok_c hq rfl | exact ok_c hp rfl) rfl (by decide) (by decide) ?_
  refine v_aload_n hC (pc := 16) (k := 0) 0 rfl dX0_copyOf_16 ?_
  refine v_aload_n hC (pc := 17) (k := 1) 1 rfl dX0_copyOf_17 ?_
  refine v_getI hC (pc := 18) dX0_copyOf_18 fl_X0_53 rfl (by first | exact ok_c hq rfl | exact ok_c hp rfl) rfl (by decide) (by decide) ?_
  refine v_putI hC (pc := 21) dX0_copyOf_21 fs_X0_53 rfl (by first | exact ok_c hq rfl | exact ok_c hp rfl) rfl (by decide) (by decide) ?_
  refine v_aload_n hC (pc := 24) (k := 0) 0 rfl dX0_copyOf_24 ?_
  refine v_aload_n hC (pc := 25) (k := 1) 1 rfl dX0_copyOf_25 ?_
  refine v_getI hC (pc := 26) dX0_copyOf_26 fl_X0_56 rfl (by first | exact ok_c hq rfl | exact ok_c hp rfl) rfl (by decide) (by decide) ?_
  refine v_putI hC (pc := 29) dX0_copyOf_29 fs_X0_56 rfl (by first | exact ok_c hq rfl | exact ok_c hp rfl) rfl (by decide) (by decide) ?_
  refine v_aload_n hC (pc := 32) (k := 0) 0 rfl dX0_copyOf_32 ?_
  refine v_aload_n hC (pc := 33) (k := 1) 1 rfl dX0_copyOf_33 ?_
  refine v_getI hC (pc := 34) dX0_copyOf_34 fl_X0_59 rfl (by first | exact ok_c hq rfl | exact ok_c hp rfl) rfl (by decide) (by decide) ?_
  refine v_putI hC (pc := 37) dX0_copyOf_37 fs_X0_59 rfl (by first | exact ok_c hq rfl | exact ok_c hp rfl) rfl (by decide) (by decide) ?_
  refine v_aload_n hC (pc := 40) (k := 0) 0 rfl dX0_copyOf_40 ?_
  refine v_aload_n hC (pc := 41) (k := 1) 1 rfl dX0_copyOf_41 ?_
  refine v_getI hC (pc := 42) dX0_copyOf_42 fl_X0_62 rfl (by first | exact ok_c hq rfl | exact ok_c hp rfl) rfl (by decide) (by decide) ?_
  refine v_putI hC (pc := 45) dX0_copyOf_45 fs_X0_62 rfl (by first | exact ok_c hq rfl | exact ok_c hp rfl) rfl (by decide) (by decide) ?_
  refine v_iconst hC (pc := 48) (v := 0) (by decide) dX0_copyOf_48 ?_
  refine v_istore_n hC (pc := 49) (l' := [(2, _), (0, _), (1, _)]) dX0_copyOf_49 (by decide) rfl ?_
  refine v_heap (wcN_0 _ q p).symm ?_
  refine loop _ ?_ ?_ 5 0 (by omega) (by omega)
  · intro w hw
    simp [upI]
    exact hz w hw
  · refine v_aload_n hC (pc := 76) (k := 1) 2 rfl dX0_copyOf_76 ?_
    refine v_getR hC (pc := 77) dX0_copyOf_77 fl_X0_9 rfl (by first | exact ok_c hq rfl | exact ok_c hp rfl) rfl (by decide) (by decide) rfl ?_
    refine v_iconst hC (pc := 80) (v := 0) (by decide) dX0_copyOf_80 ?_
    refine v_aload_n hC (pc := 81) (k := 0) 1 rfl dX0_copyOf_81 ?_
    refine v_getR hC (pc := 82) dX0_copyOf_82 fl_X0_9 rfl (by first | exact ok_c hq rfl | exact ok_c hp rfl) rfl (by decide) (by decide) rfl ?_
    refine v_iconst hC (pc := 85) (v := 0) (by decide) dX0_copyOf_85 ?_
    refine v_aload_n hC (pc := 86) (k := 0) 1 rfl dX0_copyOf_86 ?_
    refine v_getR hC (pc := 87) dX0_copyOf_87 fl_X0_9 rfl (by first | exact ok_c hq rfl | exact ok_c hp rfl) rfl (by decide) (by decide) rfl ?_
    refine v_alen hC (pc := 90) 0 dX0_copyOf_90 rfl (fun _ => rfl) (by first | exact Or.inl rfl | exact Or.inr rfl) (by first | exact ok_c hq rfl | exact ok_c hp rfl) (v := 16) (by decide) ?_
    refine v_copyI hC (pc := 91) dX0_copyOf_91 ml_X0_69 rfl rfl (ok_c hp rfl) (ok_c hq rfl) (by decide) (by decide) (by decide) (by decide) (by decide) (Nat.le_of_ble_eq_true rfl) (by omega) ?_
    refine v_aload_n hC (pc := 94) (k := 1) 2 rfl dX0_copyOf_94 ?_
    refine v_getR hC (pc := 95) dX0_copyOf_95 fl_X0_22 rfl (by first | exact ok_c hq rfl | exact ok_c hp rfl) rfl (by decide) (by decide) rfl ?_
    refine v_iconst hC (pc := 98) (v := 0) (by decide) dX0_copyOf_98 ?_
    refine v_aload_n hC (pc := 99) (k := 0) 1 rfl dX0_copyOf_99 ?_
    refine v_getR hC (pc := 100) dX0_copyOf_100 fl_X0_22 rfl (by first | exact ok_c hq rfl | exact ok_c hp rfl) rfl (by decide) (by decide) rfl ?_
    refine v_iconst hC (pc := 103) (v := 0) (by decide) dX0_copyOf_103 ?_
    refine v_aload_n hC (pc := 104) (k := 0) 1 rfl dX0_copyOf_104 ?_
    refine v_getR hC (pc := 105) dX0_copyOf_105 fl_X0_22 rfl (by first | exact ok_c hq rfl | exact ok_c hp rfl) rfl (by decide) (by decide) rfl ?_
    refine v_alen hC (pc := 108) 0 dX0_copyOf_108 rfl (fun _ => rfl) (by first | exact Or.inl rfl | exact Or.inr rfl) (by first | exact ok_c hq rfl | exact ok_c hp rfl) (v := 4) (by decide) ?_
    refine v_copyI hC (pc := 109) dX0_copyOf_109 ml_X0_69 rfl rfl (ok_c hp rfl) (ok_c hq rfl) (by decide) (by decide) (by decide) (by decide) (by decide) (Nat.le_of_ble_eq_true rfl) (by omega) ?_
    refine v_aload_n hC (pc := 112) (k := 1) 2 rfl dX0_copyOf_112 ?_
    refine v_getR hC (pc := 113) dX0_copyOf_113 fl_X0_25 rfl (by first | exact ok_c hq rfl | exact ok_c hp rfl) rfl (by decide) (by decide) rfl ?_
    refine v_iconst hC (pc := 116) (v := 0) (by decide) dX0_copyOf_116 ?_
    refine v_aload_n hC (pc := 117) (k := 0) 1 rfl dX0_copyOf_117 ?_
    refine v_getR hC (pc := 118) dX0_copyOf_118 fl_X0_25 rfl (by first | exact ok_c hq rfl | exact ok_c hp rfl) rfl (by decide) (by decide) rfl ?_
    refine v_iconst hC (pc := 121) (v := 0) (by decide) dX0_copyOf_121 ?_
    refine v_bipush hC (pc := 122) (v := 8) (by decide +kernel) dX0_copyOf_122 ?_
    refine v_copyI hC (pc := 124) dX0_copyOf_124 ml_X0_69 rfl rfl (ok_c hp rfl) (ok_c hq rfl) (by decide) (by decide) (by decide) (by decide) (by decide) (Nat.le_of_ble_eq_true rfl) (by omega) ?_
    refine v_aload_n hC (pc := 127) (k := 1) 2 rfl dX0_copyOf_127 ?_
    refine v_getR hC (pc := 128) dX0_copyOf_128 fl_X0_28 rfl (by first | exact ok_c hq rfl | exact ok_c hp rfl) rfl (by decide) (by decide) rfl ?_
    refine v_iconst hC (pc := 131) (v := 0) (by decide) dX0_copyOf_131 ?_
    refine v_aload_n hC (pc := 132) (k := 0) 1 rfl dX0_copyOf_132 ?_
    refine v_getR hC (pc := 133) dX0_copyOf_133 fl_X0_28 rfl (by first | exact ok_c hq rfl | exact ok_c hp rfl) rfl (by decide) (by decide) rfl ?_
    refine v_iconst hC (pc := 136) (v := 0) (by decide) dX0_copyOf_136 ?_
    refine v_bipush hC (pc := 137) (v := 8) (by decide +kernel) dX0_copyOf_137 ?_
    refine v_copyI hC (pc := 139) dX0_copyOf_139 ml_X0_69 rfl rfl (ok_c hp rfl) (ok_c hq rfl) (by decide) (by decide) (by decide) (by decide) (by decide) (Nat.le_of_ble_eq_true rfl) (by omega) ?_
    refine v_aload_n hC (pc := 142) (k := 1) 2 rfl dX0_copyOf_142 ?_
    refine v_getR hC (pc := 143) dX0_copyOf_143 fl_X0_31 rfl (by first | exact ok_c hq rfl | exact ok_c hp rfl) rfl (by decide) (by decide) rfl ?_
    refine v_iconst hC (pc := 146) (v := 0) (by decide) dX0_copyOf_146 ?_
    refine v_aload_n hC (pc := 147) (k := 0) 1 rfl dX0_copyOf_147 ?_
    refine v_getR hC (pc := 148) dX0_copyOf_148 fl_X0_31 rfl (by first | exact ok_c hq rfl | exact ok_c hp rfl) rfl (by decide) (by decide) rfl ?_
    refine v_iconst hC (pc := 151) (v := 0) (by decide) dX0_copyOf_151 ?_
    refine v_bipush hC (pc := 152) (v := 8) (by decide +kernel) dX0_copyOf_152 ?_
    refine v_copyI hC (pc := 154) dX0_copyOf_154 ml_X0_69 rfl rfl (ok_c hp rfl) (ok_c hq rfl) (by decide) (by decide) (by decide) (by decide) (by decide) (Nat.le_of_ble_eq_true rfl) (by omega) ?_
    refine v_aload_n hC (pc := 157) (k := 1) 2 rfl dX0_copyOf_157 ?_
    refine v_getR hC (pc := 158) dX0_copyOf_158 fl_X0_34 rfl (by first | exact ok_c hq rfl | exact ok_c hp rfl) rfl (by decide) (by decide) rfl ?_
    refine v_iconst hC (pc := 161) (v := 0) (by decide) dX0_copyOf_161 ?_
    refine v_aload_n hC (pc := 162) (k := 0) 1 rfl dX0_copyOf_162 ?_
    refine v_getR hC (pc := 163) dX0_copyOf_163 fl_X0_34 rfl (by first | exact ok_c hq rfl | exact ok_c hp rfl) rfl (by decide) (by decide) rfl ?_
    refine v_iconst hC (pc := 166) (v := 0) (by decide) dX0_copyOf_166 ?_
    refine v_bipush hC (pc := 167) (v := 8) (by decide +kernel) dX0_copyOf_167 ?_
    refine v_copyI hC (pc := 169) dX0_copyOf_169 ml_X0_69 rfl rfl (ok_c hp rfl) (ok_c hq rfl) (by decide) (by decide) (by decide) (by decide) (by decide) (Nat.le_of_ble_eq_true rfl) (by omega) ?_
    refine v_vret hC hX (pc := 172) dX0_copyOf_172 ?_
    refine ⟨rfl, ⟨fun k hk => ?_, fun w k hw hk => ?_, fun k hk => ?_, fun k hk => ?_, fun k hk => ?_, fun k hk => ?_, fun k hk => ?_, fun k hk => ?_⟩, fun i hi => ?_, rfl⟩
    · rcases (show k = 0 ∨ k = 1 ∨ k = 2 ∨ k = 3 ∨ k = 4 ∨ k = 5 by omega) with rfl | rfl | rfl | rfl | rfl | rfl <;> simp [upR, upI, wcN, e0]
    · simp [upR, upI, wcN, hw, hk]
    · simp [upR, upI, wcN, va_cpy, hk]
    · simp [upR, upI, wcN, va_cpy, hk]
    · simp [upR, upI, wcN, va_cpy, hk]
    · simp [upR, upI, wcN, va_cpy, hk]
    · simp [upR, upI, wcN, va_cpy, hk]
    · simp [upR, upI, wcN, va_cpy, hk]
    · obtain ⟨a, b, c⟩ := i
      have n1 : ∀ j : Nat, ((a, b, c) : PId) ≠ (0, q, j) := fun j z => hi ⟨Or.inl (congrArg (fun t : PId => t.1) z), congrArg (fun t : PId => t.2.1) z⟩
      have n2 : ¬ (a = 6 ∧ b = q) := fun z => hi ⟨Or.inr z.1, z.2⟩
      funext k
      simp only [upR, upI, wcN, n1, false_and, if_false, ← and_assoc, n2]

set_option maxRecDepth 20000 in
set_option maxHeartbeats 2000000 in
theorem t_clear (l9 : Launch) (G : WT) {d : Nat} (hd : 2 ≤ d) {q : Nat} (hq : q < 5) (h : HP) : MS l9 G yX0_clear cX0_clear 1 none d [vr (0, q, 0)] h (fun r h1 => r = none ∧ h1 = upR (upR (upI (upI (upI (upI (upI (upI h (0, q, 0) 0 4) (0, q, 0) 1 0) (0, q, 0) 2 0) (0, q, 0) 3 0) (0, q, 0) 4 0) (0, q, 0) 5 0) (0, q, 6) (filR (h.1 (0, q, 6)) 16 (-4))) (0, q, 8) (filR (h.1 (0, q, 8)) 4 0)) := by
  refine MS_of (by decide +kernel) (Nat.le_of_ble_eq_true rfl) (fun X hC hX => ?_)
  show V X G 1 0 _ [] _
  refine v_aload_n hC (pc := 0) (k := 0) 0 rfl dX0_clear_0 ?_
  refine v_iconst hC (pc := 1) (v := 4) (by decide) dX0_clear_1 ?_
  refine v_putI hC (pc := 2) dX0_clear_2 fs_X0_40 rfl (by first | rfl | exact ok_c hq rfl | exact ok_w hq hw | exact ok_w (by omega) (by omega) | exact ok_s (by omega) (by omega) | exact ok_c (by omega) rfl | assumption) rfl (by decide) (by decide) ?_
  refine v_aload_n hC (pc := 5) (k := 0) 0 rfl dX0_clear_5 ?_
  refine v_iconst hC (pc := 6) (v := 0) (by decide) dX0_clear_6 ?_
  refine v_putI hC (pc := 7) dX0_clear_7 fs_X0_50 rfl (by first | rfl | exact ok_c hq rfl | exact ok_w hq hw | exact ok_w (by omega) (by omega) | exact ok_s (by omega) (by omega) | exact ok_c (by omega) rfl | assumption) rfl (by decide) (by decide) ?_
  refine v_aload_n hC (pc := 10) (k := 0) 0 rfl dX0_clear_10 ?_
  refine v_iconst hC (pc := 11) (v := 0) (by decide) dX0_clear_11 ?_
  refine v_putI hC (pc := 12) dX0_clear_12 fs_X0_53 rfl (by first | rfl | exact ok_c hq rfl | exact ok_w hq hw | exact ok_w (by omega) (by omega) | exact ok_s (by omega) (by omega) | exact ok_c (by omega) rfl | assumption) rfl (by decide) (by decide) ?_
  refine v_aload_n hC (pc := 15) (k := 0) 0 rfl dX0_clear_15 ?_
  refine v_iconst hC (pc := 16) (v := 0) (by decide) dX0_clear_16 ?_
  refine v_putI hC (pc := 17) dX0_clear_17 fs_X0_56 rfl (by first | rfl | exact ok_c hq rfl | exact ok_w hq hw | exact ok_w (by omega) (by omega) | exact ok_s (by omega) (by omega) | exact ok_c (by omega) rfl | assumption) rfl (by decide) (by decide) ?_
  refine v_aload_n hC (pc := 20) (k := 0) 0 rfl dX0_clear_20 ?_
  refine v_iconst hC (pc := 21) (v := 0) (by decide) dX0_clear_21 ?_
  refine v_putI hC (pc := 22) dX0_clear_22 fs_X0_59 rfl (by first | rfl | exact ok_c hq rfl | exact ok_w hq hw | exact ok_w (by omega) (by omega) | exact ok_s (by omega) (by omega) | exact ok_c (by omega) rfl | assumption) rfl (by decide) (by decide) ?_
  refine v_aload_n hC (pc := 25) (k := 0) 0 rfl dX0_clear_25 ?_
  refine v_iconst hC (pc := 26) (v := 0) (by decide) dX0_clear_26 ?_
  refine v_putI hC (pc := 27) dX0_clear_27 fs_X0_62 rfl (by first | rfl | exact ok_c hq rfl | exact ok_w hq hw | exact ok_w (by omega) (by omega) | exact ok_s (by omega) (by omega) | exact ok_c (by omega) rfl | assumption) rfl (by decide) (by decide) ?_
  refine v_aload_n hC (pc := 30) (k := 0) 0 rfl dX0_clear_30 ?_
  refine v_getR hC (pc := 31) dX0_clear_31 fl_X0_9 rfl (by first | rfl | exact ok_c hq rfl | exact ok_w hq hw | exact ok_w (by omega) (by omega) | exact ok_s (by omega) (by omega) | exact ok_c (by omega) rfl | assumption) rfl (by decide) (by decide) rfl ?_
  refine v_bipush hC (pc := 34) (v := (-4)) (by decide +kernel) dX0_clear_34 ?_
  refine v_callS hC (pc := 36) (As := [_, _]) dX0_clear_36 rfl (t_fillI _ _ (d := d - 1) (by omega) _ (N := 16) rfl (ok_c hq rfl) (by decide) _) cs_X0_44 (Nat.le_of_ble_eq_true rfl) (by omega) (fun r h' hr => ?_)
  obtain ⟨rfl, rfl⟩ := hr
  show V _ _ _ (36 + 3) _ _ _
  refine v_aload_n hC (pc := 39) (k := 0) 0 rfl dX0_clear_39 ?_
  refine v_getR hC (pc := 40) dX0_clear_40 fl_X0_22 rfl (by first | rfl | exact ok_c hq rfl | exact ok_w hq hw | exact ok_w (by omega) (by omega) | exact ok_s (by omega) (by omega) | exact ok_c (by omega) rfl | assumption) rfl (by decide) (by decide) rfl ?_
  refine v_iconst hC (pc := 43) (v := 0) (by decide) dX0_clear_43 ?_
  refine v_callS hC (pc := 44) (As := [_, _]) dX0_clear_44 rfl (t_fillI _ _ (d := d - 1) (by omega) _ (N := 4) rfl (ok_c hq rfl) (by decide) _) cs_X0_44 (Nat.le_of_ble_eq_true rfl) (by omega) (fun r h' hr => ?_)
  obtain ⟨rfl, rfl⟩ := hr
  show V _ _ _ (44 + 3) _ _ _
  refine v_vret hC hX (pc := 47) dX0_clear_47 ?_
  refine ⟨rfl, ?_⟩
  simp [upI, upR]

set_option maxRecDepth 20000 in
set_option maxHeartbeats 2000000 in
theorem t_addSight (l9 : Launch) (G : WT) {d : Nat} (hd : 2 ≤ d) {q : Nat} (hq : q < 5) (h : HP) {nS : Nat} (hs8 : nS < 8) (hns : h.1 (0, q, 0) 5 = nI nS) (w n c is : Int32) : MS l9 G yX0_addSight cX0_addSight 5 none d [vr (0, q, 0), vi w, vi n, vi c, vi is] h (fun r h1 => r = none ∧ h1 = upI (upI (upI (upI (upI h (0, q, 9) nS w) (0, q, 10) nS n) (0, q, 11) nS c) (0, q, 12) nS (oneF is)) (0, q, 0) 5 (nI (nS + 1))) := by
  refine MS_of (by decide +kernel) (Nat.le_of_ble_eq_true rfl) (fun X hC hX => ?_)
  show V X G 5 0 _ [] _
  refine v_aload_n hC (pc := 0) (k := 0) 0 rfl dX0_addSight_0 ?_
  refine v_getI hC (pc := 1) dX0_addSight_1 fl_X0_62 rfl (by first | rfl | exact ok_c hq rfl | exact ok_w hq hw | exact ok_w (by omega) (by omega) | exact ok_s (by omega) (by omega) | exact ok_c (by omega) rfl | assumption) rfl (by decide) (by decide) ?_
  refine v_bipush hC (pc := 4) (v := 8) (by decide +kernel) dX0_addSight_4 ?_
  refine v_icmp_ge hC (pc := 6) (tgt := 63) dX0_addSight_6 (by decide) (fun c_6 => ?_) (fun c_6 => ?_)
  · exact absurd (by rw [hns] at c_6; exact c_6) (nI_ge (show nS < 8 by omega) (by decide))
  · skip
    refine v_aload_n hC (pc := 9) (k := 0) 0 rfl dX0_addSight_9 ?_
    refine v_getR hC (pc := 10) dX0_addSight_10 fl_X0_25 rfl (by first | rfl | exact ok_c hq rfl | exact ok_w hq hw | exact ok_w (by omega) (by omega) | exact ok_s (by omega) (by omega) | exact ok_c (by omega) rfl | assumption) rfl (by decide) (by decide) rfl ?_
    refine v_aload_n hC (pc := 13) (k := 0) 0 rfl dX0_addSight_13 ?_
    refine v_getI hC (pc := 14) dX0_addSight_14 fl_X0_62 rfl (by first | rfl | exact ok_c hq rfl | exact ok_w hq hw | exact ok_w (by omega) (by omega) | exact ok_s (by omega) (by omega) | exact ok_c (by omega) rfl | assumption) rfl (by decide) (by decide) ?_
    refine v_iload_n hC (pc := 17) (k := 1) 1 rfl dX0_addSight_17 ?_
    refine v_iast hC (pc := 18) dX0_addSight_18 rfl (by first | rfl | exact ok_c hq rfl | exact ok_w hq hw | exact ok_w (by omega) (by omega) | exact ok_s (by omega) (by omega) | exact ok_c (by omega) rfl | assumption) (by simp [upI, hns]; exact vp_nat (by omega) (by decide)) ?_
    refine v_aload_n hC (pc := 19) (k := 0) 0 rfl dX0_addSight_19 ?_
    refine v_getR hC (pc := 20) dX0_addSight_20 fl_X0_28 rfl (by first | rfl | exact ok_c hq rfl | exact ok_w hq hw | exact ok_w (by omega) (by omega) | exact ok_s (by omega) (by omega) | exact ok_c (by omega) rfl | assumption) rfl (by decide) (by decide) rfl ?_
    refine v_aload_n hC (pc := 23) (k := 0) 0 rfl dX0_addSight_23 ?_
    refine v_getI hC (pc := 24) dX0_addSight_24 fl_X0_62 rfl (by first | rfl | exact ok_c hq rfl | exact ok_w hq hw | exact ok_w (by omega) (by omega) | exact ok_s (by omega) (by omega) | exact ok_c (by omega) rfl | assumption) rfl (by decide) (by decide) ?_
    refine v_iload_n hC (pc := 27) (k := 2) 2 rfl dX0_addSight_27 ?_
    refine v_iast hC (pc := 28) dX0_addSight_28 rfl (by first | rfl | exact ok_c hq rfl | exact ok_w hq hw | exact ok_w (by omega) (by omega) | exact ok_s (by omega) (by omega) | exact ok_c (by omega) rfl | assumption) (by simp [upI, hns]; exact vp_nat (by omega) (by decide)) ?_
    refine v_aload_n hC (pc := 29) (k := 0) 0 rfl dX0_addSight_29 ?_
    refine v_getR hC (pc := 30) dX0_addSight_30 fl_X0_31 rfl (by first | rfl | exact ok_c hq rfl | exact ok_w hq hw | exact ok_w (by omega) (by omega) | exact ok_s (by omega) (by omega) | exact ok_c (by omega) rfl | assumption) rfl (by decide) (by decide) rfl ?_
    refine v_aload_n hC (pc := 33) (k := 0) 0 rfl dX0_addSight_33 ?_
    refine v_getI hC (pc := 34) dX0_addSight_34 fl_X0_62 rfl (by first | rfl | exact ok_c hq rfl | exact ok_w hq hw | exact ok_w (by omega) (by omega) | exact ok_s (by omega) (by omega) | exact ok_c (by omega) rfl | assumption) rfl (by decide) (by decide) ?_
    refine v_iload_n hC (pc := 37) (k := 3) 3 rfl dX0_addSight_37 ?_
    refine v_iast hC (pc := 38) dX0_addSight_38 rfl (by first | rfl | exact ok_c hq rfl | exact ok_w hq hw | exact ok_w (by omega) (by omega) | exact ok_s (by omega) (by omega) | exact ok_c (by omega) rfl | assumption) (by simp [upI, hns]; exact vp_nat (by omega) (by decide)) ?_
    refine v_aload_n hC (pc := 39) (k := 0) 0 rfl dX0_addSight_39 ?_
    refine v_getR hC (pc := 40) dX0_addSight_40 fl_X0_34 rfl (by first | rfl | exact ok_c hq rfl | exact ok_w hq hw | exact ok_w (by omega) (by omega) | exact ok_s (by omega) (by omega) | exact ok_c (by omega) rfl | assumption) rfl (by decide) (by decide) rfl ?_
    refine v_aload_n hC (pc := 43) (k := 0) 0 rfl dX0_addSight_43 ?_
    refine v_getI hC (pc := 44) dX0_addSight_44 fl_X0_62 rfl (by first | rfl | exact ok_c hq rfl | exact ok_w hq hw | exact ok_w (by omega) (by omega) | exact ok_s (by omega) (by omega) | exact ok_c (by omega) rfl | assumption) rfl (by decide) (by decide) ?_
    refine v_iload hC (pc := 47) 4 rfl dX0_addSight_47 ?_
    refine v_callN hC (pc := 49) (As := [_]) dX0_addSight_49 rfl (t_oneIf _ _ (d := d - 1) (by omega) _ _) cn_X0_140 (Nat.le_of_ble_eq_true rfl) (by omega) (fun r h' hr => ?_)
    obtain ⟨rfl, rfl⟩ := hr
    show V _ _ _ (49 + 3) _ (_ :: _) _
    refine v_iast hC (pc := 52) dX0_addSight_52 rfl (by first | rfl | exact ok_c hq rfl | exact ok_w hq hw | exact ok_w (by omega) (by omega) | exact ok_s (by omega) (by omega) | exact ok_c (by omega) rfl | assumption) (by simp [upI, hns]; exact vp_nat (by omega) (by decide)) ?_
    refine v_aload_n hC (pc := 53) (k := 0) 0 rfl dX0_addSight_53 ?_
    refine v_dup hC (pc := 54) rfl dX0_addSight_54 ?_
    refine v_getI hC (pc := 55) dX0_addSight_55 fl_X0_62 rfl (by first | rfl | exact ok_c hq rfl | exact ok_w hq hw | exact ok_w (by omega) (by omega) | exact ok_s (by omega) (by omega) | exact ok_c (by omega) rfl | assumption) rfl (by decide) (by decide) ?_
    refine v_iconst hC (pc := 58) (v := 1) (by decide) dX0_addSight_58 ?_
    refine v_iadd hC (pc := 59) dX0_addSight_59 ?_
    refine v_putI hC (pc := 60) dX0_addSight_60 fs_X0_62 rfl (by first | rfl | exact ok_c hq rfl | exact ok_w hq hw | exact ok_w (by omega) (by omega) | exact ok_s (by omega) (by omega) | exact ok_c (by omega) rfl | assumption) rfl (by decide) (by decide) ?_
    refine v_vret hC hX (pc := 63) dX0_addSight_63 ?_
    refine ⟨rfl, ?_⟩
    have e9 : nI nS + 1 = nI (nS + 1) := (nI_succ nS).symm
    simp [upI, hns, nI_clamp (show nS < 2 ^ 31 by omega), e9]

