/-! CITY, WALKER: what goes over rows -/
set_option maxRecDepth 20000 in
set_option maxHeartbeats 2000000 in
theorem t_isHeadOn (l9 : Launch) (G : WT) {d : Nat} (hd : 1 ≤ d) (h : HP) (a b c e : Int32) : MS l9 G yX6_isHeadOn cX6_isHeadOn 4 (some .boolean) d [vi a, vi b, vi c, vi e] h (fun r h1 => h1 = h ∧ r = some (vi (bI (¬ a = b ∧ b = c ∧ a = e)))) := by
  refine MS_of (by decide +kernel) (Nat.le_of_ble_eq_true rfl) (fun X hC hX => ?_)
  show V X G 4 0 _ [] _
  refine v_iload_n hC (pc := 0) (k := 0) 0 rfl dX6_isHeadOn_0 ?_
  refine v_iload_n hC (pc := 1) (k := 1) 1 rfl dX6_isHeadOn_1 ?_
  refine v_icmp_eq hC (pc := 2) (tgt := 19) dX6_isHeadOn_2 (by decide) (fun c_2 => ?_) (fun c_2 => ?_)
  · skip
    refine v_iconst hC (pc := 19) (v := 0) (by decide) dX6_isHeadOn_19 ?_
    refine v_zret hC hX (pc := 20) dX6_isHeadOn_20 (nar_b (by first | exact Or.inl rfl | exact Or.inr rfl | exact bI_01 _)) ?_
    first | (refine rb_t ?_; exact ⟨c_2⟩) | (refine rb_t ?_; simp only [c_2, not_true_eq_false, not_false_eq_true, and_self, and_true, true_and, and_false, false_and, or_true, true_or, or_false, false_or, if_true, if_false, ↓reduceIte, ite_true, ite_false]; done) | (refine rb_f ?_; simp only [c_2, not_true_eq_false, not_false_eq_true, and_self, and_true, true_and, and_false, false_and, or_true, true_or, or_false, false_or, if_true, if_false, ↓reduceIte, ite_true, ite_false]; done)
  · skip
    refine v_iload_n hC (pc := 5) (k := 1) 1 rfl dX6_isHeadOn_5 ?_
    refine v_iload_n hC (pc := 6) (k := 2) 2 rfl dX6_isHeadOn_6 ?_
    refine v_icmp_ne hC (pc := 7) (tgt := 19) dX6_isHeadOn_7 (by decide) (fun c_7 => ?_) (fun c_7 => ?_)
    · skip
      refine v_iconst hC (pc := 19) (v := 0) (by decide) dX6_isHeadOn_19 ?_
      refine v_zret hC hX (pc := 20) dX6_isHeadOn_20 (nar_b (by first | exact Or.inl rfl | exact Or.inr rfl | exact bI_01 _)) ?_
      first | (refine rb_t ?_; exact ⟨c_2, c_7⟩) | (refine rb_t ?_; simp only [c_2, c_7, not_true_eq_false, not_false_eq_true, and_self, and_true, true_and, and_false, false_and, or_true, true_or, or_false, false_or, if_true, if_false, ↓reduceIte, ite_true, ite_false]; done) | (refine rb_f ?_; simp only [c_2, c_7, not_true_eq_false, not_false_eq_true, and_self, and_true, true_and, and_false, false_and, or_true, true_or, or_false, false_or, if_true, if_false, ↓reduceIte, ite_true, ite_false]; done)
    · skip
      refine v_iload_n hC (pc := 10) (k := 0) 0 rfl dX6_isHeadOn_10 ?_
      refine v_iload_n hC (pc := 11) (k := 3) 3 rfl dX6_isHeadOn_11 ?_
      refine v_icmp_ne hC (pc := 12) (tgt := 19) dX6_isHeadOn_12 (by decide) (fun c_12 => ?_) (fun c_12 => ?_)
      · skip
        refine v_iconst hC (pc := 19) (v := 0) (by decide) dX6_isHeadOn_19 ?_
        refine v_zret hC hX (pc := 20) dX6_isHeadOn_20 (nar_b (by first | exact Or.inl rfl | exact Or.inr rfl | exact bI_01 _)) ?_
        first | (refine rb_t ?_; exact ⟨c_2, c_7, c_12⟩) | (refine rb_t ?_; simp only [c_2, c_7, c_12, not_true_eq_false, not_false_eq_true, and_self, and_true, true_and, and_false, false_and, or_true, true_or, or_false, false_or, if_true, if_false, ↓reduceIte, ite_true, ite_false]; done) | (refine rb_f ?_; simp only [c_2, c_7, c_12, not_true_eq_false, not_false_eq_true, and_self, and_true, true_and, and_false, false_and, or_true, true_or, or_false, false_or, if_true, if_false, ↓reduceIte, ite_true, ite_false]; done)
      · skip
        refine v_iconst hC (pc := 15) (v := 1) (by decide) dX6_isHeadOn_15 ?_
        refine v_goto hC (pc := 16) (tgt := 20) dX6_isHeadOn_16 (by decide) ?_
        refine v_zret hC hX (pc := 20) dX6_isHeadOn_20 (nar_b (by first | exact Or.inl rfl | exact Or.inr rfl | exact bI_01 _)) ?_
        first | (refine rb_t ?_; exact ⟨c_2, c_7, c_12⟩) | (refine rb_t ?_; simp only [c_2, c_7, c_12, not_true_eq_false, not_false_eq_true, and_self, and_true, true_and, and_false, false_and, or_true, true_or, or_false, false_or, if_true, if_false, ↓reduceIte, ite_true, ite_false]; done) | (refine rb_f ?_; simp only [c_2, c_7, c_12, not_true_eq_false, not_false_eq_true, and_self, and_true, true_and, and_false, false_and, or_true, true_or, or_false, false_or, if_true, if_false, ↓reduceIte, ite_true, ite_false]; done)

def oneF (x : Int32) : Int32 := if x = 0 then 0 else 1
set_option maxRecDepth 20000 in
set_option maxHeartbeats 2000000 in
theorem t_oneIf (l9 : Launch) (G : WT) {d : Nat} (hd : 1 ≤ d) (h : HP) (x : Int32) : MS l9 G yX6_oneIf cX6_oneIf 1 (some .int) d [vi x] h (fun r h1 => h1 = h ∧ r = some (vi (oneF x))) := by
  refine MS_of (by decide +kernel) (Nat.le_of_ble_eq_true rfl) (fun X hC hX => ?_)
  show V X G 1 0 _ [] _
  refine v_iload_n hC (pc := 0) (k := 0) 0 rfl dX6_oneIf_0 ?_
  refine v_if_eq hC (pc := 1) (tgt := 8) dX6_oneIf_1 (by decide) (fun c_1 => ?_) (fun c_1 => ?_)
  · skip
    refine v_iconst hC (pc := 8) (v := 0) (by decide) dX6_oneIf_8 ?_
    refine v_iret hC hX (pc := 9) dX6_oneIf_9 ?_
    exact ⟨rfl, by simp only [c_1, oneF, not_true_eq_false, not_false_eq_true, and_self, and_true, true_and, and_false, false_and, or_true, true_or, or_false, false_or, if_true, if_false, ↓reduceIte, ite_true, ite_false]⟩
  · skip
    refine v_iconst hC (pc := 4) (v := 1) (by decide) dX6_oneIf_4 ?_
    refine v_goto hC (pc := 5) (tgt := 9) dX6_oneIf_5 (by decide) ?_
    refine v_iret hC hX (pc := 9) dX6_oneIf_9 ?_
    exact ⟨rfl, by simp only [c_1, oneF, not_true_eq_false, not_false_eq_true, and_self, and_true, true_and, and_false, false_and, or_true, true_or, or_false, false_or, if_true, if_false, ↓reduceIte, ite_true, ite_false]⟩

theorem oneF_b (p : Prop) [Decidable p] : oneF (bI p) = bI p := by
  rcases bI_01 p with e | e <;> rw [e] <;> rfl
/-- how many walk head on: places, goals -/
def ccS (P D : Nat → Int32) (w v : Nat) (a : Int32) : Int32 := if ¬ P w = D w ∧ D w = P v ∧ P w = D v then a + 1 else a
def ccW (P D : Nat → Int32) (w : Nat) (a : Int32) : Int32 := itN (ccS P D w) w a
def ccF (P D : Nat → Int32) (n : Nat) : Int32 := itN (ccW P D) n 0
/-- the first n walkers of a city at their goals -/
def plcH (h : HP) (q n : Nat) : HP := (fun i k => if i.1 = 6 ∧ i.2.1 = q ∧ i.2.2 < n ∧ k = 0 then h.1 (0, q, 13) i.2.2 else h.1 i k, h.2)
theorem plcH_0 (h : HP) (q : Nat) : plcH h q 0 = h := by
  unfold plcH
  simp
theorem plcH_s (h : HP) (q n : Nat) : upI (plcH h q n) (6, q, n) 0 (h.1 (0, q, 13) n) = plcH h q (n + 1) := by
  unfold plcH upI
  refine Prod.ext (funext fun i => funext fun k => ?_) rfl
  obtain ⟨a, b, c⟩ := i
  by_cases e1 : a = 6 <;> by_cases e2 : b = q <;> by_cases e3 : k = 0 <;> by_cases e4 : c = n <;> simp [e1, e2, e3, e4] <;> (try omega)
  all_goals (by_cases e5 : c < n <;> simp [e5] <;> omega)
theorem plcH_g (h : HP) (q n : Nat) (j : Nat) : (plcH h q n).1 (0, q, j) = h.1 (0, q, j) := by
  funext k
  simp [plcH]
def endH (h : HP) (q n : Nat) (come : Int32) : HP := upI (upI (plcH h q n) (0, q, 0) 3 (h.1 (0, q, 0) 3 + come)) (0, q, 0) 2 (h.1 (0, q, 0) 2 + 1)
set_option maxRecDepth 20000 in
set_option maxHeartbeats 2000000 in
theorem t_endHour (l9 : Launch) (G : WT) {d : Nat} (hd : 3 ≤ d) {q : Nat} (hq : q < 5) (h : HP) {nW : Nat} (hn4 : nW ≤ 4) (hnw : h.1 (0, q, 0) 4 = nI nW) : MS l9 G yX0_endHour cX0_endHour 4 (some .int) d [vr (0, q, 0)] h (fun r h1 => r = some (vi (ccF (fun w => h.1 (6, q, w) 0) (h.1 (0, q, 13)) nW)) ∧ h1 = endH h q nW (ccF (fun w => h.1 (6, q, w) 0) (h.1 (0, q, 13)) nW)) := by
  refine MS_of (by decide +kernel) (Nat.le_of_ble_eq_true rfl) (fun X hC hX => ?_)
  show V X G 4 0 _ [] _
  have fin : ∀ a : Int32, a = ccF (fun w => h.1 (6, q, w) 0) (h.1 (0, q, 13)) nW → V X G 4 70 [(2, vi (nI nW)), (1, vi a), (0, vr (0, q, 0))] [] h := by
    intro a a9
    have k9 : V X G 4 101 [(2, vi (nI nW)), (1, vi a), (0, vr (0, q, 0))] [] (plcH h q nW) := by
      refine v_aload_n hC (pc := 101) (k := 0) 2 rfl dX0_endHour_101 ?_
      refine v_dup hC (pc := 102) rfl dX0_endHour_102 ?_
      refine v_getI hC (pc := 103) dX0_endHour_103 fl_X0_56 rfl (by first | rfl | exact ok_c hq rfl | exact ok_w hq hw | exact ok_w (by omega) (by omega) | exact ok_s (by omega) (by omega) | exact ok_c (by omega) rfl | assumption) rfl (by decide) (by decide) ?_
      refine v_iload_n hC (pc := 106) (k := 1) 1 rfl dX0_endHour_106 ?_
      refine v_iadd hC (pc := 107) dX0_endHour_107 ?_
      refine v_putI hC (pc := 108) dX0_endHour_108 fs_X0_56 rfl (by first | rfl | exact ok_c hq rfl | exact ok_w hq hw | exact ok_w (by omega) (by omega) | exact ok_s (by omega) (by omega) | exact ok_c (by omega) rfl | assumption) rfl (by decide) (by decide) ?_
      refine v_aload_n hC (pc := 111) (k := 0) 2 rfl dX0_endHour_111 ?_
      refine v_dup hC (pc := 112) rfl dX0_endHour_112 ?_
      refine v_getI hC (pc := 113) dX0_endHour_113 fl_X0_53 rfl (by first | rfl | exact ok_c hq rfl | exact ok_w hq hw | exact ok_w (by omega) (by omega) | exact ok_s (by omega) (by omega) | exact ok_c (by omega) rfl | assumption) rfl (by decide) (by decide) ?_
      refine v_iconst hC (pc := 116) (v := 1) (by decide) dX0_endHour_116 ?_
      refine v_iadd hC (pc := 117) dX0_endHour_117 ?_
      refine v_putI hC (pc := 118) dX0_endHour_118 fs_X0_53 rfl (by first | rfl | exact ok_c hq rfl | exact ok_w hq hw | exact ok_w (by omega) (by omega) | exact ok_s (by omega) (by omega) | exact ok_c (by omega) rfl | assumption) rfl (by decide) (by decide) ?_
      refine v_iload_n hC (pc := 121) (k := 1) 1 rfl dX0_endHour_121 ?_
      refine v_iret hC hX (pc := 122) dX0_endHour_122 ?_
      exact ⟨by rw [a9], by rw [endH, a9]; simp only [upI, plcH_g]; rfl⟩
    have places : ∀ (n w : Nat), w ≤ nW → nW + 1 ≤ w + n → V X G 4 72 [(2, vi (nI w)), (1, vi a), (0, vr (0, q, 0))] [] (plcH h q w) := by
      intro n
      induction n with
      | zero => intro w h1 h2; exact absurd h2 (by omega)
      | succ n ih =>
        intro w h1 h2
        refine v_iload_n hC (pc := 72) (k := 2) 0 rfl dX0_endHour_72 ?_
        refine v_aload_n hC (pc := 73) (k := 0) 2 rfl dX0_endHour_73 ?_
        refine v_getI hC (pc := 74) dX0_endHour_74 fl_X0_59 rfl (by first | rfl | exact ok_c hq rfl | exact ok_w hq hw | exact ok_w (by omega) (by omega) | exact ok_s (by omega) (by omega) | exact ok_c (by omega) rfl | assumption) rfl (by decide) (by decide) ?_
        refine v_icmp_ge hC (pc := 77) (tgt := 101) dX0_endHour_77 (by decide) (fun c_77 => ?_) (fun c_77 => ?_)
        · skip
          have hi : w = nW := lp_ex (by rw [plcH_g, hnw] at c_77; exact c_77) h1 (by omega)
          subst hi
          exact k9
        · skip
          have hi : w < nW := lp_in (by rw [plcH_g, hnw] at c_77; exact c_77) h1 (by omega)
          refine v_aload_n hC (pc := 80) (k := 0) 2 rfl dX0_endHour_80 ?_
          refine v_getR hC (pc := 81) dX0_endHour_81 fl_X0_17 rfl (by first | rfl | exact ok_c hq rfl | exact ok_w hq hw | exact ok_w (by omega) (by omega) | exact ok_s (by omega) (by omega) | exact ok_c (by omega) rfl | assumption) rfl (by decide) (by decide) rfl ?_
          refine v_iload_n hC (pc := 84) (k := 2) 0 rfl dX0_endHour_84 ?_
          refine v_aald hC (pc := 85) 5 dX0_endHour_85 rfl (by decide) (fun _ => rfl) (by first | rfl | exact ok_c hq rfl | exact ok_w hq hw | exact ok_w (by omega) (by omega) | exact ok_s (by omega) (by omega) | exact ok_c (by omega) rfl | assumption) (vp_nat (by omega) (by decide)) (by rw [nI_clamp (by omega)]; rfl) ?_
          refine v_aload_n hC (pc := 86) (k := 0) 2 rfl dX0_endHour_86 ?_
          refine v_getR hC (pc := 87) dX0_endHour_87 fl_X0_37 rfl (by first | rfl | exact ok_c hq rfl | exact ok_w hq hw | exact ok_w (by omega) (by omega) | exact ok_s (by omega) (by omega) | exact ok_c (by omega) rfl | assumption) rfl (by decide) (by decide) rfl ?_
          refine v_iload_n hC (pc := 90) (k := 2) 0 rfl dX0_endHour_90 ?_
          refine v_iald hC (pc := 91) dX0_endHour_91 rfl (by first | rfl | exact ok_c hq rfl | exact ok_w hq hw | exact ok_w (by omega) (by omega) | exact ok_s (by omega) (by omega) | exact ok_c (by omega) rfl | assumption) (vp_nat (by omega) (by decide)) ?_
          rw [nI_clamp (show w < 2 ^ 31 by omega), plcH_g]
          refine v_putI hC (pc := 92) dX0_endHour_92 fs_X0_75 rfl (by first | rfl | exact ok_c hq rfl | exact ok_w hq hw | exact ok_w (by omega) (by omega) | exact ok_s (by omega) (by omega) | exact ok_c (by omega) rfl | assumption) rfl (by decide) (by decide) ?_
          refine v_iinc hC (pc := 95) (l' := [(2, _), (1, _), (0, _)]) 0 (v := nI (w + 1)) dX0_endHour_95 rfl (nI_inc w) (by decide) rfl ?_
          refine v_goto hC (pc := 98) (tgt := 72) dX0_endHour_98 (by decide) ?_
          refine v_heap (plcH_s h q w) ?_
          exact ih (w + 1) (by omega) (by omega)
    refine v_iconst hC (pc := 70) (v := 0) (by decide) dX0_endHour_70 ?_
    refine v_istore_n hC (pc := 71) (l' := [(2, _), (1, _), (0, _)]) dX0_endHour_71 (by decide) rfl ?_
    refine v_heap (plcH_0 h q).symm ?_
    exact places (nW + 1) 0 (Nat.zero_le _) (by omega)
  have inner : ∀ (w : Nat), w < nW → ∀ (a0 : Int32), (∀ a : Int32, a = ccW (fun w => h.1 (6, q, w) 0) (h.1 (0, q, 13)) w a0 → V X G 4 64 [(3, vi (nI w)), (2, vi (nI w)), (1, vi a), (0, vr (0, q, 0))] [] h) → ∀ (n v : Nat) (a : Int32), v ≤ w → w + 1 ≤ v + n → a = itN (ccS (fun w => h.1 (6, q, w) 0) (h.1 (0, q, 13)) w) v a0 → V X G 4 14 [(3, vi (nI v)), (2, vi (nI w)), (1, vi a), (0, vr (0, q, 0))] [] h := by
    intro w hwn a0 k9 n
    induction n with
    | zero => intro v a h1 h2; exact absurd h2 (by omega)
    | succ n ih =>
      intro v a h1 h2 ha
      refine v_iload_n hC (pc := 14) (k := 3) 0 rfl dX0_endHour_14 ?_
      refine v_iload_n hC (pc := 15) (k := 2) 1 rfl dX0_endHour_15 ?_
      refine v_icmp_ge hC (pc := 16) (tgt := 64) dX0_endHour_16 (by decide) (fun c_16 => ?_) (fun c_16 => ?_)
      · skip
        have hi : v = w := lp_ex c_16 h1 (by omega)
        subst hi
        exact k9 a ha
      · skip
        have hi : v < w := lp_in c_16 h1 (by omega)
        refine v_aload_n hC (pc := 19) (k := 0) 3 rfl dX0_endHour_19 ?_
        refine v_getR hC (pc := 20) dX0_endHour_20 fl_X0_17 rfl (by first | rfl | exact ok_c hq rfl | exact ok_w hq hw | exact ok_w (by omega) (by omega) | exact ok_s (by omega) (by omega) | exact ok_c (by omega) rfl | assumption) rfl (by decide) (by decide) rfl ?_
        refine v_iload_n hC (pc := 23) (k := 2) 1 rfl dX0_endHour_23 ?_
        refine v_aald hC (pc := 24) 5 dX0_endHour_24 rfl (by decide) (fun _ => rfl) (by first | rfl | exact ok_c hq rfl | exact ok_w hq hw | exact ok_w (by omega) (by omega) | exact ok_s (by omega) (by omega) | exact ok_c (by omega) rfl | assumption) (vp_nat (by omega) (by decide)) (by rw [nI_clamp (by omega)]; rfl) ?_
        refine v_getI hC (pc := 25) dX0_endHour_25 fl_X0_75 rfl (by first | rfl | exact ok_c hq rfl | exact ok_w hq hw | exact ok_w (by omega) (by omega) | exact ok_s (by omega) (by omega) | exact ok_c (by omega) rfl | assumption) rfl (by decide) (by decide) ?_
        refine v_aload_n hC (pc := 28) (k := 0) 3 rfl dX0_endHour_28 ?_
        refine v_getR hC (pc := 29) dX0_endHour_29 fl_X0_37 rfl (by first | rfl | exact ok_c hq rfl | exact ok_w hq hw | exact ok_w (by omega) (by omega) | exact ok_s (by omega) (by omega) | exact ok_c (by omega) rfl | assumption) rfl (by decide) (by decide) rfl ?_
        refine v_iload_n hC (pc := 32) (k := 2) 1 rfl dX0_endHour_32 ?_
        refine v_iald hC (pc := 33) dX0_endHour_33 rfl (by first | rfl | exact ok_c hq rfl | exact ok_w hq hw | exact ok_w (by omega) (by omega) | exact ok_s (by omega) (by omega) | exact ok_c (by omega) rfl | assumption) (vp_nat (by omega) (by decide)) ?_
        refine v_aload_n hC (pc := 34) (k := 0) 3 rfl dX0_endHour_34 ?_
        refine v_getR hC (pc := 35) dX0_endHour_35 fl_X0_17 rfl (by first | rfl | exact ok_c hq rfl | exact ok_w hq hw | exact ok_w (by omega) (by omega) | exact ok_s (by omega) (by omega) | exact ok_c (by omega) rfl | assumption) rfl (by decide) (by decide) rfl ?_
        refine v_iload_n hC (pc := 38) (k := 3) 0 rfl dX0_endHour_38 ?_
        refine v_aald hC (pc := 39) 5 dX0_endHour_39 rfl (by decide) (fun _ => rfl) (by first | rfl | exact ok_c hq rfl | exact ok_w hq hw | exact ok_w (by omega) (by omega) | exact ok_s (by omega) (by omega) | exact ok_c (by omega) rfl | assumption) (vp_nat (by omega) (by decide)) (by rw [nI_clamp (by omega)]; rfl) ?_
        refine v_getI hC (pc := 40) dX0_endHour_40 fl_X0_75 rfl (by first | rfl | exact ok_c hq rfl | exact ok_w hq hw | exact ok_w (by omega) (by omega) | exact ok_s (by omega) (by omega) | exact ok_c (by omega) rfl | assumption) rfl (by decide) (by decide) ?_
        refine v_aload_n hC (pc := 43) (k := 0) 3 rfl dX0_endHour_43 ?_
        refine v_getR hC (pc := 44) dX0_endHour_44 fl_X0_37 rfl (by first | rfl | exact ok_c hq rfl | exact ok_w hq hw | exact ok_w (by omega) (by omega) | exact ok_s (by omega) (by omega) | exact ok_c (by omega) rfl | assumption) rfl (by decide) (by decide) rfl ?_
        refine v_iload_n hC (pc := 47) (k := 3) 0 rfl dX0_endHour_47 ?_
        refine v_iald hC (pc := 48) dX0_endHour_48 rfl (by first | rfl | exact ok_c hq rfl | exact ok_w hq hw | exact ok_w (by omega) (by omega) | exact ok_s (by omega) (by omega) | exact ok_c (by omega) rfl | assumption) (vp_nat (by omega) (by decide)) ?_
        refine v_callN hC (pc := 49) (As := [_, _, _, _]) dX0_endHour_49 rfl (t_isHeadOn _ _ (d := d - 1) (by omega) _ _ _ _ _) cn_X0_127 (Nat.le_of_ble_eq_true rfl) (by omega) (fun r h' hr => ?_)
        obtain ⟨rfl, rfl⟩ := hr
        show V _ _ _ (49 + 3) _ (_ :: _) _
        rw [nI_clamp (show w < 2 ^ 31 by omega), nI_clamp (show v < 2 ^ 31 by omega)]
        refine v_ifb_eq hC (pc := 52) (tgt := 58) dX0_endHour_52 (by decide) (fun c_52 => ?_) (fun c_52 => ?_)
        · skip
          refine v_iinc hC (pc := 58) (l' := [(3, _), (2, _), (1, _), (0, _)]) 0 (v := nI (v + 1)) dX0_endHour_58 rfl (nI_inc v) (by decide) rfl ?_
          refine v_goto hC (pc := 61) (tgt := 14) dX0_endHour_61 (by decide) ?_
          refine ih (v + 1) _ (by omega) (by omega) ?_
          rw [itN_s, ← ha, ccS]
          first | (rw [if_pos c_52]; rfl) | rw [if_neg c_52]
        · skip
          refine v_iinc hC (pc := 55) (l' := [(1, _), (3, _), (2, _), (0, _)]) 2 dX0_endHour_55 rfl rfl (by decide) rfl ?_
          refine v_iinc hC (pc := 58) (l' := [(3, _), (1, _), (2, _), (0, _)]) 1 (v := nI (v + 1)) dX0_endHour_58 rfl (nI_inc v) (by decide) rfl ?_
          refine v_goto hC (pc := 61) (tgt := 14) dX0_endHour_61 (by decide) ?_
          refine v_loc (l' := [(3, _), (2, _), (1, _), (0, _)]) [0, 2, 1, 3] rfl ?_
          refine ih (v + 1) _ (by omega) (by omega) ?_
          rw [itN_s, ← ha, ccS]
          first | (rw [if_pos c_52]; rfl) | rw [if_neg c_52]
  have outer : ∀ (n w : Nat) (a : Int32), w ≤ nW → nW + 1 ≤ w + n → a = itN (ccW (fun w => h.1 (6, q, w) 0) (h.1 (0, q, 13))) w 0 → V X G 4 4 [(2, vi (nI w)), (1, vi a), (0, vr (0, q, 0))] [] h := by
    intro n
    induction n with
    | zero => intro w a h1 h2; exact absurd h2 (by omega)
    | succ n ih =>
      intro w a h1 h2 ha
      refine v_iload_n hC (pc := 4) (k := 2) 0 rfl dX0_endHour_4 ?_
      refine v_aload_n hC (pc := 5) (k := 0) 2 rfl dX0_endHour_5 ?_
      refine v_getI hC (pc := 6) dX0_endHour_6 fl_X0_59 rfl (by first | rfl | exact ok_c hq rfl | exact ok_w hq hw | exact ok_w (by omega) (by omega) | exact ok_s (by omega) (by omega) | exact ok_c (by omega) rfl | assumption) rfl (by decide) (by decide) ?_
      refine v_icmp_ge hC (pc := 9) (tgt := 70) dX0_endHour_9 (by decide) (fun c_9 => ?_) (fun c_9 => ?_)
      · skip
        have hi : w = nW := lp_ex (by rw [← hnw]; exact c_9) h1 (by omega)
        subst hi
        exact fin a ha
      · skip
        have hi : w < nW := lp_in (by rw [← hnw]; exact c_9) h1 (by omega)
        refine v_iconst hC (pc := 12) (v := 0) (by decide) dX0_endHour_12 ?_
        refine v_istore_n hC (pc := 13) (l' := [(3, _), (2, _), (1, _), (0, _)]) dX0_endHour_13 (by decide) rfl ?_
        refine inner w hi a (fun a2 h9 => ?_) (w + 1) 0 a (Nat.zero_le _) (by omega) rfl
        refine v_iinc hC (pc := 64) (l' := [(2, _), (3, _), (1, _), (0, _)]) 1 (v := nI (w + 1)) dX0_endHour_64 rfl (nI_inc w) (by decide) rfl ?_
        refine v_goto hC (pc := 67) (tgt := 4) dX0_endHour_67 (by decide) ?_
        refine v_loc (l' := [(2, _), (1, _), (0, _)]) [0, 2, 3] rfl ?_
        exact ih (w + 1) _ (by omega) (by omega) (by rw [itN_s, ← ha, h9])
  refine v_iconst hC (pc := 0) (v := 0) (by decide) dX0_endHour_0 ?_
  refine v_istore_n hC (pc := 1) (l' := [(1, _), (0, _)]) dX0_endHour_1 (by decide) rfl ?_
  refine v_iconst hC (pc := 2) (v := 0) (by decide) dX0_endHour_2 ?_
  refine v_istore_n hC (pc := 3) (l' := [(2, _), (1, _), (0, _)]) dX0_endHour_3 (by decide) rfl ?_
  refine outer (nW + 1) 0 0 (Nat.zero_le _) (by omega) rfl

