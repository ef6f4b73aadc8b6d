/-! THE TEXT: all of it, as the reference reads it -/
theorem tE_m {T : Nat → Int32} {t e : Nat} (h : e ≤ t) : e ≤ tE T t e ∧ tE T t e ≤ t := by
  have h1 := tF_b (T := T) h
  have h2 := tE_b (T := T) h
  omega
theorem D82_or : ∀ m, m < 32 → ∀ k, k < 5 → (nI m ||| (1 <<< (nI k &&& 31))) = nI (m ||| 2 ^ k) ∧ (m ||| 2 ^ k) < 32 := by decide +kernel
section TX
variable {T : Nat → Int32} {t : Nat}
theorem WD_82 {D : Nat → Int32} {k : Nat} (h : WD D) (hk : k < 5) : WD (upd D 82 (D 82 ||| (1 <<< (nI k &&& 31)))) := by
  obtain ⟨h1, ⟨⟨m, hm, em⟩, h3, h4, h5⟩, h6⟩ := h
  refine ⟨W1_c h1 (fun k hk _ _ => updo (by omega)), ⟨?_, fun c s hc hs => by rw [updo (by omega)]; exact h3 c s hc hs, fun c s hc hs => by rw [updo (by omega), updo (by omega)]; exact h4 c s hc hs, by rw [updo (by omega)]; exact h5⟩, W3_c h6 (fun k hk => updo (by omega))⟩
  rw [updi, em, (D82_or m hm k hk).1]
  exact ⟨_, (D82_or m hm k hk).2, rfl⟩
theorem linK_i {k : Nat} {a c : PA} (h : linK T t k a = .inr c) (ha : a.1 ≤ t) (hW : WD a.2) (hk : k < 8) (hn : 6 ≤ k → a.2 81 < 4) : a.1 ≤ c.1 ∧ c.1 ≤ t ∧ WD c.2 := by
  have p1 := tE_m (T := T) ha
  have p2 := tE_m (T := T) p1.2
  have p3 := tE_m (T := T) p2.2
  have str : ∀ s, s < 2 → strS T t s a = .inr c → a.1 ≤ c.1 ∧ c.1 ≤ t ∧ WD c.2 := by
    intro s hs h
    obtain ⟨c9, e9, h1, h2, -, -, h5, h6⟩ := strS_i h
    rw [h6]
    exact ⟨by show a.1 ≤ tE T t (tE T t a.1); omega, by show tE T t (tE T t a.1) ≤ t; omega, WD_str hW hs h1 h2 h5 rfl⟩
  have wlk : ∀ kp : Int32, kp = 0 ∨ kp = 1 → a.2 81 < 4 → wlkS T t (a.2 81).toNatClampNeg kp a = .inr c → a.1 ≤ c.1 ∧ c.1 ≤ t ∧ WD c.2 := by
    intro kp hkp h81 h
    obtain ⟨n, h1, h2, -⟩ := id hW.1
    have hn4 : n < 4 := Nat.lt_of_not_le (fun q => absurd (show nI n < nI 4 by rw [← h2]; exact h81) (nI_nlt q (by omega)))
    rw [h2, nI_clamp (by omega)] at h
    obtain ⟨c9, sd, l, k1, k2, k3, k4, -, -, -, k6⟩ := wlkS_i h
    refine ⟨by rw [k4]; omega, by rw [k4]; omega, ?_⟩
    generalize rtN T (tF T t (tE T t (tE T t a.1))) l = bits at k6
    refine WD_wlk (n := n) (c := c9) (sd := sd) (l := l) (kp := kp) (bits := bits) hW hn4 h2 k1 k2 k3 hkp ?_ ?_ ?_ ?_ ?_ ?_ ?_ ?_
    · rw [k6]; repeat (first | exact updi _ _ _ | rw [updo (by omega)])
    · rw [k6]; repeat (first | exact updi _ _ _ | rw [updo (by omega)])
    · rw [k6]; repeat (first | exact updi _ _ _ | rw [updo (by omega)])
    · rw [k6]; repeat (first | exact updi _ _ _ | rw [updo (by omega)])
    · rw [k6]; repeat (first | exact updi _ _ _ | rw [updo (by omega)])
    · rw [k6]; repeat (first | exact updi _ _ _ | rw [updo (by omega)])
    · rw [k6, updi]; repeat (first | (rw [h2]; exact nI_1 n) | rw [updo (by omega)])
    · intro k q1 q2 q3
      rw [k6, updo q2, updo (by omega), updo (by omega), updo (by omega), updo (by omega), updo (by omega), updo (by omega), updo q3]
  rcases (show k = 0 ∨ k = 1 ∨ k = 2 ∨ k = 3 ∨ k = 4 ∨ k = 5 ∨ k = 6 ∨ k = 7 by omega) with e | e | e | e | e | e | e | e <;> subst e
  · exact str 0 (by decide) h
  · exact str 1 (by decide) h
  · rw [linK_2] at h
    obtain ⟨b, h1, h2, h3⟩ := mpE_p h
    obtain ⟨-, hv, rfl⟩ := numS_i h1
    have h2' : tE T t a.1 = c.1 := h2
    refine ⟨by omega, by omega, ?_⟩
    rw [h3]
    obtain ⟨m, hm, em⟩ := nI_of2 (x := tV T t a.1) (M := 8) (n := 8) (by decide) (fun z => hv.1 (Int32.lt_trans z (by decide))) (Int32.not_lt.mp hv.2)
    have hm2 : 2 ≤ m := Nat.le_of_not_lt (fun q => hv.1 (by rw [em]; exact nI_lt q (by decide)))
    refine ⟨W1_c hW.1 (fun k hk _ _ => updo (by omega)), W2_c hW.2.1 (fun k hk => updo (by omega)), ⟨m, hm2, hm, ?_⟩, ?_, ?_, ?_, ?_⟩
    · show upd a.2 80 _ 80 = _; rw [updi]; exact em
    · show ∃ m, m < 24 ∧ upd a.2 80 _ 17 = _; rw [updo (by omega)]; exact hW.2.2.2.1
    · intro g hg; show ∃ m, m ≤ 9 ∧ upd a.2 80 _ (43 + g) = _; rw [updo (by omega)]; exact hW.2.2.2.2.1 g hg
    · show upd a.2 80 _ 42 = _; rw [updo (by omega)]; exact hW.2.2.2.2.2.1
    · show upd a.2 80 _ 47 = _; rw [updo (by omega)]; exact hW.2.2.2.2.2.2
  · rw [linK_3] at h
    obtain ⟨b, h1, h2, h3⟩ := mpE_p h
    obtain ⟨-, hv, rfl⟩ := numS_i h1
    have h2' : tE T t a.1 = c.1 := h2
    refine ⟨by omega, by omega, ?_⟩
    rw [h3]
    obtain ⟨m, hm, em⟩ := nI_of2 (x := tV T t a.1) (M := 23) (n := 23) (by decide) hv.1 (Int32.not_lt.mp hv.2)
    refine ⟨W1_c hW.1 (fun k hk q _ => updo q), W2_c hW.2.1 (fun k hk => updo (by omega)), ?_, ⟨m, by omega, ?_⟩, ?_, ?_, ?_⟩
    · show ∃ m, 2 ≤ m ∧ m ≤ 8 ∧ upd a.2 17 _ 80 = _; rw [updo (by omega)]; exact hW.2.2.1
    · show upd a.2 17 _ 17 = _; rw [updi]; exact em
    · intro g hg; show ∃ m, m ≤ 9 ∧ upd a.2 17 _ (43 + g) = _; rw [updo (by omega)]; exact hW.2.2.2.2.1 g hg
    · show upd a.2 17 _ 42 = _; rw [updo (by omega)]; exact hW.2.2.2.2.2.1
    · show upd a.2 17 _ 47 = _; rw [updo (by omega)]; exact hW.2.2.2.2.2.2
  · rw [linK_4] at h
    obtain ⟨⟨q1, q2⟩, q3, q4⟩ := glN_i h ha
    refine ⟨q1, q2, W1_c hW.1 (fun k hk _ _ => q3 k (by omega)), W2_c hW.2.1 (fun k hk => q3 k (by omega)), ?_, ?_, fun g hg => ?_, ?_, ?_⟩
    · rw [q3 80 (by omega)]; exact hW.2.2.1
    · rw [q3 17 (by omega)]; exact hW.2.2.2.1
    · exact q4 g hg
    · rw [q3 42 (by omega)]; exact hW.2.2.2.2.2.1
    · rw [q3 47 (by omega)]; exact hW.2.2.2.2.2.2
  · have h9 : sgnS T t a = .inr c := h
    obtain ⟨c9, k1, -, -, k4⟩ := sgnS_i h9
    rw [k4]
    exact ⟨p1.1, p1.2, WD_sgn hW k1 rfl⟩
  · exact wlk 0 (Or.inl rfl) (hn (by decide)) h
  · exact wlk 1 (Or.inr rfl) (hn (by decide)) h
theorem tlS_i {k : Nat} {a b : PA} (h : tlS T t k a = .inr b) (ha : a.1 ≤ t) (hW : WD a.2) (hk : k < 8) (hn : 6 ≤ k → a.2 81 < 4) : a.1 < b.1 ∧ b.1 ≤ t ∧ WD b.2 := by
  unfold tlS at h
  obtain ⟨c, h1, h2⟩ := bdE_p h
  obtain ⟨c2, h3, h4⟩ := bdE_p h1
  obtain ⟨e1, e2, -⟩ := chk_p h4
  obtain ⟨e4, -⟩ := adv_p h2
  obtain ⟨q1, q2, q3⟩ := linK_i h3 ha hW hk hn
  have p1 := tF_b (T := T) q2
  have p2 := tE_b (T := T) q2
  have p3 := tE_g (T := T) q2 (by rw [e2]; decide)
  rw [e4, e1]
  exact ⟨by show a.1 < tE T t c2.1; omega, by show tE T t c2.1 ≤ t; omega, q3⟩
theorem linS_i {a b : PA} (h : linS T t a = .inr b) (ha : a.1 ≤ t) (hW : WD a.2) : a.1 < b.1 ∧ b.1 ≤ t ∧ WD b.2 := by
  have hk8 := kkN_le T t a.1
  have p1 := tE_m (T := T) ha
  by_cases h8 : kkN T t a.1 = 8
  · rw [linS_8 h8] at h; cases h
  · by_cases h5 : 6 ≤ kkN T t a.1 ∧ ¬ a.2 81 < 4
    · rw [linS_5 h8 h5] at h; cases h
    · by_cases h24 : 2 ≤ kkN T t a.1 ∧ kkN T t a.1 ≤ 4
      · by_cases hq : (a.2 82 >>> (nI (kkN T t a.1) &&& 31)) &&& 1 = 0
        · rw [linS_t h8 h5 h24 hq] at h
          obtain ⟨q1, q2, q3⟩ := tlS_i h p1.2 (WD_82 hW (by omega)) (by omega) (fun z => absurd z (by omega))
          exact ⟨by have : tE T t a.1 < b.1 := q1; omega, q2, q3⟩
        · rw [linS_4 h8 h5 h24 hq] at h; cases h
      · rw [linS_p h8 h5 h24] at h
        obtain ⟨q1, q2, q3⟩ := tlS_i h p1.2 hW (by omega) (fun z => Classical.not_not.mp (fun y => h5 ⟨z, y⟩))
        exact ⟨by have : tE T t a.1 < b.1 := q1; omega, q2, q3⟩
end TX
section TX
variable (T : Nat → Int32) (t : Nat)
noncomputable def txS : Nat → Nat → PA → Sum PE (Nat × PA)
  | 0, m, a => .inr (m, a)
  | n + 1, m, a => iteP (tB T t a.1) (.inl (1, tF T t a.1)) (iteP (tK T t a.1 = 0) (.inr (m, a)) (bdE (linS T t a) (txS n (m + 1))))
noncomputable def finS (z : Nat × PA) : Sum PE (Nat × (Nat → Int32)) := iteP (z.2.2 85 < z.2.2 80) (.inr (z.1, z.2.2)) (.inl (6, tF T t z.2.1))
def dr0 : Nat → Int32 := fun k => if k < 16 then -4 else if k = 80 then 4 else if k = 85 then -4 else 0
noncomputable def txE : Sum PE (Nat × (Nat → Int32)) := bdE (txS T t (t + 1) 0 (0, dr0)) (finS T t)
end TX
theorem WD_0 : WD dr0 := by
  have hs : ∀ c s, c < 8 → s < 2 → dr0 (8 * s + c) = -4 := fun c s hc hs => if_pos (by omega)
  have hm : ∀ p, p < 8 → ¬ hiM dr0 0 p := by
    rintro p hp (⟨c, s, a1, a2, a3, -⟩ | a | ⟨w, a1, -⟩)
    · exact a3 (hs c s a1 a2)
    · exact absurd a ((by decide +kernel : ∀ p, p < 8 → ¬ ((0 : Int32) >>> (nI p &&& 31)) &&& 1 = 1) p hp)
    · omega
  refine ⟨⟨0, by decide, rfl, fun w hw => absurd hw (Nat.not_lt_zero _), fun p hp z => absurd z (hm p hp), Or.inl (by decide)⟩, ⟨⟨0, by decide, rfl⟩, fun c s hc h9 => Or.inl (hs c s hc h9), fun c s hc h9 z => absurd (hs c s hc h9) z, fun p hp hp2 => (by decide +kernel : ∀ p, p < 32 → ¬ ((0 : Int32) >>> (nI p &&& 31)) &&& 1 = 1) p hp2⟩, ⟨4, by decide, by decide, rfl⟩, ⟨0, by decide, rfl⟩, fun g hg => ⟨0, by decide, ?_⟩, rfl, rfl⟩
  unfold dr0
  rw [if_neg (by omega), if_neg (by omega), if_neg (by omega)]; rfl
theorem RE_R {h0 h : HP} {f : Nat → Int32} (h1 : RE h0 h) : RE h0 (upR h (3, 0, 6) f) := ⟨fun i a b c => by rw [upR_ne _ _ b]; exact h1.1 i a b c, h1.2.1, fun m hm => by rw [upR_ne _ _ (by decide)]; exact h1.2.2 m hm⟩
def fdH (h : HP) : HP := upI (upI (upI (upI (upI (upI (upR h (3, 0, 6) (dftF (h.1 (3, 0, 6)) 80)) (3, 0, 0) 6 4) (3, 0, 0) 7 0) (3, 0, 0) 8 0) (3, 0, 10) 0 0) (3, 0, 10) 1 0) (3, 0, 0) 10 (-4)
theorem fdH_DM (h : HP) : DM (fdH h) dr0 := by
  refine ⟨fun k hk => ?_, ?_, ?_, ?_, ?_, ?_, ?_⟩
  · have e : (fdH h).1 (3, 0, 6) k = dftF (h.1 (3, 0, 6)) 80 k := by simp [fdH, upI, upR]
    rw [e]
    unfold dftF dr0
    rw [if_pos hk]
    by_cases q : k < 16
    · rw [if_pos q, if_pos q]
    · rw [if_neg q, if_neg q, if_neg (by omega), if_neg (by omega)]
  all_goals simp [fdH, upI, upR, dr0]
theorem fdH_k (h : HP) (k : Nat) (hk : 11 ≤ k) : (fdH h).1 (3, 0, 0) k = h.1 (3, 0, 0) k := by
  simp [fdH, upI, upR, show ¬ k = 6 by omega, show ¬ k = 7 by omega, show ¬ k = 8 by omega, show ¬ k = 10 by omega]
theorem fdH_RE {h0 h : HP} (h1 : RE h0 h) : RE h0 (fdH h) := by
  unfold fdH
  exact RE_f (RE_c (RE_c (RE_f (RE_f (RE_f (RE_R h1) (by decide)) (by decide)) (by decide)))) (by decide)
def kdH (h : HP) : HP := upI (upI (upI (upI (upR h (3, 0, 1) (cpR (h.1 (3, 0, 1)) (h.1 (3, 0, 6)) 80)) (3, 0, 0) 3 (h.1 (3, 0, 0) 6)) (3, 0, 0) 4 (h.1 (3, 0, 0) 7)) (3, 0, 3) 0 0) (3, 0, 3) 1 0
/-- what text() answers and leaves -/
def TXP (T : Nat → Int32) (t : Nat) (h : HP) (r : Option PV) (h1 : HP) : Prop := (∃ c f, txE T t = .inl (c, f) ∧ r = some (vi (-10 - nI f)) ∧ ∃ u, RE h u ∧ u.1 (3, 0, 0) 17 = c ∧ 0 < c ∧ h1 = upI u (3, 0, 0) 12 0) ∨ ∃ m D, txE T t = .inr (m, D) ∧ WD D ∧ D 85 < D 80 ∧ r = some (vi (nI m)) ∧ ∃ u, RE h u ∧ u.1 (3, 0, 0) 17 = 0 ∧ DM u D ∧ h1 = kdH (upI u (3, 0, 0) 12 0)
section TX
variable {T : Nat → Int32} {t : Nat}
theorem txS_b {n m : Nat} {a : PA} (h : tB T t a.1) : txS T t (n + 1) m a = .inl (1, tF T t a.1) := iteP_t h
theorem txS_e {n m : Nat} {a : PA} (h : ¬ tB T t a.1) (h2 : tK T t a.1 = 0) : txS T t (n + 1) m a = .inr (m, a) := (iteP_f h).trans (iteP_t h2)
theorem txS_l {n m : Nat} {a : PA} (h : ¬ tB T t a.1) (h2 : ¬ tK T t a.1 = 0) : txS T t (n + 1) m a = bdE (linS T t a) (txS T t n (m + 1)) := (iteP_f h).trans (iteP_f h2)
end TX
set_option maxRecDepth 20000 in
set_option maxHeartbeats 2000000 in
theorem m_text (l9 : Launch) (G : WT) {d : Nat} (hd : 7 ≤ d) {T : Nat → Int32} {t : Nat} (h : HP) (ht : t ≤ 160) (htp : h.1 (3, 0, 0) 12 = nI t) (hT : h.1 (3, 0, 12) = T) (hT0 : ∀ j, j < t → ¬ T j < 0) : MS l9 G yX7_text cX7_text 2 (some .int) d [vr (3, 0, 0)] h (fun r h1 => TXP T t h r h1) := by
  refine MS_of (by decide +kernel) (Nat.le_of_ble_eq_true rfl) (fun X hC hX => ?_)
  show V X G 2 0 _ [] _
  have hR : RE h (fdH (upI (upI h (3, 0, 0) 17 0) (3, 0, 0) 13 0)) := fdH_RE (RE_f (RE_f (RE_r h) (by decide)) (by decide))
  have F73 : ∀ (m : Nat) (u : HP) (c : Int32) (f : Nat), FlS h u c f → txE T t = .inl (c, f) → V X G 2 73 [(1, vi (nI m)), (0, vr (3, 0, 0))] [] u := by
    intro m u c f hF hsp
    refine v_aload_n hC (pc := 73) (k := 0) 1 rfl dX7_text_73 ?_
    refine v_iconst hC (pc := 74) (v := 0) (by decide) dX7_text_74 ?_
    refine v_putI hC (pc := 75) dX7_text_75 fs_X7_88 rfl (by first | rfl | exact ok_c hq rfl | exact ok_w hq hw | exact ok_w (by omega) (by omega) | exact ok_s (by omega) (by omega) | exact ok_c (by omega) rfl | assumption) rfl (by decide) (by decide) ?_
    refine v_aload_n hC (pc := 78) (k := 0) 1 rfl dX7_text_78 ?_
    refine v_getI hC (pc := 79) dX7_text_79 fl_X7_91 rfl (by first | rfl | exact ok_c hq rfl | exact ok_w hq hw | exact ok_w (by omega) (by omega) | exact ok_s (by omega) (by omega) | exact ok_c (by omega) rfl | assumption) rfl (by decide) (by decide) ?_
    rw [upI_k _ _ _ _ _ (by decide)]
    refine v_if_le hC (pc := 82) (tgt := 93) dX7_text_82 (by decide) (fun c_82 => ?_) (fun c_82 => ?_)
    · exact absurd hF.2.2.1 (Int32.not_lt.mpr (by rw [← hF.2.1]; exact c_82))
    · skip
      refine v_bipush hC (pc := 85) (v := (-10)) (by decide +kernel) dX7_text_85 ?_
      refine v_aload_n hC (pc := 87) (k := 0) 1 rfl dX7_text_87 ?_
      refine v_getI hC (pc := 88) dX7_text_88 fl_X7_97 rfl (by first | rfl | exact ok_c hq rfl | exact ok_w hq hw | exact ok_w (by omega) (by omega) | exact ok_s (by omega) (by omega) | exact ok_c (by omega) rfl | assumption) rfl (by decide) (by decide) ?_
      rw [upI_k _ _ _ _ _ (by decide), hF.2.2.2]
      refine v_isub hC (pc := 91) dX7_text_91 ?_
      refine v_iret hC hX (pc := 92) dX7_text_92 ?_
      exact Or.inl ⟨c, f, hsp, rfl, u, hF.1, hF.2.1, hF.2.2.1, rfl⟩
  have EXF : ∀ (m : Nat) (u : HP) (c : Int32) (f : Nat), FlS h u c f → txE T t = .inl (c, f) → V X G 2 44 [(1, vi (nI m)), (0, vr (3, 0, 0))] [] u := by
    intro m u c f hF hsp
    refine v_aload_n hC (pc := 44) (k := 0) 1 rfl dX7_text_44 ?_
    refine v_getI hC (pc := 45) dX7_text_45 fl_X7_91 rfl (by first | rfl | exact ok_c hq rfl | exact ok_w hq hw | exact ok_w (by omega) (by omega) | exact ok_s (by omega) (by omega) | exact ok_c (by omega) rfl | assumption) rfl (by decide) (by decide) ?_
    refine v_if_ne hC (pc := 48) (tgt := 73) dX7_text_48 (by decide) (fun c_48 => ?_) (fun c_48 => ?_)
    · skip
      exact F73 m u c f hF hsp
    · exact absurd hF.2.2.1 (by rw [← hF.2.1, c_48]; exact Int32.lt_irrefl)
  have EXG : ∀ (m : Nat) (u : HP) (a : PA), GoS T t h u a → WD a.2 → txE T t = bdE (.inr (m, a)) (finS T t) → V X G 2 44 [(1, vi (nI m)), (0, vr (3, 0, 0))] [] u := by
    intro m u a hG hW hsp
    have X1 : a.2 85 < a.2 80 → V X G 2 68 [(1, vi (nI m)), (0, vr (3, 0, 0))] [vi 1, vr (3, 0, 0)] u := by
      intro hlt
      refine v_bipush hC (pc := 68) (v := 6) (by decide +kernel) dX7_text_68 ?_
      refine v_callV hC (pc := 70) (As := [_, _]) dX7_text_70 rfl (nd_1 _ _ (d := d - 1) (by omega) _ _) cv_X7_133 rfl (by decide) rfl (by first | rfl | exact ok_c hq rfl | exact ok_w hq hw | exact ok_w (by omega) (by omega) | exact ok_s (by omega) (by omega) | exact ok_c (by omega) rfl | assumption) (Nat.le_of_ble_eq_true rfl) (by omega) (fun r h' hr => ?_)
      obtain ⟨he9, rfl⟩ := hr
      rw [he9]
      clear he9 h'
      show V _ _ _ (70 + 3) _ _ _
      refine v_aload_n hC (pc := 73) (k := 0) 1 rfl dX7_text_73 ?_
      refine v_iconst hC (pc := 74) (v := 0) (by decide) dX7_text_74 ?_
      refine v_putI hC (pc := 75) dX7_text_75 fs_X7_88 rfl (by first | rfl | exact ok_c hq rfl | exact ok_w hq hw | exact ok_w (by omega) (by omega) | exact ok_s (by omega) (by omega) | exact ok_c (by omega) rfl | assumption) rfl (by decide) (by decide) ?_
      refine v_aload_n hC (pc := 78) (k := 0) 1 rfl dX7_text_78 ?_
      refine v_getI hC (pc := 79) dX7_text_79 fl_X7_91 rfl (by first | rfl | exact ok_c hq rfl | exact ok_w hq hw | exact ok_w (by omega) (by omega) | exact ok_s (by omega) (by omega) | exact ok_c (by omega) rfl | assumption) rfl (by decide) (by decide) ?_
      rw [upI_k _ _ _ _ _ (by decide)]
      refine v_if_le hC (pc := 82) (tgt := 93) dX7_text_82 (by decide) (fun c_82 => ?_) (fun c_82 => ?_)
      · skip
        refine v_aload_n hC (pc := 93) (k := 0) 1 rfl dX7_text_93 ?_
        refine v_callV hC (pc := 94) (As := []) dX7_text_94 rfl (m_keepDraft _ _ (d := d - 1) (by omega) _) cv_X7_60 rfl (by decide) rfl (by first | rfl | exact ok_c hq rfl | exact ok_w hq hw | exact ok_w (by omega) (by omega) | exact ok_s (by omega) (by omega) | exact ok_c (by omega) rfl | assumption) (Nat.le_of_ble_eq_true rfl) (by omega) (fun r h' hr => ?_)
        obtain ⟨rfl, rfl⟩ := hr
        show V _ _ _ (94 + 3) _ _ _
        refine v_iload_n hC (pc := 97) (k := 1) 0 rfl dX7_text_97 ?_
        refine v_iret hC hX (pc := 98) dX7_text_98 ?_
        refine Or.inr ⟨m, a.2, ?_, hW, hlt, rfl, u, hG.1, hG.2.2.2.2.1, hG.2.2.2.1, rfl⟩
        rw [hsp]
        show finS T t (m, a) = _
        unfold finS
        rw [iteP_t hlt]
      · exact absurd (by rw [hG.2.2.2.2.1]; exact Int32.le_refl _) c_82
    have X0 : ¬ a.2 85 < a.2 80 → V X G 2 68 [(1, vi (nI m)), (0, vr (3, 0, 0))] [vi 0, vr (3, 0, 0)] u := by
      intro hlt
      refine v_bipush hC (pc := 68) (v := 6) (by decide +kernel) dX7_text_68 ?_
      refine v_callV hC (pc := 70) (As := [_, _]) dX7_text_70 rfl (nd_0 _ _ (d := d - 1) (by omega) _ _ hG.2.2.2.2.1) cv_X7_133 rfl (by decide) rfl (by first | rfl | exact ok_c hq rfl | exact ok_w hq hw | exact ok_w (by omega) (by omega) | exact ok_s (by omega) (by omega) | exact ok_c (by omega) rfl | assumption) (Nat.le_of_ble_eq_true rfl) (by omega) (fun r h' hr => ?_)
      obtain ⟨he9, rfl⟩ := hr
      rw [he9]
      clear he9 h'
      show V _ _ _ (70 + 3) _ _ _
      exact F73 m _ 6 (tF T t a.1) (GoS_nf hG (by decide)) (by rw [hsp]; show finS T t (m, a) = _; unfold finS; rw [iteP_f hlt])
    refine v_aload_n hC (pc := 44) (k := 0) 1 rfl dX7_text_44 ?_
    refine v_getI hC (pc := 45) dX7_text_45 fl_X7_91 rfl (by first | rfl | exact ok_c hq rfl | exact ok_w hq hw | exact ok_w (by omega) (by omega) | exact ok_s (by omega) (by omega) | exact ok_c (by omega) rfl | assumption) rfl (by decide) (by decide) ?_
    refine v_if_ne hC (pc := 48) (tgt := 73) dX7_text_48 (by decide) (fun c_48 => ?_) (fun c_48 => ?_)
    · exact absurd hG.2.2.2.2.1 c_48
    · skip
      refine v_aload_n hC (pc := 51) (k := 0) 1 rfl dX7_text_51 ?_
      refine v_aload_n hC (pc := 52) (k := 0) 1 rfl dX7_text_52 ?_
      refine v_getI hC (pc := 53) dX7_text_53 fl_X7_73 rfl (by first | rfl | exact ok_c hq rfl | exact ok_w hq hw | exact ok_w (by omega) (by omega) | exact ok_s (by omega) (by omega) | exact ok_c (by omega) rfl | assumption) rfl (by decide) (by decide) ?_
      refine v_aload_n hC (pc := 56) (k := 0) 1 rfl dX7_text_56 ?_
      refine v_getI hC (pc := 57) dX7_text_57 fl_X7_63 rfl (by first | rfl | exact ok_c hq rfl | exact ok_w hq hw | exact ok_w (by omega) (by omega) | exact ok_s (by omega) (by omega) | exact ok_c (by omega) rfl | assumption) rfl (by decide) (by decide) ?_
      rw [hG.2.2.2.1.2.2.2.2.2.2, hG.2.2.2.1.2.1]
      refine v_icmp_ge hC (pc := 60) (tgt := 67) dX7_text_60 (by decide) (fun c_60 => ?_) (fun c_60 => ?_)
      · skip
        refine v_iconst hC (pc := 67) (v := 0) (by decide) dX7_text_67 ?_
        exact X0 (Int32.not_lt.mpr c_60)
      · skip
        refine v_iconst hC (pc := 63) (v := 1) (by decide) dX7_text_63 ?_
        refine v_goto hC (pc := 64) (tgt := 68) dX7_text_64 (by decide) ?_
        exact X1 (Int32.not_le.mp c_60)
  have LOOP : ∀ (n m : Nat) (u : HP) (x : Sum PE PA), RS T t h u x → (∀ a, x = .inr a → a.1 ≤ t ∧ WD a.2 ∧ t + 1 ≤ a.1 + n) → bdE (bdE x (txS T t n m)) (finS T t) = txE T t → V X G 2 20 [(1, vi (nI m)), (0, vr (3, 0, 0))] [] u := by
    intro n
    induction n with
    | zero =>
      intro m u x hx hxa hsp
      cases x with
      | inl e =>
        refine v_aload_n hC (pc := 20) (k := 0) 1 rfl dX7_text_20 ?_
        refine v_getI hC (pc := 21) dX7_text_21 fl_X7_91 rfl (by first | rfl | exact ok_c hq rfl | exact ok_w hq hw | exact ok_w (by omega) (by omega) | exact ok_s (by omega) (by omega) | exact ok_c (by omega) rfl | assumption) rfl (by decide) (by decide) ?_
        refine v_if_ne hC (pc := 24) (tgt := 44) dX7_text_24 (by decide) (fun c_24 => ?_) (fun c_24 => ?_)
        · skip
          exact EXF m u e.1 e.2 hx (by rw [← hsp]; rfl)
        · exact absurd hx.2.2.1 (by rw [← hx.2.1, c_24]; exact Int32.lt_irrefl)
      | inr a => obtain ⟨q1, -, q2⟩ := hxa a rfl; omega
    | succ n ih =>
      intro m u x hx hxa hsp
      refine v_aload_n hC (pc := 20) (k := 0) 1 rfl dX7_text_20 ?_
      refine v_getI hC (pc := 21) dX7_text_21 fl_X7_91 rfl (by first | rfl | exact ok_c hq rfl | exact ok_w hq hw | exact ok_w (by omega) (by omega) | exact ok_s (by omega) (by omega) | exact ok_c (by omega) rfl | assumption) rfl (by decide) (by decide) ?_
      refine v_if_ne hC (pc := 24) (tgt := 44) dX7_text_24 (by decide) (fun c_24 => ?_) (fun c_24 => ?_)
      · skip
        skip
        first
          | exact (by
              have hK0 : tK T t a.1 = 0 := (nI_eq (by have := tK_le T t a.1; omega) (by decide)).mp c_31
              refine EXG m u a hG hW ?_
              rw [← hsp, bdE_r]
              show bdE (txS T t (n + 1) m a) (finS T t) = _
              rw [txS_e hG.2.1 hK0])
          | exact (by
              cases x with
              | inl e => exact EXF m u e.1 e.2 hx (by rw [← hsp]; rfl)
              | inr a =>
                rcases hx with ⟨z1, z2⟩ | z
                · refine EXF m u 1 (tF T t a.1) z2 ?_
                  rw [← hsp, bdE_r]
                  show bdE (txS T t (n + 1) m a) (finS T t) = _
                  rw [txS_b z1]; rfl
                · exact absurd z.2.2.2.2.1 c_24)
      · skip
        obtain ⟨a, rfl, hG⟩ := RS_g hx c_24
        obtain ⟨ha, hW, hna⟩ := hxa a rfl
        refine v_aload_n hC (pc := 27) (k := 0) 1 rfl dX7_text_27 ?_
        refine v_getI hC (pc := 28) dX7_text_28 fl_X7_119 rfl (by first | rfl | exact ok_c hq rfl | exact ok_w hq hw | exact ok_w (by omega) (by omega) | exact ok_s (by omega) (by omega) | exact ok_c (by omega) rfl | assumption) rfl (by decide) (by decide) ?_
        rw [hG.2.2.2.2.2.2.2.1]
        refine v_if_eq hC (pc := 31) (tgt := 44) dX7_text_31 (by decide) (fun c_31 => ?_) (fun c_31 => ?_)
        · skip
          skip
          first
            | exact (by
                have hK0 : tK T t a.1 = 0 := (nI_eq (by have := tK_le T t a.1; omega) (by decide)).mp c_31
                refine EXG m u a hG hW ?_
                rw [← hsp, bdE_r]
                show bdE (txS T t (n + 1) m a) (finS T t) = _
                rw [txS_e hG.2.1 hK0])
            | exact (by
                cases x with
                | inl e => exact EXF m u e.1 e.2 hx (by rw [← hsp]; rfl)
                | inr a =>
                  rcases hx with ⟨z1, z2⟩ | z
                  · refine EXF m u 1 (tF T t a.1) z2 ?_
                    rw [← hsp, bdE_r]
                    show bdE (txS T t (n + 1) m a) (finS T t) = _
                    rw [txS_b z1]; rfl
                  · exact absurd z.2.2.2.2.1 c_24)
        · skip
          obtain ⟨n9, y1, y2, -⟩ := id hW.1
          have hw81 : ∃ n, n ≤ 4 ∧ a.2 81 = nI n := ⟨n9, y1, y2⟩
          refine v_aload_n hC (pc := 34) (k := 0) 1 rfl dX7_text_34 ?_
          refine v_callV hC (pc := 35) (As := []) dX7_text_35 rfl (m_readLine _ _ (d := d - 1) (by omega) ht htp hT hT0 _ hG hw81) cv_X7_174 rfl (by decide) rfl (by first | rfl | exact ok_c hq rfl | exact ok_w hq hw | exact ok_w (by omega) (by omega) | exact ok_s (by omega) (by omega) | exact ok_c (by omega) rfl | assumption) (Nat.le_of_ble_eq_true rfl) (by omega) (fun r h' hr => ?_)
          obtain ⟨rfl, hx1⟩ := hr
          generalize h' = u1 at hx1 ⊢
          show V _ _ _ (35 + 3) _ _ _
          refine v_iinc hC (pc := 38) (l' := [(1, _), (0, _)]) 0 (v := nI (m + 1)) dX7_text_38 rfl (nI_inc m) (by decide) rfl ?_
          refine v_goto hC (pc := 41) (tgt := 20) dX7_text_41 (by decide) ?_
          refine ih (m + 1) u1 (linS T t a) hx1 (fun b e => ?_) ?_
          · obtain ⟨q1, q2, q3⟩ := linS_i e ha hW
            exact ⟨q2, q3, by omega⟩
          · rw [← hsp, bdE_r]
            show _ = bdE (txS T t (n + 1) m a) (finS T t)
            rw [txS_l hG.2.1 (fun z => c_31 (congrArg nI z)), bd_as]
  refine v_iconst hC (pc := 0) (v := 0) (by decide) dX7_text_0 ?_
  refine v_istore_n hC (pc := 1) (l' := [(1, _), (0, _)]) dX7_text_1 (by decide) rfl ?_
  refine v_aload_n hC (pc := 2) (k := 0) 1 rfl dX7_text_2 ?_
  refine v_iconst hC (pc := 3) (v := 0) (by decide) dX7_text_3 ?_
  refine v_putI hC (pc := 4) dX7_text_4 fs_X7_91 rfl (by first | rfl | exact ok_c hq rfl | exact ok_w hq hw | exact ok_w (by omega) (by omega) | exact ok_s (by omega) (by omega) | exact ok_c (by omega) rfl | assumption) rfl (by decide) (by decide) ?_
  refine v_aload_n hC (pc := 7) (k := 0) 1 rfl dX7_text_7 ?_
  refine v_iconst hC (pc := 8) (v := 0) (by decide) dX7_text_8 ?_
  refine v_putI hC (pc := 9) dX7_text_9 fs_X7_100 rfl (by first | rfl | exact ok_c hq rfl | exact ok_w hq hw | exact ok_w (by omega) (by omega) | exact ok_s (by omega) (by omega) | exact ok_c (by omega) rfl | assumption) rfl (by decide) (by decide) ?_
  refine v_aload_n hC (pc := 12) (k := 0) 1 rfl dX7_text_12 ?_
  refine v_callV hC (pc := 13) (As := []) dX7_text_13 rfl (m_firstDraft _ _ (d := d - 1) (by omega) _) cv_X7_57 rfl (by decide) rfl (by first | rfl | exact ok_c hq rfl | exact ok_w hq hw | exact ok_w (by omega) (by omega) | exact ok_s (by omega) (by omega) | exact ok_c (by omega) rfl | assumption) (Nat.le_of_ble_eq_true rfl) (by omega) (fun r h' hr => ?_)
  obtain ⟨rfl, rfl⟩ := hr
  refine v_heap (show _ = fdH (upI (upI h (3, 0, 0) 17 0) (3, 0, 0) 13 0) from rfl) ?_
  show V _ _ _ (13 + 3) _ _ _
  refine v_aload_n hC (pc := 16) (k := 0) 1 rfl dX7_text_16 ?_
  refine v_callV hC (pc := 17) (As := []) dX7_text_17 rfl (m_nextToken _ _ (d := d - 1) (by omega) _ (T := T) (t := t) (e := 0) ht ((hR.2.2 12 (by decide)).trans htp) ((hR.1 (3, 0, 12) (by decide) (by decide) (by decide)).trans hT) hT0 (by rw [fdH_k _ _ (by decide)]; simp [upI]) (by rw [fdH_k _ _ (by decide)]; simp [upI, nI_0]) (Nat.zero_le _)) cv_X7_141 rfl (by decide) rfl (by first | rfl | exact ok_c hq rfl | exact ok_w hq hw | exact ok_w (by omega) (by omega) | exact ok_s (by omega) (by omega) | exact ok_c (by omega) rfl | assumption) (Nat.le_of_ble_eq_true rfl) (by omega) (fun r h' hr => ?_)
  obtain ⟨rfl, hu⟩ := hr
  show V _ _ _ (17 + 3) _ _ _
  refine LOOP (t + 1) 0 _ (.inr (0, dr0)) (RS_tok hR (fdH_DM _) (Nat.zero_le _) hu) (fun a e => ?_) rfl
  cases e
  exact ⟨Nat.zero_le _, WD_0, by omega⟩

