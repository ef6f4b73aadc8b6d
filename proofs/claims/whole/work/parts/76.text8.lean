/-! THE TEXT: what a line that is taken makes of the draft -/
section TX
variable {T : Nat → Int32} {t : Nat}
theorem numS_i {lo hi : Int32} {a b : PA} (h : numS T t lo hi a = .inr b) : ¬ tB T t a.1 ∧ (¬ tV T t a.1 < lo ∧ ¬ hi < tV T t a.1) ∧ b = (tE T t a.1, a.2) := by
  rcases Classical.em (tB T t a.1) with hb | hb
  · rw [rsp_num T t lo hi a hb] at h; cases h
  · by_cases hk : tK T t a.1 = 2
    · by_cases hv : ¬ tV T t a.1 < lo ∧ ¬ hi < tV T t a.1
      · rw [numS_o hb hk hv] at h; cases h; exact ⟨hb, hv, rfl⟩
      · rw [numS_r hb hk hv] at h; cases h
    · rw [numS_s hb hk] at h; cases h
theorem corS_i {s : Int32} {a b : PA} (h : corS T t s a = .inr b) : ∃ c, c < 8 ∧ tV T t a.1 = nI c ∧ (s >>> (nI c &&& 31)) &&& 1 = 0 ∧ b = (tE T t a.1, upd a.2 85 (mxF (a.2 85) (nI c))) := by
  unfold corS at h
  obtain ⟨c0, h1, h2⟩ := bdE_p h
  obtain ⟨-, hv, rfl⟩ := numS_i h1
  obtain ⟨c, hc7, hcv⟩ := nI_of2 (x := tV T t a.1) (M := 7) (n := 7) (by decide) hv.1 (Int32.not_lt.mp hv.2)
  refine ⟨c, by omega, hcv, ?_⟩
  rw [hcv] at h2
  rcases Classical.em ((s >>> (nI c &&& 31)) &&& 1 = 0) with q | q
  · rw [iteP_t q] at h2; cases h2; exact ⟨q, rfl⟩
  · rw [iteP_f q] at h2; cases h2
theorem strS_i {s : Nat} {a b : PA} (h : strS T t s a = .inr b) : ∃ c e, c < 8 ∧ e < 8 ∧ tV T t a.1 = nI c ∧ tV T t (tE T t a.1) = nI e ∧ (a.2 (83 + s) >>> (nI c &&& 31)) &&& 1 = 0 ∧ b = (tE T t (tE T t a.1), upd (upd (upd (upd a.2 85 (mxF (a.2 85) (nI c))) (83 + s) (upd a.2 85 (mxF (a.2 85) (nI c)) (83 + s) ||| (1 <<< (nI c &&& 31)))) 85 (mxF (upd (upd a.2 85 (mxF (a.2 85) (nI c))) (83 + s) (upd a.2 85 (mxF (a.2 85) (nI c)) (83 + s) ||| (1 <<< (nI c &&& 31))) 85) (nI e))) (8 * s + c) (nI e)) := by
  unfold strS at h
  obtain ⟨b1, h1, h2, h3⟩ := mpE_p h
  obtain ⟨b2, h4, h5⟩ := bdE_p h1
  obtain ⟨b3, h6, h7, h8⟩ := mpE_p h4
  obtain ⟨c, hc, ec, htd, rfl⟩ := corS_i h6
  obtain ⟨e, he, ee, -, e5⟩ := corS_i h5
  subst e5
  rw [← h7] at ee
  have ee2 : tV T t (tE T t a.1) = nI e := ee
  refine ⟨c, e, hc, he, ec, ee2, htd, ?_⟩
  rw [h8, ec] at h3
  rw [ee2, nI_clamp (show c < 2 ^ 31 by omega)] at h3
  refine Prod.ext ?_ h3
  rw [← h2, ← h7]
theorem sgnS_i {a b : PA} (h : sgnS T t a = .inr b) : ∃ c, c < 8 ∧ tV T t a.1 = nI c ∧ (a.2 16 >>> (nI c &&& 31)) &&& 1 = 0 ∧ b = (tE T t a.1, upd (upd a.2 85 (mxF (a.2 85) (nI c))) 16 (a.2 16 ||| (1 <<< (nI c &&& 31)))) := by
  unfold sgnS at h
  obtain ⟨b1, h1, h2, h3⟩ := mpE_p h
  obtain ⟨c, hc, ec, htd, rfl⟩ := corS_i h1
  rw [ec] at h3
  exact ⟨c, hc, ec, htd, Prod.ext h2.symm h3⟩
theorem glN_i {a : PA} : ∀ {g : Nat} {b : PA}, glN T t g a = .inr b → a.1 ≤ t → (a.1 ≤ b.1 ∧ b.1 ≤ t) ∧ (∀ k, ¬ (43 ≤ k ∧ k < 43 + g) → b.2 k = a.2 k) ∧ ∀ j, j < g → ∃ m, m ≤ 9 ∧ b.2 (43 + j) = nI m
  | 0, b, h, ha => by
    cases h
    exact ⟨⟨Nat.le_refl _, ha⟩, fun _ _ => rfl, fun j hj => absurd hj (Nat.not_lt_zero _)⟩
  | g + 1, b, h, ha => by
    rw [glN_s] at h
    obtain ⟨c, h1, h2⟩ := bdE_p h
    obtain ⟨⟨p1, p2⟩, p3, p4⟩ := glN_i h1 ha
    obtain ⟨c2, h3, h4, h5⟩ := mpE_p h2
    obtain ⟨-, hv, e3⟩ := numS_i h3
    subst e3
    obtain ⟨m, hm, em⟩ := nI_of2 (x := tV T t c.1) (M := 9) (n := 9) (by decide) hv.1 (Int32.not_lt.mp hv.2)
    have q1 := tF_b (T := T) p2
    have q2 := tE_b (T := T) p2
    have h4' : tE T t c.1 = b.1 := h4
    have h5' : b.2 = upd c.2 (43 + g) (tV T t c.1) := h5
    refine ⟨⟨by omega, by omega⟩, fun k hk => ?_, fun j hj => ?_⟩
    · rw [h5', updo (by omega)]; exact p3 k (by omega)
    · rcases (show j < g ∨ j = g by omega) with z | rfl
      · obtain ⟨m2, y1, y2⟩ := p4 j z
        exact ⟨m2, y1, by rw [h5', updo (by omega)]; exact y2⟩
      · exact ⟨m, hm, by rw [h5', updi]; exact em⟩
theorem rouS_i {a b : PA} (h : rouS T t a = .inr b) : ¬ tB T t a.1 ∧ tE T t a.1 - tF T t a.1 ≤ 10 ∧ b = (tE T t a.1, a.2) := by
  unfold rouS at h
  rcases Classical.em (tB T t a.1) with hb | hb
  · rw [iteP_t hb] at h; cases h
  · rw [iteP_f hb] at h
    rcases Classical.em (tK T t a.1 = 1) with q | q
    · rw [iteP_t q] at h
      rcases Classical.em (tE T t a.1 - tF T t a.1 ≤ 10) with q2 | q2
      · rw [iteP_t q2] at h
        rcases Classical.em (lrP T t a) with q3 | q3
        · rw [iteP_t q3] at h; cases h; exact ⟨hb, q2, rfl⟩
        · rw [iteP_f q3] at h; cases h
      · rw [iteP_f q2] at h; cases h
    · rw [iteP_f q] at h; cases h
/-- a walker that was taken -/
theorem wlkS_i {n : Nat} {kp : Int32} {a b : PA} (h : wlkS T t n kp a = .inr b) : ∃ c sd l : Nat, c < 8 ∧ sd < 2 ∧ l ≤ 10 ∧ b.1 = tE T t (tE T t (tE T t a.1)) ∧ l = tE T t (tE T t (tE T t a.1)) - tF T t (tE T t (tE T t a.1)) ∧ sdN2 T t (tE T t a.1) = sd ∧ tV T t a.1 = nI c ∧ b.2 = upd (upd (upd (upd (upd (upd (upd (upd a.2 85 (mxF (a.2 85) (nI c))) (18 + 6 * n + 0) (nI c)) (18 + 6 * n + 1) (nI sd)) (18 + 6 * n + 2) kp) (18 + 6 * n + 3) (nI l)) (18 + 6 * n + 4) (rtN T (tF T t (tE T t (tE T t a.1))) l)) (18 + 6 * n + 5) 0) 81 ((upd (upd (upd (upd (upd (upd (upd a.2 85 (mxF (a.2 85) (nI c))) (18 + 6 * n + 0) (nI c)) (18 + 6 * n + 1) (nI sd)) (18 + 6 * n + 2) kp) (18 + 6 * n + 3) (nI l)) (18 + 6 * n + 4) (rtN T (tF T t (tE T t (tE T t a.1))) l)) (18 + 6 * n + 5) 0) 81 + 1) := by
  obtain ⟨b9, h9, p9, d9⟩ := mpE_p h
  obtain ⟨b8, h8, p8, d8⟩ := mpE_p h9
  obtain ⟨b7, h7, p7, d7⟩ := mpE_p h8
  obtain ⟨b6, h6, r6⟩ := bdE_p h7
  obtain ⟨b5, h5, p5, d5⟩ := mpE_p h6
  obtain ⟨b4, h4, p4, d4⟩ := mpE_p h5
  obtain ⟨b3, h3, p3, d3⟩ := mpE_p h4
  obtain ⟨b2, h2, r2⟩ := bdE_p h3
  obtain ⟨b1, h1, r1⟩ := bdE_p h2
  obtain ⟨b0, h0, p0, d0⟩ := mpE_p h1
  obtain ⟨c, hc, ec, -, e0⟩ := corS_i h0
  obtain ⟨e1, ⟨-, hsd⟩, -⟩ := chk_p r1
  obtain ⟨e2, -⟩ := adv_p r2
  obtain ⟨-, hl, e6⟩ := rouS_i r6
  have q0 : b1.1 = tE T t a.1 := by rw [← p0, e0]
  have q3 : b3.1 = tE T t (tE T t a.1) := (wg3_p h3).1
  have q6 : b6.1 = tE T t (tE T t a.1) := by rw [← p5, ← p4, ← p3]; exact (wg3_p h3).1
  rw [q0] at hsd
  rcases sd_le T t (tE T t a.1) with z | z | z
  all_goals first | exact absurd z hsd | skip
  all_goals
    refine ⟨c, sdN2 T t (tE T t a.1), _, hc, by omega, (by rw [q6] at hl; exact hl), ?_, rfl, rfl, ec, ?_⟩
    · rw [← p9, ← p8, ← p7, e6]; show tE T t b6.1 = _; rw [q6]
    · have e1' : oV (sdN2 T t (tE T t a.1)) = nI (sdN2 T t (tE T t a.1)) := if_neg (by omega)
      have x1 : b1.2 = upd (upd a.2 85 (mxF (a.2 85) (nI c))) (18 + 6 * n + 0) (nI c) := by rw [d0, e0, ec]
      have x3 : b3.2 = b1.2 := by rw [e2, e1]
      have x7 : b7.2 = b6.2 := by rw [e6]
      rw [d9, d8, d7, x7, d5, d4, d3, x3, x1, e1']
end TX
