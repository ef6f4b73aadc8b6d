/-! THE TEXT: walkers and lines, as the reference reads them -/
theorem bdE_l {α β : Type} (e : PE) (f : α → Sum PE β) : bdE (.inl e) f = .inl e := rfl
theorem bdE_r {α β : Type} (a : α) (f : α → Sum PE β) : bdE (.inr a) f = f a := rfl
theorem bd_as {α β γ : Type} (x : Sum PE α) (f : α → Sum PE β) (g : β → Sum PE γ) : bdE (bdE x f) g = bdE x (fun a => bdE (f a) g) := by
  rcases x with e | a <;> rfl
section TX
variable {T : Nat → Int32} {t : Nat} {h0 h u : HP} {x : Sum PE PA} {g : PA → Sum PE PA} {f : PA → (Nat → Int32) → (Nat → Int32)}
theorem Wr_ (i : PId) (k kk : Nat) (v : Int32) (hw : ∀ Y : Sum PE PA, RS T t h0 h Y → RS T t h0 (upI h i k v) (mpE Y (fun D => upd D kk v))) (hx : RS T t h0 h (bdE x g)) (hf : ∀ a b, x = .inr a → g a = .inr b → GoS T t h0 h b → f a b.2 = upd b.2 kk v) : RS T t h0 (upI h i k v) (bdE x (fun a => mpE (g a) (f a))) := by
  have h1 := hw _ hx
  rcases x with e | a
  · exact h1
  · change RS T t h0 h (g a) at hx
    change RS T t h0 _ (mpE (g a) _) at h1
    show RS T t h0 _ (mpE (g a) (f a))
    cases hg : g a with
    | inl e => rw [hg] at h1; exact h1
    | inr b =>
      rw [hg] at h1 hx
      rcases hx with ⟨z1, z2⟩ | z
      · rcases h1 with y | y
        · exact Or.inl y
        · exact absurd z1 y.2.1
      · show RS T t h0 _ (.inr (b.1, f a b.2))
        rw [hf a b rfl hg z]
        exact h1
theorem Wr_dr {k : Nat} (hk : k < 80) (v : Int32) (hx : RS T t h0 h (bdE x g)) (hf : ∀ a b, x = .inr a → g a = .inr b → GoS T t h0 h b → f a b.2 = upd b.2 k v) : RS T t h0 (upI h (3, 0, 6) k v) (bdE x (fun a => mpE (g a) (f a))) := Wr_ (3, 0, 6) k k v (fun _ hY => RS_dr hk v hY) hx hf
theorem Wr_f6 (v : Int32) (hx : RS T t h0 h (bdE x g)) (hf : ∀ a b, x = .inr a → g a = .inr b → GoS T t h0 h b → f a b.2 = upd b.2 80 v) : RS T t h0 (upI h (3, 0, 0) 6 v) (bdE x (fun a => mpE (g a) (f a))) := Wr_ (3, 0, 0) 6 80 v (fun _ hY => RS_f6 v hY) hx hf
theorem Wr_f7 (v : Int32) (hx : RS T t h0 h (bdE x g)) (hf : ∀ a b, x = .inr a → g a = .inr b → GoS T t h0 h b → f a b.2 = upd b.2 81 v) : RS T t h0 (upI h (3, 0, 0) 7 v) (bdE x (fun a => mpE (g a) (f a))) := Wr_ (3, 0, 0) 7 81 v (fun _ hY => RS_f7 v hY) hx hf
theorem Wr_ck {P : PA → Prop} {code : Int32} (hc : 0 < code) (hx : RS T t h0 h (bdE x g)) (hP : ∀ a b, x = .inr a → g a = .inr b → GoS T t h0 h b → P b) : RS T t h0 h (bdE x (fun a => bdE (g a) (fun b => chkS T t (P b) code b))) := by
  rcases x with e | a
  · exact hx
  · change RS T t h0 h (g a) at hx
    show RS T t h0 h (bdE (g a) _)
    cases hg : g a with
    | inl e => rw [hg] at hx; exact hx
    | inr b =>
      rw [hg] at hx
      show RS T t h0 h (chkS T t _ code b)
      unfold chkS
      rcases hx with ⟨z1, z2⟩ | z
      · rw [iteP_t z1]; exact z2
      · rw [iteP_f z.2.1, iteP_t (hP a b rfl hg z)]; exact Or.inr z
theorem Wr_cn {P : PA → Prop} {code : Int32} (hc : 0 < code) (hz : h.1 (3, 0, 0) 17 = 0) (hx : RS T t h0 h (bdE x g)) (hP : ∀ a b, x = .inr a → g a = .inr b → GoS T t h0 h b → ¬ P b) : RS T t h0 (nfH h code) (bdE x (fun a => bdE (g a) (fun b => chkS T t (P b) code b))) := by
  obtain ⟨b, e, hG⟩ := RS_g hx hz
  rcases x with e9 | a
  · cases e
  · change g a = .inr b at e
    show RS T t h0 _ (bdE (g a) _)
    rw [e]
    show RS T t h0 _ (chkS T t _ code b)
    unfold chkS
    rw [iteP_f hG.2.1, iteP_f (hP a b rfl e hG)]
    exact GoS_nf hG hc
theorem Wr_cx {P : PA → Prop} {code : Int32} (hz : ¬ h.1 (3, 0, 0) 17 = 0) (hx : RS T t h0 h (bdE x g)) : RS T t h0 h (bdE x (fun a => bdE (g a) (fun b => chkS T t (P b) code b))) := by
  have := RS_f (g := fun b => chkS T t (P b) code b) hx (fun a z => iteP_t z) hz (RS_RE hx) rfl rfl
  rw [bd_as] at this
  exact this
theorem cor_y {s s9 : Int32} {a : PA} (hx : RS T t h0 h (.inr a)) (he : GoS T t h0 h a → s = s9) : corS T t s a = corS T t s9 a := by
  have hx2 : (tB T t a.1 ∧ FlS h0 h 1 (tF T t a.1)) ∨ GoS T t h0 h a := hx
  cases hx2 with
  | inl z => exact Eq.trans (rsp_cor T t s a z.1) (Eq.symm (rsp_cor T t s9 a z.1))
  | inr z => rw [he z]
theorem cor_x {s : Int32} {s' : PA → Int32} (hx : RS T t h0 h x) (h1 : RS T t h0 u (bdE x (corS T t s))) (he : ∀ a, x = .inr a → GoS T t h0 h a → s = s' a) : RS T t h0 u (bdE x (fun a => corS T t (s' a) a)) := by
  cases x with
  | inl e => rw [bdE_l] at h1 ⊢; exact h1
  | inr a =>
    rw [bdE_r] at h1 ⊢
    rw [cor_y (s9 := s' a) hx (he a rfl)] at h1
    exact h1
end TX
theorem m_ntX (l9 : Launch) (G : WT) {d : Nat} (hd : 2 ≤ d) {T : Nat → Int32} {t : Nat} {h0 : HP} (ht : t ≤ 160) (htp : h0.1 (3, 0, 0) 12 = nI t) (hT : h0.1 (3, 0, 12) = T) (hT0 : ∀ j, j < t → ¬ T j < 0) (h : HP) (x : Sum PE PA) (hx : RS T t h0 h x) : MS l9 G yX7_nextToken cX7_nextToken 2 none d [vr (3, 0, 0)] h (fun r h1 => r = none ∧ RS T t h0 h1 (bdE x (advS T t))) := by
  by_cases hf : h.1 (3, 0, 0) 17 = 0
  · obtain ⟨a, rfl, hG⟩ := RS_g hx hf
    refine MS.mono (m_nextToken l9 G hd h (T := T) (t := t) (e := tE T t a.1) ht ((hG.1.2.2 12 (by decide)).trans htp) ((hG.1.1 (3, 0, 12) (by decide) (by decide) (by decide)).trans hT) hT0 hf hG.2.2.2.2.2.1 (tE_b hG.2.2.1).2) (fun r h1 z => ⟨z.1, ?_⟩)
    show RS T t h0 h1 (advS T t a)
    unfold advS
    rw [iteP_f hG.2.1]
    exact RS_tok hG.1 hG.2.2.2.1 (tE_b hG.2.2.1).2 z.2
  · exact MS.mono (m_nextToken_f l9 G hd h (RS_fp hx hf)) (fun r h1 z => ⟨z.2, RS_f hx (rsp_adv T t) hf (by rw [z.1]; exact RS_RE hx) (by rw [z.1]) (by rw [z.1])⟩)
theorem m_numX (l9 : Launch) (G : WT) {d : Nat} (hd : 3 ≤ d) {T : Nat → Int32} {t : Nat} {h0 : HP} (ht : t ≤ 160) (htp : h0.1 (3, 0, 0) 12 = nI t) (hT : h0.1 (3, 0, 12) = T) (hT0 : ∀ j, j < t → ¬ T j < 0) (h : HP) (x : Sum PE PA) (hx : RS T t h0 h x) (lo hi : Int32) : MS l9 G yX7_readNumber cX7_readNumber 4 (some .int) d [vr (3, 0, 0), vi lo, vi hi] h (fun r h1 => ∃ v, r = some (vi v) ∧ RS T t h0 h1 (bdE x (numS T t lo hi)) ∧ ∀ a, x = .inr a → ∀ b, numS T t lo hi a = .inr b → v = tV T t a.1) := m_readNumber l9 G hd ht htp hT hT0 h hx lo hi
theorem m_rouX (l9 : Launch) (G : WT) {d : Nat} (hd : 3 ≤ d) {T : Nat → Int32} {t : Nat} {h0 : HP} (ht : t ≤ 160) (htp : h0.1 (3, 0, 0) 12 = nI t) (hT : h0.1 (3, 0, 12) = T) (hT0 : ∀ j, j < t → ¬ T j < 0) (h : HP) (x : Sum PE PA) (hx : RS T t h0 h x) : MS l9 G yX7_readRoute cX7_readRoute 5 (some .int) d [vr (3, 0, 0)] h (fun r h1 => ∃ v, r = some (vi v) ∧ RS T t h0 h1 (bdE x (rouS T t)) ∧ ∀ a, x = .inr a → ∀ b, rouS T t a = .inr b → v = rtN T (tF T t a.1) (tE T t a.1 - tF T t a.1)) := m_readRoute l9 G hd ht htp hT hT0 h hx
section TX
variable (T : Nat → Int32) (t : Nat)
/-- a walker's stages -/
noncomputable def wg1 (n : Nat) (a : PA) : Sum PE PA := mpE (corS T t 0 a) (fun D => upd D (18 + 6 * n + 0) (tV T t a.1))
noncomputable def wg2 (n : Nat) (a : PA) : Sum PE PA := bdE (wg1 T t n a) (fun b => chkS T t (tK T t b.1 = 1 ∧ ¬ sdN2 T t b.1 = 8) 2 b)
noncomputable def wg3 (n : Nat) (a : PA) : Sum PE PA := bdE (wg2 T t n a) (advS T t)
noncomputable def wg4 (n : Nat) (a : PA) : Sum PE PA := mpE (wg3 T t n a) (fun D => upd D (18 + 6 * n + 1) (oV (sdN2 T t (tE T t a.1))))
noncomputable def wg5 (n : Nat) (kp : Int32) (a : PA) : Sum PE PA := mpE (wg4 T t n a) (fun D => upd D (18 + 6 * n + 2) kp)
noncomputable def wg6 (n : Nat) (kp : Int32) (a : PA) : Sum PE PA := mpE (wg5 T t n kp a) (fun D => upd D (18 + 6 * n + 3) (nI (tE T t (tE T t (tE T t a.1)) - tF T t (tE T t (tE T t a.1)))))
noncomputable def wg7 (n : Nat) (kp : Int32) (a : PA) : Sum PE PA := bdE (wg6 T t n kp a) (rouS T t)
noncomputable def wg8 (n : Nat) (kp : Int32) (a : PA) : Sum PE PA := mpE (wg7 T t n kp a) (fun D => upd D (18 + 6 * n + 4) (rtN T (tF T t (tE T t (tE T t a.1))) (tE T t (tE T t (tE T t a.1)) - tF T t (tE T t (tE T t a.1)))))
noncomputable def wg9 (n : Nat) (kp : Int32) (a : PA) : Sum PE PA := mpE (wg8 T t n kp a) (fun D => upd D (18 + 6 * n + 5) 0)
noncomputable def wlkS (n : Nat) (kp : Int32) (a : PA) : Sum PE PA := mpE (wg9 T t n kp a) (fun D => upd D 81 (D 81 + 1))
end TX
theorem mpE_p {x : Sum PE PA} {f : (Nat → Int32) → (Nat → Int32)} {b : PA} (h : mpE x f = .inr b) : ∃ c, x = .inr c ∧ c.1 = b.1 ∧ b.2 = f c.2 := by
  rcases x with e | c
  · cases h
  · cases h; exact ⟨c, rfl, rfl, rfl⟩
theorem bdE_p {α β : Type} {x : Sum PE α} {f : α → Sum PE β} {b : β} (h : bdE x f = .inr b) : ∃ c, x = .inr c ∧ f c = .inr b := by
  rcases x with e | c
  · cases h
  · exact ⟨c, rfl, h⟩
theorem chk_p {T : Nat → Int32} {t : Nat} {P : Prop} {code : Int32} {a b : PA} (h : chkS T t P code a = .inr b) : b = a ∧ P ∧ ¬ tB T t a.1 := by
  unfold chkS at h
  rcases Classical.em (tB T t a.1) with z | z
  · rw [iteP_t z] at h; cases h
  · rw [iteP_f z] at h
    rcases Classical.em P with q | q
    · rw [iteP_t q] at h; cases h; exact ⟨rfl, q, z⟩
    · rw [iteP_f q] at h; cases h
theorem adv_p {T : Nat → Int32} {t : Nat} {a b : PA} (h : advS T t a = .inr b) : b = (tE T t a.1, a.2) ∧ ¬ tB T t a.1 := by
  unfold advS at h
  rcases Classical.em (tB T t a.1) with z | z
  · rw [iteP_t z] at h; cases h
  · rw [iteP_f z] at h; cases h; exact ⟨rfl, z⟩
theorem wg1_p {T : Nat → Int32} {t n : Nat} {a b : PA} (h : wg1 T t n a = .inr b) : b.1 = tE T t a.1 := by
  obtain ⟨c, h1, h2, h3⟩ := mpE_p h
  rw [← h2]; exact (cor_pos h1).1
theorem wg3_p {T : Nat → Int32} {t n : Nat} {a b : PA} (h : wg3 T t n a = .inr b) : b.1 = tE T t (tE T t a.1) ∧ ∃ c, wg1 T t n a = .inr c ∧ ¬ sdN2 T t (tE T t a.1) = 8 := by
  obtain ⟨c, h1, h2⟩ := bdE_p h
  obtain ⟨c2, h3, h4⟩ := bdE_p h1
  obtain ⟨rfl, h5, h6⟩ := chk_p h4
  obtain ⟨rfl, h7⟩ := adv_p h2
  have e := wg1_p h3
  refine ⟨by show tE T t c.1 = _; rw [e], c, h3, ?_⟩
  rw [← e]; exact h5.2
theorem sd_le (T : Nat → Int32) (t e : Nat) : sdN2 T t e = 0 ∨ sdN2 T t e = 1 ∨ sdN2 T t e = 8 := by
  unfold sdN2
  rcases Classical.em (isL T t e (wdL 1)) with w1 | w1
  · rw [iteP_t w1]; exact Or.inl rfl
  · rw [iteP_f w1]
    rcases Classical.em (isL T t e (wdL 2)) with w2 | w2
    · rw [iteP_t w2]; exact Or.inr (Or.inl rfl)
    · rw [iteP_f w2]; exact Or.inr (Or.inr rfl)
theorem oV_n (T : Nat → Int32) (t e : Nat) : oV (sdN2 T t e) = -4 ↔ sdN2 T t e = 8 := by
  rcases sd_le T t e with q | q | q <;> rw [q] <;> decide
theorem wg5_p {T : Nat → Int32} {t n : Nat} {kp : Int32} {a b : PA} (h : wg5 T t n kp a = .inr b) : b.1 = tE T t (tE T t a.1) := by
  obtain ⟨c, h1, h2, -⟩ := mpE_p h
  obtain ⟨c2, h3, h4, -⟩ := mpE_p h1
  rw [← h2, ← h4]; exact (wg3_p h3).1
theorem wg6_p {T : Nat → Int32} {t n : Nat} {kp : Int32} {a b : PA} (h : wg6 T t n kp a = .inr b) : b.1 = tE T t (tE T t a.1) := by
  obtain ⟨c, h1, h2, -⟩ := mpE_p h
  rw [← h2]; exact wg5_p h1
set_option maxRecDepth 20000 in
set_option maxHeartbeats 2000000 in
theorem m_readWalker (l9 : Launch) (G : WT) {d : Nat} (hd : 4 ≤ d) {T : Nat → Int32} {t : Nat} {h0 : HP} (ht : t ≤ 160) (htp : h0.1 (3, 0, 0) 12 = nI t) (hT : h0.1 (3, 0, 12) = T) (hT0 : ∀ j, j < t → ¬ T j < 0) (h : HP) (x : Sum PE PA) (hx : RS T t h0 h x) (kp : Int32) {n : Nat} (hn : n < 4) (hn7 : h.1 (3, 0, 0) 7 = nI n) : MS l9 G yX7_readWalker cX7_readWalker 4 none d [vr (3, 0, 0), vi kp] h (fun r h1 => r = none ∧ RS T t h0 h1 (bdE x (wlkS T t n kp))) := by
  refine MS_of (by decide +kernel) (Nat.le_of_ble_eq_true rfl) (fun X hC hX => ?_)
  show V X G 4 0 _ [] _
  have P65 : ∀ (u : HP) (sd : Int32), RS T t h0 u (bdE x (wg2 T t n)) → (u.1 (3, 0, 0) 17 = 0 → (∀ a b, x = .inr a → wg3 T t n a = .inr b → sd = oV (sdN2 T t (tE T t a.1)))) → V X G 4 65 [(3, vi sd), (2, vi (nI (18 + 6 * n))), (0, vr (3, 0, 0)), (1, vi kp)] [] u := by
    intro u sd hx3 hsd9
    have hsd : (∀ a b, x = .inr a → wg3 T t n a = .inr b → sd = oV (sdN2 T t (tE T t a.1))) := by
      intro a b e1 e2
      obtain ⟨c, e3, e4⟩ := bdE_p e2
      have hx3' := hx3
      rw [e1] at hx3'
      change RS T t h0 u (wg2 T t n a) at hx3'
      rw [e3] at hx3'
      rcases hx3' with ⟨z1, _⟩ | z
      · exact absurd z1 (adv_p e4).2
      · exact hsd9 z.2.2.2.2.1 a b e1 e2
    clear hsd9
    refine v_aload_n hC (pc := 65) (k := 0) 2 rfl dX7_readWalker_65 ?_
    refine v_callV hC (pc := 66) (As := []) dX7_readWalker_66 rfl (m_ntX _ _ (d := d - 1) (by omega) ht htp hT hT0 _ _ hx3) cv_X7_141 rfl (by decide) rfl (by first | rfl | exact ok_c hq rfl | exact ok_w hq hw | exact ok_w (by omega) (by omega) | exact ok_s (by omega) (by omega) | exact ok_c (by omega) rfl | assumption) (Nat.le_of_ble_eq_true rfl) (by omega) (fun r h' hr => ?_)
    obtain ⟨rfl, hx4⟩ := hr
    rw [bd_as] at hx4
    replace hx4 : RS T t h0 h' (bdE x (wg3 T t n)) := hx4
    generalize h' = u3 at hx4 ⊢
    show V _ _ _ (66 + 3) _ _ _
    refine v_aload_n hC (pc := 69) (k := 0) 2 rfl dX7_readWalker_69 ?_
    refine v_getR hC (pc := 70) dX7_readWalker_70 fl_X7_20 rfl (by first | rfl | exact ok_c hq rfl | exact ok_w hq hw | exact ok_w (by omega) (by omega) | exact ok_s (by omega) (by omega) | exact ok_c (by omega) rfl | assumption) rfl (by decide) (by decide) rfl ?_
    refine v_iload_n hC (pc := 73) (k := 2) 1 rfl dX7_readWalker_73 ?_
    refine v_iconst hC (pc := 74) (v := 1) (by decide) dX7_readWalker_74 ?_
    refine v_iadd hC (pc := 75) dX7_readWalker_75 ?_
    refine v_iload_n hC (pc := 76) (k := 3) 0 rfl dX7_readWalker_76 ?_
    try simp only [nL_0, nL_1, nL_2, nL_3, nL_4, nL_5, nL_6, nL_8, nL_16, nL_17, nL_18, nL_40, nL_42, nL_43, nL_47, nL_48, nL_64, nL_80, pk_mul, nI_add]
    refine v_iast hC (pc := 77) dX7_readWalker_77 rfl (by first | rfl | exact ok_c hq rfl | exact ok_w hq hw | exact ok_w (by omega) (by omega) | exact ok_s (by omega) (by omega) | exact ok_c (by omega) rfl | assumption) (vp_nat (by omega) (by decide)) ?_
    rw [(nI_clamp (show 18 + 6 * n + 1 < 2 ^ 31 by omega))]
    have hx5 : RS T t h0 (upI u3 (3, 0, 6) (18 + 6 * n + 1) sd) (bdE x (wg4 T t n)) := Wr_dr (g := wg3 T t n) (f := fun a D => upd D (18 + 6 * n + 1) (oV (sdN2 T t (tE T t a.1)))) (by omega) _ hx4 (fun a b e1 e2 hG => by rw [hsd a b e1 e2])
    generalize upI u3 (3, 0, 6) (18 + 6 * n + 1) sd = u4 at hx5 ⊢
    clear hx4
    refine v_aload_n hC (pc := 78) (k := 0) 2 rfl dX7_readWalker_78 ?_
    refine v_getR hC (pc := 79) dX7_readWalker_79 fl_X7_20 rfl (by first | rfl | exact ok_c hq rfl | exact ok_w hq hw | exact ok_w (by omega) (by omega) | exact ok_s (by omega) (by omega) | exact ok_c (by omega) rfl | assumption) rfl (by decide) (by decide) rfl ?_
    refine v_iload_n hC (pc := 82) (k := 2) 1 rfl dX7_readWalker_82 ?_
    refine v_iconst hC (pc := 83) (v := 2) (by decide) dX7_readWalker_83 ?_
    refine v_iadd hC (pc := 84) dX7_readWalker_84 ?_
    refine v_iload_n hC (pc := 85) (k := 1) 3 rfl dX7_readWalker_85 ?_
    try simp only [nL_0, nL_1, nL_2, nL_3, nL_4, nL_5, nL_6, nL_8, nL_16, nL_17, nL_18, nL_40, nL_42, nL_43, nL_47, nL_48, nL_64, nL_80, pk_mul, nI_add]
    refine v_iast hC (pc := 86) dX7_readWalker_86 rfl (by first | rfl | exact ok_c hq rfl | exact ok_w hq hw | exact ok_w (by omega) (by omega) | exact ok_s (by omega) (by omega) | exact ok_c (by omega) rfl | assumption) (vp_nat (by omega) (by decide)) ?_
    rw [(nI_clamp (show 18 + 6 * n + 2 < 2 ^ 31 by omega))]
    have hx6 : RS T t h0 (upI u4 (3, 0, 6) (18 + 6 * n + 2) kp) (bdE x (wg5 T t n kp)) := Wr_dr (g := wg4 T t n) (f := fun a D => upd D (18 + 6 * n + 2) kp) (by omega) _ hx5 (fun a b e1 e2 hG => rfl)
    generalize upI u4 (3, 0, 6) (18 + 6 * n + 2) kp = u5 at hx6 ⊢
    clear hx5
    refine v_aload_n hC (pc := 87) (k := 0) 2 rfl dX7_readWalker_87 ?_
    refine v_getR hC (pc := 88) dX7_readWalker_88 fl_X7_20 rfl (by first | rfl | exact ok_c hq rfl | exact ok_w hq hw | exact ok_w (by omega) (by omega) | exact ok_s (by omega) (by omega) | exact ok_c (by omega) rfl | assumption) rfl (by decide) (by decide) rfl ?_
    refine v_iload_n hC (pc := 91) (k := 2) 1 rfl dX7_readWalker_91 ?_
    refine v_iconst hC (pc := 92) (v := 3) (by decide) dX7_readWalker_92 ?_
    refine v_iadd hC (pc := 93) dX7_readWalker_93 ?_
    refine v_aload_n hC (pc := 94) (k := 0) 2 rfl dX7_readWalker_94 ?_
    refine v_getI hC (pc := 95) dX7_readWalker_95 fl_X7_100 rfl (by first | rfl | exact ok_c hq rfl | exact ok_w hq hw | exact ok_w (by omega) (by omega) | exact ok_s (by omega) (by omega) | exact ok_c (by omega) rfl | assumption) rfl (by decide) (by decide) ?_
    refine v_aload_n hC (pc := 98) (k := 0) 2 rfl dX7_readWalker_98 ?_
    refine v_getI hC (pc := 99) dX7_readWalker_99 fl_X7_94 rfl (by first | rfl | exact ok_c hq rfl | exact ok_w hq hw | exact ok_w (by omega) (by omega) | exact ok_s (by omega) (by omega) | exact ok_c (by omega) rfl | assumption) rfl (by decide) (by decide) ?_
    refine v_isub hC (pc := 102) dX7_readWalker_102 ?_
    try simp only [nL_0, nL_1, nL_2, nL_3, nL_4, nL_5, nL_6, nL_8, nL_16, nL_17, nL_18, nL_40, nL_42, nL_43, nL_47, nL_48, nL_64, nL_80, pk_mul, nI_add]
    refine v_iast hC (pc := 103) dX7_readWalker_103 rfl (by first | rfl | exact ok_c hq rfl | exact ok_w hq hw | exact ok_w (by omega) (by omega) | exact ok_s (by omega) (by omega) | exact ok_c (by omega) rfl | assumption) (vp_nat (by omega) (by decide)) ?_
    rw [(nI_clamp (show 18 + 6 * n + 3 < 2 ^ 31 by omega))]
    have hx7 : RS T t h0 (upI u5 (3, 0, 6) (18 + 6 * n + 3) (u5.1 (3, 0, 0) 13 - u5.1 (3, 0, 0) 14)) (bdE x (wg6 T t n kp)) := Wr_dr (g := wg5 T t n kp) (f := fun a D => upd D (18 + 6 * n + 3) (nI (tE T t (tE T t (tE T t a.1)) - tF T t (tE T t (tE T t a.1))))) (by omega) _ hx6 (fun a b e1 e2 hG => by
      rw [hG.2.2.2.2.2.1, hG.2.2.2.2.2.2.1, pk_sub (tE_b hG.2.2.1).1, wg5_p e2])
    generalize upI u5 (3, 0, 6) (18 + 6 * n + 3) (u5.1 (3, 0, 0) 13 - u5.1 (3, 0, 0) 14) = u6 at hx7 ⊢
    clear hx6
    refine v_aload_n hC (pc := 104) (k := 0) 2 rfl dX7_readWalker_104 ?_
    refine v_getR hC (pc := 105) dX7_readWalker_105 fl_X7_20 rfl (by first | rfl | exact ok_c hq rfl | exact ok_w hq hw | exact ok_w (by omega) (by omega) | exact ok_s (by omega) (by omega) | exact ok_c (by omega) rfl | assumption) rfl (by decide) (by decide) rfl ?_
    refine v_iload_n hC (pc := 108) (k := 2) 1 rfl dX7_readWalker_108 ?_
    refine v_iconst hC (pc := 109) (v := 4) (by decide) dX7_readWalker_109 ?_
    refine v_iadd hC (pc := 110) dX7_readWalker_110 ?_
    refine v_aload_n hC (pc := 111) (k := 0) 2 rfl dX7_readWalker_111 ?_
    refine v_callV hC (pc := 112) (As := []) dX7_readWalker_112 rfl (m_rouX _ _ (d := d - 1) (by omega) ht htp hT hT0 _ _ hx7) cv_X7_151 rfl (by decide) rfl (by first | rfl | exact ok_c hq rfl | exact ok_w hq hw | exact ok_w (by omega) (by omega) | exact ok_s (by omega) (by omega) | exact ok_c (by omega) rfl | assumption) (Nat.le_of_ble_eq_true rfl) (by omega) (fun r h' hr => ?_)
    obtain ⟨v, rfl, hx8, hv8⟩ := hr
    rw [bd_as] at hx8
    replace hx8 : RS T t h0 h' (bdE x (wg7 T t n kp)) := hx8
    generalize h' = u7 at hx8 ⊢
    show V _ _ _ (112 + 3) _ (_ :: _) _
    try simp only [nL_0, nL_1, nL_2, nL_3, nL_4, nL_5, nL_6, nL_8, nL_16, nL_17, nL_18, nL_40, nL_42, nL_43, nL_47, nL_48, nL_64, nL_80, pk_mul, nI_add]
    refine v_iast hC (pc := 115) dX7_readWalker_115 rfl (by first | rfl | exact ok_c hq rfl | exact ok_w hq hw | exact ok_w (by omega) (by omega) | exact ok_s (by omega) (by omega) | exact ok_c (by omega) rfl | assumption) (vp_nat (by omega) (by decide)) ?_
    rw [(nI_clamp (show 18 + 6 * n + 4 < 2 ^ 31 by omega))]
    have hx9 : RS T t h0 (upI u7 (3, 0, 6) (18 + 6 * n + 4) v) (bdE x (wg8 T t n kp)) := Wr_dr (g := wg7 T t n kp) (f := fun a D => upd D (18 + 6 * n + 4) (rtN T (tF T t (tE T t (tE T t a.1))) (tE T t (tE T t (tE T t a.1)) - tF T t (tE T t (tE T t a.1))))) (by omega) _ hx8 (fun a b e1 e2 hG => by
      obtain ⟨c, e3, e4⟩ := bdE_p e2
      rw [hv8 c (by rw [e1]; exact e3) b e4, wg6_p e3])
    generalize upI u7 (3, 0, 6) (18 + 6 * n + 4) v = u8 at hx9 ⊢
    clear hx8
    refine v_aload_n hC (pc := 116) (k := 0) 2 rfl dX7_readWalker_116 ?_
    refine v_getR hC (pc := 117) dX7_readWalker_117 fl_X7_20 rfl (by first | rfl | exact ok_c hq rfl | exact ok_w hq hw | exact ok_w (by omega) (by omega) | exact ok_s (by omega) (by omega) | exact ok_c (by omega) rfl | assumption) rfl (by decide) (by decide) rfl ?_
    refine v_iload_n hC (pc := 120) (k := 2) 1 rfl dX7_readWalker_120 ?_
    refine v_iconst hC (pc := 121) (v := 5) (by decide) dX7_readWalker_121 ?_
    refine v_iadd hC (pc := 122) dX7_readWalker_122 ?_
    refine v_iconst hC (pc := 123) (v := 0) (by decide) dX7_readWalker_123 ?_
    try simp only [nL_0, nL_1, nL_2, nL_3, nL_4, nL_5, nL_6, nL_8, nL_16, nL_17, nL_18, nL_40, nL_42, nL_43, nL_47, nL_48, nL_64, nL_80, pk_mul, nI_add]
    refine v_iast hC (pc := 124) dX7_readWalker_124 rfl (by first | rfl | exact ok_c hq rfl | exact ok_w hq hw | exact ok_w (by omega) (by omega) | exact ok_s (by omega) (by omega) | exact ok_c (by omega) rfl | assumption) (vp_nat (by omega) (by decide)) ?_
    rw [(nI_clamp (show 18 + 6 * n + 5 < 2 ^ 31 by omega))]
    have hx10 : RS T t h0 (upI u8 (3, 0, 6) (18 + 6 * n + 5) (nI 0)) (bdE x (wg9 T t n kp)) := Wr_dr (g := wg8 T t n kp) (f := fun a D => upd D (18 + 6 * n + 5) 0) (by omega) _ hx9 (fun a b e1 e2 hG => by rw [nI_0])
    generalize upI u8 (3, 0, 6) (18 + 6 * n + 5) (nI 0) = u9 at hx10 ⊢
    clear hx9
    refine v_aload_n hC (pc := 125) (k := 0) 2 rfl dX7_readWalker_125 ?_
    refine v_dup hC (pc := 126) rfl dX7_readWalker_126 ?_
    refine v_getI hC (pc := 127) dX7_readWalker_127 fl_X7_67 rfl (by first | rfl | exact ok_c hq rfl | exact ok_w hq hw | exact ok_w (by omega) (by omega) | exact ok_s (by omega) (by omega) | exact ok_c (by omega) rfl | assumption) rfl (by decide) (by decide) ?_
    refine v_iconst hC (pc := 130) (v := 1) (by decide) dX7_readWalker_130 ?_
    refine v_iadd hC (pc := 131) dX7_readWalker_131 ?_
    refine v_putI hC (pc := 132) dX7_readWalker_132 fs_X7_67 rfl (by first | rfl | exact ok_c hq rfl | exact ok_w hq hw | exact ok_w (by omega) (by omega) | exact ok_s (by omega) (by omega) | exact ok_c (by omega) rfl | assumption) rfl (by decide) (by decide) ?_
    refine v_vret hC hX (pc := 135) dX7_readWalker_135 ?_
    exact ⟨rfl, Wr_f7 (g := wg9 T t n kp) (f := fun a D => upd D 81 (D 81 + 1)) _ hx10 (fun a b e1 e2 hG => by rw [hG.2.2.2.1.2.2.1])⟩
  have P61t : ∀ (u : HP) (sd : Int32), RS T t h0 u (bdE x (wg1 T t n)) → (u.1 (3, 0, 0) 17 = 0 → ∀ b, bdE x (wg1 T t n) = .inr b → GoS T t h0 u b → (tK T t b.1 = 1 → sd = oV (sdN2 T t b.1)) ∧ (¬ tK T t b.1 = 1 → sd = -4)) → ¬ sd = -4 → V X G 4 61 [(3, vi sd), (2, vi (nI (18 + 6 * n))), (0, vr (3, 0, 0)), (1, vi kp)] [vi 1, vr (3, 0, 0)] u := by
    intro u sd hx2 hsd hne
    have hgs : ∀ a b, x = .inr a → wg1 T t n a = .inr b → GoS T t h0 u b → (tK T t b.1 = 1 → sd = oV (sdN2 T t b.1)) ∧ (¬ tK T t b.1 = 1 → sd = -4) := fun a b e1 e2 hG => hsd hG.2.2.2.2.1 b (by rw [e1]; exact e2) hG
    have hgs2 : u.1 (3, 0, 0) 17 = 0 → (∀ a b, x = .inr a → wg3 T t n a = .inr b → sd = oV (sdN2 T t (tE T t a.1))) := by
      intro hz a b e1 e2
      obtain ⟨-, c, e3, e4⟩ := wg3_p e2
      obtain ⟨b9, e9, hG⟩ := RS_g hx2 hz
      rw [e1] at e9
      have e10 : b9 = c := by
        have e11 : wg1 T t n a = .inr b9 := e9
        rw [e3] at e11; cases e11; rfl
      subst e10
      have y := hgs a b9 e1 e3 hG
      rw [wg1_p e3] at y
      by_cases q : tK T t (tE T t a.1) = 1
      · exact y.1 q
      · exact absurd (y.2 q) hne
    refine v_iconst hC (pc := 61) (v := 2) (by decide) dX7_readWalker_61 ?_
    refine v_callV hC (pc := 62) (As := [_, _]) dX7_readWalker_62 rfl (nd_1 _ _ (d := d - 1) (by omega) _ _) cv_X7_133 rfl (by decide) rfl (by first | rfl | exact ok_c hq rfl | exact ok_w hq hw | exact ok_w (by omega) (by omega) | exact ok_s (by omega) (by omega) | exact ok_c (by omega) rfl | assumption) (Nat.le_of_ble_eq_true rfl) (by omega) (fun r h' hr => ?_)
    obtain ⟨he9, rfl⟩ := hr
    rw [he9]
    clear he9 h'
    show V _ _ _ (62 + 3) _ _ _
    exact P65 u sd (Wr_ck (by decide) hx2 (fun a b e1 e2 hG => by
      have y := hgs a b e1 e2 hG
      by_cases q : tK T t b.1 = 1
      · exact ⟨q, fun z => hne ((y.1 q).trans ((oV_n T t b.1).mpr z))⟩
      · exact absurd (y.2 q) hne)) hgs2
  have P61f : ∀ (u : HP) (sd : Int32), RS T t h0 u (bdE x (wg1 T t n)) → (u.1 (3, 0, 0) 17 = 0 → ∀ b, bdE x (wg1 T t n) = .inr b → GoS T t h0 u b → (tK T t b.1 = 1 → sd = oV (sdN2 T t b.1)) ∧ (¬ tK T t b.1 = 1 → sd = -4)) → sd = -4 → V X G 4 61 [(3, vi sd), (2, vi (nI (18 + 6 * n))), (0, vr (3, 0, 0)), (1, vi kp)] [vi 0, vr (3, 0, 0)] u := by
    intro u sd hx2 hsd heq
    have hgs : ∀ a b, x = .inr a → wg1 T t n a = .inr b → GoS T t h0 u b → (tK T t b.1 = 1 → sd = oV (sdN2 T t b.1)) ∧ (¬ tK T t b.1 = 1 → sd = -4) := fun a b e1 e2 hG => hsd hG.2.2.2.2.1 b (by rw [e1]; exact e2) hG
    by_cases hz : u.1 (3, 0, 0) 17 = 0
    · skip
      refine v_iconst hC (pc := 61) (v := 2) (by decide) dX7_readWalker_61 ?_
      refine v_callV hC (pc := 62) (As := [_, _]) dX7_readWalker_62 rfl (nd_0 _ _ (d := d - 1) (by omega) _ _ hz) cv_X7_133 rfl (by decide) rfl (by first | rfl | exact ok_c hq rfl | exact ok_w hq hw | exact ok_w (by omega) (by omega) | exact ok_s (by omega) (by omega) | exact ok_c (by omega) rfl | assumption) (Nat.le_of_ble_eq_true rfl) (by omega) (fun r h' hr => ?_)
      obtain ⟨he9, rfl⟩ := hr
      rw [he9]
      clear he9 h'
      show V _ _ _ (62 + 3) _ _ _
      exact P65 _ sd (Wr_cn (by decide) hz hx2 (fun a b e1 e2 hG z => by
        have y := hgs a b e1 e2 hG
        exact z.2 ((oV_n T t b.1).mp ((y.1 z.1).symm.trans heq)))) (fun hz9 => absurd hz9 (by rw [nfH_17]; decide))
    · skip
      refine v_iconst hC (pc := 61) (v := 2) (by decide) dX7_readWalker_61 ?_
      refine v_callV hC (pc := 62) (As := [_, _]) dX7_readWalker_62 rfl (nd_x _ _ (d := d - 1) (by omega) _ _ _ (Or.inl rfl) hz) cv_X7_133 rfl (by decide) rfl (by first | rfl | exact ok_c hq rfl | exact ok_w hq hw | exact ok_w (by omega) (by omega) | exact ok_s (by omega) (by omega) | exact ok_c (by omega) rfl | assumption) (Nat.le_of_ble_eq_true rfl) (by omega) (fun r h' hr => ?_)
      obtain ⟨he9, rfl⟩ := hr
      rw [he9]
      clear he9 h'
      show V _ _ _ (62 + 3) _ _ _
      exact P65 _ sd (Wr_cx hz hx2) (fun hz9 => absurd hz9 hz)
  have P48 : ∀ (u : HP) (sd : Int32), RS T t h0 u (bdE x (wg1 T t n)) → (u.1 (3, 0, 0) 17 = 0 → ∀ b, bdE x (wg1 T t n) = .inr b → GoS T t h0 u b → (tK T t b.1 = 1 → sd = oV (sdN2 T t b.1)) ∧ (¬ tK T t b.1 = 1 → sd = -4)) → V X G 4 48 [(2, vi (nI (18 + 6 * n))), (0, vr (3, 0, 0)), (1, vi kp)] [vi sd] u := by
    intro u sd hx2 hsd
    refine v_istore_n hC (pc := 48) (l' := [(3, _), (2, _), (0, _), (1, _)]) dX7_readWalker_48 (by decide) rfl ?_
    refine v_aload_n hC (pc := 49) (k := 0) 2 rfl dX7_readWalker_49 ?_
    refine v_iload_n hC (pc := 50) (k := 3) 0 rfl dX7_readWalker_50 ?_
    refine v_bipush hC (pc := 51) (v := (-4)) (by decide +kernel) dX7_readWalker_51 ?_
    refine v_icmp_eq hC (pc := 53) (tgt := 60) dX7_readWalker_53 (by decide) (fun c_53 => ?_) (fun c_53 => ?_)
    · skip
      refine v_iconst hC (pc := 60) (v := 0) (by decide) dX7_readWalker_60 ?_
      exact P61f u sd hx2 hsd c_53
    · skip
      refine v_iconst hC (pc := 56) (v := 1) (by decide) dX7_readWalker_56 ?_
      refine v_goto hC (pc := 57) (tgt := 61) dX7_readWalker_57 (by decide) ?_
      exact P61t u sd hx2 hsd c_53
  refine v_bipush hC (pc := 0) (v := 18) (by decide +kernel) dX7_readWalker_0 ?_
  refine v_bipush hC (pc := 2) (v := 6) (by decide +kernel) dX7_readWalker_2 ?_
  refine v_aload_n hC (pc := 4) (k := 0) 0 rfl dX7_readWalker_4 ?_
  refine v_getI hC (pc := 5) dX7_readWalker_5 fl_X7_67 rfl (by first | rfl | exact ok_c hq rfl | exact ok_w hq hw | exact ok_w (by omega) (by omega) | exact ok_s (by omega) (by omega) | exact ok_c (by omega) rfl | assumption) rfl (by decide) (by decide) ?_
  rw [hn7]
  refine v_imul hC (pc := 8) dX7_readWalker_8 ?_
  refine v_iadd hC (pc := 9) dX7_readWalker_9 ?_
  try simp only [nL_0, nL_1, nL_2, nL_3, nL_4, nL_5, nL_6, nL_8, nL_16, nL_17, nL_18, nL_40, nL_42, nL_43, nL_47, nL_48, nL_64, nL_80, pk_mul, nI_add]
  refine v_istore_n hC (pc := 10) (l' := [(2, _), (0, _), (1, _)]) dX7_readWalker_10 (by decide) rfl ?_
  refine v_aload_n hC (pc := 11) (k := 0) 1 rfl dX7_readWalker_11 ?_
  refine v_getR hC (pc := 12) dX7_readWalker_12 fl_X7_20 rfl (by first | rfl | exact ok_c hq rfl | exact ok_w hq hw | exact ok_w (by omega) (by omega) | exact ok_s (by omega) (by omega) | exact ok_c (by omega) rfl | assumption) rfl (by decide) (by decide) rfl ?_
  refine v_iload_n hC (pc := 15) (k := 2) 0 rfl dX7_readWalker_15 ?_
  refine v_iconst hC (pc := 16) (v := 0) (by decide) dX7_readWalker_16 ?_
  refine v_iadd hC (pc := 17) dX7_readWalker_17 ?_
  refine v_aload_n hC (pc := 18) (k := 0) 1 rfl dX7_readWalker_18 ?_
  refine v_iconst hC (pc := 19) (v := 0) (by decide) dX7_readWalker_19 ?_
  refine v_callV hC (pc := 20) (As := [_]) dX7_readWalker_20 rfl (m_corX _ _ (d := d - 1) (by omega) ht htp hT hT0 _ x hx 0) cv_X7_144 rfl (by decide) rfl (by first | rfl | exact ok_c hq rfl | exact ok_w hq hw | exact ok_w (by omega) (by omega) | exact ok_s (by omega) (by omega) | exact ok_c (by omega) rfl | assumption) (Nat.le_of_ble_eq_true rfl) (by omega) (fun r h' hr => ?_)
  obtain ⟨c, hc8, rfl, hx1, hv1⟩ := hr
  generalize h' = u1 at hx1 ⊢
  show V _ _ _ (20 + 3) _ (_ :: _) _
  try simp only [nL_0, nL_1, nL_2, nL_3, nL_4, nL_5, nL_6, nL_8, nL_16, nL_17, nL_18, nL_40, nL_42, nL_43, nL_47, nL_48, nL_64, nL_80, pk_mul, nI_add]
  refine v_iast hC (pc := 23) dX7_readWalker_23 rfl (by first | rfl | exact ok_c hq rfl | exact ok_w hq hw | exact ok_w (by omega) (by omega) | exact ok_s (by omega) (by omega) | exact ok_c (by omega) rfl | assumption) (vp_nat (by omega) (by decide)) ?_
  rw [(nI_clamp (show 18 + 6 * n + 0 < 2 ^ 31 by omega))]
  have hx2 : RS T t h0 (upI u1 (3, 0, 6) (18 + 6 * n + 0) (nI c)) (bdE x (wg1 T t n)) := Wr_dr (g := corS T t 0) (f := fun a D => upd D (18 + 6 * n + 0) (tV T t a.1)) (by omega) _ hx1 (fun a b e1 e2 _ => by rw [hv1 a e1 b e2])
  generalize upI u1 (3, 0, 6) (18 + 6 * n + 0) (nI c) = u2 at hx2 ⊢
  clear hx1 hv1
  refine v_aload_n hC (pc := 24) (k := 0) 1 rfl dX7_readWalker_24 ?_
  refine v_getI hC (pc := 25) dX7_readWalker_25 fl_X7_91 rfl (by first | rfl | exact ok_c hq rfl | exact ok_w hq hw | exact ok_w (by omega) (by omega) | exact ok_s (by omega) (by omega) | exact ok_c (by omega) rfl | assumption) rfl (by decide) (by decide) ?_
  skip
  refine v_if_ne hC (pc := 28) (tgt := 46) dX7_readWalker_28 (by decide) (fun c_28 => ?_) (fun c_28 => ?_)
  · skip
    skip
    refine v_bipush hC (pc := 46) (v := (-4)) (by decide +kernel) dX7_readWalker_46 ?_
    refine v_loc (l' := [(2, vi (nI (18 + 6 * n))), (0, vr (3, 0, 0)), (1, vi kp)]) [0, 1, 2] rfl (P48 u2 _ hx2 ?_)
    first
      | exact fun z => absurd z c_28
      | exact fun _ b1 e1 hG1 => by
          rw [e1] at hb9; cases hb9
          exact ⟨fun q => absurd (by rw [hG.2.2.2.2.2.2.2.1]; exact congrArg nI q) c_36, fun q => rfl⟩
      | exact fun _ b1 e1 hG1 => by
          rw [e1] at hb9; cases hb9
          exact ⟨fun q => rfl, fun q => absurd ((nI_eq (by have := tK_le T t b.1; omega) (by decide)).mp (hG.2.2.2.2.2.2.2.1.symm.trans c_36)) q⟩
  · skip
    obtain ⟨b, hb9, hG⟩ := RS_g hx2 c_28
    refine v_aload_n hC (pc := 31) (k := 0) 1 rfl dX7_readWalker_31 ?_
    refine v_getI hC (pc := 32) dX7_readWalker_32 fl_X7_119 rfl (by first | rfl | exact ok_c hq rfl | exact ok_w hq hw | exact ok_w (by omega) (by omega) | exact ok_s (by omega) (by omega) | exact ok_c (by omega) rfl | assumption) rfl (by decide) (by decide) ?_
    refine v_iconst hC (pc := 35) (v := 1) (by decide) dX7_readWalker_35 ?_
    refine v_icmp_ne hC (pc := 36) (tgt := 46) dX7_readWalker_36 (by decide) (fun c_36 => ?_) (fun c_36 => ?_)
    · skip
      refine v_bipush hC (pc := 46) (v := (-4)) (by decide +kernel) dX7_readWalker_46 ?_
      refine v_loc (l' := [(2, vi (nI (18 + 6 * n))), (0, vr (3, 0, 0)), (1, vi kp)]) [0, 1, 2] rfl (P48 u2 _ hx2 ?_)
      first
        | exact fun z => absurd z c_28
        | exact fun _ b1 e1 hG1 => by
            rw [e1] at hb9; cases hb9
            exact ⟨fun q => absurd (by rw [hG.2.2.2.2.2.2.2.1]; exact congrArg nI q) c_36, fun q => rfl⟩
        | exact fun _ b1 e1 hG1 => by
            rw [e1] at hb9; cases hb9
            exact ⟨fun q => rfl, fun q => absurd ((nI_eq (by have := tK_le T t b.1; omega) (by decide)).mp (hG.2.2.2.2.2.2.2.1.symm.trans c_36)) q⟩
    · skip
      refine v_aload_n hC (pc := 39) (k := 0) 1 rfl dX7_readWalker_39 ?_
      refine v_callV hC (pc := 40) (As := []) dX7_readWalker_40 rfl (m_sideNow _ _ (d := d - 1) (by omega) _ (T := T) (t := t) (e := b.1) ht ((hG.1.2.2 12 (by decide)).trans htp) ((hG.1.1 (3, 0, 12) (by decide) (by decide) (by decide)).trans hT) hG.2.2.2.2.2.1 hG.2.2.2.2.2.2.1 hG.2.2.1) cv_X7_115 rfl (by decide) rfl (by first | rfl | exact ok_c hq rfl | exact ok_w hq hw | exact ok_w (by omega) (by omega) | exact ok_s (by omega) (by omega) | exact ok_c (by omega) rfl | assumption) (Nat.le_of_ble_eq_true rfl) (by omega) (fun r h' hr => ?_)
      obtain ⟨he9, rfl⟩ := hr
      rw [he9]
      clear he9 h'
      show V _ _ _ (40 + 3) _ (_ :: _) _
      refine v_goto hC (pc := 43) (tgt := 48) dX7_readWalker_43 (by decide) ?_
      refine v_loc (l' := [(2, vi (nI (18 + 6 * n))), (0, vr (3, 0, 0)), (1, vi kp)]) [0, 1, 2] rfl (P48 u2 _ hx2 ?_)
      first
        | exact fun z => absurd z c_28
        | exact fun _ b1 e1 hG1 => by
            rw [e1] at hb9; cases hb9
            exact ⟨fun q => absurd (by rw [hG.2.2.2.2.2.2.2.1]; exact congrArg nI q) c_36, fun q => rfl⟩
        | exact fun _ b1 e1 hG1 => by
            rw [e1] at hb9; cases hb9
            exact ⟨fun q => rfl, fun q => absurd ((nI_eq (by have := tK_le T t b.1; omega) (by decide)).mp (hG.2.2.2.2.2.2.2.1.symm.trans c_36)) q⟩

