/-! THE BOND: text -/
theorem WD_RO {D : Nat → Int32} (h : WD D) (hlt : D 85 < D 80) : ∃ nC nW, D 80 = nI nC ∧ D 81 = nI nW ∧ RO D nC nW 0 := by
  obtain ⟨⟨n, n4, en, hw, hh, -⟩, ⟨-, hs, -, -⟩, ⟨m, m2, m8, em⟩, ⟨t, ht, et⟩, hg, e42, e47⟩ := h
  rw [em, Int32.lt_iff_toInt_lt, nI_toInt (by omega)] at hlt
  have lim : ∀ p : Nat, p < 8 → hiM D n p → p < m := fun p hp z => by
    have := hh p hp z
    omega
  refine ⟨m, n, em, en, m8, n4, by decide, fun k hk => ?_, fun w hw2 => ?_⟩
  · by_cases c1 : k < 16
    · have e : k = 8 * (k / 8) + k % 8 := by omega
      have hst := hs (k % 8) (k / 8) (by omega) (by omega)
      rw [← e] at hst
      by_cases q : D k = -4
      · by_cases q2 : k % 8 < m
        · exact okV_s c1 q2 (Or.inl q)
        · exact ⟨fun _ => Or.inr ⟨by omega, q⟩, by omega, by omega, by omega, by omega, by omega, by omega⟩
      · refine okV_s c1 ?_ ?_
        · exact lim (k % 8) (by omega) (Or.inl ⟨k % 8, k / 8, by omega, by omega, by rw [← e]; exact q, Or.inl rfl⟩)
        · rcases hst with z | ⟨p, hp, ep⟩
          · exact absurd z q
          · exact Or.inr ⟨p, lim p hp (Or.inl ⟨k % 8, k / 8, by omega, by omega, by rw [← e]; exact q, Or.inr (by rw [← e]; exact ep)⟩), ep⟩
    by_cases c2 : k = 16
    · subst c2; exact okV_16
    by_cases c3 : k = 17
    · subst c3; rw [et]; exact okV_17 (by omega)
    by_cases c4 : k < 42
    · refine okV_w (by omega) c4 (fun hw2 => ?_)
      obtain ⟨w, f, e, hf, hw3⟩ : ∃ w f, k = 18 + 6 * w + f ∧ f < 6 ∧ w < n := ⟨(k - 18) / 6, (k - 18) % 6, by omega, by omega, hw2⟩
      subst e
      obtain ⟨⟨p, hp, ep⟩, k1, k2, k3, k4⟩ := hw w hw3
      refine ⟨fun z => ?_, fun z => ?_, fun z => ?_⟩
      · have : f = 0 := by omega
        subst this
        exact ⟨p, lim p hp (Or.inr (Or.inr ⟨w, hw3, ep⟩)), ep⟩
      · have : f = 1 := by omega
        subst this
        exact k1
      · have : f = 2 := by omega
        subst this
        exact k2
    by_cases c5 : k = 42
    · subst c5; exact okV_42
    by_cases c6 : k < 47
    · obtain ⟨g, e⟩ : ∃ g, k = 43 + g := ⟨k - 43, by omega⟩
      subst e
      obtain ⟨x, hx, ex⟩ := hg g (by omega)
      rw [ex]; exact okV_g (by omega) hx
    by_cases c7 : k = 47
    · subst c7
      exact ⟨by omega, by omega, by omega, by omega, by omega, fun _ => e47, by omega⟩
    · exact ⟨by omega, by omega, by omega, by omega, by omega, by omega, by omega⟩
  · obtain ⟨-, -, -, ⟨l, hl, el⟩, e5⟩ := hw w hw2
    exact ⟨0, l, by omega, e5, by rw [el, Nat.zero_add]⟩
theorem DCd_CR {u : HP} {D : Nat → Int32} {nC nW : Nat} (h : DCd u D) (eC : D 80 = nI nC) (eW : D 81 = nI nW) (h4 : nW ≤ 4) (e42 : D 42 = 0) (e47 : D 47 = 0) : CR u 4 D nC nW 0 := by
  obtain ⟨⟨d0, d1, d2, d3, d4, d5⟩, ds, dg, dw⟩ := h
  refine ⟨d0.trans eC, d4.trans eW, fun k hk hl => ?_⟩
  by_cases c1 : k < 16
  · have e : k = 0 + 8 * (k / 8) + k % 8 := by omega
    rw [e, src_s (by omega) (by omega), ds _ _ (by omega) (by omega)]
    exact congrArg D (by omega)
  by_cases c2 : k = 16
  · subst c2; exact d1
  by_cases c3 : k = 17
  · subst c3; exact d2
  by_cases c4 : k < 42
  · obtain ⟨w, f, e, hf, hw⟩ : ∃ w f, k = 18 + 6 * w + f ∧ f < 6 ∧ w < nW := ⟨(k - 18) / 6, (k - 18) % 6, by omega, by omega, hl.1 (by omega) c4⟩
    subst e
    obtain ⟨y0, y1, y2, y3, y4, y5⟩ := dw nW h4 eW w hw
    rw [src_w (by omega) hf]
    rcases (show f = 0 ∨ f = 1 ∨ f = 2 ∨ f = 3 ∨ f = 4 ∨ f = 5 by omega) with rfl | rfl | rfl | rfl | rfl | rfl
    · exact y0
    · exact y1
    · exact y2
    · exact y4
    · exact y3
    · exact y5
  by_cases c5 : k = 42
  · subst c5; exact d3.trans e42.symm
  by_cases c6 : k < 47
  · obtain ⟨g, e⟩ : ∃ g, k = 43 + g := ⟨k - 43, by omega⟩
    subst e
    rw [src_g (by omega)]; exact dg g (by omega)
  by_cases c7 : k = 47
  · subst c7; exact d5.trans e47.symm
  · have := hl.2 (by omega)
    omega
/-- a heap behind a text: what it keeps -/
def txK (h v : HP) (c : Int32) : Prop := (∀ i : PId, ¬ i = (1, 0, 2) → ¬ i = (1, 0, 4) → ¬ i = (1, 0, 0) → ¬ isC 4 i → ¬ isC 0 i → ¬ i = (3, 0, 0) → ¬ i = (3, 0, 6) → ¬ i = (3, 0, 10) → ¬ i = (3, 0, 1) → ¬ i = (3, 0, 3) → v.1 i = h.1 i) ∧ v.1 (1, 0, 2) 1 = 0 ∧ v.1 (3, 0, 0) 12 = 0 ∧ v.1 (1, 0, 0) 8 = c ∧ v.1 (3, 0, 0) 17 = c ∧ v.1 (1, 0, 0) 9 = h.1 (1, 0, 0) 9 ∧ v.1 (3, 0, 0) 27 = h.1 (3, 0, 0) 27 ∧ ∀ w, w < 4 → v.1 (6, 4, w) 2 = 0 ∨ v.1 (6, 4, w) 2 = 1
theorem tx_Inv {h v : HP} {c : Int32} {nC nW nS nC2 nW2 nS2 : Nat} (I : InvD h nC nW nS) (K : txK h v c) (e3 : v.1 (3, 0, 0) 3 = nI nC2) (e4 : v.1 (3, 0, 0) 4 = nI nW2) (R : RO (v.1 (3, 0, 1)) nC2 nW2 nS2) (C : CR v 0 (v.1 (3, 0, 1)) nC2 nW2 nS2) (M : IM v nC2 nW2) (hk : ∀ w, w < 4 → v.1 (6, 0, w) 2 = 0 ∨ v.1 (6, 0, w) 2 = 1) : InvD v nC2 nW2 nS2 := by
  obtain ⟨k0, k1, k2, k3, k4, k5, k6, k7⟩ := K
  have g : ∀ i : PId, (i.1 = 2 ∨ i = (1, 0, 3) ∨ i = (3, 0, 12) ∨ i = (3, 0, 25) ∨ i = (3, 0, 26) ∨ i = (3, 0, 27)) → v.1 i = h.1 i := fun i hi => by
    obtain ⟨a, b, d⟩ := i
    have hi : a = 2 ∨ (a = 1 ∧ b = 0 ∧ d = 3) ∨ (a = 3 ∧ b = 0 ∧ (d = 12 ∨ d = 25 ∨ d = 26 ∨ d = 27)) := by
      simp only [Prod.mk.injEq] at hi
      omega
    refine k0 _ ?_ ?_ ?_ ?_ ?_ ?_ ?_ ?_ ?_ ?_
    all_goals first | (simp only [Prod.mk.injEq]; omega) | (intro z; have z1 : a = 0 ∨ a = 6 := z.1; omega)
  refine ⟨e3, e4, R, C, M, ⟨?_, 0, by decide, k1, k2, fun j hj => absurd hj (Nat.not_lt_zero _)⟩, ⟨k3.trans k4.symm, by rw [k5, k6]; exact I.ft.2⟩, fun k hk => ?_, fun q w hq hq1 hw => ?_⟩
  · rw [g _ (Or.inr (Or.inl rfl)), g _ (Or.inr (Or.inr (Or.inl rfl)))]; exact I.tp.1
  · rw [g (2, k, 0) (Or.inl rfl), g (2, k, 1) (Or.inl rfl), g (3, 0, 25) (by simp), g (3, 0, 26) (by simp), g (3, 0, 27) (by simp)]
    exact I.sh k hk
  · by_cases q0 : q = 0
    · subst q0; exact hk w hw
    by_cases q4 : q = 4
    · subst q4; exact k7 w hw
    rw [k0 (6, q, w) (by simp) (by simp) (by simp) (fun z => q4 z.2) (fun z => q0 z.2) (by simp) (by simp) (by simp) (by simp) (by simp)]
    exact I.kb q w hq hq1 hw
set_option maxRecDepth 20000 in
set_option maxHeartbeats 2000000 in
theorem s_text (l9 : Launch) (G : WT) {d : Nat} (hd : 10 ≤ d) (h : HP) (hI : Inv h)   : SM l9 G yX6_text cX6_text 2 yX7_text cX7_text 2 d [] h := by
  obtain ⟨nC, nW, nS, I⟩ := hI
  obtain ⟨t1, t, t2, t3, t4, t5⟩ := I.tp
  have hKB : KB h := fun w hw => I.kb 4 w (by decide) (by decide) hw
  refine ⟨fun v u => TXK (h.1 (1, 0, 3)) t h (some (vi v)) u, MS.mono (k_text l9 G (d := d) (by omega) h t2 t3 rfl t5 hKB) (fun r u z => ?_), fun v1 h1 z => ?_⟩
  · rcases z with ⟨c, f, u1, a1, a2, e, a3, a4⟩ | ⟨m, D, u1, v1, a1, a2, e, a3⟩
    · exact ⟨_, e, Or.inl ⟨c, f, u1, a1, a2, rfl, a3, a4⟩⟩
    · exact ⟨_, e, Or.inr ⟨m, D, u1, v1, a1, a2, rfl, a3⟩⟩
  rcases z with ⟨c, f, u1, a1, a2, e, CE1, rfl⟩ | ⟨m, D, u1, v9, a1, a2, e, CE1, dD, sD, fD, rfl⟩
  · have b0 : ∀ i : PId, i.1 = 3 → (upI (upI u1 (1, 0, 2) 1 0) (1, 0, 0) 8 c).1 i = h.1 i := fun i hi => by
      have n1 : ∀ a b, i ≠ (1, a, b) := fun a b e => by
        have : i.1 = 1 := congrArg Prod.fst e
        omega
      rw [upI_ne _ _ _ (n1 _ _), upI_ne _ _ _ (n1 _ _), CE1.1 i (n1 _ _) (n1 _ _) (fun y => by have := y.1; omega)]
    refine MS.mono (m_text l9 G (d := d) (by omega) (T := h.1 (1, 0, 3)) (t := t) _ t2 (by rw [b0 _ rfl]; exact t4) (by rw [b0 _ rfl]; exact t1.symm) t5) (fun r h2 z => ?_)
    rcases z with ⟨c2, f2, g1, e2, u2, RE2, g2, g3, rfl⟩ | ⟨m, D, g1, _⟩
    · rw [a1] at g1
      injection g1 with g1
      injection g1 with g1 g4
      subst g1
      subst g4
      refine ⟨by rw [e2, ← e], nC, nW, nS, ?_⟩
      have fr : ∀ i : PId, ¬ i = (1, 0, 2) → ¬ i = (1, 0, 4) → ¬ i = (1, 0, 0) → ¬ isC 4 i → ¬ i = (3, 0, 0) → ¬ i = (3, 0, 6) → ¬ i = (3, 0, 10) → (upI u2 (3, 0, 0) 12 0).1 i = h.1 i := fun i x1 x2 x3 x4 x5 x6 x7 => by
        rw [upI_ne _ _ _ x5, RE2.1 i x5 x6 x7, upI_ne _ _ _ x3, upI_ne _ _ _ x1, CE1.1 i x1 x2 x4]
      have e31 : (upI u2 (3, 0, 0) 12 0).1 (3, 0, 1) = h.1 (3, 0, 1) := fr _ (by decide) (by decide) (by decide) (nC_i (by decide) (by decide)) (by decide) (by decide) (by decide)
      have e30 : ∀ k, k < 6 ∨ 18 < k → (upI u2 (3, 0, 0) 12 0).1 (3, 0, 0) k = h.1 (3, 0, 0) k := fun k hk => by
        rw [upI_k _ _ _ _ _ (by omega), RE2.2.2 k (by omega), b0 _ rfl]
      have e10 : ∀ k, (upI u2 (3, 0, 0) 12 0).1 (1, 0, 0) k = if k = 8 then c else h.1 (1, 0, 0) k := fun k => by
        rw [upI_ne _ _ _ (by decide), RE2.1 _ (by decide) (by decide) (by decide), upI_at, upI_ne _ _ _ (by decide), CE1.1 _ (by decide) (by decide) (nC_i (by decide) (by decide))]
      have cq : ∀ q, q < 4 → ∀ i, isC q i → (upI u2 (3, 0, 0) 12 0).1 i = h.1 i := fun q hq i z => fr i (im_ne z 0 2).1 (im_ne z 0 4).1 (im_ne z 0 0).1 (fun y => by have := z.2.symm.trans y.2; omega) (im_ne z 0 0).2 (im_ne z 0 6).2 (im_ne z 0 10).2
      refine tx_Inv I (c := c) ⟨fun i x1 x2 x3 x4 _ x5 x6 x7 _ _ => fr i x1 x2 x3 x4 x5 x6 x7, ?_, upI_i _ _ _ _, by rw [e10, if_pos rfl], ?_, by rw [e10, if_neg (by decide)], e30 27 (by omega), fun w hw => ?_⟩ (by rw [e30 3 (by omega)]; exact I.b3) (by rw [e30 4 (by omega)]; exact I.b4) (by rw [e31]; exact I.ro) (CR_fr I.cr (cq 0 (by decide)) (fun _ _ => by rw [e31])) (IM_fr I.im (by rw [e10, if_neg (by decide)]) (fr _ (by decide) (by decide) (by decide) (nC_i (by decide) (by decide)) (by decide) (by decide) (by decide)) (fun k hk => cq _ (by omega)) (fun _ _ => by rw [e31])) (fun w hw => by rw [cq 0 (by decide) _ ⟨Or.inr rfl, rfl⟩]; exact I.kb 0 w (by decide) (by decide) hw)
      · rw [upI_ne _ _ _ (by decide), RE2.1 _ (by decide) (by decide) (by decide), upI_ne _ _ _ (by decide), upI_i]
      · rw [upI_k _ _ _ _ _ (by decide)]; exact g2
      · have z := CE1.2.1.2 hKB w hw
        rw [upI_ne _ _ _ (by simp), RE2.1 _ (by simp) (by simp) (by simp), upI_ne _ _ _ (by simp), upI_ne _ _ _ (by simp)]
        exact z
    · rw [a1] at g1; cases g1
  · have b0 : ∀ i : PId, i.1 = 3 → (upI v9 (1, 0, 0) 7 0).1 i = h.1 i := fun i hi => by
      have n1 : ∀ a b, i ≠ (1, a, b) := fun a b e => by
        have : i.1 = 1 := congrArg Prod.fst e
        omega
      rw [upI_ne _ _ _ (n1 _ _), fD.1 i (fun y => by have := y.1; omega), upI_ne _ _ _ (n1 _ _), upI_ne _ _ _ (n1 _ _), CE1.1 i (n1 _ _) (n1 _ _) (fun y => by have := y.1; omega)]
    refine MS.mono (m_text l9 G (d := d) (by omega) (T := h.1 (1, 0, 3)) (t := t) _ t2 (by rw [b0 _ rfl]; exact t4) (by rw [b0 _ rfl]; exact t1.symm) t5) (fun r h2 z => ?_)
    rcases z with ⟨c2, f2, g1, _⟩ | ⟨m2, D2, g1, gW, glt, e2, u2, RE2, g2, dm, rfl⟩
    · rw [a1] at g1; cases g1
    · rw [a1] at g1
      injection g1 with g1
      injection g1 with g1 g4
      subst g1
      subst g4
      obtain ⟨nC2, nW2, eC, eW, R⟩ := WD_RO gW glt
      refine ⟨by rw [e2, ← e], nC2, nW2, 0, ?_⟩
      have k36 : ∀ k, k < 80 → (kdH (upI u2 (3, 0, 0) 12 0)).1 (3, 0, 1) k = D k := fun k hk => by
        unfold kdH
        rw [upI_ne _ _ _ (by decide), upI_ne _ _ _ (by decide), upI_ne _ _ _ (by decide), upI_ne _ _ _ (by decide), upR_same]
        unfold cpR
        rw [if_pos hk, upI_ne _ _ _ (by decide)]
        exact dm.1 k hk
      have ko : ∀ i : PId, ¬ i = (3, 0, 0) → ¬ i = (3, 0, 1) → ¬ i = (3, 0, 3) → ¬ i = (3, 0, 6) → ¬ i = (3, 0, 10) → (kdH (upI u2 (3, 0, 0) 12 0)).1 i = (upI v9 (1, 0, 0) 7 0).1 i := fun i x0 x1 x3 x6 x10 => by
        unfold kdH
        rw [upI_ne _ _ _ x3, upI_ne _ _ _ x3, upI_ne _ _ _ x0, upI_ne _ _ _ x0, upR_ne _ _ x1, upI_ne _ _ _ x0, RE2.1 i x0 x6 x10]
      have k30 : ∀ k, ¬ k = 3 → ¬ k = 4 → (kdH (upI u2 (3, 0, 0) 12 0)).1 (3, 0, 0) k = if k = 12 then 0 else u2.1 (3, 0, 0) k := fun k x3 x4 => by
        unfold kdH
        rw [upI_ne _ _ _ (by decide), upI_ne _ _ _ (by decide), upI_k _ _ _ _ _ x4, upI_k _ _ _ _ _ x3, upR_ne _ _ (by decide), upI_at]
      have e33 : (kdH (upI u2 (3, 0, 0) 12 0)).1 (3, 0, 0) 3 = nI nC2 := by
        unfold kdH
        rw [upI_ne _ _ _ (by decide), upI_ne _ _ _ (by decide), upI_k _ _ _ _ _ (by decide), upI_i, upI_k _ _ _ _ _ (by decide), dm.2.1, eC]
      have e34 : (kdH (upI u2 (3, 0, 0) 12 0)).1 (3, 0, 0) 4 = nI nW2 := by
        unfold kdH
        rw [upI_ne _ _ _ (by decide), upI_ne _ _ _ (by decide), upI_i, upI_k _ _ _ _ _ (by decide), dm.2.2.1, eW]
      have k33 : ∀ j, j < 2 → (kdH (upI u2 (3, 0, 0) 12 0)).1 (3, 0, 3) j = 0 := fun j hj => by
        unfold kdH
        rw [upI_at]
        by_cases q : j = 1
        · rw [if_pos q]
        · rw [if_neg q, upI_at, if_pos (by omega)]
      have w10 : ∀ k, (upI v9 (1, 0, 0) 7 0).1 (1, 0, 0) k = if k = 7 then 0 else if k = 8 then 0 else h.1 (1, 0, 0) k := fun k => by
        rw [upI_at, fD.1 _ (nC_i (by decide) (by decide)), upI_at, upI_ne _ _ _ (by decide), CE1.1 _ (by decide) (by decide) (nC_i (by decide) (by decide))]
      generalize (kdH (upI u2 (3, 0, 0) 12 0)) = H at k36 ko k30 e33 e34 k33 ⊢
      have wo : ∀ i : PId, ¬ i = (1, 0, 0) → ¬ isC 0 i → ¬ i = (1, 0, 2) → (upI v9 (1, 0, 0) 7 0).1 i = u1.1 i := fun i x0 xc x2 => by
        rw [upI_ne _ _ _ x0, fD.1 i xc, upI_ne _ _ _ x0, upI_ne _ _ _ x2]
      have h10 : H.1 (1, 0, 0) = (upI v9 (1, 0, 0) 7 0).1 (1, 0, 0) := ko _ (by decide) (by decide) (by decide) (by decide) (by decide)
      have hz : ∀ w, w < 4 → u1.1 (6, 4, w) 2 = 0 ∨ u1.1 (6, 4, w) 2 = 1 := CE1.2.1.2 hKB
      have kc : ∀ q i, isC q i → H.1 i = (upI v9 (1, 0, 0) 7 0).1 i := fun q i z => ko i (im_ne z 0 0).2 (im_ne z 0 1).2 (im_ne z 0 3).2 (im_ne z 0 6).2 (im_ne z 0 10).2
      have C4 := DCd_CR dD eC eW R.w4 gW.2.2.2.2.2.1 gW.2.2.2.2.2.2
      have C4b : CR (upI (upI u1 (1, 0, 2) 1 0) (1, 0, 0) 8 0) 4 D nC2 nW2 0 := CR_fr C4 (fun i z => by rw [upI_ne _ _ _ (im_ne z 0 0).1, upI_ne _ _ _ (im_ne z 0 2).1]) (fun _ _ => rfl)
      have C0 : CR H 0 (H.1 (3, 0, 1)) nC2 nW2 0 := CR_fr (CR_sam sD C4b (fun _ _ => rfl)) (fun i z => by rw [kc 0 i z, upI_ne _ _ _ (im_ne z 0 0).1]) k36
      refine tx_Inv I (c := 0) ⟨fun i x1 x2 x3 x4 x4b x5 x6 x7 x8 x9 => by rw [ko i x5 x8 x9 x6 x7, wo i x3 x4b x1, CE1.1 i x1 x2 x4], ?_, ?_, ?_, ?_, ?_, ?_, fun w hw => ?_⟩ e33 e34 (RO_fr R k36) C0 ⟨⟨0, by decide, by rw [h10, w10, if_pos rfl]; rfl⟩, fun j hj => ⟨?_, fun z => absurd (k33 j hj) z⟩⟩ (fun w hw => ?_)
      · rw [ko _ (by decide) (by decide) (by decide) (by decide) (by decide), upI_ne _ _ _ (by decide), fD.1 _ (nC_i (by decide) (by decide)), upI_ne _ _ _ (by decide), upI_i]
      · rw [k30 12 (by decide) (by decide), if_pos rfl]
      · rw [h10, w10, if_neg (by decide), if_pos rfl]
      · rw [k30 17 (by decide) (by decide), if_neg (by decide)]; exact g2
      · rw [h10, w10, if_neg (by decide), if_neg (by decide)]
      · rw [k30 27 (by decide) (by decide), if_neg (by decide), RE2.2.2 27 (by omega), b0 _ rfl]
      · rw [kc 4 _ ⟨Or.inr rfl, rfl⟩, wo _ (by simp) (fun z => absurd (show (4 : Nat) = 0 from z.2) (by decide)) (by simp)]; exact hz w hw
      · rw [k33 j hj, h10, w10, if_pos rfl]
        rcases (show j = 0 ∨ j = 1 by omega) with rfl | rfl <;> decide
      · rw [kc 0 _ ⟨Or.inr rfl, rfl⟩, upI_ne _ _ _ (by simp), sD.2.1 w 2 hw (by decide), upI_ne _ _ _ (by simp), upI_ne _ _ _ (by simp)]; exact hz w hw
