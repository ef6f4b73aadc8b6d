/-! THE TEXT: what holds of a draft, line for line -/
theorem or_tst {x : Int32} {c p : Nat} (hc : c < 32) (hp : p < 32) : ((x ||| (1 <<< (nI c &&& 31))) >>> (nI p &&& 31)) &&& 1 = 1 ↔ (x >>> (nI p &&& 31)) &&& 1 = 1 ∨ p = c := by
  rw [b_tst _ hp, b_tst _ hp, b_or, Bool.or_eq_true, Bs_one hc p]
theorem mxF_i (x c : Int32) : (mxF x c).toInt = max x.toInt c.toInt := by
  unfold mxF
  by_cases h : c ≤ x
  · rw [if_pos h]; rw [Int32.le_iff_toInt_le] at h; omega
  · rw [if_neg h]; rw [Int32.le_iff_toInt_le] at h; omega
/-- a corner that a text tells of -/
def hiM (D : Nat → Int32) (n p : Nat) : Prop := (∃ c s, c < 8 ∧ s < 2 ∧ ¬ D (8 * s + c) = -4 ∧ (p = c ∨ D (8 * s + c) = nI p)) ∨ (D 16 >>> (nI p &&& 31)) &&& 1 = 1 ∨ ∃ w, w < n ∧ D (18 + 6 * w + 0) = nI p
def WK (D : Nat → Int32) (w : Nat) : Prop := (∃ p, p < 8 ∧ D (18 + 6 * w + 0) = nI p) ∧ (D (18 + 6 * w + 1) = 0 ∨ D (18 + 6 * w + 1) = 1) ∧ (D (18 + 6 * w + 2) = 0 ∨ D (18 + 6 * w + 2) = 1) ∧ (∃ l, l ≤ 10 ∧ D (18 + 6 * w + 3) = nI l) ∧ D (18 + 6 * w + 5) = 0
def W1 (D : Nat → Int32) : Prop := ∃ n, n ≤ 4 ∧ D 81 = nI n ∧ (∀ w, w < n → WK D w) ∧ (∀ p : Nat, p < 8 → hiM D n p → (p : Int) ≤ (D 85).toInt) ∧ ((D 85).toInt = -4 ∨ ∃ p : Nat, p < 8 ∧ (D 85).toInt = p ∧ hiM D n p)
def W2 (D : Nat → Int32) : Prop := (∃ m, m < 32 ∧ D 82 = nI m) ∧ (∀ c s, c < 8 → s < 2 → D (8 * s + c) = -4 ∨ ∃ p, p < 8 ∧ D (8 * s + c) = nI p) ∧ (∀ c s, c < 8 → s < 2 → ¬ D (8 * s + c) = -4 → (D (83 + s) >>> (nI c &&& 31)) &&& 1 = 1) ∧ (∀ p, 8 ≤ p → p < 32 → ¬ (D 16 >>> (nI p &&& 31)) &&& 1 = 1)
def W3 (D : Nat → Int32) : Prop := (∃ m, 2 ≤ m ∧ m ≤ 8 ∧ D 80 = nI m) ∧ (∃ m, m < 24 ∧ D 17 = nI m) ∧ (∀ g, g < 4 → ∃ m, m ≤ 9 ∧ D (43 + g) = nI m) ∧ D 42 = 0 ∧ D 47 = 0
def WD (D : Nat → Int32) : Prop := W1 D ∧ W2 D ∧ W3 D
/-- two drafts alike but for some places -/
theorem W1_c {D E : Nat → Int32} (h : W1 D) (e : ∀ k, k < 43 ∨ k = 81 ∨ k = 85 → k ≠ 17 → k ≠ 42 → E k = D k) : W1 E := by
  obtain ⟨n, h1, h2, h3, h4, h5⟩ := h
  have em : ∀ p, hiM E n p ↔ hiM D n p := by
    intro p
    unfold hiM
    constructor
    · rintro (⟨c, s, a1, a2, a3, a4⟩ | a | ⟨w, a1, a2⟩)
      · rw [e (8 * s + c) (by omega) (by omega) (by omega)] at a3 a4; exact Or.inl ⟨c, s, a1, a2, a3, a4⟩
      · rw [e 16 (by omega) (by omega) (by omega)] at a; exact Or.inr (Or.inl a)
      · rw [e _ (by omega) (by omega) (by omega)] at a2; exact Or.inr (Or.inr ⟨w, a1, a2⟩)
    · rintro (⟨c, s, a1, a2, a3, a4⟩ | a | ⟨w, a1, a2⟩)
      · rw [← e (8 * s + c) (by omega) (by omega) (by omega)] at a3 a4; exact Or.inl ⟨c, s, a1, a2, a3, a4⟩
      · rw [← e 16 (by omega) (by omega) (by omega)] at a; exact Or.inr (Or.inl a)
      · rw [← e _ (by omega) (by omega) (by omega)] at a2; exact Or.inr (Or.inr ⟨w, a1, a2⟩)
  refine ⟨n, h1, (e 81 (by omega) (by omega) (by omega)).trans h2, fun w hw => ?_, fun p hp hm => ?_, ?_⟩
  · obtain ⟨k1, k2, k3, k4, k5⟩ := h3 w hw
    unfold WK
    rw [e (18 + 6 * w + 0) (by omega) (by omega) (by omega), e (18 + 6 * w + 1) (by omega) (by omega) (by omega), e (18 + 6 * w + 2) (by omega) (by omega) (by omega), e (18 + 6 * w + 3) (by omega) (by omega) (by omega), e (18 + 6 * w + 5) (by omega) (by omega) (by omega)]
    exact ⟨k1, k2, k3, k4, k5⟩
  · rw [e 85 (by omega) (by omega) (by omega)]; exact h4 p hp ((em p).mp hm)
  · rw [e 85 (by omega) (by omega) (by omega)]
    rcases h5 with z | ⟨p, z1, z2, z3⟩
    · exact Or.inl z
    · exact Or.inr ⟨p, z1, z2, (em p).mpr z3⟩
theorem W2_c {D E : Nat → Int32} (h : W2 D) (e : ∀ k, k < 17 ∨ k = 82 ∨ k = 83 ∨ k = 84 → E k = D k) : W2 E := by
  obtain ⟨h1, h2, h3, h4⟩ := h
  unfold W2
  refine ⟨by rw [e 82 (by omega)]; exact h1, fun c s hc hs => by rw [e (8 * s + c) (by omega)]; exact h2 c s hc hs, fun c s hc hs => by rw [e (8 * s + c) (by omega), e (83 + s) (by omega)]; exact h3 c s hc hs, by rw [e 16 (by omega)]; exact h4⟩
theorem W3_c {D E : Nat → Int32} (h : W3 D) (e : ∀ k, k = 80 ∨ k = 17 ∨ (42 ≤ k ∧ k ≤ 47) → E k = D k) : W3 E := by
  obtain ⟨h1, h2, h3, h4, h5⟩ := h
  unfold W3
  exact ⟨by rw [e 80 (by omega)]; exact h1, by rw [e 17 (by omega)]; exact h2, fun g hg => by rw [e (43 + g) (by omega)]; exact h3 g hg, (e 42 (by omega)).trans h4, (e 47 (by omega)).trans h5⟩
/-- a corner more that is told of: where it stands, nothing is lost -/
theorem W1_m {D E : Nat → Int32} {n c : Nat} (hc : c < 8) (h4 : ∀ p, p < 8 → hiM D n p → (p : Int) ≤ (D 85).toInt) (h5 : (D 85).toInt = -4 ∨ ∃ p : Nat, p < 8 ∧ (D 85).toInt = p ∧ hiM D n p) {n' : Nat} (e85 : (E 85).toInt = max (D 85).toInt c) (hm : ∀ p, p < 8 → (hiM E n' p ↔ hiM D n p ∨ p = c)) : (∀ p : Nat, p < 8 → hiM E n' p → (p : Int) ≤ (E 85).toInt) ∧ ((E 85).toInt = -4 ∨ ∃ p : Nat, p < 8 ∧ (E 85).toInt = p ∧ hiM E n' p) := by
  refine ⟨fun p hp h => ?_, ?_⟩
  · rcases (hm p hp).mp h with z | z
    · have := h4 p hp z; omega
    · omega
  · right
    rcases h5 with z | ⟨p, z1, z2, z3⟩
    · exact ⟨c, hc, by omega, (hm c hc).mpr (Or.inr rfl)⟩
    · by_cases q : p ≤ c
      · exact ⟨c, hc, by omega, (hm c hc).mpr (Or.inr rfl)⟩
      · exact ⟨p, z1, by omega, (hm p z1).mpr (Or.inl z3)⟩
theorem nI_i8 {c : Nat} (h : c < 8) : (nI c).toInt = c := nI_toInt (by omega)
/-- a street that is told -/
theorem WD_str {D : Nat → Int32} {s c e : Nat} (h : WD D) (hs : s < 2) (hc : c < 8) (he : e < 8) (htd : (D (83 + s) >>> (nI c &&& 31)) &&& 1 = 0) {E : Nat → Int32} (eE : E = upd (upd (upd (upd D 85 (mxF (D 85) (nI c))) (83 + s) (upd D 85 (mxF (D 85) (nI c)) (83 + s) ||| (1 <<< (nI c &&& 31)))) 85 (mxF (upd (upd D 85 (mxF (D 85) (nI c))) (83 + s) (upd D 85 (mxF (D 85) (nI c)) (83 + s) ||| (1 <<< (nI c &&& 31))) 85) (nI e))) (8 * s + c) (nI e)) : WD E := by
  obtain ⟨⟨n, h1, h2, h3, h4, h5⟩, ⟨k1, k2, k3, k4⟩, h9⟩ := h
  have eO : ∀ k, k ≠ 8 * s + c → k ≠ 85 → k ≠ 83 + s → E k = D k := fun k a b d => by
    rw [eE, updo a, updo b, updo d, updo b]
  have eS : E (8 * s + c) = nI e := by rw [eE, updi]
  have eT : E (83 + s) = D (83 + s) ||| (1 <<< (nI c &&& 31)) := by rw [eE, updo (by omega), updo (by omega), updi, updo (by omega)]
  have e85 : E 85 = mxF (mxF (D 85) (nI c)) (nI e) := by rw [eE, updo (by omega), updi, updo (by omega), updi]
  have hold : D (8 * s + c) = -4 := Classical.not_not.mp (fun z => absurd (k3 c s hc hs z) (by rw [htd]; decide))
  have hn4 : ¬ nI e = -4 := nI_n4 (by omega)
  have hm1 : ∀ p, p < 8 → (hiM E n p ↔ (hiM D n p ∨ p = c) ∨ p = e) := by
    intro p hp
    constructor
    · rintro (⟨c', s', a1, a2, a3, a4⟩ | a | ⟨w, a1, a2⟩)
      · by_cases q : 8 * s' + c' = 8 * s + c
        · rw [q, eS] at a4
          rcases a4 with a4 | a4
          · exact Or.inl (Or.inr (by omega))
          · exact Or.inr ((nI_eq (by omega) (by omega)).mp a4).symm
        · rw [eO _ q (by omega) (by omega)] at a3 a4
          exact Or.inl (Or.inl (Or.inl ⟨c', s', a1, a2, a3, a4⟩))
      · rw [eO 16 (by omega) (by omega) (by omega)] at a
        exact Or.inl (Or.inl (Or.inr (Or.inl a)))
      · rw [eO _ (by omega) (by omega) (by omega)] at a2
        exact Or.inl (Or.inl (Or.inr (Or.inr ⟨w, a1, a2⟩)))
    · rintro (((⟨c', s', a1, a2, a3, a4⟩ | a | ⟨w, a1, a2⟩) | z) | z)
      · have q : 8 * s' + c' ≠ 8 * s + c := fun q => a3 (by rw [q]; exact hold)
        rw [← eO _ q (by omega) (by omega)] at a3 a4
        exact Or.inl ⟨c', s', a1, a2, a3, a4⟩
      · rw [← eO 16 (by omega) (by omega) (by omega)] at a
        exact Or.inr (Or.inl a)
      · rw [← eO _ (by omega) (by omega) (by omega)] at a2
        exact Or.inr (Or.inr ⟨w, a1, a2⟩)
      · exact Or.inl ⟨c, s, hc, hs, by rw [eS]; exact hn4, Or.inl z⟩
      · exact Or.inl ⟨c, s, hc, hs, by rw [eS]; exact hn4, Or.inr (by rw [eS, z])⟩
  refine ⟨⟨n, h1, (eO 81 (by omega) (by omega) (by omega)).trans h2, fun w hw => ?_, ?_, ?_⟩, ⟨by rw [eO 82 (by omega) (by omega) (by omega)]; exact k1, fun c' s' hc' hs' => ?_, fun c' s' hc' hs' hne => ?_, by rw [eO 16 (by omega) (by omega) (by omega)]; exact k4⟩, W3_c h9 (fun k hk => eO k (by omega) (by omega) (by omega))⟩
  · obtain ⟨y1, y2, y3, y4, y5⟩ := h3 w hw
    unfold WK
    rw [eO (18 + 6 * w + 0) (by omega) (by omega) (by omega), eO (18 + 6 * w + 1) (by omega) (by omega) (by omega), eO (18 + 6 * w + 2) (by omega) (by omega) (by omega), eO (18 + 6 * w + 3) (by omega) (by omega) (by omega), eO (18 + 6 * w + 5) (by omega) (by omega) (by omega)]
    exact ⟨y1, y2, y3, y4, y5⟩
  · intro p hp hm
    rw [e85, mxF_i, mxF_i, nI_i8 hc, nI_i8 he]
    rcases (hm1 p hp).mp hm with (z | z) | z
    · have := h4 p hp z; omega
    · omega
    · omega
  · right
    rw [e85, mxF_i, mxF_i, nI_i8 hc, nI_i8 he]
    rcases h5 with z | ⟨p, z1, z2, z3⟩
    · by_cases q : e ≤ c
      · exact ⟨c, hc, by omega, (hm1 c hc).mpr (Or.inl (Or.inr rfl))⟩
      · exact ⟨e, he, by omega, (hm1 e he).mpr (Or.inr rfl)⟩
    · by_cases q : e ≤ c
      · by_cases q2 : p ≤ c
        · exact ⟨c, hc, by omega, (hm1 c hc).mpr (Or.inl (Or.inr rfl))⟩
        · exact ⟨p, z1, by omega, (hm1 p z1).mpr (Or.inl (Or.inl z3))⟩
      · by_cases q2 : p ≤ e
        · exact ⟨e, he, by omega, (hm1 e he).mpr (Or.inr rfl)⟩
        · exact ⟨p, z1, by omega, (hm1 p z1).mpr (Or.inl (Or.inl z3))⟩
  · by_cases q : 8 * s' + c' = 8 * s + c
    · exact Or.inr ⟨e, he, by rw [q, eS]⟩
    · rw [eO _ q (by omega) (by omega)]; exact k2 c' s' hc' hs'
  · by_cases qs : s' = s
    · subst qs
      rw [eT, or_tst (by omega) (by omega)]
      by_cases q : c' = c
      · exact Or.inr q
      · rw [eO _ (by omega) (by omega) (by omega)] at hne
        exact Or.inl (k3 c' s' hc' hs' hne)
    · rw [eO (83 + s') (by omega) (by omega) (by omega)]
      rw [eO _ (by omega) (by omega) (by omega)] at hne
      exact k3 c' s' hc' hs' hne
/-- a sign that is told -/
theorem WD_sgn {D : Nat → Int32} {c : Nat} (h : WD D) (hc : c < 8) {E : Nat → Int32} (eE : E = upd (upd D 85 (mxF (D 85) (nI c))) 16 (D 16 ||| (1 <<< (nI c &&& 31)))) : WD E := by
  obtain ⟨⟨n, h1, h2, h3, h4, h5⟩, ⟨k1, k2, k3, k4⟩, h9⟩ := h
  have eO : ∀ k, k ≠ 16 → k ≠ 85 → E k = D k := fun k a b => by rw [eE, updo a, updo b]
  have e16 : E 16 = D 16 ||| (1 <<< (nI c &&& 31)) := by rw [eE, updi]
  have e85 : E 85 = mxF (D 85) (nI c) := by rw [eE, updo (by omega), updi]
  have hm1 : ∀ p, p < 8 → (hiM E n p ↔ hiM D n p ∨ p = c) := by
    intro p hp
    constructor
    · rintro (⟨c', s', a1, a2, a3, a4⟩ | a | ⟨w, a1, a2⟩)
      · rw [eO _ (by omega) (by omega)] at a3 a4
        exact Or.inl (Or.inl ⟨c', s', a1, a2, a3, a4⟩)
      · rw [e16, or_tst (by omega) (by omega)] at a
        exact a.elim (fun z => Or.inl (Or.inr (Or.inl z))) Or.inr
      · rw [eO _ (by omega) (by omega)] at a2
        exact Or.inl (Or.inr (Or.inr ⟨w, a1, a2⟩))
    · rintro ((⟨c', s', a1, a2, a3, a4⟩ | a | ⟨w, a1, a2⟩) | z)
      · rw [← eO _ (by omega) (by omega)] at a3 a4
        exact Or.inl ⟨c', s', a1, a2, a3, a4⟩
      · exact Or.inr (Or.inl (by rw [e16, or_tst (by omega) (by omega)]; exact Or.inl a))
      · rw [← eO _ (by omega) (by omega)] at a2
        exact Or.inr (Or.inr ⟨w, a1, a2⟩)
      · exact Or.inr (Or.inl (by rw [e16, or_tst (by omega) (by omega)]; exact Or.inr z))
  have y := W1_m hc h4 h5 (E := E) (n' := n) (by rw [e85, mxF_i, nI_i8 hc]) hm1
  refine ⟨⟨n, h1, (eO 81 (by omega) (by omega)).trans h2, fun w hw => ?_, y.1, y.2⟩, ⟨by rw [eO 82 (by omega) (by omega)]; exact k1, fun c' s' hc' hs' => by rw [eO _ (by omega) (by omega)]; exact k2 c' s' hc' hs', fun c' s' hc' hs' => by rw [eO _ (by omega) (by omega), eO (83 + s') (by omega) (by omega)]; exact k3 c' s' hc' hs', fun p hp hp2 => ?_⟩, W3_c h9 (fun k hk => eO k (by omega) (by omega))⟩
  · obtain ⟨y1, y2, y3, y4, y5⟩ := h3 w hw
    unfold WK
    rw [eO (18 + 6 * w + 0) (by omega) (by omega), eO (18 + 6 * w + 1) (by omega) (by omega), eO (18 + 6 * w + 2) (by omega) (by omega), eO (18 + 6 * w + 3) (by omega) (by omega), eO (18 + 6 * w + 5) (by omega) (by omega)]
    exact ⟨y1, y2, y3, y4, y5⟩
  · rw [e16, or_tst (by omega) hp2]
    exact fun z => z.elim (k4 p hp hp2) (fun q => by omega)
/-- a walker that is told -/
theorem WD_wlk {D : Nat → Int32} {n c sd l : Nat} {kp bits : Int32} (h : WD D) (hn : n < 4) (hD : D 81 = nI n) (hc : c < 8) (hsd : sd < 2) (hl : l ≤ 10) (hkp : kp = 0 ∨ kp = 1) {E : Nat → Int32} (e0 : E (18 + 6 * n + 0) = nI c) (e1 : E (18 + 6 * n + 1) = nI sd) (e2 : E (18 + 6 * n + 2) = kp) (e3 : E (18 + 6 * n + 3) = nI l) (e5 : E (18 + 6 * n + 5) = 0) (e85 : E 85 = mxF (D 85) (nI c)) (e81 : E 81 = nI (n + 1)) (eO : ∀ k, ¬ (18 + 6 * n ≤ k ∧ k < 24 + 6 * n) → k ≠ 81 → k ≠ 85 → E k = D k) : WD E := by
  obtain ⟨⟨n', h1, h2, h3, h4, h5⟩, h8, h9⟩ := h
  have en : n' = n := (nI_eq (by omega) (by omega)).mp (h2.symm.trans hD)
  subst en
  have hm1 : ∀ p, p < 8 → (hiM E (n' + 1) p ↔ hiM D n' p ∨ p = c) := by
    intro p hp
    constructor
    · rintro (⟨c', s', a1, a2, a3, a4⟩ | a | ⟨w, a1, a2⟩)
      · rw [eO _ (by omega) (by omega) (by omega)] at a3 a4
        exact Or.inl (Or.inl ⟨c', s', a1, a2, a3, a4⟩)
      · rw [eO 16 (by omega) (by omega) (by omega)] at a
        exact Or.inl (Or.inr (Or.inl a))
      · rcases (show w < n' ∨ w = n' by omega) with q | rfl
        · rw [eO _ (by omega) (by omega) (by omega)] at a2
          exact Or.inl (Or.inr (Or.inr ⟨w, q, a2⟩))
        · rw [e0] at a2
          exact Or.inr ((nI_eq (by omega) (by omega)).mp a2).symm
    · rintro ((⟨c', s', a1, a2, a3, a4⟩ | a | ⟨w, a1, a2⟩) | z)
      · rw [← eO _ (by omega) (by omega) (by omega)] at a3 a4
        exact Or.inl ⟨c', s', a1, a2, a3, a4⟩
      · rw [← eO 16 (by omega) (by omega) (by omega)] at a
        exact Or.inr (Or.inl a)
      · rw [← eO _ (by omega) (by omega) (by omega)] at a2
        exact Or.inr (Or.inr ⟨w, by omega, a2⟩)
      · exact Or.inr (Or.inr ⟨n', by omega, by rw [e0, z]⟩)
  have y := W1_m hc h4 h5 (E := E) (n' := n' + 1) (by rw [e85, mxF_i, nI_i8 hc]) hm1
  refine ⟨⟨n' + 1, by omega, e81, fun w hw => ?_, y.1, y.2⟩, W2_c h8 (fun k hk => eO k (by omega) (by omega) (by omega)), W3_c h9 (fun k hk => eO k (by omega) (by omega) (by omega))⟩
  rcases (show w < n' ∨ w = n' by omega) with q | rfl
  · obtain ⟨y1, y2, y3, y4, y5⟩ := h3 w q
    unfold WK
    rw [eO (18 + 6 * w + 0) (by omega) (by omega) (by omega), eO (18 + 6 * w + 1) (by omega) (by omega) (by omega), eO (18 + 6 * w + 2) (by omega) (by omega) (by omega), eO (18 + 6 * w + 3) (by omega) (by omega) (by omega), eO (18 + 6 * w + 5) (by omega) (by omega) (by omega)]
    exact ⟨y1, y2, y3, y4, y5⟩
  · refine ⟨⟨c, hc, e0⟩, ?_, by rw [e2]; exact hkp, ⟨l, hl, e3⟩, e5⟩
    rw [e1]
    rcases (show sd = 0 ∨ sd = 1 by omega) with rfl | rfl
    · exact Or.inl rfl
    · exact Or.inr rfl
