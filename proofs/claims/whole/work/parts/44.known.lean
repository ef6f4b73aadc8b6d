/-! WHAT IS SO: tests that are known to hold; switches -/
theorem nL_0 : (0 : Int32) = nI 0 := rfl
theorem nL_1 : (1 : Int32) = nI 1 := rfl
theorem nL_2 : (2 : Int32) = nI 2 := rfl
theorem nL_3 : (3 : Int32) = nI 3 := rfl
theorem nL_4 : (4 : Int32) = nI 4 := rfl
theorem nL_5 : (5 : Int32) = nI 5 := rfl
theorem nL_6 : (6 : Int32) = nI 6 := rfl
theorem nL_8 : (8 : Int32) = nI 8 := rfl
theorem nL_16 : (16 : Int32) = nI 16 := rfl
theorem nL_17 : (17 : Int32) = nI 17 := rfl
theorem nL_18 : (18 : Int32) = nI 18 := rfl
theorem nL_40 : (40 : Int32) = nI 40 := rfl
theorem nL_42 : (42 : Int32) = nI 42 := rfl
theorem nL_43 : (43 : Int32) = nI 43 := rfl
theorem nL_47 : (47 : Int32) = nI 47 := rfl
theorem nL_48 : (48 : Int32) = nI 48 := rfl
theorem nL_64 : (64 : Int32) = nI 64 := rfl
theorem nL_80 : (80 : Int32) = nI 80 := rfl
theorem sw_cases (x : Int32) (n : Nat) (hn : n < 2 ^ 31) : (∃ k, k ≤ n ∧ x = nI k) ∨ (x.toInt < 0 ∨ (n : Int) < x.toInt) := by
  rcases Int.lt_or_le x.toInt 0 with h | h
  · exact Or.inr (Or.inl h)
  · rcases Int.lt_or_le (n : Int) x.toInt with h2 | h2
    · exact Or.inr (Or.inr h2)
    · refine Or.inl ⟨x.toInt.toNat, by omega, ?_⟩
      apply Int32.toInt_inj.mp
      rw [nI_toInt (by omega)]
      omega
theorem nat_of {c : Int32} {n : Nat} (h : ¬ c < 0 ∧ ¬ nI n ≤ c) (hn : n < 2 ^ 31) : ∃ j, j < n ∧ c = nI j := by
  obtain ⟨j, hj, rfl⟩ := nI_of h.1
  refine ⟨j, ?_, rfl⟩
  rcases Nat.lt_or_ge j n with q | q
  · exact q
  · exact absurd (nI_le q hj) h.2
theorem in_of {j n : Nat} (h : j < n) (hn : n < 2 ^ 31) : ¬ nI j < 0 ∧ ¬ nI n ≤ nI j := ⟨nI_pos (by omega), nI_ge h hn⟩
theorem t_hasCorner_t (l9 : Launch) (G : WT) {d : Nat} (hd : 1 ≤ d) {q : Nat} (hq : q < 5) (h : HP) {c nC : Nat} (hc : c < nC) (hn : nC < 1000) (hnc : h.1 (0, q, 0) 0 = nI nC) : MS l9 G yX0_hasCorner cX0_hasCorner 2 (some .boolean) d [vr (0, q, 0), vi (nI c)] h (fun r h1 => h1 = h ∧ r = some (vi 1)) := MS.mono (t_hasCorner l9 G hd hq h (nI c)) (fun r h9 z => ⟨z.1, by rw [z.2, bI_t ⟨nI_pos (by omega), by rw [hnc]; exact nI_ge hc (by omega)⟩]⟩)
theorem t_hasWalker_t (l9 : Launch) (G : WT) {d : Nat} (hd : 1 ≤ d) {q : Nat} (hq : q < 5) (h : HP) {c nW : Nat} (hc : c < nW) (hn : nW < 1000) (hnw : h.1 (0, q, 0) 4 = nI nW) : MS l9 G yX0_hasWalker cX0_hasWalker 2 (some .boolean) d [vr (0, q, 0), vi (nI c)] h (fun r h1 => h1 = h ∧ r = some (vi 1)) := MS.mono (t_hasWalker l9 G hd hq h (nI c)) (fun r h9 z => ⟨z.1, by rw [z.2, bI_t ⟨nI_pos (by omega), by rw [hnw]; exact nI_ge hc (by omega)⟩]⟩)
theorem part_of {s : Nat} (h : s < 2) : nI s = 0 ∨ nI s = 1 := by
  rcases (show s = 0 ∨ s = 1 by omega) with rfl | rfl
  · exact Or.inl rfl
  · exact Or.inr rfl
theorem of_part {x : Int32} (h : x = 0 ∨ x = 1) : ∃ s, s < 2 ∧ x = nI s := by
  rcases h with rfl | rfl
  · exact ⟨0, by decide, rfl⟩
  · exact ⟨1, by decide, rfl⟩
theorem t_isZeroOrOne_t (l9 : Launch) (G : WT) {d : Nat} (hd : 1 ≤ d) (h : HP) {s : Nat} (hs : s < 2) : MS l9 G yX6_isZeroOrOne cX6_isZeroOrOne 1 (some .boolean) d [vi (nI s)] h (fun r h1 => h1 = h ∧ r = some (vi 1)) := MS.mono (t_isZeroOrOne l9 G hd h (nI s)) (fun r h9 z => ⟨z.1, by rw [z.2, bI_t (part_of hs)]⟩)
theorem t_isHour_t (l9 : Launch) (G : WT) {d : Nat} (hd : 1 ≤ d) (h : HP) {s : Nat} (hs : s < 24) : MS l9 G yX6_isHour cX6_isHour 1 (some .boolean) d [vi (nI s)] h (fun r h1 => h1 = h ∧ r = some (vi 1)) := MS.mono (t_isHour l9 G hd h (nI s)) (fun r h9 z => ⟨z.1, by rw [z.2, bI_t (show ¬ nI s < 0 ∧ ¬ (24 : Int32) ≤ nI s from in_of hs (by decide))]⟩)
theorem t_isLane_t (l9 : Launch) (G : WT) {d : Nat} (hd : 1 ≤ d) (h : HP) {s : Nat} (hs : s < 3) : MS l9 G yX6_isLane cX6_isLane 1 (some .boolean) d [vi (nI s)] h (fun r h1 => h1 = h ∧ r = some (vi 1)) := MS.mono (t_isLane l9 G hd h (nI s)) (fun r h9 z => ⟨z.1, by rw [z.2, bI_t ⟨nI_pos (by omega), nI_nlt (show s ≤ 2 by omega) (by decide)⟩]⟩)
theorem m_isCorner_t (l9 : Launch) (G : WT) {d : Nat} (hd : 2 ≤ d) (h : HP) {c nC : Nat} (hc : c < nC) (hn : nC ≤ 8) (hnc : h.1 (3, 0, 0) 3 = nI nC) : MS l9 G yX7_isCorner cX7_isCorner 2 (some .boolean) d [vr (3, 0, 0), vi (nI c)] h (fun r h1 => h1 = h ∧ r = some (vi 1)) := MS.mono (m_isCorner l9 G hd h hn hnc (nI c)) (fun r h9 z => ⟨z.1, by rw [z.2, bI_t (in_of hc (by omega))]⟩)
theorem m_isWalker_t (l9 : Launch) (G : WT) {d : Nat} (hd : 2 ≤ d) (h : HP) {c nW : Nat} (hc : c < nW) (hn : nW ≤ 4) (hnw : h.1 (3, 0, 0) 4 = nI nW) : MS l9 G yX7_isWalker cX7_isWalker 2 (some .boolean) d [vr (3, 0, 0), vi (nI c)] h (fun r h1 => h1 = h ∧ r = some (vi 1)) := MS.mono (m_isWalker l9 G hd h hn hnw (nI c)) (fun r h9 z => ⟨z.1, by rw [z.2, bI_t (in_of hc (by omega))]⟩)
theorem m_isPart_t (l9 : Launch) (G : WT) {d : Nat} (hd : 2 ≤ d) (h : HP) {s : Nat} (hs : s < 2) : MS l9 G yX7_isPart cX7_isPart 1 (some .boolean) d [vi (nI s)] h (fun r h1 => h1 = h ∧ r = some (vi 1)) := MS.mono (m_isPart l9 G hd h (nI s)) (fun r h9 z => ⟨z.1, by rw [z.2, bI_t (part_of hs)]⟩)
theorem m_isHour_t (l9 : Launch) (G : WT) {d : Nat} (hd : 2 ≤ d) (h : HP) {s : Nat} (hs : s < 24) : MS l9 G yX7_isHour cX7_isHour 1 (some .boolean) d [vi (nI s)] h (fun r h1 => h1 = h ∧ r = some (vi 1)) := MS.mono (m_isHour l9 G hd h (nI s)) (fun r h9 z => ⟨z.1, by rw [z.2, bI_t (show ¬ nI s < 0 ∧ ¬ (24 : Int32) ≤ nI s from in_of hs (by decide))]⟩)
theorem m_in_t (l9 : Launch) (G : WT) {d : Nat} (hd : 1 ≤ d) (h : HP) (x lo hi : Int32) (hx : ¬ x < lo ∧ ¬ hi < x) : MS l9 G yX7_in cX7_in 6 (some .boolean) d [vl x.toInt64, vl lo.toInt64, vl hi.toInt64] h (fun r h1 => h1 = h ∧ r = some (vi 1)) := MS.mono (m_in l9 G hd h x lo hi) (fun r h9 z => ⟨z.1, by rw [z.2, bI_t hx]⟩)
theorem m_isSheet_t (l9 : Launch) (G : WT) {d : Nat} (hd : 2 ≤ d) (h : HP) {k l : Nat} (hk : k < 4) (hl : l < 3) : MS l9 G yX7_isSheet cX7_isSheet 2 (some .boolean) d [vi (nI k), vi (nI l)] h (fun r h1 => h1 = h ∧ r = some (vi 1)) := MS.mono (m_isSheet l9 G hd h (nI k) (nI l)) (fun r h9 z => ⟨z.1, by rw [z.2, bI_t ⟨⟨nI_pos (by omega), nI_nlt (show k ≤ 3 by omega) (by decide)⟩, nI_pos (by omega), nI_nlt (show l ≤ 2 by omega) (by decide)⟩]⟩)
