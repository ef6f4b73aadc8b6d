/-! THE BOND: a new object of each -/
def rw0 : Nat → Int32 := fun k => if k < 16 then -4 else 0
theorem RO_0 {S : Nat → Int32} (h : ∀ k, k < 80 → S k = rw0 k) : RO S 4 0 0 := by
  refine ⟨by decide, by decide, by decide, fun k hk => ?_, fun w hw => absurd hw (Nat.not_lt_zero _)⟩
  rw [h k hk]
  unfold rw0
  by_cases c1 : k < 16
  · rw [if_pos c1]
    by_cases q : k % 8 < 4
    · exact okV_s c1 q (Or.inl rfl)
    · exact ⟨fun _ => Or.inr ⟨by omega, rfl⟩, by omega, by omega, by omega, by omega, by omega, by omega⟩
  · rw [if_neg c1]
    exact ⟨by omega, fun _ => trivial, fun _ => ⟨0, by decide, rfl⟩, by omega, fun _ _ => ⟨0, by decide, rfl⟩, fun _ => rfl, by omega⟩
/-- what the constructors leave, as far as the bond speaks of it -/
theorem Inv_init {h : HP} (a0 : h.1 (0, 0, 0) 0 = 4) (a1 : ∀ k, 1 ≤ k → k < 6 → h.1 (0, 0, 0) k = 0) (a6 : ∀ k, k < 16 → h.1 (0, 0, 6) k = -4) (a8 : ∀ k, k < 4 → h.1 (0, 0, 8) k = 0) (b3 : h.1 (3, 0, 0) 3 = 4) (b4 : h.1 (3, 0, 0) 4 = 0) (b12 : h.1 (3, 0, 0) 12 = 0) (b17 : h.1 (3, 0, 0) 17 = 0) (b27 : h.1 (3, 0, 0) 27 = 0) (bS : ∀ k, k < 80 → h.1 (3, 0, 1) k = rw0 k) (bK : ∀ k, k < 2 → h.1 (3, 0, 3) k = 0) (c7 : ∀ k, 7 ≤ k → k < 10 → h.1 (1, 0, 0) k = 0) (c1 : h.1 (1, 0, 2) 1 = 0) (ct : h.1 (1, 0, 3) = h.1 (3, 0, 12)) (cs : ∀ k, k < 4 → h.1 (2, k, 0) 2 < 0 ∧ h.1 (3, 0, 25) k = -4) (ck : ∀ q w, q < 5 → w < 4 → h.1 (6, q, w) 2 = 0) : Inv h := by
  refine ⟨4, 0, 0, b3, b4, RO_0 bS, ⟨a0, a1 4 (by decide) (by decide), fun k hk hl => ?_⟩, ⟨⟨0, by decide, c7 7 (by decide) (by decide)⟩, fun k hk => ⟨?_, fun z => absurd (bK k hk) z⟩⟩, ⟨ct, 0, by decide, c1, b12, fun j hj => absurd hj (Nat.not_lt_zero _)⟩, ⟨(c7 8 (by decide) (by decide)).trans b17.symm, (c7 9 (by decide) (by decide)).trans b27.symm⟩, fun k hk => Or.inl ⟨(cs k hk).2, (cs k hk).1⟩, fun q w hq _ hw => Or.inl (ck q w hq hw)⟩
  · rw [bS k hk]
    unfold rw0
    by_cases d1 : k < 16
    · rw [if_pos d1]
      have e : k = 0 + 8 * (k / 8) + k % 8 := by omega
      have : src 0 k = ((0, 0, 6), 2 * (k % 8) + k / 8) := by
        have := src_s (q := 0) (c := k % 8) (s := k / 8) (by omega) (by omega)
        rw [← e] at this; exact this
      rw [this]; exact a6 _ (by omega)
    rw [if_neg d1]
    by_cases d2 : k = 16
    · subst d2; exact a1 1 (by decide) (by decide)
    by_cases d3 : k = 17
    · subst d3; exact a1 2 (by decide) (by decide)
    by_cases d4 : k < 42
    · exact absurd (hl.1 (by omega) d4) (Nat.not_lt_zero _)
    by_cases d5 : k = 42
    · subst d5; exact a1 3 (by decide) (by decide)
    by_cases d6 : k < 47
    · obtain ⟨g, e⟩ : ∃ g, k = 43 + g := ⟨k - 43, by omega⟩
      subst e
      rw [src_g (by omega)]; exact a8 g (by omega)
    by_cases d7 : k = 47
    · subst d7; exact a1 5 (by decide) (by decide)
    · exact absurd (hl.2 (by omega)) (Nat.not_lt_zero _)
  · rw [bK k hk, c7 7 (by decide) (by decide)]
    rcases (show k = 0 ∨ k = 1 by omega) with rfl | rfl <;> decide
