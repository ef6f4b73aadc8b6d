/-! WORDS: the shortest words -/
theorem lcmp0 {x y : Int64} : lg_cmp x y = 0 ↔ x = y := by
  unfold lg_cmp
  constructor
  · intro h
    by_cases h1 : y < x
    · rw [if_pos h1] at h; cases h
    · rw [if_neg h1] at h
      by_cases h2 : x = y
      · exact h2
      · rw [if_neg h2] at h; cases h
  · rintro rfl
    rw [if_neg (Int64.lt_irrefl), if_pos rfl]
theorem gcd_step {x y i : Nat} (hy : 0 < y) (h : (y ≤ x ∧ x * y < 2 ^ (199 - i)) ∨ (i = 0 ∧ x * y < 2 ^ 68)) (hi : i < 200) : x % y ≤ y ∧ y * (x % y) < 2 ^ (199 - (i + 1)) := by
  have hm : x % y < y := Nat.mod_lt _ hy
  refine ⟨by omega, ?_⟩
  rcases h with ⟨h1, h2⟩ | ⟨h1, h2⟩
  · have e1 : x % y * 2 ≤ x := by
      have := Nat.div_add_mod x y
      have hq : 1 ≤ x / y := (Nat.one_le_div_iff hy).mpr h1
      have : y * 1 ≤ y * (x / y) := Nat.mul_le_mul_left y hq
      omega
    have e2 : y * (x % y) * 2 ≤ x * y := by
      have := Nat.mul_le_mul_left y e1
      rw [← Nat.mul_assoc] at this
      rw [Nat.mul_comm x y]; exact this
    rcases Nat.lt_or_ge i 199 with q | q
    · have e3 : 2 ^ (199 - i) = 2 ^ (199 - (i + 1)) * 2 := by
        rw [show 199 - i = (199 - (i + 1)) + 1 by omega, Nat.pow_succ]
      rw [e3] at h2
      omega
    · have e4 : i = 199 := by omega
      subst e4
      have : x * y < 1 := h2
      have : y * (x % y) * 2 ≤ 0 := by omega
      show y * (x % y) < 1
      omega
  · subst h1
    have e3 : y * (x % y) ≤ x * y := by
      rw [Nat.mul_comm x y]; exact Nat.mul_le_mul_left y (Nat.mod_le x y)
    have e4 : (2 : Nat) ^ 68 ≤ 2 ^ (199 - (0 + 1)) := Nat.pow_le_pow_right (by decide) (by decide)
    omega
set_option maxRecDepth 20000 in
set_option maxHeartbeats 2000000 in
theorem t_gcd (l9 : Launch) (G : WT) {d : Nat} (hd : 1 ≤ d) (h : HP) {A B : Nat} (hA : A < 2 ^ 62) (hB : B < 2 ^ 62) (hAB : A * B < 2 ^ 68) : MS l9 G yX6_commonDivisor cX6_commonDivisor 11 (some .long) d [vl (lN A), vl (lN B)] h (fun r h1 => h1 = h ∧ r = some (vl (lN (Nat.gcd A B)))) := by
  refine MS_of (by decide +kernel) (Nat.le_of_ble_eq_true rfl) (fun X hC hX => ?_)
  show V X G 11 0 _ [] _
  have loop : ∀ (n i x y : Nat), i ≤ 200 → 201 ≤ i + n → x < 2 ^ 62 → y < 2 ^ 62 → Nat.gcd x y = Nat.gcd A B → ((y ≤ x ∧ x * y < 2 ^ (199 - i)) ∨ (i = 0 ∧ x * y < 2 ^ 68)) → V X G 11 9 [(8, vi (nI i)), (6, vl (lN y)), (4, vl (lN x)), (0, vl (lN A)), (2, vl (lN B))] [] h := by
    intro n
    induction n with
    | zero => intro i x y h1 h2; exact absurd h2 (by omega)
    | succ n ih =>
      intro i x y h1 h2 hx hy hg hm
      refine v_iload hC (pc := 9) 0 rfl dX6_commonDivisor_9 ?_
      refine v_sipush hC (pc := 11) (v := 200) (by decide +kernel) dX6_commonDivisor_11 ?_
      refine v_icmp_ge hC (pc := 14) (tgt := 45) dX6_commonDivisor_14 (by decide) (fun c_14 => ?_) (fun c_14 => ?_)
      · skip
        have h200 : i = 200 := lp_ex (N := 200) c_14 h1 (by decide)
        have hy0 : y = 0 := by
          rcases hm with ⟨m1, m2⟩ | ⟨m1, m2⟩
          · rw [h200] at m2
            have m3 : x * y < 1 := m2
            rcases Nat.eq_zero_or_pos y with q | q
            · exact q
            · have := Nat.mul_le_mul (show 1 ≤ x by omega) q
              omega
          · omega
        refine v_lload hC (pc := 45) 2 rfl dX6_commonDivisor_45 ?_
        refine v_lret hC hX (pc := 47) dX6_commonDivisor_47 ?_
        exact ⟨rfl, by rw [← hg, hy0, Nat.gcd_zero_right]⟩
      · skip
        have h200 : i < 200 := lp_in (N := 200) c_14 h1 (by decide)
        refine v_lload hC (pc := 17) 1 rfl dX6_commonDivisor_17 ?_
        refine v_lconst hC (pc := 19) (v := 0) (by decide) dX6_commonDivisor_19 ?_
        refine v_lcmp hC (pc := 20) dX6_commonDivisor_20 ?_
        refine v_if_eq hC (pc := 21) (tgt := 45) dX6_commonDivisor_21 (by decide) (fun c_21 => ?_) (fun c_21 => ?_)
        · skip
          have hy0 : y = 0 := (pk_lEQ (by omega) (by decide)).mp (show lN y = lN 0 from lcmp0.mp c_21)
          refine v_lload hC (pc := 45) 2 rfl dX6_commonDivisor_45 ?_
          refine v_lret hC hX (pc := 47) dX6_commonDivisor_47 ?_
          exact ⟨rfl, by rw [← hg, hy0, Nat.gcd_zero_right]⟩
        · skip
          have hy0 : 0 < y := Nat.pos_of_ne_zero (fun z => c_21 (lcmp0.mpr (by rw [z]; rfl)))
          refine v_lload hC (pc := 24) 2 rfl dX6_commonDivisor_24 ?_
          refine v_lload hC (pc := 26) 1 rfl dX6_commonDivisor_26 ?_
          refine v_lrem hC (pc := 28) (fun z => c_21 (lcmp0.mpr z)) dX6_commonDivisor_28 ?_
          rw [pk_lRem (by omega) hy0 (by omega)]
          refine v_lstore hC (pc := 29) (l' := [(9, _), (8, _), (6, _), (4, _), (0, _), (2, _)]) dX6_commonDivisor_29 (by decide) rfl ?_
          refine v_lload hC (pc := 31) 2 rfl dX6_commonDivisor_31 ?_
          refine v_lstore hC (pc := 33) (l' := [(4, _), (9, _), (8, _), (6, _), (0, _), (2, _)]) dX6_commonDivisor_33 (by decide) rfl ?_
          refine v_lload hC (pc := 35) 1 rfl dX6_commonDivisor_35 ?_
          refine v_lstore hC (pc := 37) (l' := [(6, _), (4, _), (9, _), (8, _), (0, _), (2, _)]) dX6_commonDivisor_37 (by decide) rfl ?_
          refine v_iinc hC (pc := 39) (l' := [(8, _), (6, _), (4, _), (9, _), (0, _), (2, _)]) 3 (v := nI (i + 1)) dX6_commonDivisor_39 rfl (nI_inc i) (by decide) rfl ?_
          refine v_goto hC (pc := 42) (tgt := 9) dX6_commonDivisor_42 (by decide) ?_
          refine v_loc (l' := [(8, _), (6, _), (4, _), (0, _), (2, _)]) [0, 1, 2, 4, 5] rfl ?_
          exact ih (i + 1) y (x % y) (by omega) (by omega) (by omega) (by have := Nat.mod_lt x hy0; omega) (by rw [Nat.gcd_comm, ← Nat.gcd_rec, Nat.gcd_comm]; exact hg) (Or.inl (gcd_step hy0 hm h200))
  refine v_lload_n hC (pc := 0) (k := 0) 0 rfl dX6_commonDivisor_0 ?_
  refine v_lstore hC (pc := 1) (l' := [(4, _), (0, _), (2, _)]) dX6_commonDivisor_1 (by decide) rfl ?_
  refine v_lload_n hC (pc := 3) (k := 2) 2 rfl dX6_commonDivisor_3 ?_
  refine v_lstore hC (pc := 4) (l' := [(6, _), (4, _), (0, _), (2, _)]) dX6_commonDivisor_4 (by decide) rfl ?_
  refine v_iconst hC (pc := 6) (v := 0) (by decide) dX6_commonDivisor_6 ?_
  refine v_istore hC (pc := 7) (l' := [(8, _), (6, _), (4, _), (0, _), (2, _)]) dX6_commonDivisor_7 (by decide) rfl ?_
  exact loop 201 0 A B (by omega) (by omega) (by omega) (by omega) rfl (Or.inr ⟨rfl, hAB⟩)

