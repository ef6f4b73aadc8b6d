/-! WORDS: the shortest words -/
theorem lcmp0 {x y : Int64} : lg_cmp x y = 0 ↔ x = y := by
  unfold lg_cmp
  constructor
  · intro h
    by_cases h1 : y < x
    · rw [if_pos h1] at h; cases h
    · rw [if_neg h1] at h
      by_cases h2 : x = y
      · exact h2
      · rw [if_neg h2] at h; cases h
  · rintro rfl
    rw [if_neg (Int64.lt_irrefl), if_pos rfl]
theorem gcd_step {x y i : Nat} (hy : 0 < y) (h : (y ≤ x ∧ x * y < 2 ^ (199 - i)) ∨ (i = 0 ∧ x * y < 2 ^ 68)) (hi : i < 200) : x % y ≤ y ∧ y * (x % y) < 2 ^ (199 - (i + 1)) := by
  have hm : x % y < y := Nat.mod_lt _ hy
  refine ⟨by omega, ?_⟩
  rcases h with ⟨h1, h2⟩ | ⟨h1, h2⟩
  · have e1 : x % y * 2 ≤ x := by
      have := Nat.div_add_mod x y
      have hq : 1 ≤ x / y := (Nat.one_le_div_iff hy).mpr h1
      have : y * 1 ≤ y * (x / y) := Nat.mul_le_mul_left y hq
      omega
    have e2 : y * (x % y) * 2 ≤ x * y := by
      have := Nat.mul_le_mul_left y e1
      rw [← Nat.mul_assoc] at this
      rw [Nat.mul_comm x y]; exact this
    rcases Nat.lt_or_ge i 199 with q | q
    · have e3 : 2 ^ (199 - i) = 2 ^ (199 - (i + 1)) * 2 := by
        rw [show 199 - i = (199 - (i + 1)) + 1 by omega, Nat.pow_succ]
      rw [e3] at h2
      omega
    · have e4 : i = 199 := by omega
      subst e4
      have : x * y < 1 := h2
      have : y * (x % y) * 2 ≤ 0 := by omega
      show y * (x % y) < 1
      omega
  · subst h1
    have e3 : y * (x % y) ≤ x * y := by
      rw [Nat.mul_comm x y]; exact Nat.mul_le_mul_left y (Nat.mod_le x y)
    have e4 : (2 : Nat) ^ 68 ≤ 2 ^ (199 - (0 + 1)) := Nat.pow_le_pow_right (by decide) (by decide)
    omega
set_option maxRecDepth 20000 in
set_option maxHeartbeats 2000000 in
theorem t_gcd (l9 : Launch) (G : WT) {d : Nat} (hd : 1 ≤ d) (h : HP) {A B : Nat} (hA : A < 2 ^ 62) (hB : B < 2 ^ 62) (hAB : A * B < 2 ^ 68) : MS l9 G yX6_commonDivisor cX6_commonDivisor 11 (some .long) d [vl (lN A), vl (lN B)] h (fun r h1 => h1 = h ∧ r = some (vl (lN (Nat.gcd A B)))) := by
  refine MS_of (by decide +kernel) (Nat.le_of_ble_eq_true rfl) (fun X hC hX => ?_)
  show V X G 11 0 _ [] _
  have loop : ∀ (n i x y : Nat), i ≤ 200 → 201 ≤ i + n → x < 2 ^ 62 → y < 2 ^ 62 → Nat.gcd x y = Nat.gcd A B → ((y ≤ x ∧ x * y < 2 ^ (199 - i)) ∨ (i = 0 ∧ x * y < 2 ^ 68)) → V X G 11 9 [(8, vi (nI i)), (6, vl (lN y)), (4, vl (lN x)), (0, vl (lN A)), (2, vl (lN B))] [] h := by
    intro n
    induction n with
    | zero => intro i x y h1 h2; exact absurd h2 (by omega)
    | succ n ih =>
      intro i x y h1 h2 hx hy hg hm
      refine v_iload hC (pc := 9) 0 rfl dX6_commonDivisor_9 ?_
      refine v_sipush hC (pc := 11) (v := 200) (by decide +kernel) dX6_commonDivisor_11 ?_
      refine v_icmp_ge hC (pc := 14) (tgt := 45) dX6_commonDivisor_14 (by decide) (fun c_14 => ?_) (fun c_14 => ?_)
      · skip
        have h200 : i = 200 := lp_ex (N := 200) c_14 h1 (by decide)
        have hy0 : y = 0 := by
          rcases hm with ⟨m1, m2⟩ | ⟨m1, m2⟩
          · rw [h200] at m2
            have m3 : x * y < 1 := m2
            rcases Nat.eq_zero_or_pos y with q | q
            · exact q
            · have := Nat.mul_le_mul (show 1 ≤ x by omega) q
              omega
          · omega
        refine v_lload hC (pc := 45) 2 rfl dX6_commonDivisor_45 ?_
        refine v_lret hC hX (pc := 47) dX6_commonDivisor_47 ?_
        exact ⟨rfl, by rw [← hg, hy0, Nat.gcd_zero_right]⟩
      · skip
        have h200 : i < 200 := lp_in (N := 200) c_14 h1 (by decide)
        refine v_lload hC (pc := 17) 1 rfl dX6_commonDivisor_17 ?_
        refine v_lconst hC (pc := 19) (v := 0) (by decide) dX6_commonDivisor_19 ?_
        refine v_lcmp hC (pc := 20) dX6_commonDivisor_20 ?_
        refine v_if_eq hC (pc := 21) (tgt := 45) dX6_commonDivisor_21 (by decide) (fun c_21 => ?_) (fun c_21 => ?_)
        · skip
          have hy0 : y = 0 := (pk_lEQ (by omega) (by decide)).mp (show lN y = lN 0 from lcmp0.mp c_21)
          refine v_lload hC (pc := 45) 2 rfl dX6_commonDivisor_45 ?_
          refine v_lret hC hX (pc := 47) dX6_commonDivisor_47 ?_
          exact ⟨rfl, by rw [← hg, hy0, Nat.gcd_zero_right]⟩
        · skip
          have hy0 : 0 < y := Nat.pos_of_ne_zero (fun z => c_21 (lcmp0.mpr (by rw [z]; rfl)))
          refine v_lload hC (pc := 24) 2 rfl dX6_commonDivisor_24 ?_
          refine v_lload hC (pc := 26) 1 rfl dX6_commonDivisor_26 ?_
          refine v_lrem hC (pc := 28) (fun z => c_21 (lcmp0.mpr z)) dX6_commonDivisor_28 ?_
          rw [pk_lRem (by omega) hy0 (by omega)]
          refine v_lstore hC (pc := 29) (l' := [(9, _), (8, _), (6, _), (4, _), (0, _), (2, _)]) dX6_commonDivisor_29 (by decide) rfl ?_
          refine v_lload hC (pc := 31) 2 rfl dX6_commonDivisor_31 ?_
          refine v_lstore hC (pc := 33) (l' := [(4, _), (9, _), (8, _), (6, _), (0, _), (2, _)]) dX6_commonDivisor_33 (by decide) rfl ?_
          refine v_lload hC (pc := 35) 1 rfl dX6_commonDivisor_35 ?_
          refine v_lstore hC (pc := 37) (l' := [(6, _), (4, _), (9, _), (8, _), (0, _), (2, _)]) dX6_commonDivisor_37 (by decide) rfl ?_
          refine v_iinc hC (pc := 39) (l' := [(8, _), (6, _), (4, _), (9, _), (0, _), (2, _)]) 3 (v := nI (i + 1)) dX6_commonDivisor_39 rfl (nI_inc i) (by decide) rfl ?_
          refine v_goto hC (pc := 42) (tgt := 9) dX6_commonDivisor_42 (by decide) ?_
          refine v_loc (l' := [(8, _), (6, _), (4, _), (0, _), (2, _)]) [0, 1, 2, 4, 5] rfl ?_
          exact ih (i + 1) y (x % y) (by omega) (by omega) (by omega) (by have := Nat.mod_lt x hy0; omega) (by rw [Nat.gcd_comm, ← Nat.gcd_rec, Nat.gcd_comm]; exact hg) (Or.inl (gcd_step hy0 hm h200))
  refine v_lload_n hC (pc := 0) (k := 0) 0 rfl dX6_commonDivisor_0 ?_
  refine v_lstore hC (pc := 1) (l' := [(4, _), (0, _), (2, _)]) dX6_commonDivisor_1 (by decide) rfl ?_
  refine v_lload_n hC (pc := 3) (k := 2) 2 rfl dX6_commonDivisor_3 ?_
  refine v_lstore hC (pc := 4) (l' := [(6, _), (4, _), (0, _), (2, _)]) dX6_commonDivisor_4 (by decide) rfl ?_
  refine v_iconst hC (pc := 6) (v := 0) (by decide) dX6_commonDivisor_6 ?_
  refine v_istore hC (pc := 7) (l' := [(8, _), (6, _), (4, _), (0, _), (2, _)]) dX6_commonDivisor_7 (by decide) rfl ?_
  exact loop 201 0 A B (by omega) (by omega) (by omega) (by omega) rfl (Or.inr ⟨rfl, hAB⟩)

/-- a corner, or none -/
def oN (o : Option Nat) : Int32 := match o with
  | none => -4
  | some t => nI t
def pN (o : Option Nat) : Int32 := match o with
  | none => -1
  | some p => nI p
def bO (o : Option Nat) : Int64 := match o with
  | none => 0
  | some p => lN (2 ^ p)
/-- where each corner's two letters lead, by hours; what a city's streets and signs say is that -/
def LdOK (S : Nat → Int32) (sg : Int32) (L : Nat → Nat → Nat → Option Nat) : Prop := (∀ c s hr, c < 8 → s < 2 → hr < 3000 → ledF S sg (nI c) (nI s) (nI hr) 0 = oN (L c s hr)) ∧ ∀ c s hr t, L c s hr = some t → t < 8
def stp (L : Nat → Nat → Nat → Option Nat) (hr ohr p s i : Nat) : Option Nat := match L (p / 8) s (hr + i), L (p % 8) s (ohr + i) with
  | some u, some v => some (u * 8 + v)
  | _, _ => none
def bl (x : Int64) (p : Nat) : Prop := x.toBitVec.getLsbD p = true
theorem bl_or (x y : Int64) (p : Nat) : bl (x ||| y) p ↔ bl x p ∨ bl y p := by
  unfold bl
  rw [Int64.toBitVec_or, BitVec.getLsbD_or, Bool.or_eq_true]
theorem bl_and (x y : Int64) (p : Nat) : bl (x &&& y) p ↔ bl x p ∧ bl y p := by
  unfold bl
  rw [Int64.toBitVec_and, BitVec.getLsbD_and, Bool.and_eq_true]
theorem bl_zero (p : Nat) : ¬ bl 0 p := by
  unfold bl
  rw [show (0 : Int64).toBitVec = 0#64 from rfl, BitVec.getLsbD_zero]
  exact fun h => by cases h
theorem bl_bO {o : Option Nat} (p : Nat) (hp : p < 64) : bl (bO o) p ↔ o = some p := by
  cases o with
  | none => exact ⟨fun h => absurd h (bl_zero p), fun h => by cases h⟩
  | some q =>
    unfold bl bO
    rw [show (lN (2 ^ q)).toBitVec = BitVec.ofNat 64 (2 ^ q) from rfl, BitVec.getLsbD_ofNat, Nat.testBit_two_pow]
    simp [hp]
theorem bl_ext0 {x : Int64} : x = 0 ↔ ∀ p, p < 64 → ¬ bl x p := by
  constructor
  · rintro rfl p _; exact bl_zero p
  · intro h
    apply Int64.toBitVec_inj.mp
    apply BitVec.eq_of_getLsbD_eq
    intro i hi
    have := h i hi
    unfold bl at this
    rw [show (0 : Int64).toBitVec = 0#64 from rfl, BitVec.getLsbD_zero]
    cases e : x.toBitVec.getLsbD i with
    | true => exact absurd e this
    | false => rfl
theorem bl_has {x : Int64} {p : Nat} (hp : p < 64) : x &&& bO (some p) = 0 ↔ ¬ bl x p := by
  rw [bl_ext0]
  constructor
  · intro h z
    exact h p hp ((bl_and _ _ _).mpr ⟨z, (bl_bO p hp).mpr rfl⟩)
  · intro h k hk z
    obtain ⟨z1, z2⟩ := (bl_and _ _ _).mp z
    have e := (bl_bO k hk).mp z2
    cases e
    exact h z1
theorem bl_any {x y : Int64} : x &&& y = 0 ↔ ∀ p, p < 64 → ¬ (bl x p ∧ bl y p) := by
  rw [bl_ext0]
  exact ⟨fun h p hp z => h p hp ((bl_and _ _ _).mpr z), fun h p hp z => h p hp ((bl_and _ _ _).mp z)⟩
theorem stp_lt {L : Nat → Nat → Nat → Option Nat} (hL : ∀ c s hr t, L c s hr = some t → t < 8) {hr ohr p s i p' : Nat} (h : stp L hr ohr p s i = some p') : p' < 64 := by
  unfold stp at h
  split at h
  · rename_i u v h1 h2
    have := hL _ _ _ _ h1
    have := hL _ _ _ _ h2
    cases h
    omega
  · cases h
set_option maxRecDepth 20000 in
set_option maxHeartbeats 2000000 in
theorem t_pairOf (l9 : Launch) (G : WT) {d : Nat} (hd : 1 ≤ d) (h : HP) (a b : Int32) : MS l9 G yX5_pairOf cX5_pairOf 2 (some .int) d [vi a, vi b] h (fun r h1 => h1 = h ∧ r = some (vi (a * 8 + b))) := by
  refine MS_of (by decide +kernel) (Nat.le_of_ble_eq_true rfl) (fun X hC hX => ?_)
  show V X G 2 0 _ [] _
  refine v_iload_n hC (pc := 0) (k := 0) 0 rfl dX5_pairOf_0 ?_
  refine v_bipush hC (pc := 1) (v := 8) (by decide +kernel) dX5_pairOf_1 ?_
  refine v_imul hC (pc := 3) dX5_pairOf_3 ?_
  refine v_iload_n hC (pc := 4) (k := 1) 1 rfl dX5_pairOf_4 ?_
  refine v_iadd hC (pc := 5) dX5_pairOf_5 ?_
  refine v_iret hC hX (pc := 6) dX5_pairOf_6 ?_
  exact ⟨rfl, rfl⟩

set_option maxRecDepth 20000 in
set_option maxHeartbeats 2000000 in
theorem t_wbit (l9 : Launch) (G : WT) {d : Nat} (hd : 1 ≤ d) (h : HP) {o : Option Nat} (ho : ∀ p, o = some p → p < 64) : MS l9 G yX5_bitOf cX5_bitOf 1 (some .long) d [vi (pN o)] h (fun r h1 => h1 = h ∧ r = some (vl (bO o))) := by
  refine MS_of (by decide +kernel) (Nat.le_of_ble_eq_true rfl) (fun X hC hX => ?_)
  show V X G 1 0 _ [] _
  refine v_iload_n hC (pc := 0) (k := 0) 0 rfl dX5_bitOf_0 ?_
  refine v_if_ge hC (pc := 1) (tgt := 8) dX5_bitOf_1 (by decide) (fun c_1 => ?_) (fun c_1 => ?_)
  · skip
    refine v_lconst hC (pc := 8) (v := 1) (by decide) dX5_bitOf_8 ?_
    refine v_iload_n hC (pc := 9) (k := 0) 0 rfl dX5_bitOf_9 ?_
    refine v_lshl hC (pc := 10) dX5_bitOf_10 ?_
    refine v_lret hC hX (pc := 11) dX5_bitOf_11 ?_
    refine ⟨rfl, ?_⟩
    cases o with
    | none => first | rfl | exact absurd (show (0 : Int32) ≤ -1 from c_1) (by decide)
    | some p =>
      have hp := ho p rfl
      first | exact absurd (show (0 : Int32) ≤ nI p from nI_pos' (by omega)) c_1 | (show some (vl (1 <<< ((nI p).toInt64 &&& 63))) = some (vl (lN (2 ^ p))); rw [show (1 : Int64) = lN 1 from rfl, wb_shl _ hp, Nat.one_mul])
  · skip
    refine v_lconst hC (pc := 4) (v := 0) (by decide) dX5_bitOf_4 ?_
    refine v_goto hC (pc := 5) (tgt := 11) dX5_bitOf_5 (by decide) ?_
    refine v_lret hC hX (pc := 11) dX5_bitOf_11 ?_
    refine ⟨rfl, ?_⟩
    cases o with
    | none => first | rfl | exact absurd (show (0 : Int32) ≤ -1 from c_1) (by decide)
    | some p =>
      have hp := ho p rfl
      first | exact absurd (show (0 : Int32) ≤ nI p from nI_pos' (by omega)) c_1 | (show some (vl (1 <<< ((nI p).toInt64 &&& 63))) = some (vl (lN (2 ^ p))); rw [show (1 : Int64) = lN 1 from rfl, wb_shl _ hp, Nat.one_mul])

theorem oN_ne {u : Nat} (hu : u < 8) : ¬ oN (some u) = -4 := by
  rcases (show u = 0 ∨ u = 1 ∨ u = 2 ∨ u = 3 ∨ u = 4 ∨ u = 5 ∨ u = 6 ∨ u = 7 by omega) with rfl | rfl | rfl | rfl | rfl | rfl | rfl | rfl <;> decide +kernel
set_option maxRecDepth 20000 in
set_option maxHeartbeats 2000000 in
theorem t_step (l9 : Launch) (G : WT) {d : Nat} (hd : 3 ≤ d) {q : Nat} (hq : q < 5) {L : Nat → Nat → Nat → Option Nat} (h : HP) (hL : LdOK (h.1 (0, q, 6)) (h.1 (0, q, 0) 1) L) {hr ohr : Nat} (hhr : h.1 (1, 0, 6) 1 = nI hr) (hohr : h.1 (1, 0, 6) 2 = nI ohr) (hb1 : hr < 1000) (hb2 : ohr < 1000) {p s i : Nat} (hp : p < 64) (hs : s < 2) (hi : i < 1000) : MS l9 G yX5_step cX5_step 7 (some .int) d [vr (1, 0, 6), vr (0, q, 0), vi (nI p), vi (nI s), vi (nI i)] h (fun r h1 => h1 = h ∧ r = some (vi (pN (stp L hr ohr p s i)))) := by
  refine MS_of (by decide +kernel) (Nat.le_of_ble_eq_true rfl) (fun X hC hX => ?_)
  show V X G 7 0 _ [] _
  refine v_iload_n hC (pc := 0) (k := 2) 2 rfl dX5_step_0 ?_
  refine v_if_ge hC (pc := 1) (tgt := 6) dX5_step_1 (by decide) (fun c_1 => ?_) (fun c_1 => ?_)
  · skip
    skip
    refine v_aload_n hC (pc := 6) (k := 1) 1 rfl dX5_step_6 ?_
    refine v_iload_n hC (pc := 7) (k := 2) 2 rfl dX5_step_7 ?_
    refine v_bipush hC (pc := 8) (v := 8) (by decide +kernel) dX5_step_8 ?_
    refine v_idiv hC (pc := 10) (by decide) dX5_step_10 ?_
    rw [show (8 : Int32) = nI 8 from rfl, pk_div (show p < 2 ^ 31 by omega) (by decide) (by decide)]
    refine v_iload_n hC (pc := 11) (k := 3) 3 rfl dX5_step_11 ?_
    refine v_aload_n hC (pc := 12) (k := 0) 0 rfl dX5_step_12 ?_
    refine v_getI hC (pc := 13) dX5_step_13 fl_X5_15 rfl (by first | rfl | exact ok_c hq rfl | exact ok_w hq hw | exact ok_w (by omega) (by omega) | exact ok_s (by omega) (by omega) | exact ok_c (by omega) rfl | assumption) rfl (by decide) (by decide) ?_
    refine v_iload hC (pc := 16) 4 rfl dX5_step_16 ?_
    refine v_iadd hC (pc := 18) dX5_step_18 ?_
    rw [hhr, nI_add]
    refine v_iconst hC (pc := 19) (v := 0) (by decide) dX5_step_19 ?_
    refine v_callV hC (pc := 20) (As := [_, _, _, _]) dX5_step_20 rfl (t_leadsTo _ _ (d := d - 1) (by omega) hq _ _ _ _ _) cv_X5_42 rfl (by decide) rfl (ok_c hq rfl) (Nat.le_of_ble_eq_true rfl) (by omega) (fun r h' hr => ?_)
    obtain ⟨rfl, rfl⟩ := hr
    show V _ _ _ (20 + 3) _ (_ :: _) _
    show V X G 7 23 _ (vi (ledF _ _ _ _ _ (0 : Int32)) :: _) _
    rw [hL.1 _ _ _ (show p / 8 < 8 by omega) hs (show hr + i < 3000 by omega)]
    refine v_istore hC (pc := 23) (l' := [(5, _), (0, _), (1, _), (2, _), (3, _), (4, _)]) dX5_step_23 (by decide) rfl ?_
    refine v_aload_n hC (pc := 25) (k := 1) 2 rfl dX5_step_25 ?_
    refine v_iload_n hC (pc := 26) (k := 2) 3 rfl dX5_step_26 ?_
    refine v_bipush hC (pc := 27) (v := 8) (by decide +kernel) dX5_step_27 ?_
    refine v_irem hC (pc := 29) (by decide) dX5_step_29 ?_
    rw [show (8 : Int32) = nI 8 from rfl, pk_rem (show p < 2 ^ 31 by omega) (by decide) (by decide)]
    refine v_iload_n hC (pc := 30) (k := 3) 4 rfl dX5_step_30 ?_
    refine v_aload_n hC (pc := 31) (k := 0) 1 rfl dX5_step_31 ?_
    refine v_getI hC (pc := 32) dX5_step_32 fl_X5_19 rfl (by first | rfl | exact ok_c hq rfl | exact ok_w hq hw | exact ok_w (by omega) (by omega) | exact ok_s (by omega) (by omega) | exact ok_c (by omega) rfl | assumption) rfl (by decide) (by decide) ?_
    refine v_iload hC (pc := 35) 5 rfl dX5_step_35 ?_
    refine v_iadd hC (pc := 37) dX5_step_37 ?_
    rw [hohr, nI_add]
    refine v_iconst hC (pc := 38) (v := 0) (by decide) dX5_step_38 ?_
    refine v_callV hC (pc := 39) (As := [_, _, _, _]) dX5_step_39 rfl (t_leadsTo _ _ (d := d - 1) (by omega) hq _ _ _ _ _) cv_X5_42 rfl (by decide) rfl (ok_c hq rfl) (Nat.le_of_ble_eq_true rfl) (by omega) (fun r h' hr => ?_)
    obtain ⟨rfl, rfl⟩ := hr
    show V _ _ _ (39 + 3) _ (_ :: _) _
    show V X G 7 42 _ (vi (ledF _ _ _ _ _ (0 : Int32)) :: _) _
    rw [hL.1 _ _ _ (show p % 8 < 8 by omega) hs (show ohr + i < 3000 by omega)]
    refine v_istore hC (pc := 42) (l' := [(6, _), (5, _), (0, _), (1, _), (2, _), (3, _), (4, _)]) dX5_step_42 (by decide) rfl ?_
    refine v_iload hC (pc := 44) 1 rfl dX5_step_44 ?_
    refine v_bipush hC (pc := 46) (v := (-4)) (by decide +kernel) dX5_step_46 ?_
    refine v_icmp_eq hC (pc := 48) (tgt := 58) dX5_step_48 (by decide) (fun c_48 => ?_) (fun c_48 => ?_)
    · skip
      refine v_iconst hC (pc := 58) (v := (-1)) (by decide) dX5_step_58 ?_
      refine v_goto hC (pc := 59) (tgt := 69) dX5_step_59 (by decide) ?_
      refine v_iret hC hX (pc := 69) dX5_step_69 ?_
      refine ⟨rfl, ?_⟩
      unfold stp
      cases e1 : L (p / 8) s (hr + i) with
      | none => first | (rw [e1] at c_48; exact absurd rfl c_48) | rfl
      | some u =>
        cases e2 : L (p % 8) s (ohr + i) with
        | none => first | (rw [e2] at c_55; exact absurd rfl c_55) | rfl
        | some v =>
          have hu := hL.2 _ _ _ _ e1
          have hv := hL.2 _ _ _ _ e2
          first | (rw [e1] at c_48; exact absurd c_48 (oN_ne hu)) | (rw [e2] at c_55; exact absurd c_55 (oN_ne hv)) | (show some (vi (nI u * 8 + nI v)) = some (vi (nI (u * 8 + v))); rw [show (8 : Int32) = nI 8 from rfl, pk_mul, nI_add])
    · skip
      refine v_iload hC (pc := 51) 0 rfl dX5_step_51 ?_
      refine v_bipush hC (pc := 53) (v := (-4)) (by decide +kernel) dX5_step_53 ?_
      refine v_icmp_ne hC (pc := 55) (tgt := 62) dX5_step_55 (by decide) (fun c_55 => ?_) (fun c_55 => ?_)
      · skip
        refine v_iload hC (pc := 62) 1 rfl dX5_step_62 ?_
        refine v_iload hC (pc := 64) 0 rfl dX5_step_64 ?_
        refine v_callS hC (pc := 66) (As := [_, _]) dX5_step_66 rfl (t_pairOf _ _ (d := d - 1) (by omega) _ _ _) cs_X5_22 (Nat.le_of_ble_eq_true rfl) (by omega) (fun r h' hr => ?_)
        obtain ⟨rfl, rfl⟩ := hr
        show V _ _ _ (66 + 3) _ (_ :: _) _
        refine v_iret hC hX (pc := 69) dX5_step_69 ?_
        refine ⟨rfl, ?_⟩
        unfold stp
        cases e1 : L (p / 8) s (hr + i) with
        | none => first | (rw [e1] at c_48; exact absurd rfl c_48) | rfl
        | some u =>
          cases e2 : L (p % 8) s (ohr + i) with
          | none => first | (rw [e2] at c_55; exact absurd rfl c_55) | rfl
          | some v =>
            have hu := hL.2 _ _ _ _ e1
            have hv := hL.2 _ _ _ _ e2
            first | (rw [e1] at c_48; exact absurd c_48 (oN_ne hu)) | (rw [e2] at c_55; exact absurd c_55 (oN_ne hv)) | (show some (vi (nI u * 8 + nI v)) = some (vi (nI (u * 8 + v))); rw [show (8 : Int32) = nI 8 from rfl, pk_mul, nI_add])
      · skip
        refine v_iconst hC (pc := 58) (v := (-1)) (by decide) dX5_step_58 ?_
        refine v_goto hC (pc := 59) (tgt := 69) dX5_step_59 (by decide) ?_
        refine v_iret hC hX (pc := 69) dX5_step_69 ?_
        refine ⟨rfl, ?_⟩
        unfold stp
        cases e1 : L (p / 8) s (hr + i) with
        | none => first | (rw [e1] at c_48; exact absurd rfl c_48) | rfl
        | some u =>
          cases e2 : L (p % 8) s (ohr + i) with
          | none => first | (rw [e2] at c_55; exact absurd rfl c_55) | rfl
          | some v =>
            have hu := hL.2 _ _ _ _ e1
            have hv := hL.2 _ _ _ _ e2
            first | (rw [e1] at c_48; exact absurd c_48 (oN_ne hu)) | (rw [e2] at c_55; exact absurd c_55 (oN_ne hv)) | (show some (vi (nI u * 8 + nI v)) = some (vi (nI (u * 8 + v))); rw [show (8 : Int32) = nI 8 from rfl, pk_mul, nI_add])
  · exact absurd (nI_pos' (show p < 2 ^ 31 by omega)) c_1

def nxtP (L : Nat → Nat → Nat → Option Nat) (hr ohr i : Nat) (F : Nat → Prop) (k p : Nat) : Prop := ∃ p0, p0 < k ∧ F p0 ∧ ∃ s, s < 2 ∧ stp L hr ohr p0 s i = some p
theorem nxtP_t {L : Nat → Nat → Nat → Option Nat} {hr ohr i : Nat} {F : Nat → Prop} {k p : Nat} (h : F k) : nxtP L hr ohr i F (k + 1) p ↔ nxtP L hr ohr i F k p ∨ (stp L hr ohr k 0 i = some p ∨ stp L hr ohr k 1 i = some p) := by
  constructor
  · rintro ⟨p0, h1, h2, s, hs, h3⟩
    rcases Nat.lt_or_ge p0 k with z | z
    · exact Or.inl ⟨p0, z, h2, s, hs, h3⟩
    · have e : p0 = k := by omega
      subst e
      rcases (show s = 0 ∨ s = 1 by omega) with rfl | rfl
      · exact Or.inr (Or.inl h3)
      · exact Or.inr (Or.inr h3)
  · rintro (⟨p0, h1, h2⟩ | h3 | h3)
    · exact ⟨p0, by omega, h2⟩
    · exact ⟨k, by omega, h, 0, by decide, h3⟩
    · exact ⟨k, by omega, h, 1, by decide, h3⟩
theorem nxtP_f {L : Nat → Nat → Nat → Option Nat} {hr ohr i : Nat} {F : Nat → Prop} {k p : Nat} (h : ¬ F k) : nxtP L hr ohr i F (k + 1) p ↔ nxtP L hr ohr i F k p := by
  constructor
  · rintro ⟨p0, h1, h2, h3⟩
    rcases Nat.lt_or_ge p0 k with z | z
    · exact ⟨p0, z, h2, h3⟩
    · have e : p0 = k := by omega
      subst e
      exact absurd h2 h
  · rintro ⟨p0, h1, h2⟩
    exact ⟨p0, by omega, h2⟩
set_option maxRecDepth 20000 in
set_option maxHeartbeats 2000000 in
theorem t_stepAll (l9 : Launch) (G : WT) {d : Nat} (hd : 4 ≤ d) {q : Nat} (hq : q < 5) {L : Nat → Nat → Nat → Option Nat} (h : HP) (hL : LdOK (h.1 (0, q, 6)) (h.1 (0, q, 0) 1) L) {hr ohr : Nat} (hhr : h.1 (1, 0, 6) 1 = nI hr) (hohr : h.1 (1, 0, 6) 2 = nI ohr) (hb1 : hr < 1000) (hb2 : ohr < 1000) (f : Int64) {i : Nat} (hi0 : i < 1000) : MS l9 G yX5_stepAll cX5_stepAll 8 (some .long) d [vr (1, 0, 6), vr (0, q, 0), vl f, vi (nI i)] h (fun r h1 => h1 = h ∧ ∃ a, r = some (vl a) ∧ ∀ p, p < 64 → (bl a p ↔ nxtP L hr ohr i (bl f) 64 p)) := by
  refine MS_of (by decide +kernel) (Nat.le_of_ble_eq_true rfl) (fun X hC hX => ?_)
  show V X G 8 0 _ [] _
  have loop : ∀ (n k : Nat) (a : Int64), k ≤ 64 → 64 + 1 ≤ k + n → (∀ p, p < 64 → (bl a p ↔ nxtP L hr ohr i (bl f) k p)) → V X G 8 6 [(7, vi (nI k)), (5, vl a), (0, vr (1, 0, 6)), (1, vr (0, q, 0)), (2, vl f), (4, vi (nI i))] [] (h) := by
    intro n
    induction n with
    | zero => intro k a h1 h2; exact absurd h2 (by omega)
    | succ n ih =>
      intro k a h1 h2 ha
      refine v_iload hC (pc := 6) 0 rfl dX5_stepAll_6 ?_
      refine v_bipush hC (pc := 8) (v := 64) (by decide +kernel) dX5_stepAll_8 ?_
      refine v_icmp_ge hC (pc := 10) (tgt := 63) dX5_stepAll_10 (by decide) (fun c_10 => ?_) (fun c_10 => ?_)
      · skip
        have hi : k = 64 := lp_ex (N := 64) (c_10) h1 (by omega)
        refine v_lload hC (pc := 63) 1 rfl dX5_stepAll_63 ?_
        refine v_lret hC hX (pc := 65) dX5_stepAll_65 ?_
        subst hi
        exact ⟨rfl, a, rfl, ha⟩
      · skip
        have hk : k < 64 := lp_in (N := 64) (c_10) h1 (by omega)
        refine v_lload_n hC (pc := 13) (k := 2) 4 rfl dX5_stepAll_13 ?_
        refine v_iload hC (pc := 14) 0 rfl dX5_stepAll_14 ?_
        refine v_callS hC (pc := 16) (As := [_]) dX5_stepAll_16 rfl (t_wbit _ _ (d := d - 1) (by omega) _ (o := some k) (fun p z => by cases z; exact hk)) cs_X5_26 (Nat.le_of_ble_eq_true rfl) (by omega) (fun r h' hr => ?_)
        obtain ⟨rfl, rfl⟩ := hr
        show V _ _ _ (16 + 3) _ (_ :: _) _
        refine v_land hC (pc := 19) dX5_stepAll_19 ?_
        refine v_lconst hC (pc := 20) (v := 0) (by decide) dX5_stepAll_20 ?_
        refine v_lcmp hC (pc := 21) dX5_stepAll_21 ?_
        refine v_if_eq hC (pc := 22) (tgt := 57) dX5_stepAll_22 (by decide) (fun c_22 => ?_) (fun c_22 => ?_)
        · skip
          refine v_iinc hC (pc := 57) (l' := [(7, _), (5, _), (0, _), (1, _), (2, _), (4, _)]) 0 (v := nI (k + 1)) dX5_stepAll_57 rfl (nI_inc k) (by decide) rfl ?_
          refine v_goto hC (pc := 60) (tgt := 6) dX5_stepAll_60 (by decide) ?_
          exact ih (k + 1) _ (by omega) (by omega) (fun p hp => by
                first
                  | (rw [nxtP_f ((bl_has hk).mp (lcmp0.mp c_22))]; exact ha p hp)
                  | (rw [nxtP_t (F := bl f) (Classical.not_not.mp (fun z => c_22 (lcmp0.mpr ((bl_has hk).mpr z)))), bl_or, bl_or, bl_bO p hp, bl_bO p hp, ha p hp]))
        · skip
          refine v_lload hC (pc := 25) 1 rfl dX5_stepAll_25 ?_
          refine v_aload_n hC (pc := 27) (k := 0) 2 rfl dX5_stepAll_27 ?_
          refine v_aload_n hC (pc := 28) (k := 1) 3 rfl dX5_stepAll_28 ?_
          refine v_iload hC (pc := 29) 0 rfl dX5_stepAll_29 ?_
          refine v_iconst hC (pc := 31) (v := 0) (by decide) dX5_stepAll_31 ?_
          refine v_iload hC (pc := 32) 5 rfl dX5_stepAll_32 ?_
          refine v_callV hC (pc := 34) (As := [_, _, _, _]) dX5_stepAll_34 rfl (t_step _ _ (d := d - 1) (by omega) hq _ hL hhr hohr hb1 hb2 hk (s := 0) (by decide) hi0) cv_X5_38 rfl (by decide) rfl (by first | rfl | exact ok_c hq rfl | exact ok_w hq hw | exact ok_w (by omega) (by omega) | exact ok_s (by omega) (by omega) | exact ok_c (by omega) rfl | assumption) (Nat.le_of_ble_eq_true rfl) (by omega) (fun r h' hr => ?_)
          obtain ⟨rfl, rfl⟩ := hr
          show V _ _ _ (34 + 3) _ (_ :: _) _
          refine v_callS hC (pc := 37) (As := [_]) dX5_stepAll_37 rfl (t_wbit _ _ (d := d - 1) (by omega) _ (o := stp L hr ohr k 0 i) (fun p z => stp_lt hL.2 z)) cs_X5_26 (Nat.le_of_ble_eq_true rfl) (by omega) (fun r h' hr => ?_)
          obtain ⟨rfl, rfl⟩ := hr
          show V _ _ _ (37 + 3) _ (_ :: _) _
          refine v_aload_n hC (pc := 40) (k := 0) 2 rfl dX5_stepAll_40 ?_
          refine v_aload_n hC (pc := 41) (k := 1) 3 rfl dX5_stepAll_41 ?_
          refine v_iload hC (pc := 42) 0 rfl dX5_stepAll_42 ?_
          refine v_iconst hC (pc := 44) (v := 1) (by decide) dX5_stepAll_44 ?_
          refine v_iload hC (pc := 45) 5 rfl dX5_stepAll_45 ?_
          refine v_callV hC (pc := 47) (As := [_, _, _, _]) dX5_stepAll_47 rfl (t_step _ _ (d := d - 1) (by omega) hq _ hL hhr hohr hb1 hb2 hk (s := 1) (by decide) hi0) cv_X5_38 rfl (by decide) rfl (by first | rfl | exact ok_c hq rfl | exact ok_w hq hw | exact ok_w (by omega) (by omega) | exact ok_s (by omega) (by omega) | exact ok_c (by omega) rfl | assumption) (Nat.le_of_ble_eq_true rfl) (by omega) (fun r h' hr => ?_)
          obtain ⟨rfl, rfl⟩ := hr
          show V _ _ _ (47 + 3) _ (_ :: _) _
          refine v_callS hC (pc := 50) (As := [_]) dX5_stepAll_50 rfl (t_wbit _ _ (d := d - 1) (by omega) _ (o := stp L hr ohr k 1 i) (fun p z => stp_lt hL.2 z)) cs_X5_26 (Nat.le_of_ble_eq_true rfl) (by omega) (fun r h' hr => ?_)
          obtain ⟨rfl, rfl⟩ := hr
          show V _ _ _ (50 + 3) _ (_ :: _) _
          refine v_lor hC (pc := 53) dX5_stepAll_53 ?_
          refine v_lor hC (pc := 54) dX5_stepAll_54 ?_
          refine v_lstore hC (pc := 55) (l' := [(5, _), (7, _), (0, _), (1, _), (2, _), (4, _)]) dX5_stepAll_55 (by decide) rfl ?_
          refine v_iinc hC (pc := 57) (l' := [(7, _), (5, _), (0, _), (1, _), (2, _), (4, _)]) 1 (v := nI (k + 1)) dX5_stepAll_57 rfl (nI_inc k) (by decide) rfl ?_
          refine v_goto hC (pc := 60) (tgt := 6) dX5_stepAll_60 (by decide) ?_
          exact ih (k + 1) _ (by omega) (by omega) (fun p hp => by
                first
                  | (rw [nxtP_f ((bl_has hk).mp (lcmp0.mp c_22))]; exact ha p hp)
                  | (rw [nxtP_t (F := bl f) (Classical.not_not.mp (fun z => c_22 (lcmp0.mpr ((bl_has hk).mpr z)))), bl_or, bl_or, bl_bO p hp, bl_bO p hp, ha p hp]))
  refine v_lconst hC (pc := 0) (v := 0) (by decide) dX5_stepAll_0 ?_
  refine v_lstore hC (pc := 1) (l' := [(5, _), (0, _), (1, _), (2, _), (4, _)]) dX5_stepAll_1 (by decide) rfl ?_
  refine v_iconst hC (pc := 3) (v := 0) (by decide) dX5_stepAll_3 ?_
  refine v_istore hC (pc := 4) (l' := [(7, _), (5, _), (0, _), (1, _), (2, _), (4, _)]) dX5_stepAll_4 (by decide) rfl ?_
  exact loop 65 0 0 (by omega) (by omega) (fun p hp => ⟨fun z => absurd z (bl_zero p), fun ⟨p0, z, _⟩ => absurd z (Nat.not_lt_zero p0)⟩)

def intP (L : Nat → Nat → Nat → Option Nat) (hr ohr i : Nat) (F T : Nat → Prop) (p : Nat) : Prop := F p ∧ ∃ s, s < 2 ∧ ∃ p', stp L hr ohr p s i = some p' ∧ T p'
theorem int_go {L : Nat → Nat → Nat → Option Nat} (hL : ∀ c s hr t, L c s hr = some t → t < 8) {hr ohr k i : Nat} {g : Int64} : (bO (stp L hr ohr k 0 i) ||| bO (stp L hr ohr k 1 i)) &&& g = 0 ↔ ¬ ∃ s, s < 2 ∧ ∃ p', stp L hr ohr k s i = some p' ∧ bl g p' := by
  rw [bl_any]
  constructor
  · rintro h ⟨s, hs, p', h1, h2⟩
    have hp := stp_lt hL h1
    refine h p' hp ⟨(bl_or _ _ _).mpr ?_, h2⟩
    rcases (show s = 0 ∨ s = 1 by omega) with rfl | rfl
    · exact Or.inl ((bl_bO p' hp).mpr h1)
    · exact Or.inr ((bl_bO p' hp).mpr h1)
  · rintro h p hp ⟨h1, h2⟩
    rcases (bl_or _ _ _).mp h1 with z | z
    · exact h ⟨0, by decide, p, (bl_bO p hp).mp z, h2⟩
    · exact h ⟨1, by decide, p, (bl_bO p hp).mp z, h2⟩
theorem lt_succ_or {k p : Nat} {A : Prop} {F : Nat → Prop} : (p < k + 1 ∧ F p) ↔ (p < k ∧ F p) ∨ (p = k ∧ F k) := by
  constructor
  · rintro ⟨h1, h2⟩
    rcases Nat.lt_or_ge p k with z | z
    · exact Or.inl ⟨z, h2⟩
    · have e : p = k := by omega
      subst e
      exact Or.inr ⟨rfl, h2⟩
  · rintro (⟨h1, h2⟩ | ⟨rfl, h2⟩)
    · exact ⟨by omega, h2⟩
    · exact ⟨by omega, h2⟩
set_option maxRecDepth 20000 in
set_option maxHeartbeats 2000000 in
theorem t_those (l9 : Launch) (G : WT) {d : Nat} (hd : 4 ≤ d) {q : Nat} (hq : q < 5) {L : Nat → Nat → Nat → Option Nat} (h : HP) (hL : LdOK (h.1 (0, q, 6)) (h.1 (0, q, 0) 1) L) {hr ohr : Nat} (hhr : h.1 (1, 0, 6) 1 = nI hr) (hohr : h.1 (1, 0, 6) 2 = nI ohr) (hb1 : hr < 1000) (hb2 : ohr < 1000) (g f : Int64) {i : Nat} (hi0 : i < 1000) : MS l9 G yX5_thoseThatStepInto cX5_thoseThatStepInto 10 (some .long) d [vr (1, 0, 6), vr (0, q, 0), vl g, vl f, vi (nI i)] h (fun r h1 => h1 = h ∧ ∃ a, r = some (vl a) ∧ ∀ p, p < 64 → (bl a p ↔ intP L hr ohr i (bl f) (bl g) p)) := by
  refine MS_of (by decide +kernel) (Nat.le_of_ble_eq_true rfl) (fun X hC hX => ?_)
  show V X G 10 0 _ [] _
  have loop : ∀ (n k : Nat) (a : Int64), k ≤ 64 → 64 + 1 ≤ k + n → (∀ p, p < 64 → (bl a p ↔ p < k ∧ intP L hr ohr i (bl f) (bl g) p)) → V X G 10 6 [(9, vi (nI k)), (7, vl a), (0, vr (1, 0, 6)), (1, vr (0, q, 0)), (2, vl g), (4, vl f), (6, vi (nI i))] [] (h) := by
    intro n
    induction n with
    | zero => intro k a h1 h2; exact absurd h2 (by omega)
    | succ n ih =>
      intro k a h1 h2 ha
      refine v_iload hC (pc := 6) 0 rfl dX5_thoseThatStepInto_6 ?_
      refine v_bipush hC (pc := 8) (v := 64) (by decide +kernel) dX5_thoseThatStepInto_8 ?_
      refine v_icmp_ge hC (pc := 10) (tgt := 76) dX5_thoseThatStepInto_10 (by decide) (fun c_10 => ?_) (fun c_10 => ?_)
      · skip
        have hi : k = 64 := lp_ex (N := 64) (c_10) h1 (by omega)
        refine v_lload hC (pc := 76) 1 rfl dX5_thoseThatStepInto_76 ?_
        refine v_lret hC hX (pc := 78) dX5_thoseThatStepInto_78 ?_
        subst hi
        exact ⟨rfl, a, rfl, fun p hp => by rw [ha p hp]; exact ⟨fun z => z.2, fun z => ⟨hp, z⟩⟩⟩
      · skip
        have hk : k < 64 := lp_in (N := 64) (c_10) h1 (by omega)
        refine v_lload hC (pc := 13) 5 rfl dX5_thoseThatStepInto_13 ?_
        refine v_iload hC (pc := 15) 0 rfl dX5_thoseThatStepInto_15 ?_
        refine v_callS hC (pc := 17) (As := [_]) dX5_thoseThatStepInto_17 rfl (t_wbit _ _ (d := d - 1) (by omega) _ (o := some k) (fun p z => by cases z; exact hk)) cs_X5_26 (Nat.le_of_ble_eq_true rfl) (by omega) (fun r h' hr => ?_)
        obtain ⟨rfl, rfl⟩ := hr
        show V _ _ _ (17 + 3) _ (_ :: _) _
        refine v_land hC (pc := 20) dX5_thoseThatStepInto_20 ?_
        refine v_lconst hC (pc := 21) (v := 0) (by decide) dX5_thoseThatStepInto_21 ?_
        refine v_lcmp hC (pc := 22) dX5_thoseThatStepInto_22 ?_
        refine v_if_eq hC (pc := 23) (tgt := 70) dX5_thoseThatStepInto_23 (by decide) (fun c_23 => ?_) (fun c_23 => ?_)
        · skip
          have hN : ¬ intP L hr ohr i (bl f) (bl g) k := fun z => (bl_has hk).mp (lcmp0.mp c_23) z.1
          refine v_iinc hC (pc := 70) (l' := [(9, _), (7, _), (0, _), (1, _), (2, _), (4, _), (6, _)]) 0 (v := nI (k + 1)) dX5_thoseThatStepInto_70 rfl (nI_inc k) (by decide) rfl ?_
          refine v_goto hC (pc := 73) (tgt := 6) dX5_thoseThatStepInto_73 (by decide) ?_
          exact ih (k + 1) _ (by omega) (by omega) (fun p hp => by
                rw [lt_succ_or (A := True)]
                first
                  | (rw [bl_or, bl_bO p hp, ha p hp]; exact ⟨fun z => z.elim Or.inl (fun z => by cases z; exact Or.inr ⟨rfl, hB, hI⟩), fun z => z.elim Or.inl (fun z => Or.inr (by rw [z.1]))⟩)
                  | (rw [ha p hp]; exact ⟨Or.inl, fun z => z.elim id (fun z => absurd z.2 hN)⟩))
        · skip
          have hB : bl f k := Classical.not_not.mp (fun z => c_23 (lcmp0.mpr ((bl_has hk).mpr z)))
          refine v_aload_n hC (pc := 26) (k := 0) 2 rfl dX5_thoseThatStepInto_26 ?_
          refine v_aload_n hC (pc := 27) (k := 1) 3 rfl dX5_thoseThatStepInto_27 ?_
          refine v_iload hC (pc := 28) 0 rfl dX5_thoseThatStepInto_28 ?_
          refine v_iconst hC (pc := 30) (v := 0) (by decide) dX5_thoseThatStepInto_30 ?_
          refine v_iload hC (pc := 31) 6 rfl dX5_thoseThatStepInto_31 ?_
          refine v_callV hC (pc := 33) (As := [_, _, _, _]) dX5_thoseThatStepInto_33 rfl (t_step _ _ (d := d - 1) (by omega) hq _ hL hhr hohr hb1 hb2 hk (s := 0) (by decide) hi0) cv_X5_38 rfl (by decide) rfl (by first | rfl | exact ok_c hq rfl | exact ok_w hq hw | exact ok_w (by omega) (by omega) | exact ok_s (by omega) (by omega) | exact ok_c (by omega) rfl | assumption) (Nat.le_of_ble_eq_true rfl) (by omega) (fun r h' hr => ?_)
          obtain ⟨rfl, rfl⟩ := hr
          show V _ _ _ (33 + 3) _ (_ :: _) _
          refine v_callS hC (pc := 36) (As := [_]) dX5_thoseThatStepInto_36 rfl (t_wbit _ _ (d := d - 1) (by omega) _ (o := stp L hr ohr k 0 i) (fun p z => stp_lt hL.2 z)) cs_X5_26 (Nat.le_of_ble_eq_true rfl) (by omega) (fun r h' hr => ?_)
          obtain ⟨rfl, rfl⟩ := hr
          show V _ _ _ (36 + 3) _ (_ :: _) _
          refine v_aload_n hC (pc := 39) (k := 0) 2 rfl dX5_thoseThatStepInto_39 ?_
          refine v_aload_n hC (pc := 40) (k := 1) 3 rfl dX5_thoseThatStepInto_40 ?_
          refine v_iload hC (pc := 41) 0 rfl dX5_thoseThatStepInto_41 ?_
          refine v_iconst hC (pc := 43) (v := 1) (by decide) dX5_thoseThatStepInto_43 ?_
          refine v_iload hC (pc := 44) 6 rfl dX5_thoseThatStepInto_44 ?_
          refine v_callV hC (pc := 46) (As := [_, _, _, _]) dX5_thoseThatStepInto_46 rfl (t_step _ _ (d := d - 1) (by omega) hq _ hL hhr hohr hb1 hb2 hk (s := 1) (by decide) hi0) cv_X5_38 rfl (by decide) rfl (by first | rfl | exact ok_c hq rfl | exact ok_w hq hw | exact ok_w (by omega) (by omega) | exact ok_s (by omega) (by omega) | exact ok_c (by omega) rfl | assumption) (Nat.le_of_ble_eq_true rfl) (by omega) (fun r h' hr => ?_)
          obtain ⟨rfl, rfl⟩ := hr
          show V _ _ _ (46 + 3) _ (_ :: _) _
          refine v_callS hC (pc := 49) (As := [_]) dX5_thoseThatStepInto_49 rfl (t_wbit _ _ (d := d - 1) (by omega) _ (o := stp L hr ohr k 1 i) (fun p z => stp_lt hL.2 z)) cs_X5_26 (Nat.le_of_ble_eq_true rfl) (by omega) (fun r h' hr => ?_)
          obtain ⟨rfl, rfl⟩ := hr
          show V _ _ _ (49 + 3) _ (_ :: _) _
          refine v_lor hC (pc := 52) dX5_thoseThatStepInto_52 ?_
          refine v_lload_n hC (pc := 53) (k := 2) 4 rfl dX5_thoseThatStepInto_53 ?_
          refine v_land hC (pc := 54) dX5_thoseThatStepInto_54 ?_
          refine v_lconst hC (pc := 55) (v := 0) (by decide) dX5_thoseThatStepInto_55 ?_
          refine v_lcmp hC (pc := 56) dX5_thoseThatStepInto_56 ?_
          refine v_if_eq hC (pc := 57) (tgt := 70) dX5_thoseThatStepInto_57 (by decide) (fun c_57 => ?_) (fun c_57 => ?_)
          · skip
            have hN : ¬ intP L hr ohr i (bl f) (bl g) k := fun z => (int_go hL.2).mp (lcmp0.mp c_57) z.2
            refine v_iinc hC (pc := 70) (l' := [(9, _), (7, _), (0, _), (1, _), (2, _), (4, _), (6, _)]) 0 (v := nI (k + 1)) dX5_thoseThatStepInto_70 rfl (nI_inc k) (by decide) rfl ?_
            refine v_goto hC (pc := 73) (tgt := 6) dX5_thoseThatStepInto_73 (by decide) ?_
            exact ih (k + 1) _ (by omega) (by omega) (fun p hp => by
                  rw [lt_succ_or (A := True)]
                  first
                    | (rw [bl_or, bl_bO p hp, ha p hp]; exact ⟨fun z => z.elim Or.inl (fun z => by cases z; exact Or.inr ⟨rfl, hB, hI⟩), fun z => z.elim Or.inl (fun z => Or.inr (by rw [z.1]))⟩)
                    | (rw [ha p hp]; exact ⟨Or.inl, fun z => z.elim id (fun z => absurd z.2 hN)⟩))
          · skip
            have hI : ∃ s, s < 2 ∧ ∃ p', stp L hr ohr k s i = some p' ∧ bl g p' := Classical.not_not.mp (fun z => c_57 (lcmp0.mpr ((int_go hL.2).mpr z)))
            refine v_lload hC (pc := 60) 1 rfl dX5_thoseThatStepInto_60 ?_
            refine v_iload hC (pc := 62) 0 rfl dX5_thoseThatStepInto_62 ?_
            refine v_callS hC (pc := 64) (As := [_]) dX5_thoseThatStepInto_64 rfl (t_wbit _ _ (d := d - 1) (by omega) _ (o := some k) (fun p z => by cases z; exact hk)) cs_X5_26 (Nat.le_of_ble_eq_true rfl) (by omega) (fun r h' hr => ?_)
            obtain ⟨rfl, rfl⟩ := hr
            show V _ _ _ (64 + 3) _ (_ :: _) _
            refine v_lor hC (pc := 67) dX5_thoseThatStepInto_67 ?_
            refine v_lstore hC (pc := 68) (l' := [(7, _), (9, _), (0, _), (1, _), (2, _), (4, _), (6, _)]) dX5_thoseThatStepInto_68 (by decide) rfl ?_
            refine v_iinc hC (pc := 70) (l' := [(9, _), (7, _), (0, _), (1, _), (2, _), (4, _), (6, _)]) 1 (v := nI (k + 1)) dX5_thoseThatStepInto_70 rfl (nI_inc k) (by decide) rfl ?_
            refine v_goto hC (pc := 73) (tgt := 6) dX5_thoseThatStepInto_73 (by decide) ?_
            exact ih (k + 1) _ (by omega) (by omega) (fun p hp => by
                  rw [lt_succ_or (A := True)]
                  first
                    | (rw [bl_or, bl_bO p hp, ha p hp]; exact ⟨fun z => z.elim Or.inl (fun z => by cases z; exact Or.inr ⟨rfl, hB, hI⟩), fun z => z.elim Or.inl (fun z => Or.inr (by rw [z.1]))⟩)
                    | (rw [ha p hp]; exact ⟨Or.inl, fun z => z.elim id (fun z => absurd z.2 hN)⟩))
  refine v_lconst hC (pc := 0) (v := 0) (by decide) dX5_thoseThatStepInto_0 ?_
  refine v_lstore hC (pc := 1) (l' := [(7, _), (0, _), (1, _), (2, _), (4, _), (6, _)]) dX5_thoseThatStepInto_1 (by decide) rfl ?_
  refine v_iconst hC (pc := 3) (v := 0) (by decide) dX5_thoseThatStepInto_3 ?_
  refine v_istore hC (pc := 4) (l' := [(9, _), (7, _), (0, _), (1, _), (2, _), (4, _), (6, _)]) dX5_thoseThatStepInto_4 (by decide) rfl ?_
  exact loop 65 0 0 (by omega) (by omega) (fun p hp => ⟨fun z => absurd z (bl_zero p), fun z => absurd z.1 (Nat.not_lt_zero p)⟩)

