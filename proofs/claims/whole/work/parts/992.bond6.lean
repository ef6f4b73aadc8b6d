/-! THE BOND: sheet, lay -/
theorem sam_src {u h : HP} {q p : Nat} (hs : SamC u h q p) {k : Nat} (hk : k < 80) : u.1 (src q k).1 (src q k).2 = h.1 (src p k).1 (src p k).2 := by
  obtain ⟨s0, s1, s2, s3, s4, s5, s6, s7⟩ := hs
  unfold src
  by_cases c1 : k < 8
  · rw [if_pos c1, if_pos c1]; exact s2 _ (by omega)
  rw [if_neg c1, if_neg c1]
  by_cases c2 : k < 16
  · rw [if_pos c2, if_pos c2]; exact s2 _ (by omega)
  rw [if_neg c2, if_neg c2]
  by_cases c3 : k = 16
  · rw [if_pos c3, if_pos c3]; exact s0 _ (by omega)
  rw [if_neg c3, if_neg c3]
  by_cases c4 : k = 17
  · rw [if_pos c4, if_pos c4]; exact s0 _ (by omega)
  rw [if_neg c4, if_neg c4]
  by_cases c5 : k < 42
  · rw [if_pos c5, if_pos c5]
    refine s1 _ _ (by omega) ?_
    by_cases d1 : (k - 18) % 6 = 3
    · rw [if_pos d1]; exact (by decide : (4 : Nat) < 6)
    · rw [if_neg d1]
      by_cases d2 : (k - 18) % 6 = 4
      · rw [if_pos d2]; exact (by decide : (3 : Nat) < 6)
      · rw [if_neg d2]; omega
  rw [if_neg c5, if_neg c5]
  by_cases c6 : k = 42
  · rw [if_pos c6, if_pos c6]; exact s0 _ (by omega)
  rw [if_neg c6, if_neg c6]
  by_cases c7 : k < 47
  · rw [if_pos c7, if_pos c7]; exact s3 _ (by omega)
  rw [if_neg c7, if_neg c7]
  by_cases c8 : k = 47
  · rw [if_pos c8, if_pos c8]; exact s0 _ (by omega)
  rw [if_neg c8, if_neg c8]
  rcases (show (k - 48) % 4 = 0 ∨ (k - 48) % 4 = 1 ∨ (k - 48) % 4 = 2 ∨ (k - 48) % 4 = 3 by omega) with z | z | z | z
  · rw [z]; exact s4 _ (by omega)
  · rw [z]; exact s5 _ (by omega)
  · rw [z]; exact s6 _ (by omega)
  · rw [z]; exact s7 _ (by omega)
theorem CR_sam {u h : HP} {q p : Nat} {S S2 : Nat → Int32} {nC nW nS : Nat} (hs : SamC u h q p) (C : CR h p S nC nW nS) (hS : ∀ k, k < 80 → S2 k = S k) : CR u q S2 nC nW nS :=
  ⟨(hs.1 0 (by decide)).trans C.c0, (hs.1 4 (by decide)).trans C.c4, fun k hk hl => by rw [sam_src hs hk, hS k hk]; exact C.at_ k hk hl⟩
theorem SHs_at {h h2 : HP} (H : SHs h) {k : Nat} (ho : ∀ j, j < 4 → ¬ j = k → h2.1 (3, 0, 25) j = h.1 (3, 0, 25) j ∧ h2.1 (3, 0, 26) j = h.1 (3, 0, 26) j ∧ h2.1 (2, j, 0) = h.1 (2, j, 0) ∧ h2.1 (2, j, 1) = h.1 (2, j, 1) ∧ ∀ m, m < 40 → h2.1 (3, 0, 27) (40 * j + m) = h.1 (3, 0, 27) (40 * j + m)) (hk : (h2.1 (3, 0, 25) k = -4 ∧ h2.1 (2, k, 0) 2 < 0) ∨ ∃ l n, l < 3 ∧ n ≤ 40 ∧ h2.1 (3, 0, 25) k = nI l ∧ h2.1 (2, k, 0) 1 = nI l ∧ h2.1 (3, 0, 26) k = nI n ∧ h2.1 (2, k, 0) 2 = nI n ∧ ∀ j, j < 40 → h2.1 (2, k, 1) j = h2.1 (3, 0, 27) (40 * k + j)) : SHs h2 := fun j hj => by
  by_cases e : j = k
  · rw [e]; exact hk
  · obtain ⟨o1, o2, o3, o4, o5⟩ := ho j hj e
    rw [o1, o2, o3, o4]
    rcases H j hj with z | ⟨l, n, z1, z2, z3, z4, z5, z6, z7⟩
    · exact Or.inl z
    · exact Or.inr ⟨l, n, z1, z2, z3, z4, z5, z6, fun m hm => by rw [o5 m hm]; exact z7 m hm⟩
theorem ne_2 {k j a : Nat} (h : ¬ j = k) (b : Nat) : ¬ ((2, j, a) : PId) = (2, k, b) := fun e => h (congrArg (fun z : PId => z.2.1) e)
theorem ne_32 (a b c d : Nat) : ¬ ((3, 0, a) : PId) = (2, b, c) := fun e => absurd (show (3 : Nat) = 2 from congrArg Prod.fst e) (by decide)
theorem ne_23 (a b c : Nat) : ¬ ((2, b, c) : PId) = (3, 0, a) := fun e => absurd (show (2 : Nat) = 3 from congrArg Prod.fst e) (by decide)
theorem ne_2n {k a b : Nat} (h : ¬ a = b) : ¬ ((2, k, a) : PId) = (2, k, b) := fun e => h (congrArg (fun z : PId => z.2.2) e)
theorem upI_at (h : HP) (i : PId) (k m : Nat) (x : Int32) : (upI h i k x).1 i m = if m = k then x else h.1 i m := by
  by_cases e : m = k
  · rw [e, upI_i, if_pos rfl]
  · rw [upI_k _ _ _ _ _ e, if_neg e]
theorem bit_k {b k j : Nat} (hb : b < 4) (hk : k < 2) (hj : j < 2) : ∃ b2, b2 < 4 ∧ nI b ||| (1 <<< (nI k &&& 31)) = nI b2 ∧ (nI b2 >>> (nI j &&& 31)) &&& 1 = if j = k then 1 else (nI b >>> (nI j &&& 31)) &&& 1 := by
  rcases (show k = 0 ∨ k = 1 by omega) with rfl | rfl <;> rcases (show j = 0 ∨ j = 1 by omega) with rfl | rfl <;> rcases (show b = 0 ∨ b = 1 ∨ b = 2 ∨ b = 3 by omega) with rfl | rfl | rfl | rfl <;> first | exact ⟨0, by decide, by decide, by decide⟩ | exact ⟨1, by decide, by decide, by decide⟩ | exact ⟨2, by decide, by decide, by decide⟩ | exact ⟨3, by decide, by decide, by decide⟩
set_option maxRecDepth 20000 in
set_option maxHeartbeats 2000000 in
theorem s_sheet (l9 : Launch) (G : WT) {d : Nat} (hd : 10 ≤ d) (h : HP) (hI : Inv h) (a : Int32) (b : Int32) (c : Int32)  : SM l9 G yX6_sheet cX6_sheet 4 yX7_sheet cX7_sheet 5 d [vi a, vi b, vi c] h := by
  obtain ⟨nC, nW, nS, I⟩ := hI
  by_cases hb : ((¬ a < 0 ∧ ¬ 3 < a) ∧ ¬ b < 0 ∧ ¬ 2 < b) ∧ c ≤ 40
  · obtain ⟨k, hk, rfl⟩ := nI_ofl (n := 3) (by decide) hb.1.1
    obtain ⟨l, hl, rfl⟩ := nI_ofl (n := 2) (by decide) hb.1.2
    by_cases hc : c < 0
    · exact SM_bb ⟨nC, nW, nS, I⟩ (k_sheet_size l9 G (d := d) (by omega) h (by omega) (by omega) c hc) (m_sheet_size l9 G (d := d) (by omega) h (by omega) (by omega) c hc)
    · obtain ⟨n, hn, rfl⟩ := nI_ofl (n := 40) (by decide) ⟨hc, Int32.not_lt.mpr hb.2⟩
      refine SM_up (k_sheet_ok l9 G (d := d) (by omega) h (by omega) (by omega) hn) (MS.mono (m_sheet_ok l9 G (d := d) (by omega) _ (by omega) (by omega) hn) (fun r u z => ⟨z.1, nC, nW, nS, ?_⟩))
      rw [z.2]
      refine Inv_sh I (fun i z2 z25 z26 z27 => ?_) (SHs_at I.sh (k := k) (fun j hj hjk => ⟨?_, ?_, ?_, ?_, fun m hm => ?_⟩) (Or.inr ⟨l, n, by omega, hn, ?_, ?_, ?_, ?_, fun j hj => ?_⟩))
      · have g : ∀ a b, ¬ i = (2, a, b) := fun a b e => z2 (by rw [e])
        rw [upR_ne _ _ z27, upI_ne _ _ _ z26, upI_ne _ _ _ z25, upR_ne _ _ (g _ _), upI_ne _ _ _ (g _ _), upI_ne _ _ _ (g _ _)]
      · rw [upR_ne _ _ (by decide), upI_ne _ _ _ (by decide), upI_at, if_neg hjk, upR_ne _ _ (ne_32 _ _ _ 0), upI_ne _ _ _ (ne_32 _ _ _ 0), upI_ne _ _ _ (ne_32 _ _ _ 0)]
      · rw [upR_ne _ _ (by decide), upI_at, if_neg hjk, upI_ne _ _ _ (by decide), upR_ne _ _ (ne_32 _ _ _ 0), upI_ne _ _ _ (ne_32 _ _ _ 0), upI_ne _ _ _ (ne_32 _ _ _ 0)]
      · rw [upR_ne _ _ (ne_23 _ _ _), upI_ne _ _ _ (ne_23 _ _ _), upI_ne _ _ _ (ne_23 _ _ _), upR_ne _ _ (ne_2 hjk _), upI_ne _ _ _ (ne_2 hjk _), upI_ne _ _ _ (ne_2 hjk _)]
      · rw [upR_ne _ _ (ne_23 _ _ _), upI_ne _ _ _ (ne_23 _ _ _), upI_ne _ _ _ (ne_23 _ _ _), upR_ne _ _ (ne_2 hjk _), upI_ne _ _ _ (ne_2 hjk _), upI_ne _ _ _ (ne_2 hjk _)]
      · rw [upR_same]
        unfold zrR
        rw [if_neg (by omega), upR_ne _ _ (ne_32 _ _ _ 0), upI_ne _ _ _ (ne_32 _ _ _ 0), upI_ne _ _ _ (ne_32 _ _ _ 0)]
      · rw [upR_ne _ _ (by decide), upI_ne _ _ _ (by decide), upI_i]
      · rw [upR_ne _ _ (ne_23 _ _ _), upI_ne _ _ _ (ne_23 _ _ _), upI_ne _ _ _ (ne_23 _ _ _), upR_ne _ _ (ne_2n (by decide)), upI_k _ _ _ _ _ (by decide), upI_i]
      · rw [upR_ne _ _ (by decide), upI_i]
      · rw [upR_ne _ _ (ne_23 _ _ _), upI_ne _ _ _ (ne_23 _ _ _), upI_ne _ _ _ (ne_23 _ _ _), upR_ne _ _ (ne_2n (by decide)), upI_i]
      · rw [upR_ne _ _ (ne_23 _ _ _), upI_ne _ _ _ (ne_23 _ _ _), upI_ne _ _ _ (ne_23 _ _ _), upR_same, upR_same]
        unfold filR zrR
        rw [if_pos hj, if_pos (by omega)]
  · exact SM_bb ⟨nC, nW, nS, I⟩ (k_sheet_bad l9 G (d := d) (by omega) h _ _ _ hb) (m_sheet_bad l9 G (d := d) (by omega) h _ _ _ hb)

set_option maxRecDepth 20000 in
set_option maxHeartbeats 2000000 in
theorem s_lay (l9 : Launch) (G : WT) {d : Nat} (hd : 10 ≤ d) (h : HP) (hI : Inv h) (a : Int32) (b : Int32) (c : Int32)  : SM l9 G yX6_lay cX6_lay 5 yX7_lay cX7_lay 4 d [vi a, vi b, vi c] h := by
  obtain ⟨nC, nW, nS, I⟩ := hI
  by_cases hb : ¬ a < 0 ∧ ¬ 3 < a
  · obtain ⟨k, hk, rfl⟩ := nI_ofl (n := 3) (by decide) hb
    rcases I.sh k (by omega) with z | ⟨l, n, z1, z2, z3, z4, z5, z6, z7⟩
    · exact SM_bb ⟨nC, nW, nS, I⟩ (k_lay_null l9 G (d := d) (by omega) h (by omega) z.2 b c) (m_lay_null l9 G (d := d) (by omega) h (by omega) z.1 b c)
    · have hn4 : ¬ h.1 (3, 0, 25) k = -4 := by rw [z3]; exact nI_n4 (by omega)
      by_cases hi0 : ¬ b < 0 ∧ ¬ nI n ≤ b
      · obtain ⟨i, hi, rfl⟩ := nI_ofk (by omega) hi0
        refine SM_up (k_lay_ok l9 G (d := d) (by omega) h (by omega) z6 z2 hi c) (MS.mono (m_lay_ok l9 G (d := d) (by omega) (upI h (2, k, 1) i (cutF (h.1 (2, k, 0) 1) c)) (by omega) hn4 z5 z2 hi c) (fun r u z => ⟨z.1, nC, nW, nS, ?_⟩))
        rw [z.2]
        refine Inv_sh I (fun i z2 z25 z26 z27 => ?_) (SHs_at I.sh (k := k) (fun j hj hjk => ⟨?_, ?_, ?_, ?_, fun m hm => ?_⟩) (Or.inr ⟨l, n, z1, z2, z3, ?_, z5, ?_, fun j hj => ?_⟩))
        · have g : ∀ a b, ¬ i = (2, a, b) := fun a b e => z2 (by rw [e])
          rw [upI_ne _ _ _ z27, upI_ne _ _ _ (g _ _)]
        · rw [upI_ne _ _ _ (by decide), upI_ne _ _ _ (ne_32 _ _ _ 0)]
        · rw [upI_ne _ _ _ (by decide), upI_ne _ _ _ (ne_32 _ _ _ 0)]
        · rw [upI_ne _ _ _ (ne_23 _ _ _), upI_ne _ _ _ (ne_2 hjk _)]
        · rw [upI_ne _ _ _ (ne_23 _ _ _), upI_ne _ _ _ (ne_2 hjk _)]
        · rw [upI_at, if_neg (by omega), upI_ne _ _ _ (ne_32 _ _ _ 0)]
        · rw [upI_ne _ _ _ (ne_23 _ _ _), upI_ne _ _ _ (ne_2n (by decide)), z4]
        · rw [upI_ne _ _ _ (ne_23 _ _ _), upI_ne _ _ _ (ne_2n (by decide)), z6]
        · rw [upI_ne _ _ _ (ne_23 _ _ _), upI_at, upI_at, upI_ne _ _ _ (ne_32 _ _ _ 0), upI_ne _ _ _ (ne_32 _ _ _ 0), z4, z3]
          by_cases e : j = i
          · rw [if_pos e, if_pos (by omega)]
          · rw [if_neg e, if_neg (by omega)]; exact z7 j hj
      · exact SM_bb ⟨nC, nW, nS, I⟩ (k_lay_index l9 G (d := d) (by omega) h (by omega) z6 z2 b c hi0) (m_lay_index l9 G (d := d) (by omega) h (by omega) hn4 z5 z2 b c hi0)
  · exact SM_bb ⟨nC, nW, nS, I⟩ (k_lay_bad l9 G (d := d) (by omega) h _ _ _ hb) (m_lay_bad l9 G (d := d) (by omega) h _ _ _ hb)
