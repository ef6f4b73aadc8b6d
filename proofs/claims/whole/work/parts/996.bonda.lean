/-! THE BOND: hours: ahead, clash -/
theorem wfS_c {A B : Nat → Int32} {nC : Nat} (h8 : nC ≤ 8) (hS : wfS A nC) (e : ∀ k, k < 16 → B k = A k) : wfS B nC := fun c s hc hs => by rw [e _ (by omega)]; exact hS c s hc hs
theorem nI_sb {a b : Nat} (h : b ≤ a) : nI a - nI b = nI (a - b) := by
  rw [show nI a = nI (b + (a - b)) by rw [show b + (a - b) = a by omega], ← nI_add, Int32.add_comm, Int32.add_sub_cancel]
theorem i_add0 (x : Int32) : x + 0 = x := Int32.add_zero x
/-- one walker's next corner: the class's word and the reference's -/
theorem nxt_to {h : HP} {q : Nat} {A : Nat → Int32} {nC nW nS : Nat} (C : CR h q A nC nW nS) (h8 : nC ≤ 8) (h4 : nW ≤ 4) {w : Nat} (hw : w < nW) {B : Nat → Int32} (e16 : ∀ k, k < 17 → B k = A k) (e3 : B (18 + 6 * w + 3) = A (18 + 6 * w + 3)) (e4 : B (18 + 6 * w + 4) = A (18 + 6 * w + 4)) {i : Int32} {kp c : Int32} (e17 : B 17 = A 17 + i) (hlef : lefA B w ≤ 0 ↔ ¬ i < A (18 + 6 * w + 3) - A (18 + 6 * w + 5)) (hgn : i < A (18 + 6 * w + 3) - A (18 + 6 * w + 5) → B (18 + 6 * w + 5) = A (18 + 6 * w + 5) + i) (hk : kpA B w = kp) (hc : B (18 + 6 * w + 0) = c) {p : Nat} (hp : p < nC) (hcp : c = nI p) : nxtH h q w c i kp = toM B w := by
  obtain ⟨c0, c1, c2, c3, c4, c5⟩ := CR_w C h4 hw
  unfold nxtH nxtF toM
  rw [c3, c4, c5, CR_17 C]
  by_cases q : i < A (18 + 6 * w + 3) - A (18 + 6 * w + 5)
  · rw [if_pos q, if_neg (fun z => (hlef.mp z) q), hk, e17, hc, hcp, nI_clamp (by omega)]
    have es : sidA B w = (A (18 + 6 * w + 4) >>> ((A (18 + 6 * w + 5) + i) &&& 31)) &&& 1 := by unfold sidA; rw [e4, hgn q]
    rw [es]
    have hb : ∃ s, s < 2 ∧ (A (18 + 6 * w + 4) >>> ((A (18 + 6 * w + 5) + i) &&& 31)) &&& 1 = nI s := by
      rcases and1 (A (18 + 6 * w + 4) >>> ((A (18 + 6 * w + 5) + i) &&& 31)) with z | z
      · exact ⟨0, by decide, z⟩
      · exact ⟨1, by decide, z⟩
    obtain ⟨s, hs, e⟩ := hb
    rw [e, nI_clamp (by omega), com_go C (by omega) hs]
    unfold goM ldM
    rw [e16 16 (by decide)]
    have : ∀ x, x < 2 → B (8 * x + p) = A (8 * x + p) := fun x hx => e16 _ (by omega)
    rw [this _ (by split <;> omega)]
  · rw [if_neg q, if_pos (hlef.mpr q), hc]
theorem GL_sub {A : Nat → Int32} {g m w : Nat} (z1 : g + m ≤ 10) (z2 : A (18 + 6 * w + 5) = nI g) (z3 : A (18 + 6 * w + 3) = nI (g + m)) (n : Nat) (hn : n < 1000) : nI n < A (18 + 6 * w + 3) - A (18 + 6 * w + 5) ↔ n < m := by
  rw [z2, z3]
  have e : nI (g + m) - nI g = nI m := by rw [← nI_add, Int32.add_comm, Int32.add_sub_cancel]
  rw [e]
  refine ⟨fun z => ?_, fun z => nI_lt z (by omega)⟩
  rcases Nat.lt_or_ge n m with y | y
  · exact y
  · exact absurd z (nI_nlt y (by omega))
/-- what n hours leave of a row, the places aside -/
theorem hrs_o {A : Nat → Int32} {nC nW : Nat} (h8 : nC ≤ 8) (h4 : nW ≤ 4) {w g m : Nat} (hw : w < nW) (z1 : g + m ≤ 10) (z2 : A (18 + 6 * w + 5) = nI g) (z3 : A (18 + 6 * w + 3) = nI (g + m)) : ∀ n, n < 1000 → (∀ k, k < 17 → hrsR A nW n k = A k) ∧ hrsR A nW n 17 = A 17 + nI n ∧ hrsR A nW n (18 + 6 * w + 1) = A (18 + 6 * w + 1) ∧ hrsR A nW n (18 + 6 * w + 2) = A (18 + 6 * w + 2) ∧ hrsR A nW n (18 + 6 * w + 3) = A (18 + 6 * w + 3) ∧ hrsR A nW n (18 + 6 * w + 4) = A (18 + 6 * w + 4) ∧ hrsR A nW n (18 + 6 * w + 5) = nI (min (g + n) (g + m)) := by
  intro n
  induction n with
  | zero => exact fun _ => ⟨fun _ _ => rfl, (i_add0 _).symm, rfl, rfl, rfl, rfl, by rw [show min (g + 0) (g + m) = g by omega]; exact z2⟩
  | succ n ih =>
    intro hn
    obtain ⟨i0, i1, i2, i3, i4, i5, i6⟩ := ih (by omega)
    rw [hrsR_s]
    generalize hrsR A nW n = B at i0 i1 i2 i3 i4 i5 i6 ⊢
    refine ⟨fun k hk => (hrR_lo B hk).trans (i0 k hk), ?_, ?_, ?_, ?_, ?_, ?_⟩
    · rw [hrR_17, i1, nI_succ, Int32.add_assoc]
    · rw [hrR_o _ (by omega) (by omega) (by omega) (by omega)]; exact i2
    · rw [hrR_o _ (by omega) (by omega) (by omega) (by omega)]; exact i3
    · rw [hrR_o _ (by omega) (by omega) (by omega) (by omega)]; exact i4
    · rw [hrR_o _ (by omega) (by omega) (by omega) (by omega)]; exact i5
    · rw [hrR_gone _ h4 hw]
      unfold lefA
      rw [i4, i6, z3]
      have e : nI (g + m) - nI (min (g + n) (g + m)) = nI (m - min n m) := by rw [nI_sb (by omega), show g + m - min (g + n) (g + m) = m - min n m by omega]
      rw [e]
      by_cases q : n < m
      · rw [if_neg (show ¬ nI (m - min n m) ≤ 0 from nI_ge (a := 0) (b := m - min n m) (by omega) (by omega)), show min (g + (n + 1)) (g + m) = min (g + n) (g + m) + 1 by omega, nI_succ]
      · rw [show m - min n m = 0 by omega, if_pos (by decide), show min (g + (n + 1)) (g + m) = min (g + n) (g + m) by omega]
        exact i_add0 _
/-- one walker's way, hour by hour -/
theorem way_row {h : HP} {A B : Nat → Int32} {nC nW nS : Nat} (C : CR h 0 A nC nW nS) (h8 : nC ≤ 8) (h4 : nW ≤ 4) (hS : wfS A nC) (hG : GL A nW) {w : Nat} (hw : w < nW) (hB : ∀ k, k < 80 → ¬ k = 18 + 6 * w + 0 → ¬ k = 18 + 6 * w + 2 → B k = A k) (hWB : wfW B nC nW) {kp c : Int32} (hc : B (18 + 6 * w + 0) = c) (hk : kpA B w = kp) : ∀ n, n < 1000 → hrsR B nW n (18 + 6 * w + 0) = itN (fun i c => nxtH h 0 w c (nI i) kp) n c := by
  obtain ⟨g, m, z1, z2, z3⟩ := hG w hw
  have b2 : B (18 + 6 * w + 5) = nI g := by rw [hB _ (by omega) (by omega) (by omega)]; exact z2
  have b3 : B (18 + 6 * w + 3) = nI (g + m) := by rw [hB _ (by omega) (by omega) (by omega)]; exact z3
  have hSB : wfS B nC := wfS_c h8 hS (fun k hk => hB k (by omega) (by omega) (by omega))
  intro n
  induction n with
  | zero => exact fun _ => hc
  | succ n ih =>
    intro hn
    have ih := ih (by omega)
    obtain ⟨i0, i1, i2, i3, i4, i5, i6⟩ := hrs_o h8 h4 hw z1 b2 b3 n (by omega)
    obtain ⟨p, hp, hp2⟩ := (hrsR_wf h8 h4 hSB hWB n).2 w hw
    rw [hrsR_s, hrR_pl _ h4 hw, itN_s, ← ih]
    have hk2 : kpA (hrsR B nW n) w = kp := by rw [← hk]; unfold kpA; rw [i3]
    have hgl := GL_sub z1 z2 z3 n (by omega)
    generalize hrsR B nW n = D at i0 i1 i2 i3 i4 i5 i6 hp2 hk2 ⊢
    refine (nxt_to C h8 h4 hw (fun k hk => (i0 k hk).trans (hB k (by omega) (by omega) (by omega))) (i4.trans (hB _ (by omega) (by omega) (by omega))) (i5.trans (hB _ (by omega) (by omega) (by omega))) (by rw [i1, hB 17 (by omega) (by omega) (by omega)]) ?_ ?_ hk2 rfl hp hp2).symm
    · rw [hgl]
      unfold lefA
      rw [i4, i6, b3]
      have e : nI (g + m) - nI (min (g + n) (g + m)) = nI (m - min n m) := by rw [nI_sb (by omega), show g + m - min (g + n) (g + m) = m - min n m by omega]
      rw [e]
      refine ⟨fun z y => ?_, fun y => ?_⟩
      · exact absurd z (show ¬ nI (m - min n m) ≤ 0 from nI_ge (a := 0) (b := m - min n m) (by omega) (by omega))
      · rw [show m - min n m = 0 by omega]; decide
    · intro y
      have y := hgl.mp y
      rw [i6, z2, nI_add, show min (g + n) (g + m) = g + n by omega]
theorem kpA01 {A : Nat → Int32} {w : Nat} (h : A (18 + 6 * w + 2) = 0 ∨ A (18 + 6 * w + 2) = 1) : kpA A w = A (18 + 6 * w + 2) := by
  unfold kpA
  rcases h with z | z
  · rw [z]; rfl
  · rw [z]; rfl
theorem way_A {h : HP} {A : Nat → Int32} {nC nW nS : Nat} (C : CR h 0 A nC nW nS) (R : RO A nC nW nS) {w : Nat} (hw : w < nW) {n : Nat} (hn : n < 1000) : hrsR A nW n (18 + 6 * w + 0) = itN (fun i c => nxtH h 0 w c (nI i) (h.1 (6, 0, w) 2)) n (h.1 (6, 0, w) 0) := by
  obtain ⟨c0, c1, c2, c3, c4, c5⟩ := CR_w C R.w4 hw
  exact way_row C R.c8 R.w4 (RO_wfS R) R.gl hw (fun _ _ _ _ => rfl) (RO_wfW R) c0.symm (by rw [kpA01 (RO_k R hw), c2]) n hn
theorem cls_ho {A : Nat → Int32} {nW w v : Nat} (h4 : nW ≤ 4) (hw : w < nW) (hv : v < nW) (n : Nat) : clsP (hrsR A nW n) w v ↔ ¬ hrsR A nW n (18 + 6 * w + 0) = hrsR A nW (n + 1) (18 + 6 * w + 0) ∧ hrsR A nW (n + 1) (18 + 6 * w + 0) = hrsR A nW n (18 + 6 * v + 0) ∧ hrsR A nW n (18 + 6 * w + 0) = hrsR A nW (n + 1) (18 + 6 * v + 0) := by
  rw [hrsR_s, hrR_pl _ h4 hw, hrR_pl _ h4 hv]
  generalize hrsR A nW n = B
  unfold clsP dcP
  refine ⟨fun ⟨a, b, c, d, e⟩ => ⟨fun z => c (z.trans d), d, e.symm⟩, fun ⟨a, b, c⟩ => ⟨fun z => ?_, fun z => ?_, fun z => a (by rw [b]; exact z), b, c.symm⟩⟩
  · unfold wenF at z
    by_cases q : lefA B w ≤ 0
    · exact a (by unfold toM; rw [if_pos q])
    · rw [if_neg q] at z; exact absurd z (by decide)
  · unfold wenF at z
    by_cases q : lefA B v ≤ 0
    · have : toM B v = B (18 + 6 * v + 0) := by unfold toM; rw [if_pos q]
      exact a (by rw [b, c, this])
    · rw [if_neg q] at z; exact absurd z (by decide)
set_option maxRecDepth 20000 in
set_option maxHeartbeats 2000000 in
theorem s_ahead (l9 : Launch) (G : WT) {d : Nat} (hd : 10 ≤ d) (h : HP) (hI : Inv h) (a : Int32) (b : Int32) (x : Int32)  : SM l9 G yX6_ahead cX6_ahead 5 yX7_ahead cX7_ahead 5 d [vi a, vi b, vi x] h := by
  obtain ⟨nC, nW, nS, I⟩ := hI
  by_cases hb : (¬ a < 0 ∧ ¬ nI nW ≤ a) ∧ (¬ b < 0 ∧ ¬ 60 < b) ∧ (x = 0 ∨ x = 1)
  · have h4 := I.ro.w4
    obtain ⟨w, hw, rfl⟩ := nI_ofk (by omega) hb.1
    obtain ⟨n, hn, rfl⟩ := nI_ofl (n := 60) (by decide) hb.2.1
    obtain ⟨e0, e1, e2, e3, e4, e5⟩ := CR_w I.cr I.ro.w4 hw
    obtain ⟨g, m, z1, z2, z3⟩ := I.ro.gl w hw
    rcases hb.2.2 with rfl | rfl
    · refine SM_ro (k_ahead_0 l9 G (d := d) (by omega) h I.ro.w4 I.cr.c4 hw hn) (MS.mono (m_ahead_ok l9 G (d := d) (by omega) h I.ro.c8 I.ro.w4 I.b4 (RO_wfS I.ro) (RO_wfW I.ro) hw hn (x := 0) (by decide)) (fun r u z => ⟨?_, nC, nW, nS, Inv_scr I z.2⟩))
      rw [z.1, if_pos rfl, way_A (CA I) (RA I) hw (by omega)]
    · refine SM_ro (k_ahead_1 l9 G (d := d) (by omega) h I.ro.w4 I.cr.c4 hw hn) (MS.mono (m_ahead_ok l9 G (d := d) (by omega) h I.ro.c8 I.ro.w4 I.b4 (RO_wfS I.ro) (RO_wfW I.ro) hw hn (x := 1) (by decide)) (fun r u z => ⟨?_, nC, nW, nS, Inv_scr I z.2⟩))
      have b2 : (stH h).1 (3, 0, 2) (18 + 6 * w + 5) = nI g := (stA h (by omega)).trans z2
      have b3 : (stH h).1 (3, 0, 2) (18 + 6 * w + 3) = nI (g + m) := (stA h (by omega)).trans z3
      obtain ⟨i0, i1, i2, i3, i4, i5, i6⟩ := hrs_o I.ro.c8 h4 hw z1 b2 b3 n (by omega)
      rw [z.1, if_neg (by decide)]
      unfold lefA
      rw [i4, i6, b3, e4, e5, z2, z3]
      have ee : nI (g + m) - nI g = nI m := by rw [← nI_add, Int32.add_comm, Int32.add_sub_cancel]
      have e : nI (g + m) - nI (min (g + n) (g + m)) = nI (m - min n m) := by rw [nI_sb (by omega), show g + m - min (g + n) (g + m) = m - min n m by omega]
      rw [e, ee]
      by_cases q : n < m
      · have e9 : nI m - nI n = nI (m - n) := by rw [show nI m = nI (n + (m - n)) by rw [show n + (m - n) = m by omega], ← nI_add, Int32.add_comm, Int32.add_sub_cancel]
        rw [e9, if_pos (show 0 < nI (m - n) from nI_lt (show 0 < m - n by omega) (by omega)), show m - min n m = m - n by omega]
      · have e9 : ¬ 0 < nI m - nI n := by
          rw [Int32.lt_iff_toInt_lt, Int32.toInt_sub, nI_toInt (by omega), nI_toInt (by omega), Int32.toInt_zero]
          rw [Int.bmod_def]
          omega
        rw [if_neg e9, show m - min n m = 0 by omega]; rfl
  · exact SM_bb ⟨nC, nW, nS, I⟩ (k_ahead_bad l9 G (d := d) (by omega) h I.ro.w4 I.cr.c4 _ _ _ hb) (m_ahead_bad l9 G (d := d) (by omega) h I.ro.w4 I.b4 _ _ _ hb)

set_option maxRecDepth 20000 in
set_option maxHeartbeats 2000000 in
theorem s_clash (l9 : Launch) (G : WT) {d : Nat} (hd : 10 ≤ d) (h : HP) (hI : Inv h) (a : Int32) (b : Int32)  : SM l9 G yX6_clash cX6_clash 10 yX7_clash cX7_clash 4 d [vi a, vi b] h := by
  obtain ⟨nC, nW, nS, I⟩ := hI
  by_cases hb : (¬ a < 0 ∧ ¬ nI nW ≤ a) ∧ (¬ b < 0 ∧ ¬ nI nW ≤ b) ∧ ¬ a = b
  · have h4 := I.ro.w4
    obtain ⟨w, hw, rfl⟩ := nI_ofk (by omega) hb.1
    obtain ⟨v, hv, rfl⟩ := nI_ofk (by omega) hb.2.1
    have hne : ¬ w = v := fun e => hb.2.2 (by rw [e])
    have ho : ∀ i, i < 10 → (hoC h w v i ↔ clsP (hrsR ((stH h).1 (3, 0, 2)) nW i) w v) := fun i hi => by
      rw [cls_ho h4 hw hv i, way_A (CA I) (RA I) hw (show i < 1000 by omega), way_A (CA I) (RA I) hv (show i < 1000 by omega), way_A (CA I) (RA I) hw (show i + 1 < 1000 by omega), way_A (CA I) (RA I) hv (show i + 1 < 1000 by omega)]
      exact Iff.rfl
    refine SM_det I (k_clash_ok l9 G (d := d) (by omega) h I.ro.w4 I.cr.c4 hw hv hne) (fun r z => ?_) (m_clash_ok l9 G (d := d) (by omega) h I.ro.c8 I.ro.w4 I.b4 (RO_wfS I.ro) (RO_wfW I.ro) hw hv hne) (fun r r2 z y => ?_)
    · rcases z with ⟨k, _, e, _⟩ | ⟨e, _⟩
      · exact ⟨_, e⟩
      · exact ⟨_, e⟩
    · rcases z with ⟨k, h1, e, h2, h3⟩ | ⟨e, h0⟩
      · rcases y with ⟨k2, g1, g2, g, g3, g4⟩ | ⟨g, g0⟩
        · have : k = k2 - 1 := fst_eq (Q := fun i => i < 10 ∧ hoC h w v i) ⟨h1, h2⟩ (fun m hm z => h3 m hm z.2) ⟨by omega, (ho _ (by omega)).mpr g3⟩ (fun m hm z => g4 (m + 1) (by omega) (by omega) ((ho m z.1).mp z.2))
          rw [e, g, this, show k2 - 1 + 1 = k2 by omega]
        · exact absurd ((ho k h1).mp h2) (g0 (k + 1) (by omega) (by omega))
      · rcases y with ⟨k2, g1, g2, g, g3, g4⟩ | ⟨g, g0⟩
        · exact absurd ((ho (k2 - 1) (by omega)).mpr g3) (h0 (k2 - 1) (by omega))
        · rw [e, g]
  · exact SM_bb ⟨nC, nW, nS, I⟩ (k_clash_bad l9 G (d := d) (by omega) h I.ro.w4 I.cr.c4 _ _ hb) (m_clash_bad l9 G (d := d) (by omega) h I.ro.w4 I.b4 _ _ hb)
