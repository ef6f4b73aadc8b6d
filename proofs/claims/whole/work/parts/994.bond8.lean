/-! THE BOND: pairs, shake, needs, way, both -/
theorem stA (h : HP) {k : Nat} (hk : k < 80) : (stH h).1 (3, 0, 2) k = h.1 (3, 0, 1) k := by
  unfold stH
  rw [upR_same]
  exact if_pos hk
theorem RA {h : HP} {nC nW nS : Nat} (I : InvD h nC nW nS) : RO ((stH h).1 (3, 0, 2)) nC nW nS := RO_fr I.ro (fun _ hk => stA h hk)
theorem CA {h : HP} {nC nW nS : Nat} (I : InvD h nC nW nS) : CR h 0 ((stH h).1 (3, 0, 2)) nC nW nS := CR_fr I.cr (fun _ _ => rfl) (fun _ hk => stA h hk)
section SM
variable {l9 : Launch} {G : WT} {y y2 : MethodName} {cc cc2 : ByteArray} {nL nL2 d : Nat} {av : List PV} {h : HP}
/-- an answer that a rule fixes on both sides -/
theorem SM_det {nC nW nS : Nat} (I : InvD h nC nW nS) {D D2 : Option PV → Prop} (h1 : MS l9 G y cc nL (some .int) d (vr (1, 0, 0) :: av) h (fun r h1 => h1 = h ∧ D r)) (hv : ∀ r, D r → ∃ v, r = some (vi v)) (h2 : MS l9 G y2 cc2 nL2 (some .int) d (vr (3, 0, 0) :: av) h (fun r h2 => scr h h2 ∧ D2 r)) (hd : ∀ r r2, D r → D2 r2 → r2 = r) : SM l9 G y cc nL y2 cc2 nL2 d av h :=
  ⟨fun v u => u = h ∧ D (some (vi v)), MS.mono h1 (fun r u z => by
    obtain ⟨v, e⟩ := hv r z.2
    exact ⟨v, e, z.1, by rw [← e]; exact z.2⟩), fun v u z => by
    obtain ⟨rfl, z⟩ := z
    exact MS.mono h2 (fun r u2 y => ⟨hd _ _ z y.2, nC, nW, nS, Inv_scr I y.1⟩)⟩
theorem SM_detW {nC nW nS : Nat} (I : InvD h nC nW nS) {D : Option PV → Prop} (h1 : MS l9 G y cc nL (some .int) d (vr (1, 0, 0) :: av) h (fun r h1 => FrW h h1 ∧ D r)) (hv : ∀ r, D r → ∃ v, r = some (vi v)) (h2 : ∀ u, FrW h u → MS l9 G y2 cc2 nL2 (some .int) d (vr (3, 0, 0) :: av) u (fun r h2 => scr u h2 ∧ D r)) (hd : ∀ r r2, D r → D r2 → r2 = r) : SM l9 G y cc nL y2 cc2 nL2 d av h :=
  ⟨fun v u => FrW h u ∧ D (some (vi v)), MS.mono h1 (fun r u z => by
    obtain ⟨v, e⟩ := hv r z.2
    exact ⟨v, e, z.1, by rw [← e]; exact z.2⟩), fun v u z => by
    exact MS.mono (h2 u z.1) (fun r u2 y => ⟨hd _ _ z.2 y.2, nC, nW, nS, Inv_scr (Inv_FrW I z.1) y.1⟩)⟩
end SM
theorem fst_eq {Q : Nat → Prop} {i j : Nat} (hi : Q i) (hi2 : ∀ m, m < i → ¬ Q m) (hj : Q j) (hj2 : ∀ m, m < j → ¬ Q m) : i = j := by
  rcases Nat.lt_trichotomy i j with z | z | z
  · exact absurd hi (hj2 i z)
  · exact z
  · exact absurd hj (hi2 j z)
theorem fst_ex {Q : Nat → Prop} {N : Nat} : (∃ n, n ≤ N ∧ Q n ∧ ∀ m, m < n → ¬ Q m) ∨ ∀ n, n ≤ N → ¬ Q n := by
  induction N with
  | zero =>
    by_cases h : Q 0
    · exact Or.inl ⟨0, Nat.le_refl _, h, fun m hm => absurd hm (Nat.not_lt_zero _)⟩
    · exact Or.inr (fun n hn => by rw [show n = 0 by omega]; exact h)
  | succ k ih =>
    rcases ih with ⟨n, h1, h2, h3⟩ | h0
    · exact Or.inl ⟨n, by omega, h2, h3⟩
    · by_cases h : Q (k + 1)
      · exact Or.inl ⟨k + 1, Nat.le_refl _, h, fun m hm => h0 m (by omega)⟩
      · exact Or.inr (fun n hn => by
          rcases Nat.lt_or_ge n (k + 1) with z | z
          · exact h0 n (by omega)
          · rw [show n = k + 1 by omega]; exact h)
theorem wyR_d {L : Nat → Nat → Nat → Option Nat} {hr ohr a b : Nat} {f : Nat → Int32} {r r2 : Option PV} (h : wyR L hr ohr a b f r) (h2 : wyR L hr ohr a b f r2) : r2 = r := by
  rcases h with ⟨n, h1, h3, h4, e⟩ | ⟨e, h0⟩
  · rcases h2 with ⟨n2, g1, g3, g4, e2⟩ | ⟨e2, g0⟩
    · rw [e, e2, fst_eq (Q := fun n => rchF L hr ohr a n (b * 8 + b)) g3 g4 h3 h4]
    · exact absurd h3 (g0 n h1)
  · rcases h2 with ⟨n2, g1, g3, g4, e2⟩ | ⟨e2, g0⟩
    · exact absurd g3 (h0 n2 g1)
    · rw [e, e2]
theorem LdOK_LM {h : HP} {q : Nat} {A : Nat → Int32} {nC nW nS : Nat} (C : CR h q A nC nW nS) (R : RO A nC nW nS) : LdOK (h.1 (0, q, 6)) (h.1 (0, q, 0) 1) (LM A (A 16) nC) := by
  have h8 := R.c8
  have ld : ∀ c s hr, c < 8 → s < 2 → ldM A c s (nI hr) 0 (A 16) = -4 ∨ (c < nC ∧ ∃ p, p < nC ∧ ldM A c s (nI hr) 0 (A 16) = nI p) := fun c s hr hc hs => by
    unfold ldM
    have key : ∀ s', s' < 2 → A (8 * s' + c) = -4 ∨ (c < nC ∧ ∃ p, p < nC ∧ A (8 * s' + c) = nI p) := fun s' hs' => by
      by_cases q : c < nC
      · rcases RO_s R q hs' with z | z
        · exact Or.inl z
        · exact Or.inr ⟨q, z⟩
      · exact Or.inl (RO_s4 R (by omega) hc hs')
    exact key _ (by split <;> omega)
  constructor
  · intro c s hr hc hs _
    rw [CR_16 C, led_ld C hc hs]
    unfold LM
    rcases ld c s hr hc hs with z | ⟨z0, p, z1, z2⟩
    · rw [if_neg (fun y => y.2.2 z), z]; rfl
    · rw [if_pos ⟨z0, hs, by rw [z2]; exact nI_n4 (by omega)⟩, z2, nI_clamp (by omega)]; rfl
  · intro c s hr t e
    unfold LM at e
    by_cases q : c < nC ∧ s < 2 ∧ ¬ ldM A c s (nI hr) 0 (A 16) = -4
    · rw [if_pos q] at e
      rcases ld c s hr (by omega) q.2.1 with z | ⟨z0, p, z1, z2⟩
      · exact absurd z q.2.2
      · rw [z2, nI_clamp (by omega)] at e
        injection e with e
        omega
    · rw [if_neg q] at e
      cases e
theorem ask_n {x : Int32} (h : ¬ x < 10 ∧ ¬ 33 < x) : ∃ i, i < 24 ∧ x = nI (10 + i) := by
  obtain ⟨h1, h2⟩ := h
  rw [Int32.lt_iff_toInt_lt, show (10 : Int32).toInt = 10 from rfl] at h1
  rw [Int32.lt_iff_toInt_lt, show (33 : Int32).toInt = 33 from rfl] at h2
  refine ⟨x.toInt.toNat - 10, by omega, Int32.toInt_inj.mp ?_⟩
  rw [nI_toInt (by omega)]
  omega
theorem stW {h u : HP} (f : FrW h u) : (stH u).1 (3, 0, 2) = (stH h).1 (3, 0, 2) := by
  unfold stH
  rw [upR_same, upR_same, f.1 _ (by decide), f.1 _ (by decide)]
set_option maxRecDepth 20000 in
set_option maxHeartbeats 2000000 in
theorem s_pairs (l9 : Launch) (G : WT) {d : Nat} (hd : 10 ≤ d) (h : HP) (hI : Inv h) (a : Int32)  : SM l9 G yX6_pairs cX6_pairs 4 yX7_pairs cX7_pairs 4 d [vi a] h := by
  obtain ⟨nC, nW, nS, I⟩ := hI
  by_cases hb : ¬ a < 0 ∧ ¬ 24 ≤ a
  · refine SM_ro (k_pairs_ok l9 G (d := d) (by omega) h I.ro.w4 I.cr.c4 a hb) (MS.mono (m_pairs_ok l9 G (d := d) (by omega) h I.ro.w4 I.b4 a hb) (fun r u z => ⟨?_, by rw [z.1]; exact ⟨nC, nW, nS, I⟩⟩))
    have e : itN (fun w a1 => a1 + hndF (h.1 (3, 0, 1) (18 + 6 * w + 1)) (h.1 (3, 0, 1) (18 + 6 * w + 2)) a) nW 0 = itN (fun w a1 => a1 + hndF (h.1 (6, 0, w) 1) (h.1 (6, 0, w) 2) a) nW 0 := itN_cong (fun k x hk => by
      obtain ⟨e0, e1, e2, e3, e4, e5⟩ := CR_w I.cr I.ro.w4 hk
      show x + _ = x + _
      rw [e1, e2]) rfl
    rw [z.2, e]
  · exact SM_bb ⟨nC, nW, nS, I⟩ (k_pairs_bad l9 G (d := d) (by omega) h _ hb) (m_pairs_bad l9 G (d := d) (by omega) h _ hb)

set_option maxRecDepth 20000 in
set_option maxHeartbeats 2000000 in
theorem s_shake (l9 : Launch) (G : WT) {d : Nat} (hd : 10 ≤ d) (h : HP) (hI : Inv h) (a : Int32) (b : Int32)  : SM l9 G yX6_shake cX6_shake 4 yX7_shake cX7_shake 4 d [vi a, vi b] h := by
  obtain ⟨nC, nW, nS, I⟩ := hI
  by_cases hb : (¬ a < 0 ∧ ¬ nI nW ≤ a) ∧ (¬ b < 0 ∧ ¬ nI nW ≤ b) ∧ ¬ a = b
  · have h4 := I.ro.w4
    obtain ⟨w, hw, rfl⟩ := nI_ofk (by omega) hb.1
    obtain ⟨v, hv, rfl⟩ := nI_ofk (by omega) hb.2.1
    have hne : ¬ w = v := fun e => hb.2.2 (by rw [e])
    obtain ⟨e0, e1, e2, e3, e4, e5⟩ := CR_w I.cr I.ro.w4 hw
    obtain ⟨f0, f1, f2, f3, f4, f5⟩ := CR_w I.cr I.ro.w4 hv
    have A := k_shake_ok l9 G (d := d) (by omega) h I.ro.w4 I.cr.c4 hw hv hne
    rw [e1, e2, f1, f2] at A
    refine SM_det I A (fun r z => ?_) (MS.mono (m_shake_ok l9 G (d := d) (by omega) h I.ro.w4 I.b4 hw hv hne) (fun r u z => ⟨by rw [z.1]; exact scr_r h, z.2⟩)) (fun r r2 z y => ?_)
    · rcases z with ⟨k, _, _, _, e⟩ | ⟨e, _⟩
      · exact ⟨_, e⟩
      · exact ⟨_, e⟩
    · rcases z with ⟨k, h1, h2, h3, e⟩ | ⟨e, h0⟩
      · rcases y with ⟨k2, g1, g2, g3, g⟩ | ⟨g, g0⟩
        · rw [e, g, fst_eq (Q := fun k => hndF (h.1 (3, 0, 1) (18 + 6 * w + 1)) (h.1 (3, 0, 1) (18 + 6 * w + 2)) (nI k) = hndF (h.1 (3, 0, 1) (18 + 6 * v + 1)) (h.1 (3, 0, 1) (18 + 6 * v + 2)) (nI k)) g2 g3 h2 h3]
        · exact absurd h2 (g0 k h1)
      · rcases y with ⟨k2, g1, g2, g3, g⟩ | ⟨g, g0⟩
        · exact absurd g2 (h0 k2 g1)
        · rw [e, g]
  · exact SM_bb ⟨nC, nW, nS, I⟩ (k_shake_bad l9 G (d := d) (by omega) h I.ro.w4 I.cr.c4 _ _ hb) (m_shake_bad l9 G (d := d) (by omega) h I.ro.w4 I.b4 _ _ hb)

set_option maxRecDepth 20000 in
set_option maxHeartbeats 2000000 in
theorem s_needs (l9 : Launch) (G : WT) {d : Nat} (hd : 10 ≤ d) (h : HP) (hI : Inv h) (a : Int32) (b : Int32) (x : Int32)  : SM l9 G yX6_needs cX6_needs 12 yX7_needs cX7_needs 10 d [vi a, vi b, vi x] h := by
  obtain ⟨nC, nW, nS, I⟩ := hI
  by_cases hb : (¬ a < 0 ∧ ¬ 9 < a) ∧ (¬ b < 0 ∧ ¬ 9 < b) ∧ (x = 0 ∨ x = 1)
  · obtain ⟨l, hl, rfl⟩ := nI_ofl (n := 9) (by decide) hb.1
    obtain ⟨r0, hr0, rfl⟩ := nI_ofl (n := 9) (by decide) hb.2.1
    obtain ⟨x, hx, rfl⟩ := nI_pt hb.2.2
    have hg : ∀ k, k < 4 → h.1 (3, 0, 1) (43 + k) = nI (h.1 (3, 0, 1) (43 + k)).toNatClampNeg ∧ (h.1 (3, 0, 1) (43 + k)).toNatClampNeg ≤ 9 := fun k hk => by
      obtain ⟨m, h1, h2⟩ := RO_g I.ro hk
      rw [h2, nI_clamp (by omega)]; exact ⟨rfl, h1⟩
    refine SM_det I (k_needs_ok l9 G (d := d) (by omega) h (g := fun k => (h.1 (3, 0, 1) (43 + k)).toNatClampNeg) (fun k hk => (CR_g I.cr hk).trans (hg k hk).1) (fun k hk => (hg k hk).2) hl hr0 hx) (fun r z => ?_) (MS.mono (m_needs_ok l9 G (d := d) (by omega) h (g := fun k => (h.1 (3, 0, 1) (43 + k)).toNatClampNeg) (fun k hk => (hg k hk).1) (fun k hk => (hg k hk).2) hl hr0 hx) (fun r u z => ⟨by rw [z.1]; exact scr_r h, z.2⟩)) (fun r r2 z y => ?_)
    · obtain ⟨row, _, e⟩ := z
      exact ⟨_, e⟩
    · obtain ⟨row, ⟨a1, a2, a3, a4⟩, e⟩ := z
      obtain ⟨row2, ⟨b1, b2, b3, b4⟩, e2⟩ := y
      have : row = row2 := by
        have t1 := a3 row2 b1 b2
        have t2 := b3 row a1 a2
        rcases Nat.lt_trichotomy row row2 with z | z | z
        · have := b4 row z a2; omega
        · exact z
        · have := a4 row2 z b2; omega
      rw [e, e2, this]
  · exact SM_bb ⟨nC, nW, nS, I⟩ (k_needs_bad l9 G (d := d) (by omega) h _ _ _ hb) (m_needs_bad l9 G (d := d) (by omega) h _ _ _ hb)

set_option maxRecDepth 20000 in
set_option maxHeartbeats 2000000 in
theorem s_way (l9 : Launch) (G : WT) {d : Nat} (hd : 10 ≤ d) (h : HP) (hI : Inv h) (a : Int32) (b : Int32) (t : Int32) (x : Int32)  : SM l9 G yX6_way cX6_way 5 yX7_way cX7_way 5 d [vi a, vi b, vi t, vi x] h := by
  obtain ⟨nC, nW, nS, I⟩ := hI
  by_cases hb : (¬ a < 0 ∧ ¬ nI nC ≤ a) ∧ (¬ b < 0 ∧ ¬ nI nC ≤ b) ∧ (¬ t < 0 ∧ ¬ 24 ≤ t) ∧ (x = 0 ∨ ¬ x < 10 ∧ ¬ 33 < x)
  · have h8 := I.ro.c8
    obtain ⟨c, hc, rfl⟩ := nI_ofk (by omega) hb.1
    obtain ⟨e, hd2, rfl⟩ := nI_ofk (by omega) hb.2.1
    obtain ⟨t, ht, rfl⟩ := nI_ofk (n := 24) (by decide) hb.2.2.1
    rcases hb.2.2.2 with rfl | hx
    · refine SM_detW I (k_way_0 l9 G (d := d) (by omega) h I.ro.c8 I.cr.c0 (LdOK_LM (CA I) (RA I)) ht hc hd2) (fun r z => wyR_v z) (fun u fu => MS.mono (m_way_0 l9 G (d := d) (by omega) u I.ro.c8 (by rw [fu.1 _ (by decide)]; exact I.b3) (by rw [fu.1 _ (by decide)]; exact RO_wfS I.ro) hc hd2 ht) (fun r u2 z => ⟨z.1, ?_⟩)) (fun r r2 z y => wyR_d z y)
      have z := z.2
      rw [stW fu] at z
      exact z
    · obtain ⟨i, hi, rfl⟩ := ask_n hx
      refine SM_detW I (k_way_i l9 G (d := d) (by omega) h I.ro.c8 I.cr.c0 (LdOK_LM (CA I) (RA I)) ht hc hd2 hi) (fun r z => wyR_v z) (fun u fu => MS.mono (m_way_i l9 G (d := d) (by omega) u I.ro.c8 (by rw [fu.1 _ (by decide)]; exact I.b3) (by rw [fu.1 _ (by decide)]; exact RO_wfS I.ro) hc hd2 ht hi) (fun r u2 z => ⟨z.1, ?_⟩)) (fun r r2 z y => wyR_d z y)
      have z := z.2
      rw [stW fu] at z
      exact z
  · exact SM_bb ⟨nC, nW, nS, I⟩ (k_way_bad l9 G (d := d) (by omega) h I.ro.c8 I.cr.c0 _ _ _ _ hb) (m_way_bad l9 G (d := d) (by omega) h I.ro.c8 I.b3 _ _ _ _ hb)

set_option maxRecDepth 20000 in
set_option maxHeartbeats 2000000 in
theorem s_both (l9 : Launch) (G : WT) {d : Nat} (hd : 10 ≤ d) (h : HP) (hI : Inv h) (a : Int32) (b : Int32) (t : Int32) (x : Int32)  : SM l9 G yX6_both cX6_both 5 yX7_both cX7_both 5 d [vi a, vi b, vi t, vi x] h := by
  obtain ⟨nC, nW, nS, I⟩ := hI
  by_cases hb : (¬ a < 0 ∧ ¬ nI nC ≤ a) ∧ (¬ b < 0 ∧ ¬ nI nC ≤ b) ∧ (¬ t < 0 ∧ ¬ 24 ≤ t) ∧ (x = 0 ∨ ¬ x < 10 ∧ ¬ 33 < x)
  · have h8 := I.ro.c8
    obtain ⟨c, hc, rfl⟩ := nI_ofk (by omega) hb.1
    obtain ⟨e, hd2, rfl⟩ := nI_ofk (by omega) hb.2.1
    obtain ⟨t, ht, rfl⟩ := nI_ofk (n := 24) (by decide) hb.2.2.1
    rcases hb.2.2.2 with rfl | hx
    · refine SM_detW I (k_both_0 l9 G (d := d) (by omega) h I.ro.c8 I.cr.c0 (LdOK_LM (CA I) (RA I)) ht hc hd2) (fun r z => wyR_v z) (fun u fu => MS.mono (m_both_0 l9 G (d := d) (by omega) u I.ro.c8 (by rw [fu.1 _ (by decide)]; exact I.b3) (by rw [fu.1 _ (by decide)]; exact RO_wfS I.ro) hc hd2 ht) (fun r u2 z => ⟨z.1, ?_⟩)) (fun r r2 z y => wyR_d z y)
      have z := z.2
      rw [stW fu] at z
      exact z
    · obtain ⟨i, hi, rfl⟩ := ask_n hx
      refine SM_detW I (k_both_i l9 G (d := d) (by omega) h I.ro.c8 I.cr.c0 (LdOK_LM (CA I) (RA I)) ht hc hd2 hi) (fun r z => wyR_v z) (fun u fu => MS.mono (m_both_i l9 G (d := d) (by omega) u I.ro.c8 (by rw [fu.1 _ (by decide)]; exact I.b3) (by rw [fu.1 _ (by decide)]; exact RO_wfS I.ro) hc hd2 ht hi) (fun r u2 z => ⟨z.1, ?_⟩)) (fun r r2 z y => wyR_d z y)
      have z := z.2
      rw [stW fu] at z
      exact z
  · exact SM_bb ⟨nC, nW, nS, I⟩ (k_both_bad l9 G (d := d) (by omega) h I.ro.c8 I.cr.c0 _ _ _ _ hb) (m_both_bad l9 G (d := d) (by omega) h I.ro.c8 I.b3 _ _ _ _ hb)
