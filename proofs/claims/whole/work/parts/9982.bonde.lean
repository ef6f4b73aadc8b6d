/-! THE BOND: luck -/
def SML (l9 : Launch) (G : WT) (y : MethodName) (cc : ByteArray) (nL : Nat) (y2 : MethodName) (cc2 : ByteArray) (nL2 d : Nat) (av : List PV) (h : HP) : Prop :=
  ∃ P : Int64 → HP → Prop, MS l9 G y cc nL (some .long) d (vr (1, 0, 0) :: av) h (fun r h1 => ∃ v, r = some (vl v) ∧ P v h1) ∧ ∀ v h1, P v h1 → MS l9 G y2 cc2 nL2 (some .long) d (vr (3, 0, 0) :: av) h1 (fun r h2 => r = some (vl v) ∧ Inv h2)
theorem bit_s (x y : Int32) : ∃ s, s < 2 ∧ (x >>> y) &&& 1 = nI s ∧ ((x >>> y) &&& 1).toNatClampNeg = s := by
  rcases and1 (x >>> y) with z | z
  · exact ⟨0, by decide, z, by rw [z]; rfl⟩
  · exact ⟨1, by decide, z, by rw [z]; rfl⟩
theorem go_n {A : Nat → Int32} {nC c s : Nat} (h8 : nC ≤ 8) (hS : wfS A nC) (hc : c < nC) (hs : s < 2) (hour kp : Int32) : goM A c s hour kp = nI (goM A c s hour kp).toNatClampNeg ∧ (goM A c s hour kp).toNatClampNeg < nC := by
  obtain ⟨p, hp, e⟩ := goM_wf h8 hS hc hs hour kp
  rw [e, nI_clamp (by omega)]; exact ⟨rfl, hp⟩
theorem h_sub (a g j : Nat) (x : Int32) : x + nI (g + j) - nI g = x + nI j := by
  rw [← nI_add, Int32.add_comm (nI g), ← Int32.add_assoc, Int32.add_sub_cancel]
theorem one_s {s : Nat} (h : s < 2) : 1 - nI s = nI (1 - s) := by
  rcases (show s = 0 ∨ s = 1 by omega) with rfl | rfl <;> rfl
set_option maxRecDepth 20000 in
set_option maxHeartbeats 2000000 in
theorem s_luck (l9 : Launch) (G : WT) {d : Nat} (hd : 10 ≤ d) (h : HP) (hI : Inv h) (a : Int32) (b : Int32) (c : Int32) (x : Int32)  : SML l9 G yX6_luck cX6_luck 7 yX7_luck cX7_luck 9 d [vi a, vi b, vi c, vi x] h := by
  obtain ⟨nC, nW, nS, I⟩ := hI
  by_cases hb : (¬ a < 0 ∧ ¬ nI nW ≤ a) ∧ (¬ b < 0 ∧ ¬ 10 < b) ∧ (¬ c < 0 ∧ ¬ nI nC ≤ c) ∧ (x = 0 ∨ x = 1)
  · have h4 := I.ro.w4
    have h8 := I.ro.c8
    obtain ⟨w, hw, rfl⟩ := nI_ofk (by omega) hb.1
    obtain ⟨v, hv, rfl⟩ := nI_ofl (n := 10) (by decide) hb.2.1
    obtain ⟨c, hc, rfl⟩ := nI_ofk (by omega) hb.2.2.1
    obtain ⟨x, hx, rfl⟩ := nI_pt hb.2.2.2
    have R := RA I
    have C := CA I
    generalize hA : (stH h).1 (3, 0, 2) = A at R C
    obtain ⟨e0, e1, e2, e3, e4, e5⟩ := CR_w C h4 hw
    obtain ⟨g, m, z1, z2, z3⟩ := R.gl w hw
    obtain ⟨p, hp, hp2⟩ := RO_p R hw
    have hS := RO_wfS R
    have kk := kpA01 (RO_k R hw)
    let sN : Nat → Nat := fun j => ((A (18 + 6 * w + 4) >>> (nI (g + j) &&& 31)) &&& 1).toNatClampNeg
    have hs : ∀ j, sN j < 2 ∧ (A (18 + 6 * w + 4) >>> (nI (g + j) &&& 31)) &&& 1 = nI (sN j) := fun j => by
      obtain ⟨s, s1, s2, s3⟩ := bit_s (A (18 + 6 * w + 4)) (nI (g + j) &&& 31)
      show ((A (18 + 6 * w + 4) >>> (nI (g + j) &&& 31)) &&& 1).toNatClampNeg < 2 ∧ _ = nI ((A (18 + 6 * w + 4) >>> (nI (g + j) &&& 31)) &&& 1).toNatClampNeg
      rw [s3]; exact ⟨s1, s2⟩
    let wl : Nat → Nat → Nat := fun j c => (goM A c (sN j) (A 17 + nI j) (A (18 + 6 * w + 2))).toNatClampNeg
    let bd : Nat → Nat → Nat := fun j c => (goM A c (1 - sN j) (A 17 + nI j) (A (18 + 6 * w + 2))).toNatClampNeg
    have hwl : ∀ j c, c < nC → goM A c (sN j) (A 17 + nI j) (A (18 + 6 * w + 2)) = nI (wl j c) ∧ wl j c < nC := fun j c hc => go_n h8 hS hc (hs j).1 _ _
    have hbd : ∀ j c, c < nC → goM A c (1 - sN j) (A 17 + nI j) (A (18 + 6 * w + 2)) = nI (bd j c) ∧ bd j c < nC := fun j c hc => go_n h8 hS hc (by omega) _ _
    refine ⟨fun vv u => vv = (lN (if x = 0 then wgtF wl bd v nC p m c / Nat.gcd (10 ^ m) (wgtF wl bd v nC p m c) else 10 ^ m / Nat.gcd (10 ^ m) (wgtF wl bd v nC p m c))) ∧ u.1 = h.1, MS.mono (k_luck_ok l9 G (d := d) (by omega) h I.ro.c8 I.cr.c0 I.ro.w4 I.cr.c4 hw hv hc hx hp (e0.trans hp2) (m := m) (by rw [e4, e5, z2, z3, nI_sb (by omega), show g + m - g = m by omega]) (by omega) (wl := wl) (bd := bd) (sd := fun i => ((h.1 (6, 0, w) 3 >>> ((h.1 (6, 0, w) 5 + nI i &&& 31))) &&& 1)) (fun i => rfl) (fun i hi c hc => ?_) (fun i hi c hc => ?_)) (fun r u z => ⟨_, z.2.2, rfl, z.1⟩), fun vv u z => ?_⟩
    · rw [e3, e5, z2, nI_add, (hs i).2, CR_17 C, e2, com_go C (by omega) (hs i).1]
      exact hwl i c hc
    · have := (hs i).1
      rw [e3, e5, z2, nI_add, (hs i).2, one_s (hs i).1, CR_17 C, e2, com_go C (by omega) (by omega)]
      exact hbd i c hc
    · obtain ⟨rfl, eu⟩ := z
      have est : (stH u).1 (3, 0, 2) = A := by
        rw [← hA]
        unfold stH
        rw [upR_same, upR_same, eu]
      have Iu : InvD u nC nW nS := Inv_ro I (fun i _ _ _ => by rw [eu])
      refine MS.mono (m_luck_ok l9 G (d := d) (by omega) u h8 Iu.b3 h4 Iu.b4 hw hv hc hx (p := p) (gn := g) (m := m) (sN := sN) (wl := wl) (bd := bd) (by rw [est]; exact hp2) hp (by rw [est]; exact z2) (by rw [est]; exact z3) (by omega) (by omega) (fun j => (hs j).1) (fun j _ => by rw [est]; exact (hs j).2) (fun j _ c hc => ?_) (fun j _ c hc => ?_)) (fun r u2 y => ⟨y.2, nC, nW, nS, Inv_scr Iu y.1⟩)
      · rw [est, kk, z2, h_sub 0]; exact hwl j c hc
      · rw [est, kk, z2, h_sub 0]; exact hbd j c hc
  · refine ⟨fun vv u => vv = -1 ∧ u = h, MS.mono (k_luck_bad l9 G (d := d) (by omega) h I.ro.c8 I.cr.c0 I.ro.w4 I.cr.c4 _ _ _ _ hb) (fun r u z => ⟨_, z.2, rfl, z.1⟩), fun vv u z => ?_⟩
    obtain ⟨rfl, rfl⟩ := z
    exact MS.mono (m_luck_bad l9 G (d := d) (by omega) u I.ro.c8 I.b3 I.ro.w4 I.b4 _ _ _ _ hb) (fun r u2 y => ⟨y.2, by rw [y.1]; exact ⟨nC, nW, nS, I⟩⟩)
