/-! THE TWO ROWS HELD TOGETHER: what stands between the class's objects and the reference's -/
/-- where the class's city q keeps what the reference keeps at k of its row -/
def src (q k : Nat) : PId × Nat := if k < 8 then ((0, q, 6), 2 * k) else if k < 16 then ((0, q, 6), 2 * (k - 8) + 1) else if k = 16 then ((0, q, 0), 1) else if k = 17 then ((0, q, 0), 2) else if k < 42 then ((6, q, (k - 18) / 6), if (k - 18) % 6 = 3 then 4 else if (k - 18) % 6 = 4 then 3 else (k - 18) % 6) else if k = 42 then ((0, q, 0), 3) else if k < 47 then ((0, q, 8), k - 43) else if k = 47 then ((0, q, 0), 5) else ((0, q, 9 + (k - 48) % 4), (k - 48) / 4)
/-- which places of the row are alive -/
def lv (nW nS k : Nat) : Prop := (18 ≤ k → k < 42 → (k - 18) / 6 < nW) ∧ (48 ≤ k → (k - 48) / 4 < nS)
def okV (nC nW nS k : Nat) (v : Int32) : Prop :=
  (k < 16 → (k % 8 < nC ∧ (v = -4 ∨ ∃ p, p < nC ∧ v = nI p)) ∨ (nC ≤ k % 8 ∧ v = -4)) ∧ (k = 16 → True) ∧ (k = 17 → ∃ t, t < 1000 ∧ v = nI t) ∧ (18 ≤ k → k < 42 → (k - 18) / 6 < nW → ((k - 18) % 6 = 0 → ∃ p, p < nC ∧ v = nI p) ∧ ((k - 18) % 6 = 1 → v = 0 ∨ v = 1) ∧ ((k - 18) % 6 = 2 → v = 0 ∨ v = 1)) ∧ (43 ≤ k → k < 47 → ∃ g, g ≤ 9 ∧ v = nI g) ∧ (k = 47 → v = nI nS) ∧ (48 ≤ k → (k - 48) / 4 < nS → (k - 48) % 4 = 1 → ∃ n, n ≤ 10 ∧ v = nI n)
def GL (S : Nat → Int32) (nW : Nat) : Prop := ∀ w, w < nW → ∃ g m, g + m ≤ 10 ∧ S (18 + 6 * w + 5) = nI g ∧ S (18 + 6 * w + 3) = nI (g + m)
abbrev RO (S : Nat → Int32) (nC nW nS : Nat) : Prop := nC ≤ 8 ∧ nW ≤ 4 ∧ nS ≤ 8 ∧ (∀ k, k < 80 → okV nC nW nS k (S k)) ∧ GL S nW
theorem RO.c8 {S : Nat → Int32} {nC nW nS : Nat} (h : RO S nC nW nS) : nC ≤ 8 := h.1
theorem RO.w4 {S : Nat → Int32} {nC nW nS : Nat} (h : RO S nC nW nS) : nW ≤ 4 := h.2.1
theorem RO.s8 {S : Nat → Int32} {nC nW nS : Nat} (h : RO S nC nW nS) : nS ≤ 8 := h.2.2.1
theorem RO.ok {S : Nat → Int32} {nC nW nS : Nat} (h : RO S nC nW nS) : ∀ k, k < 80 → okV nC nW nS k (S k) := h.2.2.2.1
theorem RO.gl {S : Nat → Int32} {nC nW nS : Nat} (h : RO S nC nW nS) : GL S nW := h.2.2.2.2
abbrev CR (h : HP) (q : Nat) (S : Nat → Int32) (nC nW nS : Nat) : Prop := h.1 (0, q, 0) 0 = nI nC ∧ h.1 (0, q, 0) 4 = nI nW ∧ ∀ k, k < 80 → lv nW nS k → h.1 (src q k).1 (src q k).2 = S k
theorem CR.c0 {h : HP} {q : Nat} {S : Nat → Int32} {nC nW nS : Nat} (c : CR h q S nC nW nS) : h.1 (0, q, 0) 0 = nI nC := c.1
theorem CR.c4 {h : HP} {q : Nat} {S : Nat → Int32} {nC nW nS : Nat} (c : CR h q S nC nW nS) : h.1 (0, q, 0) 4 = nI nW := c.2.1
theorem CR.at_ {h : HP} {q : Nat} {S : Nat → Int32} {nC nW nS : Nat} (c : CR h q S nC nW nS) : ∀ k, k < 80 → lv nW nS k → h.1 (src q k).1 (src q k).2 = S k := c.2.2
def imR (h : HP) (k : Nat) : Nat → Int32 := fun j => h.1 (3, 0, 1) (80 * (k + 1) + j)
def IM (h : HP) (nC nW : Nat) : Prop := (∃ b, b < 4 ∧ h.1 (1, 0, 0) 7 = nI b) ∧ ∀ k, k < 2 → h.1 (3, 0, 3) k = (h.1 (1, 0, 0) 7 >>> (nI k &&& 31)) &&& 1 ∧ (¬ h.1 (3, 0, 3) k = 0 → ∃ nS, RO (imR h k) nC nW nS ∧ CR h (2 + k) (imR h k) nC nW nS)
def TP (h : HP) : Prop := h.1 (1, 0, 3) = h.1 (3, 0, 12) ∧ ∃ t, t ≤ 160 ∧ h.1 (1, 0, 2) 1 = nI t ∧ h.1 (3, 0, 0) 12 = nI t ∧ ∀ j, j < t → ¬ h.1 (1, 0, 3) j < 0
def FT (h : HP) : Prop := h.1 (1, 0, 0) 8 = h.1 (3, 0, 0) 17 ∧ h.1 (1, 0, 0) 9 = h.1 (3, 0, 0) 27
def SHs (h : HP) : Prop := ∀ k, k < 4 → (h.1 (3, 0, 25) k = -4 ∧ h.1 (2, k, 0) 2 < 0) ∨ ∃ l n, l < 3 ∧ n ≤ 40 ∧ h.1 (3, 0, 25) k = nI l ∧ h.1 (2, k, 0) 1 = nI l ∧ h.1 (3, 0, 26) k = nI n ∧ h.1 (2, k, 0) 2 = nI n ∧ ∀ j, j < 40 → h.1 (2, k, 1) j = h.1 (3, 0, 27) (40 * k + j)
def KBA (h : HP) : Prop := ∀ q w, q < 5 → ¬ q = 1 → w < 4 → h.1 (6, q, w) 2 = 0 ∨ h.1 (6, q, w) 2 = 1
abbrev InvD (h : HP) (nC nW nS : Nat) : Prop := (h.1 (3, 0, 0) 3 = nI nC) ∧ (h.1 (3, 0, 0) 4 = nI nW) ∧ (RO (h.1 (3, 0, 1)) nC nW nS) ∧ (CR h 0 (h.1 (3, 0, 1)) nC nW nS) ∧ (IM h nC nW) ∧ (TP h) ∧ (FT h) ∧ (SHs h) ∧ (KBA h)
theorem InvD.b3 {h : HP} {nC nW nS : Nat} (d : InvD h nC nW nS) : h.1 (3, 0, 0) 3 = nI nC := d.1
theorem InvD.b4 {h : HP} {nC nW nS : Nat} (d : InvD h nC nW nS) : h.1 (3, 0, 0) 4 = nI nW := d.2.1
theorem InvD.ro {h : HP} {nC nW nS : Nat} (d : InvD h nC nW nS) : RO (h.1 (3, 0, 1)) nC nW nS := d.2.2.1
theorem InvD.cr {h : HP} {nC nW nS : Nat} (d : InvD h nC nW nS) : CR h 0 (h.1 (3, 0, 1)) nC nW nS := d.2.2.2.1
theorem InvD.im {h : HP} {nC nW nS : Nat} (d : InvD h nC nW nS) : IM h nC nW := d.2.2.2.2.1
theorem InvD.tp {h : HP} {nC nW nS : Nat} (d : InvD h nC nW nS) : TP h := d.2.2.2.2.2.1
theorem InvD.ft {h : HP} {nC nW nS : Nat} (d : InvD h nC nW nS) : FT h := d.2.2.2.2.2.2.1
theorem InvD.sh {h : HP} {nC nW nS : Nat} (d : InvD h nC nW nS) : SHs h := d.2.2.2.2.2.2.2.1
theorem InvD.kb {h : HP} {nC nW nS : Nat} (d : InvD h nC nW nS) : KBA h := d.2.2.2.2.2.2.2.2
def Inv (h : HP) : Prop := ∃ nC nW nS, InvD h nC nW nS
/-- the ids that the bond does not speak of, the living row aside -/
def frI (i : PId) : Prop := ¬ scI i ∧ ¬ i = (1, 0, 6) ∧ ¬ isC 1 i ∧ ¬ isC 0 i ∧ ¬ i = (3, 0, 1)
theorem fr_0 {i : PId} (hi : i.2.1 = 0) (h6 : ¬ (i.1 = 0 ∨ i.1 = 6)) (hs : ¬ scI i) (h1 : ¬ i = (1, 0, 6)) (h3 : ¬ i = (3, 0, 1)) : frI i := ⟨hs, h1, fun z => h6 z.1, fun z => h6 z.1, h3⟩
theorem fr_s (k j : Nat) : frI (2, k, j) := ⟨fun z => absurd (show (2 : Nat) = 3 from z.1) (by decide), fun e => absurd (show (2 : Nat) = 1 from congrArg Prod.fst e) (by decide), fun z => z.1.elim (fun e => absurd (show (2 : Nat) = 0 from e) (by decide)) (fun e => absurd (show (2 : Nat) = 6 from e) (by decide)), fun z => z.1.elim (fun e => absurd (show (2 : Nat) = 0 from e) (by decide)) (fun e => absurd (show (2 : Nat) = 6 from e) (by decide)), fun e => absurd (show (2 : Nat) = 3 from congrArg Prod.fst e) (by decide)⟩
theorem fr_c {a q j : Nat} (ha : a = 0 ∨ a = 6) (hq : ¬ q = 0) (hq1 : ¬ q = 1) : frI (a, q, j) := ⟨fun z => by have z1 : a = 3 := z.1; omega, fun e => by have e1 : a = 1 := congrArg Prod.fst e; omega, fun z => hq1 z.2, fun z => hq z.2, fun e => by have e1 : a = 3 := congrArg Prod.fst e; omega⟩
theorem src_c (q k : Nat) : ∃ a j x, (a = 0 ∨ a = 6) ∧ src q k = ((a, q, j), x) := by
  unfold src
  split
  · exact ⟨0, 6, _, Or.inl rfl, rfl⟩
  split
  · exact ⟨0, 6, _, Or.inl rfl, rfl⟩
  split
  · exact ⟨0, 0, _, Or.inl rfl, rfl⟩
  split
  · exact ⟨0, 0, _, Or.inl rfl, rfl⟩
  split
  · exact ⟨6, _, _, Or.inr rfl, rfl⟩
  split
  · exact ⟨0, 0, _, Or.inl rfl, rfl⟩
  split
  · exact ⟨0, 8, _, Or.inl rfl, rfl⟩
  split
  · exact ⟨0, 0, _, Or.inl rfl, rfl⟩
  · exact ⟨0, _, _, Or.inl rfl, rfl⟩
theorem src_C (q k : Nat) : isC q (src q k).1 := by
  obtain ⟨a, j, x, h1, h2⟩ := src_c q k
  rw [h2]
  exact ⟨h1, rfl⟩
theorem CR_fr {h h2 : HP} {q : Nat} {S S2 : Nat → Int32} {nC nW nS : Nat} (hc : CR h q S nC nW nS) (hf : ∀ i, isC q i → h2.1 i = h.1 i) (hS : ∀ k, k < 80 → S2 k = S k) : CR h2 q S2 nC nW nS :=
  ⟨by rw [hf _ ⟨Or.inl rfl, rfl⟩]; exact hc.c0, by rw [hf _ ⟨Or.inl rfl, rfl⟩]; exact hc.c4, fun k hk hl => by rw [hf _ (src_C q k), hS k hk]; exact hc.at_ k hk hl⟩
theorem RO_fr {S S2 : Nat → Int32} {nC nW nS : Nat} (hr : RO S nC nW nS) (hS : ∀ k, k < 80 → S2 k = S k) : RO S2 nC nW nS :=
  ⟨hr.c8, hr.w4, hr.s8, fun k hk => by rw [hS k hk]; exact hr.ok k hk, fun w hw => by
    have := hr.w4
    rw [hS _ (by omega), hS _ (by omega)]; exact hr.gl w hw⟩
theorem IM_fr {h h2 : HP} {nC nW : Nat} (hi : IM h nC nW) (h7 : h2.1 (1, 0, 0) 7 = h.1 (1, 0, 0) 7) (h3 : h2.1 (3, 0, 3) = h.1 (3, 0, 3)) (hc : ∀ k, k < 2 → ∀ i, isC (2 + k) i → h2.1 i = h.1 i) (h80 : ∀ k, 80 ≤ k → h2.1 (3, 0, 1) k = h.1 (3, 0, 1) k) : IM h2 nC nW := by
  refine ⟨by rw [h7]; exact hi.1, fun k hk => ?_⟩
  rw [h7, h3]
  refine ⟨(hi.2 k hk).1, fun z => ?_⟩
  obtain ⟨nS, r, c⟩ := (hi.2 k hk).2 z
  have e : ∀ j, j < 80 → imR h2 k j = imR h k j := fun j hj => h80 _ (by omega)
  exact ⟨nS, RO_fr r e, CR_fr c (hc k hk) e⟩
theorem Inv_row {h h2 : HP} {nC nW nS nS2 : Nat} (hI : InvD h nC nW nS) (hf : ∀ i, frI i → h2.1 i = h.1 i) (h80 : ∀ k, 80 ≤ k → h2.1 (3, 0, 1) k = h.1 (3, 0, 1) k) (hR : RO (h2.1 (3, 0, 1)) nC nW nS2) (hC : CR h2 0 (h2.1 (3, 0, 1)) nC nW nS2) (hK : ∀ w, w < 4 → h2.1 (6, 0, w) 2 = 0 ∨ h2.1 (6, 0, w) 2 = 1) : InvD h2 nC nW nS2 := by
  have e30 : h2.1 (3, 0, 0) = h.1 (3, 0, 0) := hf _ (fr_0 rfl (by decide) (by decide) (by decide) (by decide))
  have e33 : h2.1 (3, 0, 3) = h.1 (3, 0, 3) := hf _ (fr_0 rfl (by decide) (by decide) (by decide) (by decide))
  have e12 : h2.1 (3, 0, 12) = h.1 (3, 0, 12) := hf _ (fr_0 rfl (by decide) (by decide) (by decide) (by decide))
  have e25 : h2.1 (3, 0, 25) = h.1 (3, 0, 25) := hf _ (fr_0 rfl (by decide) (by decide) (by decide) (by decide))
  have e26 : h2.1 (3, 0, 26) = h.1 (3, 0, 26) := hf _ (fr_0 rfl (by decide) (by decide) (by decide) (by decide))
  have e27 : h2.1 (3, 0, 27) = h.1 (3, 0, 27) := hf _ (fr_0 rfl (by decide) (by decide) (by decide) (by decide))
  have e10 : h2.1 (1, 0, 0) = h.1 (1, 0, 0) := hf _ (fr_0 rfl (by decide) (by decide) (by decide) (by decide))
  have e2 : h2.1 (1, 0, 2) = h.1 (1, 0, 2) := hf _ (fr_0 rfl (by decide) (by decide) (by decide) (by decide))
  have e3 : h2.1 (1, 0, 3) = h.1 (1, 0, 3) := hf _ (fr_0 rfl (by decide) (by decide) (by decide) (by decide))
  refine ⟨by rw [e30]; exact hI.b3, by rw [e30]; exact hI.b4, hR, hC, IM_fr hI.im (by rw [e10]) e33 (fun k hk i z => ?_) h80, ?_, ?_, fun k hk => ?_, fun q w hq hq1 hw => ?_⟩
  · obtain ⟨a, b, c⟩ := i
    have zb : b = 2 + k := z.2
    exact hf _ (fr_c z.1 (by omega) (by omega))
  · unfold TP; rw [e3, e12, e2, e30]; exact hI.tp
  · unfold FT; rw [e10, e30]; exact hI.ft
  · rw [e25, e26, e27, hf _ (fr_s k 0), hf _ (fr_s k 1)]; exact hI.sh k hk
  · rcases Nat.eq_zero_or_pos q with z | z
    · subst z; exact hK w hw
    · rw [hf _ (fr_c (Or.inr rfl) (by omega) hq1)]; exact hI.kb q w hq hq1 hw
/-- nothing that the bond speaks of has changed -/
theorem Inv_ro {h h2 : HP} {nC nW nS : Nat} (hI : InvD h nC nW nS) (hf : ∀ i : PId, ¬ scI i → ¬ i = (1, 0, 6) → ¬ isC 1 i → h2.1 i = h.1 i) : InvD h2 nC nW nS := by
  have e1 : h2.1 (3, 0, 1) = h.1 (3, 0, 1) := hf _ (by decide) (by decide) (fun z => absurd z.2 (by decide))
  have hc : ∀ i, isC 0 i → h2.1 i = h.1 i := fun i z => hf i (fun y => by
    have := y.1
    have := z.1
    omega) (fun y => by rw [y] at z; exact absurd z.1 (by decide)) (fun y => absurd (z.2.symm.trans y.2) (by decide))
  refine Inv_row hI (fun i z => hf i z.1 z.2.1 z.2.2.1) (fun k _ => by rw [e1]) (by rw [e1]; exact hI.ro) (CR_fr hI.cr hc (fun k _ => by rw [e1])) (fun w hw => by rw [hc (6, 0, w) ⟨Or.inr rfl, rfl⟩]; exact hI.kb 0 w (by decide) (by decide) hw)
theorem Inv_scr {h h2 : HP} {nC nW nS : Nat} (hI : InvD h nC nW nS) (hf : scr h h2) : InvD h2 nC nW nS := Inv_ro hI (fun i a _ _ => hf.1 i a)
theorem Inv_FrW {h h2 : HP} {nC nW nS : Nat} (hI : InvD h nC nW nS) (hf : FrW h h2) : InvD h2 nC nW nS := Inv_ro hI (fun i _ b _ => hf.1 i b)
theorem Inv_FrC {h h2 : HP} {nC nW nS : Nat} (hI : InvD h nC nW nS) (hf : FrC h2 h 1) : InvD h2 nC nW nS := Inv_ro hI (fun i _ _ c => hf.1 i c)
/-- a call of both: the class's first, then the reference's, the same answer, the bond again -/
def SM (l9 : Launch) (G : WT) (y : MethodName) (cc : ByteArray) (nL : Nat) (y2 : MethodName) (cc2 : ByteArray) (nL2 d : Nat) (av : List PV) (h : HP) : Prop :=
  ∃ P : Int32 → HP → Prop, MS l9 G y cc nL (some .int) d (vr (1, 0, 0) :: av) h (fun r h1 => ∃ v, r = some (vi v) ∧ P v h1) ∧ ∀ v h1, P v h1 → MS l9 G y2 cc2 nL2 (some .int) d (vr (3, 0, 0) :: av) h1 (fun r h2 => r = some (vi v) ∧ Inv h2)
section SM
variable {l9 : Launch} {G : WT} {y y2 : MethodName} {cc cc2 : ByteArray} {nL nL2 d : Nat} {av : List PV} {h : HP}
theorem SM_ro {v : Int32} (h1 : MS l9 G y cc nL (some .int) d (vr (1, 0, 0) :: av) h (fun r h1 => h1 = h ∧ r = some (vi v))) (h2 : MS l9 G y2 cc2 nL2 (some .int) d (vr (3, 0, 0) :: av) h (fun r h2 => r = some (vi v) ∧ Inv h2)) : SM l9 G y cc nL y2 cc2 nL2 d av h :=
  ⟨fun x u => x = v ∧ u = h, MS.mono h1 (fun r u z => ⟨v, z.2, rfl, z.1⟩), fun x u z => by obtain ⟨rfl, rfl⟩ := z; exact h2⟩
theorem SM_bb {v : Int32} (hI : Inv h) (h1 : MS l9 G y cc nL (some .int) d (vr (1, 0, 0) :: av) h (fun r h1 => h1 = h ∧ r = some (vi v))) (h2 : MS l9 G y2 cc2 nL2 (some .int) d (vr (3, 0, 0) :: av) h (fun r h2 => h2 = h ∧ r = some (vi v))) : SM l9 G y cc nL y2 cc2 nL2 d av h :=
  SM_ro h1 (MS.mono h2 (fun r u z => ⟨z.2, by rw [z.1]; exact hI⟩))
theorem SM_bs {v : Int32} {nC nW nS : Nat} (hI : InvD h nC nW nS) (h1 : MS l9 G y cc nL (some .int) d (vr (1, 0, 0) :: av) h (fun r h1 => h1 = h ∧ r = some (vi v))) (h2 : MS l9 G y2 cc2 nL2 (some .int) d (vr (3, 0, 0) :: av) h (fun r h2 => scr h h2 ∧ r = some (vi v))) : SM l9 G y cc nL y2 cc2 nL2 d av h :=
  SM_ro h1 (MS.mono h2 (fun r u z => ⟨z.2, _, _, _, Inv_scr hI z.1⟩))
/-- an answer known, the class's heap known -/
theorem SM_up {v : Int32} {u : HP} (h1 : MS l9 G y cc nL (some .int) d (vr (1, 0, 0) :: av) h (fun r h1 => r = some (vi v) ∧ h1 = u)) (h2 : MS l9 G y2 cc2 nL2 (some .int) d (vr (3, 0, 0) :: av) u (fun r h2 => r = some (vi v) ∧ Inv h2)) : SM l9 G y cc nL y2 cc2 nL2 d av h :=
  ⟨fun x u1 => x = v ∧ u1 = u, MS.mono h1 (fun r u z => ⟨v, z.1, rfl, z.2⟩), fun x u z => by obtain ⟨rfl, rfl⟩ := z; exact h2⟩
end SM
/-- a number in a range is one -/
theorem nI_ofk {n : Nat} (hn : n < 2 ^ 31) {c : Int32} (h : ¬ c < 0 ∧ ¬ nI n ≤ c) : ∃ k, k < n ∧ c = nI k := by
  obtain ⟨h0, h1⟩ := h
  rw [Int32.lt_iff_toInt_lt] at h0
  rw [Int32.le_iff_toInt_le, nI_toInt hn] at h1
  have := Int32.toInt_zero
  refine ⟨c.toInt.toNat, by omega, Int32.toInt_inj.mp ?_⟩
  rw [nI_toInt (by omega)]
  omega
theorem nI_ofl {n : Nat} (hn : n < 2 ^ 31) {c : Int32} (h : ¬ c < 0 ∧ ¬ nI n < c) : ∃ k, k ≤ n ∧ c = nI k := by
  obtain ⟨h0, h1⟩ := h
  rw [Int32.lt_iff_toInt_lt] at h0
  rw [Int32.lt_iff_toInt_lt, nI_toInt hn] at h1
  have := Int32.toInt_zero
  refine ⟨c.toInt.toNat, by omega, Int32.toInt_inj.mp ?_⟩
  rw [nI_toInt (by omega)]
  omega
theorem nI_pt {s : Int32} (h : s = 0 ∨ s = 1) : ∃ k, k < 2 ∧ s = nI k := h.elim (fun e => ⟨0, by decide, e⟩) (fun e => ⟨1, by decide, e⟩)
/-- one place of the row written in both -/
theorem src_inj {q p k : Nat} (hp : p < 80) (hk : k < 80) (e : src q p = src q k) : p = k := by
  have hd : ∀ p : Fin 80, ∀ k : Fin 80, src 0 p.1 = src 0 k.1 → p.1 = k.1 := by decide +kernel
  have h0 : ∀ p, src 0 p = (((src q p).1.1, 0, (src q p).1.2.2), (src q p).2) := fun p => by
    unfold src
    repeat' split
    all_goals rfl
  have := hd ⟨p, hp⟩ ⟨k, hk⟩ (by show src 0 p = src 0 k; rw [h0 p, h0 k, e])
  exact this
theorem Inv_up {h : HP} {nC nW nS : Nat} (hI : InvD h nC nW nS) {p : Nat} (hp : p < 80) {x : Int32} (hok : okV nC nW nS p x) (hl0 : 18 ≤ p → p < 42 → (p - 18) / 6 < nW) (hg : GL (upd (h.1 (3, 0, 1)) p x) nW) {i : PId} {k : Nat} (hs : src 0 p = (i, k)) : InvD (upI (upI h i k x) (3, 0, 1) p x) nC nW nS := by
  have hi : isC 0 i := by
    have := src_C 0 p
    rw [hs] at this; exact this
  have hne : ¬ i = (3, 0, 1) := fun e => by rw [e] at hi; exact absurd hi.1 (by decide)
  have eS : (upI (upI h i k x) (3, 0, 1) p x).1 (3, 0, 1) = upd (h.1 (3, 0, 1)) p x := by
    funext j
    show (if (3, 0, 1) = ((3, 0, 1) : PId) ∧ j = p then x else if (3, 0, 1) = i ∧ j = k then x else h.1 (3, 0, 1) j) = _
    unfold upd
    by_cases e : j = p
    · rw [if_pos ⟨rfl, e⟩, if_pos e]
    · rw [if_neg (fun z => e z.2), if_neg (fun z => hne z.1.symm), if_neg e]
  have eo : ∀ j, ¬ j = (3, 0, 1) → ∀ m, (upI (upI h i k x) (3, 0, 1) p x).1 j m = if j = i ∧ m = k then x else h.1 j m := fun j z m => by
    show (if j = ((3, 0, 1) : PId) ∧ m = p then x else if j = i ∧ m = k then x else h.1 j m) = _
    rw [if_neg (fun y => z y.1)]
  have ef : ∀ j, ¬ j = (3, 0, 1) → ¬ j = i → (upI (upI h i k x) (3, 0, 1) p x).1 j = h.1 j := fun j z z2 => funext fun m => by rw [eo j z m, if_neg (fun y => z2 y.1)]
  have hc : ∀ j, isC 0 j → ¬ j = (3, 0, 1) := fun j z e => by rw [e] at z; exact absurd z.1 (by decide)
  have h00 : ∀ m, m = 0 ∨ m = 4 → ¬ ((0, 0, 0) = i ∧ m = k) := fun m hm e => by
    have hd : ∀ p : Fin 80, ¬ (src 0 p.1 = ((0, 0, 0), 0) ∨ src 0 p.1 = ((0, 0, 0), 4)) := by decide +kernel
    refine hd ⟨p, hp⟩ ?_
    show src 0 p = _ ∨ src 0 p = _
    rw [hs, ← e.1, ← e.2]
    rcases hm with rfl | rfl
    · exact Or.inl rfl
    · exact Or.inr rfl
  refine Inv_row hI (fun j z => ef j z.2.2.2.2 (fun e => z.2.2.2.1 (by rw [e]; exact hi))) (fun j hj => by rw [eS]; exact if_neg (by omega)) ?_ ?_ (fun w hw => ?_)
  · rw [eS]
    refine ⟨hI.ro.c8, hI.ro.w4, hI.ro.s8, fun j hj => ?_, hg⟩
    unfold upd
    by_cases e : j = p
    · rw [if_pos e, e]; exact hok
    · rw [if_neg e]; exact hI.ro.ok j hj
  · rw [eS]
    refine ⟨by rw [eo _ (by decide), if_neg (h00 0 (Or.inl rfl))]; exact hI.cr.c0, by rw [eo _ (by decide), if_neg (h00 4 (Or.inr rfl))]; exact hI.cr.c4, fun j hj hl => ?_⟩
    rw [eo _ (hc _ (src_C 0 j))]
    unfold upd
    by_cases e : j = p
    · rw [if_pos e, e, hs, if_pos ⟨rfl, rfl⟩]
    · rw [if_neg e, if_neg (fun z => e (src_inj hj hp (by rw [hs]; exact Prod.ext z.1 z.2)))]
      exact hI.cr.at_ j hj hl
  · rw [eo _ (fun e => absurd (show (6 : Nat) = 3 from congrArg Prod.fst e) (by decide))]
    by_cases e : (6, 0, w) = i ∧ 2 = k
    · rw [if_pos e]
      have : src 0 p = src 0 (18 + 6 * w + 2) := by
        rw [hs, ← e.1, ← e.2]
        unfold src
        rw [if_neg (by omega), if_neg (by omega), if_neg (by omega), if_neg (by omega), if_pos (by omega), show (18 + 6 * w + 2 - 18) / 6 = w by omega, show (18 + 6 * w + 2 - 18) % 6 = 2 by omega]
        rfl
      have := src_inj hp (by omega) this
      subst this
      exact (hok.2.2.2.1 (by omega) (by omega) (hl0 (by omega) (by omega))).2.2 (by omega)
    · rw [if_neg e]; exact hI.kb 0 w (by decide) (by decide) hw
