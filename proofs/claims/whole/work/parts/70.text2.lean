/-! THE TEXT: what it says, and how the reference holds it -/
theorem updo {f : Nat → Int32} {k m : Nat} {v : Int32} (e : m ≠ k) : upd f k v m = f m := if_neg e
theorem updi (f : Nat → Int32) (k : Nat) (v : Int32) : upd f k v k = v := if_pos rfl
noncomputable def iteP {α : Type} (p : Prop) (a b : α) : α := @ite α p (Classical.propDecidable p) a b
theorem iteP_t {α : Type} {p : Prop} {a b : α} (h : p) : iteP p a b = a := if_pos h
theorem iteP_f {α : Type} {p : Prop} {a b : α} (h : ¬ p) : iteP p a b = b := if_neg h
abbrev PE : Type := Int32 × Nat
abbrev PA : Type := Nat × (Nat → Int32)
def bdE {α β : Type} (x : Sum PE α) (f : α → Sum PE β) : Sum PE β := match x with
  | .inl e => .inl e
  | .inr a => f a
def mpE (x : Sum PE PA) (f : (Nat → Int32) → (Nat → Int32)) : Sum PE PA := bdE x (fun a => .inr (a.1, f a.2))
/-- bytes, one behind another -/
def byL (T : Nat → Int32) (t : Nat) : Nat → List Int32 → Prop
  | _, [] => True
  | f, a :: l => byF T t f = a ∧ byL T t (f + 1) l
def isL (T : Nat → Int32) (t e : Nat) (l : List Int32) : Prop := tE T t e - tF T t e = l.length ∧ byL T t (tF T t e) l
def wdL (k : Nat) : List Int32 := strB.getD k []
/-- which line a word begins: 0 left, 1 right, 2 city, 3 hour, 4 gloves, 5 sign, 6 walker, 7 keeper, 8 none -/
noncomputable def lrN (T : Nat → Int32) (t e : Nat) : Nat := iteP (isL T t e (wdL 1)) 0 (iteP (isL T t e (wdL 2)) 1 (iteP (isL T t e (wdL 0)) 2 (iteP (isL T t e (wdL 4)) 3 (iteP (isL T t e (wdL 7)) 4 (iteP (isL T t e (wdL 3)) 5 (iteP (isL T t e (wdL 5)) 6 (iteP (isL T t e (wdL 6)) 7 8)))))))
noncomputable def sdN2 (T : Nat → Int32) (t e : Nat) : Nat := iteP (isL T t e (wdL 1)) 0 (iteP (isL T t e (wdL 2)) 1 8)
def oV (k : Nat) : Int32 := if k = 8 then -4 else nI k
section TX
variable (T : Nat → Int32) (t : Nat)
noncomputable def advS (a : PA) : Sum PE PA := iteP (tB T t a.1) (.inl (1, tF T t a.1)) (.inr (tE T t a.1, a.2))
noncomputable def chkS (P : Prop) (code : Int32) (a : PA) : Sum PE PA := iteP (tB T t a.1) (.inl (1, tF T t a.1)) (iteP P (.inr a) (.inl (code, tF T t a.1)))
noncomputable def numS (lo hi : Int32) (a : PA) : Sum PE PA := iteP (tB T t a.1) (.inl (1, tF T t a.1)) (iteP (tK T t a.1 = 2) (iteP (¬ tV T t a.1 < lo ∧ ¬ hi < tV T t a.1) (.inr (tE T t a.1, a.2)) (.inl (3, tF T t a.1))) (.inl (2, tF T t a.1)))
def mxF (x c : Int32) : Int32 := if c ≤ x then x else c
noncomputable def corS (some9 : Int32) (a : PA) : Sum PE PA := bdE (numS T t 0 7 a) (fun b => iteP ((some9 >>> (tV T t a.1 &&& 31)) &&& 1 = 0) (.inr (b.1, upd b.2 85 (mxF (b.2 85) (tV T t a.1)))) (.inl (4, tF T t a.1)))
noncomputable def kndS (k : Nat) (a : PA) : Sum PE PA := iteP (tB T t a.1) (.inl (1, tF T t a.1)) (iteP (tK T t a.1 = k) (.inr (tE T t a.1, a.2)) (.inl (2, tF T t a.1)))
end TX
def rspE (T : Nat → Int32) (t : Nat) (g : PA → Sum PE PA) : Prop := ∀ a : PA, tB T t a.1 → g a = .inl (1, tF T t a.1)
theorem rsp_adv (T : Nat → Int32) (t : Nat) : rspE T t (advS T t) := fun _ h => iteP_t h
theorem rsp_chk (T : Nat → Int32) (t : Nat) (P : Prop) (code : Int32) : rspE T t (chkS T t P code) := fun _ h => iteP_t h
theorem rsp_num (T : Nat → Int32) (t : Nat) (lo hi : Int32) : rspE T t (numS T t lo hi) := fun _ h => iteP_t h
theorem rsp_knd (T : Nat → Int32) (t k : Nat) : rspE T t (kndS T t k) := fun _ h => iteP_t h
theorem rsp_bd {T : Nat → Int32} {t : Nat} {g : PA → Sum PE PA} {k : PA → PA → Sum PE PA} (h : rspE T t g) : rspE T t (fun a => bdE (g a) (k a)) := fun a z => by
  show bdE (g a) (k a) = _
  rw [h a z]; rfl
theorem rsp_cor (T : Nat → Int32) (t : Nat) (s : Int32) : rspE T t (corS T t s) := rsp_bd (rsp_num T t 0 7)
/-- all but the text's own things stays -/
def RE (h0 h : HP) : Prop := (∀ i : PId, i ≠ (3, 0, 0) → i ≠ (3, 0, 6) → i ≠ (3, 0, 10) → h.1 i = h0.1 i) ∧ h.2 = h0.2 ∧ ∀ k, k < 6 ∨ k = 9 ∨ k = 11 ∨ k = 12 ∨ 18 < k → h.1 (3, 0, 0) k = h0.1 (3, 0, 0) k
theorem RE_r (h : HP) : RE h h := ⟨fun _ _ _ _ => rfl, rfl, fun _ _ => rfl⟩
theorem RE_6 {h0 h u : HP} (h1 : RE h0 h) (h2 : Fr6 h u) : RE h0 u := ⟨fun i a b c => (h2.1 i a).trans (h1.1 i a b c), h2.2.1.trans h1.2.1, fun k hk => (h2.2.2 k (by omega)).trans (h1.2.2 k hk)⟩
theorem RE_f {h0 h : HP} {k : Nat} {x : Int32} (h1 : RE h0 h) (hk : 6 ≤ k ∧ k ≤ 18 ∧ k ≠ 9 ∧ k ≠ 11 ∧ k ≠ 12) : RE h0 (upI h (3, 0, 0) k x) := ⟨fun i a b c => by rw [upI_ne _ _ _ a]; exact h1.1 i a b c, h1.2.1, fun m hm => by rw [upI_k _ _ _ _ _ (by omega)]; exact h1.2.2 m hm⟩
theorem RE_d {h0 h : HP} {k : Nat} {x : Int32} (h1 : RE h0 h) : RE h0 (upI h (3, 0, 6) k x) := ⟨fun i a b c => by rw [upI_ne _ _ _ b]; exact h1.1 i a b c, h1.2.1, fun m hm => by rw [upI_ne _ _ _ (by decide)]; exact h1.2.2 m hm⟩
theorem RE_c {h0 h : HP} {k : Nat} {x : Int32} (h1 : RE h0 h) : RE h0 (upI h (3, 0, 10) k x) := ⟨fun i a b c => by rw [upI_ne _ _ _ c]; exact h1.1 i a b c, h1.2.1, fun m hm => by rw [upI_ne _ _ _ (by decide)]; exact h1.2.2 m hm⟩
/-- the reference's draft -/
def DM (h : HP) (D : Nat → Int32) : Prop := (∀ k, k < 80 → h.1 (3, 0, 6) k = D k) ∧ h.1 (3, 0, 0) 6 = D 80 ∧ h.1 (3, 0, 0) 7 = D 81 ∧ h.1 (3, 0, 0) 8 = D 82 ∧ h.1 (3, 0, 10) 0 = D 83 ∧ h.1 (3, 0, 10) 1 = D 84 ∧ h.1 (3, 0, 0) 10 = D 85
theorem DM_6 {h u : HP} {D : Nat → Int32} (h1 : DM h D) (h2 : Fr6 h u) : DM u D := by
  obtain ⟨a1, a2, a3, a4, a5, a6, a7⟩ := h1
  have e1 := h2.1 (3, 0, 6) (by decide)
  have e2 := h2.1 (3, 0, 10) (by decide)
  exact ⟨fun k hk => by rw [e1]; exact a1 k hk, (h2.2.2 6 (by decide)).trans a2, (h2.2.2 7 (by decide)).trans a3, (h2.2.2 8 (by decide)).trans a4, by rw [e2]; exact a5, by rw [e2]; exact a6, (h2.2.2 10 (by decide)).trans a7⟩
def FlS (h0 h : HP) (c : Int32) (f : Nat) : Prop := RE h0 h ∧ h.1 (3, 0, 0) 17 = c ∧ 0 < c ∧ h.1 (3, 0, 0) 18 = nI f
def GoS (T : Nat → Int32) (t : Nat) (h0 h : HP) (a : PA) : Prop := RE h0 h ∧ ¬ tB T t a.1 ∧ a.1 ≤ t ∧ DM h a.2 ∧ h.1 (3, 0, 0) 17 = 0 ∧ h.1 (3, 0, 0) 13 = nI (tE T t a.1) ∧ h.1 (3, 0, 0) 14 = nI (tF T t a.1) ∧ h.1 (3, 0, 0) 15 = nI (tK T t a.1) ∧ (tK T t a.1 = 2 → h.1 (3, 0, 0) 16 = tV T t a.1)
def RS (T : Nat → Int32) (t : Nat) (h0 h : HP) (x : Sum PE PA) : Prop := match x with
  | .inl e => FlS h0 h e.1 e.2
  | .inr a => (tB T t a.1 ∧ FlS h0 h 1 (tF T t a.1)) ∨ GoS T t h0 h a
theorem RS_RE {T : Nat → Int32} {t : Nat} {h0 h : HP} {x : Sum PE PA} (hx : RS T t h0 h x) : RE h0 h := by
  rcases x with e | a
  · exact hx.1
  · rcases hx with ⟨_, z⟩ | z
    · exact z.1
    · exact z.1
/-- a fault stays what it is -/
theorem RS_f {T : Nat → Int32} {t : Nat} {h0 h u : HP} {x : Sum PE PA} {g : PA → Sum PE PA} (hx : RS T t h0 h x) (hg : rspE T t g) (hf : ¬ h.1 (3, 0, 0) 17 = 0) (hE : RE h0 u) (h17 : u.1 (3, 0, 0) 17 = h.1 (3, 0, 0) 17) (h18 : u.1 (3, 0, 0) 18 = h.1 (3, 0, 0) 18) : RS T t h0 u (bdE x g) := by
  rcases x with e | a
  · exact ⟨hE, h17.trans hx.2.1, hx.2.2.1, h18.trans hx.2.2.2⟩
  · rcases hx with ⟨z1, z2⟩ | z
    · show RS T t h0 u (g a)
      rw [hg a z1]
      exact ⟨hE, h17.trans z2.2.1, z2.2.2.1, h18.trans z2.2.2.2⟩
    · exact absurd z.2.2.2.2.1 hf
theorem RS_fp {T : Nat → Int32} {t : Nat} {h0 h : HP} {x : Sum PE PA} (hx : RS T t h0 h x) (hf : ¬ h.1 (3, 0, 0) 17 = 0) : 0 < h.1 (3, 0, 0) 17 := by
  rcases x with e | a
  · rw [hx.2.1]; exact hx.2.2.1
  · rcases hx with ⟨_, z2⟩ | z
    · rw [z2.2.1]; exact z2.2.2.1
    · exact absurd z.2.2.2.2.1 hf
theorem RS_g {T : Nat → Int32} {t : Nat} {h0 h : HP} {x : Sum PE PA} (hx : RS T t h0 h x) (hf : h.1 (3, 0, 0) 17 = 0) : ∃ a, x = .inr a ∧ GoS T t h0 h a := by
  rcases x with e | a
  · exact absurd hf (by rw [hx.2.1]; exact fun z => Int32.lt_irrefl (z ▸ hx.2.2.1))
  · rcases hx with ⟨_, z2⟩ | z
    · exact absurd hf (by rw [z2.2.1]; decide)
    · exact ⟨a, rfl, z⟩
/-- behind a token that was taken -/
theorem RS_tok {T : Nat → Int32} {t e : Nat} {h0 h u : HP} {D : Nat → Int32} (hE : RE h0 h) (hD : DM h D) (he : e ≤ t) (hu : TokR T t h u e) : RS T t h0 u (.inr (e, D)) := by
  obtain ⟨z1, ⟨z2, z3, z4⟩ | ⟨z2, z3, z4, z5, z6, z7⟩⟩ := hu
  · exact Or.inl ⟨z2, RE_6 hE z1, z3, by decide, z4⟩
  · exact Or.inr ⟨RE_6 hE z1, z2, he, DM_6 hD z1, z3, z4, z5, z6, z7⟩
theorem GoS_nf {T : Nat → Int32} {t : Nat} {h0 h : HP} {a : PA} {c : Int32} (hx : GoS T t h0 h a) (hc : 0 < c) : FlS h0 (nfH h c) c (tF T t a.1) := ⟨RE_6 hx.1 (Fr6_nf c (Fr6_r h)), nfH_17 _ _, hc, (nfH_18 _ _).trans hx.2.2.2.2.2.2.1⟩
theorem up_r0 {h : HP} {i : PId} {k m : Nat} {v : Int32} {D : Nat → Int32} (e : h.1 i m = D m) : (upI h i k v).1 i m = upd D k v m := by
  by_cases q : m = k
  · subst q; rw [upI_i, updi]
  · rw [upI_k _ _ _ _ _ q, updo q]; exact e
theorem up_rj {h : HP} {i : PId} {j k m : Nat} {v : Int32} {D : Nat → Int32} (e : h.1 i m = D (j + m)) : (upI h i k v).1 i m = upd D (j + k) v (j + m) := by
  by_cases q : m = k
  · subst q; rw [upI_i, updi]
  · rw [upI_k _ _ _ _ _ q, updo (by omega)]; exact e
theorem RS_f6 {T : Nat → Int32} {t : Nat} {h0 h : HP} {x : Sum PE PA} (v : Int32) (hx : RS T t h0 h x) : RS T t h0 (upI h (3, 0, 0) 6 v) (mpE x (fun D => upd D 80 v)) := by
  rcases x with e | a
  · exact ⟨(fun y => RE_f y (by decide)) hx.1, by rw [upI_k _ _ _ _ _ (by decide)]; exact hx.2.1, hx.2.2.1, by rw [upI_k _ _ _ _ _ (by decide)]; exact hx.2.2.2⟩
  · rcases hx with ⟨z1, z2⟩ | ⟨z1, z2, z3, ⟨a1, a2, a3, a4, a5, a6, a7⟩, z5, z6, z7, z8, z9⟩
    · exact Or.inl ⟨z1, (fun y => RE_f y (by decide)) z2.1, by rw [upI_k _ _ _ _ _ (by decide)]; exact z2.2.1, z2.2.2.1, by rw [upI_k _ _ _ _ _ (by decide)]; exact z2.2.2.2⟩
    · exact Or.inr ⟨(fun y => RE_f y (by decide)) z1, z2, z3, (show DM (upI h (3, 0, 0) 6 v) (upd a.2 80 v) from ⟨fun k hk => by rw [upI_ne _ _ _ (by decide)]; exact (a1 k hk).trans (updo (by omega)).symm, (upI_i _ _ _ _).trans (updi _ _ _).symm, (upI_k _ _ _ _ _ (by decide)).trans (a3.trans (updo (by decide)).symm), (upI_k _ _ _ _ _ (by decide)).trans (a4.trans (updo (by decide)).symm), by rw [upI_ne _ _ _ (by decide)]; exact a5.trans (updo (by decide)).symm, by rw [upI_ne _ _ _ (by decide)]; exact a6.trans (updo (by decide)).symm, (upI_k _ _ _ _ _ (by decide)).trans (a7.trans (updo (by decide)).symm)⟩), by rw [upI_k _ _ _ _ _ (by decide)]; exact z5, by rw [upI_k _ _ _ _ _ (by decide)]; exact z6, by rw [upI_k _ _ _ _ _ (by decide)]; exact z7, by rw [upI_k _ _ _ _ _ (by decide)]; exact z8, fun y => by rw [upI_k _ _ _ _ _ (by decide)]; exact z9 y⟩
theorem RS_f7 {T : Nat → Int32} {t : Nat} {h0 h : HP} {x : Sum PE PA} (v : Int32) (hx : RS T t h0 h x) : RS T t h0 (upI h (3, 0, 0) 7 v) (mpE x (fun D => upd D 81 v)) := by
  rcases x with e | a
  · exact ⟨(fun y => RE_f y (by decide)) hx.1, by rw [upI_k _ _ _ _ _ (by decide)]; exact hx.2.1, hx.2.2.1, by rw [upI_k _ _ _ _ _ (by decide)]; exact hx.2.2.2⟩
  · rcases hx with ⟨z1, z2⟩ | ⟨z1, z2, z3, ⟨a1, a2, a3, a4, a5, a6, a7⟩, z5, z6, z7, z8, z9⟩
    · exact Or.inl ⟨z1, (fun y => RE_f y (by decide)) z2.1, by rw [upI_k _ _ _ _ _ (by decide)]; exact z2.2.1, z2.2.2.1, by rw [upI_k _ _ _ _ _ (by decide)]; exact z2.2.2.2⟩
    · exact Or.inr ⟨(fun y => RE_f y (by decide)) z1, z2, z3, (show DM (upI h (3, 0, 0) 7 v) (upd a.2 81 v) from ⟨fun k hk => by rw [upI_ne _ _ _ (by decide)]; exact (a1 k hk).trans (updo (by omega)).symm, (upI_k _ _ _ _ _ (by decide)).trans (a2.trans (updo (by decide)).symm), (upI_i _ _ _ _).trans (updi _ _ _).symm, (upI_k _ _ _ _ _ (by decide)).trans (a4.trans (updo (by decide)).symm), by rw [upI_ne _ _ _ (by decide)]; exact a5.trans (updo (by decide)).symm, by rw [upI_ne _ _ _ (by decide)]; exact a6.trans (updo (by decide)).symm, (upI_k _ _ _ _ _ (by decide)).trans (a7.trans (updo (by decide)).symm)⟩), by rw [upI_k _ _ _ _ _ (by decide)]; exact z5, by rw [upI_k _ _ _ _ _ (by decide)]; exact z6, by rw [upI_k _ _ _ _ _ (by decide)]; exact z7, by rw [upI_k _ _ _ _ _ (by decide)]; exact z8, fun y => by rw [upI_k _ _ _ _ _ (by decide)]; exact z9 y⟩
theorem RS_f8 {T : Nat → Int32} {t : Nat} {h0 h : HP} {x : Sum PE PA} (v : Int32) (hx : RS T t h0 h x) : RS T t h0 (upI h (3, 0, 0) 8 v) (mpE x (fun D => upd D 82 v)) := by
  rcases x with e | a
  · exact ⟨(fun y => RE_f y (by decide)) hx.1, by rw [upI_k _ _ _ _ _ (by decide)]; exact hx.2.1, hx.2.2.1, by rw [upI_k _ _ _ _ _ (by decide)]; exact hx.2.2.2⟩
  · rcases hx with ⟨z1, z2⟩ | ⟨z1, z2, z3, ⟨a1, a2, a3, a4, a5, a6, a7⟩, z5, z6, z7, z8, z9⟩
    · exact Or.inl ⟨z1, (fun y => RE_f y (by decide)) z2.1, by rw [upI_k _ _ _ _ _ (by decide)]; exact z2.2.1, z2.2.2.1, by rw [upI_k _ _ _ _ _ (by decide)]; exact z2.2.2.2⟩
    · exact Or.inr ⟨(fun y => RE_f y (by decide)) z1, z2, z3, (show DM (upI h (3, 0, 0) 8 v) (upd a.2 82 v) from ⟨fun k hk => by rw [upI_ne _ _ _ (by decide)]; exact (a1 k hk).trans (updo (by omega)).symm, (upI_k _ _ _ _ _ (by decide)).trans (a2.trans (updo (by decide)).symm), (upI_k _ _ _ _ _ (by decide)).trans (a3.trans (updo (by decide)).symm), (upI_i _ _ _ _).trans (updi _ _ _).symm, by rw [upI_ne _ _ _ (by decide)]; exact a5.trans (updo (by decide)).symm, by rw [upI_ne _ _ _ (by decide)]; exact a6.trans (updo (by decide)).symm, (upI_k _ _ _ _ _ (by decide)).trans (a7.trans (updo (by decide)).symm)⟩), by rw [upI_k _ _ _ _ _ (by decide)]; exact z5, by rw [upI_k _ _ _ _ _ (by decide)]; exact z6, by rw [upI_k _ _ _ _ _ (by decide)]; exact z7, by rw [upI_k _ _ _ _ _ (by decide)]; exact z8, fun y => by rw [upI_k _ _ _ _ _ (by decide)]; exact z9 y⟩
theorem RS_f10 {T : Nat → Int32} {t : Nat} {h0 h : HP} {x : Sum PE PA} (v : Int32) (hx : RS T t h0 h x) : RS T t h0 (upI h (3, 0, 0) 10 v) (mpE x (fun D => upd D 85 v)) := by
  rcases x with e | a
  · exact ⟨(fun y => RE_f y (by decide)) hx.1, by rw [upI_k _ _ _ _ _ (by decide)]; exact hx.2.1, hx.2.2.1, by rw [upI_k _ _ _ _ _ (by decide)]; exact hx.2.2.2⟩
  · rcases hx with ⟨z1, z2⟩ | ⟨z1, z2, z3, ⟨a1, a2, a3, a4, a5, a6, a7⟩, z5, z6, z7, z8, z9⟩
    · exact Or.inl ⟨z1, (fun y => RE_f y (by decide)) z2.1, by rw [upI_k _ _ _ _ _ (by decide)]; exact z2.2.1, z2.2.2.1, by rw [upI_k _ _ _ _ _ (by decide)]; exact z2.2.2.2⟩
    · exact Or.inr ⟨(fun y => RE_f y (by decide)) z1, z2, z3, (show DM (upI h (3, 0, 0) 10 v) (upd a.2 85 v) from ⟨fun k hk => by rw [upI_ne _ _ _ (by decide)]; exact (a1 k hk).trans (updo (by omega)).symm, (upI_k _ _ _ _ _ (by decide)).trans (a2.trans (updo (by decide)).symm), (upI_k _ _ _ _ _ (by decide)).trans (a3.trans (updo (by decide)).symm), (upI_k _ _ _ _ _ (by decide)).trans (a4.trans (updo (by decide)).symm), by rw [upI_ne _ _ _ (by decide)]; exact a5.trans (updo (by decide)).symm, by rw [upI_ne _ _ _ (by decide)]; exact a6.trans (updo (by decide)).symm, (upI_i _ _ _ _).trans (updi _ _ _).symm⟩), by rw [upI_k _ _ _ _ _ (by decide)]; exact z5, by rw [upI_k _ _ _ _ _ (by decide)]; exact z6, by rw [upI_k _ _ _ _ _ (by decide)]; exact z7, by rw [upI_k _ _ _ _ _ (by decide)]; exact z8, fun y => by rw [upI_k _ _ _ _ _ (by decide)]; exact z9 y⟩
theorem RS_dr {T : Nat → Int32} {t : Nat} {h0 h : HP} {x : Sum PE PA} {k : Nat} (hk : k < 80) (v : Int32) (hx : RS T t h0 h x) : RS T t h0 (upI h (3, 0, 6) k v) (mpE x (fun D => upd D k v)) := by
  rcases x with e | a
  · exact ⟨RE_d hx.1, by rw [upI_ne _ _ _ (by decide)]; exact hx.2.1, hx.2.2.1, by rw [upI_ne _ _ _ (by decide)]; exact hx.2.2.2⟩
  · rcases hx with ⟨z1, z2⟩ | ⟨z1, z2, z3, ⟨a1, a2, a3, a4, a5, a6, a7⟩, z5, z6, z7, z8, z9⟩
    · exact Or.inl ⟨z1, RE_d z2.1, by rw [upI_ne _ _ _ (by decide)]; exact z2.2.1, z2.2.2.1, by rw [upI_ne _ _ _ (by decide)]; exact z2.2.2.2⟩
    · exact Or.inr ⟨RE_d z1, z2, z3, (show DM (upI h (3, 0, 6) k v) (upd a.2 k v) from ⟨fun m hm => up_r0 (a1 m hm), by rw [upI_ne _ _ _ (by decide)]; exact a2.trans (updo (by omega)).symm, by rw [upI_ne _ _ _ (by decide)]; exact a3.trans (updo (by omega)).symm, by rw [upI_ne _ _ _ (by decide)]; exact a4.trans (updo (by omega)).symm, by rw [upI_ne _ _ _ (by decide)]; exact a5.trans (updo (by omega)).symm, by rw [upI_ne _ _ _ (by decide)]; exact a6.trans (updo (by omega)).symm, by rw [upI_ne _ _ _ (by decide)]; exact a7.trans (updo (by omega)).symm⟩), by rw [upI_ne _ _ _ (by decide)]; exact z5, by rw [upI_ne _ _ _ (by decide)]; exact z6, by rw [upI_ne _ _ _ (by decide)]; exact z7, by rw [upI_ne _ _ _ (by decide)]; exact z8, fun y => by rw [upI_ne _ _ _ (by decide)]; exact z9 y⟩
theorem RS_tc {T : Nat → Int32} {t : Nat} {h0 h : HP} {x : Sum PE PA} {k : Nat} (hk : k < 2) (v : Int32) (hx : RS T t h0 h x) : RS T t h0 (upI h (3, 0, 10) k v) (mpE x (fun D => upd D (83 + k) v)) := by
  rcases x with e | a
  · exact ⟨RE_c hx.1, by rw [upI_ne _ _ _ (by decide)]; exact hx.2.1, hx.2.2.1, by rw [upI_ne _ _ _ (by decide)]; exact hx.2.2.2⟩
  · rcases hx with ⟨z1, z2⟩ | ⟨z1, z2, z3, ⟨a1, a2, a3, a4, a5, a6, a7⟩, z5, z6, z7, z8, z9⟩
    · exact Or.inl ⟨z1, RE_c z2.1, by rw [upI_ne _ _ _ (by decide)]; exact z2.2.1, z2.2.2.1, by rw [upI_ne _ _ _ (by decide)]; exact z2.2.2.2⟩
    · exact Or.inr ⟨RE_c z1, z2, z3, (show DM (upI h (3, 0, 10) k v) (upd a.2 (83 + k) v) from ⟨fun m hm => by rw [upI_ne _ _ _ (by decide)]; exact (a1 m hm).trans (updo (by omega)).symm, by rw [upI_ne _ _ _ (by decide)]; exact a2.trans (updo (by omega)).symm, by rw [upI_ne _ _ _ (by decide)]; exact a3.trans (updo (by omega)).symm, by rw [upI_ne _ _ _ (by decide)]; exact a4.trans (updo (by omega)).symm, up_rj (j := 83) (m := 0) a5, up_rj (j := 83) (m := 1) a6, by rw [upI_ne _ _ _ (by decide)]; exact a7.trans (updo (by omega)).symm⟩), by rw [upI_ne _ _ _ (by decide)]; exact z5, by rw [upI_ne _ _ _ (by decide)]; exact z6, by rw [upI_ne _ _ _ (by decide)]; exact z7, by rw [upI_ne _ _ _ (by decide)]; exact z8, fun y => by rw [upI_ne _ _ _ (by decide)]; exact z9 y⟩
theorem is4_iff {T : Nat → Int32} {t e : Nat} (ht : t ≤ 160) (het : e ≤ t) {a b c d : Int32} : (nI (tE T t e) - nI (tF T t e) = 4 ∧ byF T t (tF T t e) = a ∧ byF T t (tF T t e + 1) = b ∧ byF T t (tF T t e + 2) = c ∧ byF T t (tF T t e + 3) = d) ↔ isL T t e [a, b, c, d] := by
  have h1 := tE_b (T := T) het
  rw [pk_sub h1.1, show (4 : Int32) = nI 4 from rfl, nI_eq (by omega) (by decide)]
  exact ⟨fun z => ⟨z.1, z.2.1, z.2.2.1, z.2.2.2.1, z.2.2.2.2, trivial⟩, fun z => ⟨z.1, z.2.1, z.2.2.1, z.2.2.2.1, z.2.2.2.2.1⟩⟩
theorem is5_iff {T : Nat → Int32} {t e : Nat} (ht : t ≤ 160) (het : e ≤ t) {a b c d x : Int32} : ((nI (tE T t e) - nI (tF T t e) = 5 ∧ byF T t (tF T t e) = a ∧ byF T t (tF T t e + 1) = b ∧ byF T t (tF T t e + 2) = c ∧ byF T t (tF T t e + 3) = d) ∧ (byF T t (tF T t e + 4) = x ∧ ((0 : Int32) = 0 ∨ byF T t (tF T t e + 5) = 0))) ↔ isL T t e [a, b, c, d, x] := by
  have h1 := tE_b (T := T) het
  rw [pk_sub h1.1, show (5 : Int32) = nI 5 from rfl, nI_eq (by omega) (by decide)]
  exact ⟨fun z => ⟨z.1.1, z.1.2.1, z.1.2.2.1, z.1.2.2.2.1, z.1.2.2.2.2, z.2.1, trivial⟩, fun z => ⟨⟨z.1, z.2.1, z.2.2.1, z.2.2.2.1, z.2.2.2.2.1⟩, z.2.2.2.2.2.1, Or.inl rfl⟩⟩
theorem is6_iff {T : Nat → Int32} {t e : Nat} (ht : t ≤ 160) (het : e ≤ t) {a b c d x y : Int32} (hy : ¬ y = 0) : ((nI (tE T t e) - nI (tF T t e) = 6 ∧ byF T t (tF T t e) = a ∧ byF T t (tF T t e + 1) = b ∧ byF T t (tF T t e + 2) = c ∧ byF T t (tF T t e + 3) = d) ∧ (byF T t (tF T t e + 4) = x ∧ (y = 0 ∨ byF T t (tF T t e + 5) = y))) ↔ isL T t e [a, b, c, d, x, y] := by
  have h1 := tE_b (T := T) het
  rw [pk_sub h1.1, show (6 : Int32) = nI 6 from rfl, nI_eq (by omega) (by decide)]
  exact ⟨fun z => ⟨z.1.1, z.1.2.1, z.1.2.2.1, z.1.2.2.2.1, z.1.2.2.2.2, z.2.1, z.2.2.elim (fun q => absurd q hy) id, trivial⟩, fun z => ⟨⟨z.1, z.2.1, z.2.2.1, z.2.2.2.1, z.2.2.2.2.1⟩, z.2.2.2.2.2.1, Or.inr z.2.2.2.2.2.2.1⟩⟩
set_option maxRecDepth 20000 in
set_option maxHeartbeats 2000000 in
theorem m_sideNow (l9 : Launch) (G : WT) {d : Nat} (hd : 3 ≤ d) (h : HP) {T : Nat → Int32} {t e : Nat} (ht : t ≤ 160) (htp : h.1 (3, 0, 0) 12 = nI t) (hT : h.1 (3, 0, 12) = T) (hq3 : h.1 (3, 0, 0) 13 = nI (tE T t e)) (hq4 : h.1 (3, 0, 0) 14 = nI (tF T t e)) (het : e ≤ t) : MS l9 G yX7_sideNow cX7_sideNow 1 (some .int) d [vr (3, 0, 0)] h (fun r h1 => h1 = h ∧ r = some (vi (oV (sdN2 T t e)))) := by
  refine MS_of (by decide +kernel) (Nat.le_of_ble_eq_true rfl) (fun X hC hX => ?_)
  show V X G 1 0 _ [] _
  have hf200 : tF T t e ≤ 200 := by have := (tF_b (T := T) het).2; omega
  refine v_aload_n hC (pc := 0) (k := 0) 0 rfl dX7_sideNow_0 ?_
  refine v_iconst hC (pc := 1) (v := 4) (by decide) dX7_sideNow_1 ?_
  refine v_bipush hC (pc := 2) (v := 108) (by decide +kernel) dX7_sideNow_2 ?_
  refine v_bipush hC (pc := 4) (v := 101) (by decide +kernel) dX7_sideNow_4 ?_
  refine v_bipush hC (pc := 6) (v := 102) (by decide +kernel) dX7_sideNow_6 ?_
  refine v_bipush hC (pc := 8) (v := 116) (by decide +kernel) dX7_sideNow_8 ?_
  refine v_callV hC (pc := 10) (As := [_, _, _, _, _]) dX7_sideNow_10 rfl (m_is _ _ (d := d - 1) (by omega) _ ht htp hq4 hf200 4 108 101 102 116) cv_X7_107 rfl (by decide) rfl (by first | rfl | exact ok_c hq rfl | exact ok_w hq hw | exact ok_w (by omega) (by omega) | exact ok_s (by omega) (by omega) | exact ok_c (by omega) rfl | assumption) (Nat.le_of_ble_eq_true rfl) (by omega) (fun r h' hr => ?_)
  obtain ⟨he9, rfl⟩ := hr
  rw [he9]
  clear he9 h'
  rw [hq3, hT]
  show V _ _ _ (10 + 3) _ (_ :: _) _
  refine v_ifb_eq hC (pc := 13) (tgt := 20) dX7_sideNow_13 (by decide) (fun c_13 => ?_) (fun c_13 => ?_)
  · skip
    have hL : ¬ isL T t e (wdL 1) := fun z => c_13 ((is4_iff ht het).mpr z)
    refine v_aload_n hC (pc := 20) (k := 0) 0 rfl dX7_sideNow_20 ?_
    refine v_iconst hC (pc := 21) (v := 5) (by decide) dX7_sideNow_21 ?_
    refine v_bipush hC (pc := 22) (v := 114) (by decide +kernel) dX7_sideNow_22 ?_
    refine v_bipush hC (pc := 24) (v := 105) (by decide +kernel) dX7_sideNow_24 ?_
    refine v_bipush hC (pc := 26) (v := 103) (by decide +kernel) dX7_sideNow_26 ?_
    refine v_bipush hC (pc := 28) (v := 104) (by decide +kernel) dX7_sideNow_28 ?_
    refine v_callV hC (pc := 30) (As := [_, _, _, _, _]) dX7_sideNow_30 rfl (m_is _ _ (d := d - 1) (by omega) _ ht htp hq4 hf200 5 114 105 103 104) cv_X7_107 rfl (by decide) rfl (by first | rfl | exact ok_c hq rfl | exact ok_w hq hw | exact ok_w (by omega) (by omega) | exact ok_s (by omega) (by omega) | exact ok_c (by omega) rfl | assumption) (Nat.le_of_ble_eq_true rfl) (by omega) (fun r h' hr => ?_)
    obtain ⟨he9, rfl⟩ := hr
    rw [he9]
    clear he9 h'
    rw [hq3, hT]
    show V _ _ _ (30 + 3) _ (_ :: _) _
    refine v_ifb_eq hC (pc := 33) (tgt := 50) dX7_sideNow_33 (by decide) (fun c_33 => ?_) (fun c_33 => ?_)
    · skip
      have hR : ¬ isL T t e (wdL 2) := fun z => c_33 ((is5_iff ht het).mpr z).1
      refine v_bipush hC (pc := 50) (v := (-4)) (by decide +kernel) dX7_sideNow_50 ?_
      refine v_iret hC hX (pc := 52) dX7_sideNow_52 ?_
      refine ⟨rfl, ?_⟩
      unfold sdN2
      first | (rw [iteP_t hL]; rfl) | (rw [iteP_f hL, iteP_t hR]; rfl) | (rw [iteP_f hL, iteP_f hR]; rfl)
    · skip
      refine v_aload_n hC (pc := 36) (k := 0) 0 rfl dX7_sideNow_36 ?_
      refine v_bipush hC (pc := 37) (v := 116) (by decide +kernel) dX7_sideNow_37 ?_
      refine v_iconst hC (pc := 39) (v := 0) (by decide) dX7_sideNow_39 ?_
      refine v_callV hC (pc := 40) (As := [_, _]) dX7_sideNow_40 rfl (m_ends _ _ (d := d - 1) (by omega) _ ht htp hq4 hf200 116 0) cv_X7_111 rfl (by decide) rfl (by first | rfl | exact ok_c hq rfl | exact ok_w hq hw | exact ok_w (by omega) (by omega) | exact ok_s (by omega) (by omega) | exact ok_c (by omega) rfl | assumption) (Nat.le_of_ble_eq_true rfl) (by omega) (fun r h' hr => ?_)
      obtain ⟨he9, rfl⟩ := hr
      rw [he9]
      clear he9 h'
      rw [hT]
      show V _ _ _ (40 + 3) _ (_ :: _) _
      refine v_ifb_eq hC (pc := 43) (tgt := 50) dX7_sideNow_43 (by decide) (fun c_43 => ?_) (fun c_43 => ?_)
      · skip
        have hR : ¬ isL T t e (wdL 2) := fun z => c_43 ((is5_iff ht het).mpr z).2
        refine v_bipush hC (pc := 50) (v := (-4)) (by decide +kernel) dX7_sideNow_50 ?_
        refine v_iret hC hX (pc := 52) dX7_sideNow_52 ?_
        refine ⟨rfl, ?_⟩
        unfold sdN2
        first | (rw [iteP_t hL]; rfl) | (rw [iteP_f hL, iteP_t hR]; rfl) | (rw [iteP_f hL, iteP_f hR]; rfl)
      · skip
        have hR : isL T t e (wdL 2) := (is5_iff ht het).mp ⟨c_33, c_43⟩
        refine v_iconst hC (pc := 46) (v := 1) (by decide) dX7_sideNow_46 ?_
        refine v_goto hC (pc := 47) (tgt := 52) dX7_sideNow_47 (by decide) ?_
        refine v_iret hC hX (pc := 52) dX7_sideNow_52 ?_
        refine ⟨rfl, ?_⟩
        unfold sdN2
        first | (rw [iteP_t hL]; rfl) | (rw [iteP_f hL, iteP_t hR]; rfl) | (rw [iteP_f hL, iteP_f hR]; rfl)
  · skip
    have hL : isL T t e (wdL 1) := (is4_iff ht het).mp c_13
    refine v_iconst hC (pc := 16) (v := 0) (by decide) dX7_sideNow_16 ?_
    refine v_goto hC (pc := 17) (tgt := 52) dX7_sideNow_17 (by decide) ?_
    refine v_iret hC hX (pc := 52) dX7_sideNow_52 ?_
    refine ⟨rfl, ?_⟩
    unfold sdN2
    first | (rw [iteP_t hL]; rfl) | (rw [iteP_f hL, iteP_t hR]; rfl) | (rw [iteP_f hL, iteP_f hR]; rfl)

set_option maxRecDepth 20000 in
set_option maxHeartbeats 2000000 in
theorem m_lineNow (l9 : Launch) (G : WT) {d : Nat} (hd : 4 ≤ d) (h : HP) {T : Nat → Int32} {t e : Nat} (ht : t ≤ 160) (htp : h.1 (3, 0, 0) 12 = nI t) (hT : h.1 (3, 0, 12) = T) (hq3 : h.1 (3, 0, 0) 13 = nI (tE T t e)) (hq4 : h.1 (3, 0, 0) 14 = nI (tF T t e)) (het : e ≤ t) : MS l9 G yX7_lineNow cX7_lineNow 1 (some .int) d [vr (3, 0, 0)] h (fun r h1 => h1 = h ∧ r = some (vi (oV (lrN T t e)))) := by
  refine MS_of (by decide +kernel) (Nat.le_of_ble_eq_true rfl) (fun X hC hX => ?_)
  show V X G 1 0 _ [] _
  have hf200 : tF T t e ≤ 200 := by have := (tF_b (T := T) het).2; omega
  refine v_aload_n hC (pc := 0) (k := 0) 0 rfl dX7_lineNow_0 ?_
  refine v_callV hC (pc := 1) (As := []) dX7_lineNow_1 rfl (m_sideNow _ _ (d := d - 1) (by omega) _ ht htp hT hq3 hq4 het) cv_X7_115 rfl (by decide) rfl (by first | rfl | exact ok_c hq rfl | exact ok_w hq hw | exact ok_w (by omega) (by omega) | exact ok_s (by omega) (by omega) | exact ok_c (by omega) rfl | assumption) (Nat.le_of_ble_eq_true rfl) (by omega) (fun r h' hr => ?_)
  obtain ⟨he9, rfl⟩ := hr
  rw [he9]
  clear he9 h'
  show V _ _ _ (1 + 3) _ (_ :: _) _
  refine v_bipush hC (pc := 4) (v := (-4)) (by decide +kernel) dX7_lineNow_4 ?_
  refine v_icmp_eq hC (pc := 6) (tgt := 14) dX7_lineNow_6 (by decide) (fun c_6 => ?_) (fun c_6 => ?_)
  · skip
    have w1 : ¬ isL T t e (wdL 1) := fun z => by unfold sdN2 at c_6; rw [iteP_t z] at c_6; exact absurd c_6 (by decide)
    have w2 : ¬ isL T t e (wdL 2) := fun z => by unfold sdN2 at c_6; rw [iteP_f w1, iteP_t z] at c_6; exact absurd c_6 (by decide)
    refine v_aload_n hC (pc := 14) (k := 0) 0 rfl dX7_lineNow_14 ?_
    refine v_iconst hC (pc := 15) (v := 4) (by decide) dX7_lineNow_15 ?_
    refine v_bipush hC (pc := 16) (v := 99) (by decide +kernel) dX7_lineNow_16 ?_
    refine v_bipush hC (pc := 18) (v := 105) (by decide +kernel) dX7_lineNow_18 ?_
    refine v_bipush hC (pc := 20) (v := 116) (by decide +kernel) dX7_lineNow_20 ?_
    refine v_bipush hC (pc := 22) (v := 121) (by decide +kernel) dX7_lineNow_22 ?_
    refine v_callV hC (pc := 24) (As := [_, _, _, _, _]) dX7_lineNow_24 rfl (m_is _ _ (d := d - 1) (by omega) _ ht htp hq4 hf200 4 99 105 116 121) cv_X7_107 rfl (by decide) rfl (by first | rfl | exact ok_c hq rfl | exact ok_w hq hw | exact ok_w (by omega) (by omega) | exact ok_s (by omega) (by omega) | exact ok_c (by omega) rfl | assumption) (Nat.le_of_ble_eq_true rfl) (by omega) (fun r h' hr => ?_)
    obtain ⟨he9, rfl⟩ := hr
    rw [he9]
    clear he9 h'
    rw [hq3, hT]
    show V _ _ _ (24 + 3) _ (_ :: _) _
    refine v_ifb_eq hC (pc := 27) (tgt := 32) dX7_lineNow_27 (by decide) (fun c_27 => ?_) (fun c_27 => ?_)
    · skip
      have w0 : ¬ isL T t e (wdL 0) := fun z => c_27 ((is4_iff ht het).mpr z)
      refine v_aload_n hC (pc := 32) (k := 0) 0 rfl dX7_lineNow_32 ?_
      refine v_iconst hC (pc := 33) (v := 4) (by decide) dX7_lineNow_33 ?_
      refine v_bipush hC (pc := 34) (v := 104) (by decide +kernel) dX7_lineNow_34 ?_
      refine v_bipush hC (pc := 36) (v := 111) (by decide +kernel) dX7_lineNow_36 ?_
      refine v_bipush hC (pc := 38) (v := 117) (by decide +kernel) dX7_lineNow_38 ?_
      refine v_bipush hC (pc := 40) (v := 114) (by decide +kernel) dX7_lineNow_40 ?_
      refine v_callV hC (pc := 42) (As := [_, _, _, _, _]) dX7_lineNow_42 rfl (m_is _ _ (d := d - 1) (by omega) _ ht htp hq4 hf200 4 104 111 117 114) cv_X7_107 rfl (by decide) rfl (by first | rfl | exact ok_c hq rfl | exact ok_w hq hw | exact ok_w (by omega) (by omega) | exact ok_s (by omega) (by omega) | exact ok_c (by omega) rfl | assumption) (Nat.le_of_ble_eq_true rfl) (by omega) (fun r h' hr => ?_)
      obtain ⟨he9, rfl⟩ := hr
      rw [he9]
      clear he9 h'
      rw [hq3, hT]
      show V _ _ _ (42 + 3) _ (_ :: _) _
      refine v_ifb_eq hC (pc := 45) (tgt := 50) dX7_lineNow_45 (by decide) (fun c_45 => ?_) (fun c_45 => ?_)
      · skip
        have w4 : ¬ isL T t e (wdL 4) := fun z => c_45 ((is4_iff ht het).mpr z)
        refine v_aload_n hC (pc := 50) (k := 0) 0 rfl dX7_lineNow_50 ?_
        refine v_bipush hC (pc := 51) (v := 6) (by decide +kernel) dX7_lineNow_51 ?_
        refine v_bipush hC (pc := 53) (v := 103) (by decide +kernel) dX7_lineNow_53 ?_
        refine v_bipush hC (pc := 55) (v := 108) (by decide +kernel) dX7_lineNow_55 ?_
        refine v_bipush hC (pc := 57) (v := 111) (by decide +kernel) dX7_lineNow_57 ?_
        refine v_bipush hC (pc := 59) (v := 118) (by decide +kernel) dX7_lineNow_59 ?_
        refine v_callV hC (pc := 61) (As := [_, _, _, _, _]) dX7_lineNow_61 rfl (m_is _ _ (d := d - 1) (by omega) _ ht htp hq4 hf200 6 103 108 111 118) cv_X7_107 rfl (by decide) rfl (by first | rfl | exact ok_c hq rfl | exact ok_w hq hw | exact ok_w (by omega) (by omega) | exact ok_s (by omega) (by omega) | exact ok_c (by omega) rfl | assumption) (Nat.le_of_ble_eq_true rfl) (by omega) (fun r h' hr => ?_)
        obtain ⟨he9, rfl⟩ := hr
        rw [he9]
        clear he9 h'
        rw [hq3, hT]
        show V _ _ _ (61 + 3) _ (_ :: _) _
        refine v_ifb_eq hC (pc := 64) (tgt := 80) dX7_lineNow_64 (by decide) (fun c_64 => ?_) (fun c_64 => ?_)
        · skip
          have w7 : ¬ isL T t e (wdL 7) := fun z => c_64 ((is6_iff ht het (by decide)).mpr z).1
          refine v_aload_n hC (pc := 80) (k := 0) 0 rfl dX7_lineNow_80 ?_
          refine v_iconst hC (pc := 81) (v := 4) (by decide) dX7_lineNow_81 ?_
          refine v_bipush hC (pc := 82) (v := 115) (by decide +kernel) dX7_lineNow_82 ?_
          refine v_bipush hC (pc := 84) (v := 105) (by decide +kernel) dX7_lineNow_84 ?_
          refine v_bipush hC (pc := 86) (v := 103) (by decide +kernel) dX7_lineNow_86 ?_
          refine v_bipush hC (pc := 88) (v := 110) (by decide +kernel) dX7_lineNow_88 ?_
          refine v_callV hC (pc := 90) (As := [_, _, _, _, _]) dX7_lineNow_90 rfl (m_is _ _ (d := d - 1) (by omega) _ ht htp hq4 hf200 4 115 105 103 110) cv_X7_107 rfl (by decide) rfl (by first | rfl | exact ok_c hq rfl | exact ok_w hq hw | exact ok_w (by omega) (by omega) | exact ok_s (by omega) (by omega) | exact ok_c (by omega) rfl | assumption) (Nat.le_of_ble_eq_true rfl) (by omega) (fun r h' hr => ?_)
          obtain ⟨he9, rfl⟩ := hr
          rw [he9]
          clear he9 h'
          rw [hq3, hT]
          show V _ _ _ (90 + 3) _ (_ :: _) _
          refine v_ifb_eq hC (pc := 93) (tgt := 98) dX7_lineNow_93 (by decide) (fun c_93 => ?_) (fun c_93 => ?_)
          · skip
            have w3 : ¬ isL T t e (wdL 3) := fun z => c_93 ((is4_iff ht het).mpr z)
            refine v_aload_n hC (pc := 98) (k := 0) 0 rfl dX7_lineNow_98 ?_
            refine v_bipush hC (pc := 99) (v := 6) (by decide +kernel) dX7_lineNow_99 ?_
            refine v_bipush hC (pc := 101) (v := 119) (by decide +kernel) dX7_lineNow_101 ?_
            refine v_bipush hC (pc := 103) (v := 97) (by decide +kernel) dX7_lineNow_103 ?_
            refine v_bipush hC (pc := 105) (v := 108) (by decide +kernel) dX7_lineNow_105 ?_
            refine v_bipush hC (pc := 107) (v := 107) (by decide +kernel) dX7_lineNow_107 ?_
            refine v_callV hC (pc := 109) (As := [_, _, _, _, _]) dX7_lineNow_109 rfl (m_is _ _ (d := d - 1) (by omega) _ ht htp hq4 hf200 6 119 97 108 107) cv_X7_107 rfl (by decide) rfl (by first | rfl | exact ok_c hq rfl | exact ok_w hq hw | exact ok_w (by omega) (by omega) | exact ok_s (by omega) (by omega) | exact ok_c (by omega) rfl | assumption) (Nat.le_of_ble_eq_true rfl) (by omega) (fun r h' hr => ?_)
            obtain ⟨he9, rfl⟩ := hr
            rw [he9]
            clear he9 h'
            rw [hq3, hT]
            show V _ _ _ (109 + 3) _ (_ :: _) _
            refine v_ifb_eq hC (pc := 112) (tgt := 131) dX7_lineNow_112 (by decide) (fun c_112 => ?_) (fun c_112 => ?_)
            · skip
              have w5 : ¬ isL T t e (wdL 5) := fun z => c_112 ((is6_iff ht het (by decide)).mpr z).1
              refine v_aload_n hC (pc := 131) (k := 0) 0 rfl dX7_lineNow_131 ?_
              refine v_bipush hC (pc := 132) (v := 6) (by decide +kernel) dX7_lineNow_132 ?_
              refine v_bipush hC (pc := 134) (v := 107) (by decide +kernel) dX7_lineNow_134 ?_
              refine v_bipush hC (pc := 136) (v := 101) (by decide +kernel) dX7_lineNow_136 ?_
              refine v_bipush hC (pc := 138) (v := 101) (by decide +kernel) dX7_lineNow_138 ?_
              refine v_bipush hC (pc := 140) (v := 112) (by decide +kernel) dX7_lineNow_140 ?_
              refine v_callV hC (pc := 142) (As := [_, _, _, _, _]) dX7_lineNow_142 rfl (m_is _ _ (d := d - 1) (by omega) _ ht htp hq4 hf200 6 107 101 101 112) cv_X7_107 rfl (by decide) rfl (by first | rfl | exact ok_c hq rfl | exact ok_w hq hw | exact ok_w (by omega) (by omega) | exact ok_s (by omega) (by omega) | exact ok_c (by omega) rfl | assumption) (Nat.le_of_ble_eq_true rfl) (by omega) (fun r h' hr => ?_)
              obtain ⟨he9, rfl⟩ := hr
              rw [he9]
              clear he9 h'
              rw [hq3, hT]
              show V _ _ _ (142 + 3) _ (_ :: _) _
              refine v_ifb_eq hC (pc := 145) (tgt := 164) dX7_lineNow_145 (by decide) (fun c_145 => ?_) (fun c_145 => ?_)
              · skip
                have w6 : ¬ isL T t e (wdL 6) := fun z => c_145 ((is6_iff ht het (by decide)).mpr z).1
                refine v_bipush hC (pc := 164) (v := (-4)) (by decide +kernel) dX7_lineNow_164 ?_
                refine v_iret hC hX (pc := 166) dX7_lineNow_166 ?_
                refine ⟨rfl, ?_⟩
                unfold lrN
                first | (rw [iteP_f w1, iteP_f w2, iteP_t w0]; rfl) | (rw [iteP_f w1, iteP_f w2, iteP_f w0, iteP_t w4]; rfl) | (rw [iteP_f w1, iteP_f w2, iteP_f w0, iteP_f w4, iteP_t w7]; rfl) | (rw [iteP_f w1, iteP_f w2, iteP_f w0, iteP_f w4, iteP_f w7, iteP_t w3]; rfl) | (rw [iteP_f w1, iteP_f w2, iteP_f w0, iteP_f w4, iteP_f w7, iteP_f w3, iteP_t w5]; rfl) | (rw [iteP_f w1, iteP_f w2, iteP_f w0, iteP_f w4, iteP_f w7, iteP_f w3, iteP_f w5, iteP_t w6]; rfl) | (rw [iteP_f w1, iteP_f w2, iteP_f w0, iteP_f w4, iteP_f w7, iteP_f w3, iteP_f w5, iteP_f w6]; rfl)
              · skip
                refine v_aload_n hC (pc := 148) (k := 0) 0 rfl dX7_lineNow_148 ?_
                refine v_bipush hC (pc := 149) (v := 101) (by decide +kernel) dX7_lineNow_149 ?_
                refine v_bipush hC (pc := 151) (v := 114) (by decide +kernel) dX7_lineNow_151 ?_
                refine v_callV hC (pc := 153) (As := [_, _]) dX7_lineNow_153 rfl (m_ends _ _ (d := d - 1) (by omega) _ ht htp hq4 hf200 101 114) cv_X7_111 rfl (by decide) rfl (by first | rfl | exact ok_c hq rfl | exact ok_w hq hw | exact ok_w (by omega) (by omega) | exact ok_s (by omega) (by omega) | exact ok_c (by omega) rfl | assumption) (Nat.le_of_ble_eq_true rfl) (by omega) (fun r h' hr => ?_)
                obtain ⟨he9, rfl⟩ := hr
                rw [he9]
                clear he9 h'
                rw [hT]
                show V _ _ _ (153 + 3) _ (_ :: _) _
                refine v_ifb_eq hC (pc := 156) (tgt := 164) dX7_lineNow_156 (by decide) (fun c_156 => ?_) (fun c_156 => ?_)
                · skip
                  have w6 : ¬ isL T t e (wdL 6) := fun z => c_156 ((is6_iff ht het (by decide)).mpr z).2
                  refine v_bipush hC (pc := 164) (v := (-4)) (by decide +kernel) dX7_lineNow_164 ?_
                  refine v_iret hC hX (pc := 166) dX7_lineNow_166 ?_
                  refine ⟨rfl, ?_⟩
                  unfold lrN
                  first | (rw [iteP_f w1, iteP_f w2, iteP_t w0]; rfl) | (rw [iteP_f w1, iteP_f w2, iteP_f w0, iteP_t w4]; rfl) | (rw [iteP_f w1, iteP_f w2, iteP_f w0, iteP_f w4, iteP_t w7]; rfl) | (rw [iteP_f w1, iteP_f w2, iteP_f w0, iteP_f w4, iteP_f w7, iteP_t w3]; rfl) | (rw [iteP_f w1, iteP_f w2, iteP_f w0, iteP_f w4, iteP_f w7, iteP_f w3, iteP_t w5]; rfl) | (rw [iteP_f w1, iteP_f w2, iteP_f w0, iteP_f w4, iteP_f w7, iteP_f w3, iteP_f w5, iteP_t w6]; rfl) | (rw [iteP_f w1, iteP_f w2, iteP_f w0, iteP_f w4, iteP_f w7, iteP_f w3, iteP_f w5, iteP_f w6]; rfl)
                · skip
                  have w6 : isL T t e (wdL 6) := (is6_iff ht het (by decide)).mp ⟨c_145, c_156⟩
                  refine v_bipush hC (pc := 159) (v := 7) (by decide +kernel) dX7_lineNow_159 ?_
                  refine v_goto hC (pc := 161) (tgt := 166) dX7_lineNow_161 (by decide) ?_
                  refine v_iret hC hX (pc := 166) dX7_lineNow_166 ?_
                  refine ⟨rfl, ?_⟩
                  unfold lrN
                  first | (rw [iteP_f w1, iteP_f w2, iteP_t w0]; rfl) | (rw [iteP_f w1, iteP_f w2, iteP_f w0, iteP_t w4]; rfl) | (rw [iteP_f w1, iteP_f w2, iteP_f w0, iteP_f w4, iteP_t w7]; rfl) | (rw [iteP_f w1, iteP_f w2, iteP_f w0, iteP_f w4, iteP_f w7, iteP_t w3]; rfl) | (rw [iteP_f w1, iteP_f w2, iteP_f w0, iteP_f w4, iteP_f w7, iteP_f w3, iteP_t w5]; rfl) | (rw [iteP_f w1, iteP_f w2, iteP_f w0, iteP_f w4, iteP_f w7, iteP_f w3, iteP_f w5, iteP_t w6]; rfl) | (rw [iteP_f w1, iteP_f w2, iteP_f w0, iteP_f w4, iteP_f w7, iteP_f w3, iteP_f w5, iteP_f w6]; rfl)
            · skip
              refine v_aload_n hC (pc := 115) (k := 0) 0 rfl dX7_lineNow_115 ?_
              refine v_bipush hC (pc := 116) (v := 101) (by decide +kernel) dX7_lineNow_116 ?_
              refine v_bipush hC (pc := 118) (v := 114) (by decide +kernel) dX7_lineNow_118 ?_
              refine v_callV hC (pc := 120) (As := [_, _]) dX7_lineNow_120 rfl (m_ends _ _ (d := d - 1) (by omega) _ ht htp hq4 hf200 101 114) cv_X7_111 rfl (by decide) rfl (by first | rfl | exact ok_c hq rfl | exact ok_w hq hw | exact ok_w (by omega) (by omega) | exact ok_s (by omega) (by omega) | exact ok_c (by omega) rfl | assumption) (Nat.le_of_ble_eq_true rfl) (by omega) (fun r h' hr => ?_)
              obtain ⟨he9, rfl⟩ := hr
              rw [he9]
              clear he9 h'
              rw [hT]
              show V _ _ _ (120 + 3) _ (_ :: _) _
              refine v_ifb_eq hC (pc := 123) (tgt := 131) dX7_lineNow_123 (by decide) (fun c_123 => ?_) (fun c_123 => ?_)
              · skip
                have w5 : ¬ isL T t e (wdL 5) := fun z => c_123 ((is6_iff ht het (by decide)).mpr z).2
                refine v_aload_n hC (pc := 131) (k := 0) 0 rfl dX7_lineNow_131 ?_
                refine v_bipush hC (pc := 132) (v := 6) (by decide +kernel) dX7_lineNow_132 ?_
                refine v_bipush hC (pc := 134) (v := 107) (by decide +kernel) dX7_lineNow_134 ?_
                refine v_bipush hC (pc := 136) (v := 101) (by decide +kernel) dX7_lineNow_136 ?_
                refine v_bipush hC (pc := 138) (v := 101) (by decide +kernel) dX7_lineNow_138 ?_
                refine v_bipush hC (pc := 140) (v := 112) (by decide +kernel) dX7_lineNow_140 ?_
                refine v_callV hC (pc := 142) (As := [_, _, _, _, _]) dX7_lineNow_142 rfl (m_is _ _ (d := d - 1) (by omega) _ ht htp hq4 hf200 6 107 101 101 112) cv_X7_107 rfl (by decide) rfl (by first | rfl | exact ok_c hq rfl | exact ok_w hq hw | exact ok_w (by omega) (by omega) | exact ok_s (by omega) (by omega) | exact ok_c (by omega) rfl | assumption) (Nat.le_of_ble_eq_true rfl) (by omega) (fun r h' hr => ?_)
                obtain ⟨he9, rfl⟩ := hr
                rw [he9]
                clear he9 h'
                rw [hq3, hT]
                show V _ _ _ (142 + 3) _ (_ :: _) _
                refine v_ifb_eq hC (pc := 145) (tgt := 164) dX7_lineNow_145 (by decide) (fun c_145 => ?_) (fun c_145 => ?_)
                · skip
                  have w6 : ¬ isL T t e (wdL 6) := fun z => c_145 ((is6_iff ht het (by decide)).mpr z).1
                  refine v_bipush hC (pc := 164) (v := (-4)) (by decide +kernel) dX7_lineNow_164 ?_
                  refine v_iret hC hX (pc := 166) dX7_lineNow_166 ?_
                  refine ⟨rfl, ?_⟩
                  unfold lrN
                  first | (rw [iteP_f w1, iteP_f w2, iteP_t w0]; rfl) | (rw [iteP_f w1, iteP_f w2, iteP_f w0, iteP_t w4]; rfl) | (rw [iteP_f w1, iteP_f w2, iteP_f w0, iteP_f w4, iteP_t w7]; rfl) | (rw [iteP_f w1, iteP_f w2, iteP_f w0, iteP_f w4, iteP_f w7, iteP_t w3]; rfl) | (rw [iteP_f w1, iteP_f w2, iteP_f w0, iteP_f w4, iteP_f w7, iteP_f w3, iteP_t w5]; rfl) | (rw [iteP_f w1, iteP_f w2, iteP_f w0, iteP_f w4, iteP_f w7, iteP_f w3, iteP_f w5, iteP_t w6]; rfl) | (rw [iteP_f w1, iteP_f w2, iteP_f w0, iteP_f w4, iteP_f w7, iteP_f w3, iteP_f w5, iteP_f w6]; rfl)
                · skip
                  refine v_aload_n hC (pc := 148) (k := 0) 0 rfl dX7_lineNow_148 ?_
                  refine v_bipush hC (pc := 149) (v := 101) (by decide +kernel) dX7_lineNow_149 ?_
                  refine v_bipush hC (pc := 151) (v := 114) (by decide +kernel) dX7_lineNow_151 ?_
                  refine v_callV hC (pc := 153) (As := [_, _]) dX7_lineNow_153 rfl (m_ends _ _ (d := d - 1) (by omega) _ ht htp hq4 hf200 101 114) cv_X7_111 rfl (by decide) rfl (by first | rfl | exact ok_c hq rfl | exact ok_w hq hw | exact ok_w (by omega) (by omega) | exact ok_s (by omega) (by omega) | exact ok_c (by omega) rfl | assumption) (Nat.le_of_ble_eq_true rfl) (by omega) (fun r h' hr => ?_)
                  obtain ⟨he9, rfl⟩ := hr
                  rw [he9]
                  clear he9 h'
                  rw [hT]
                  show V _ _ _ (153 + 3) _ (_ :: _) _
                  refine v_ifb_eq hC (pc := 156) (tgt := 164) dX7_lineNow_156 (by decide) (fun c_156 => ?_) (fun c_156 => ?_)
                  · skip
                    have w6 : ¬ isL T t e (wdL 6) := fun z => c_156 ((is6_iff ht het (by decide)).mpr z).2
                    refine v_bipush hC (pc := 164) (v := (-4)) (by decide +kernel) dX7_lineNow_164 ?_
                    refine v_iret hC hX (pc := 166) dX7_lineNow_166 ?_
                    refine ⟨rfl, ?_⟩
                    unfold lrN
                    first | (rw [iteP_f w1, iteP_f w2, iteP_t w0]; rfl) | (rw [iteP_f w1, iteP_f w2, iteP_f w0, iteP_t w4]; rfl) | (rw [iteP_f w1, iteP_f w2, iteP_f w0, iteP_f w4, iteP_t w7]; rfl) | (rw [iteP_f w1, iteP_f w2, iteP_f w0, iteP_f w4, iteP_f w7, iteP_t w3]; rfl) | (rw [iteP_f w1, iteP_f w2, iteP_f w0, iteP_f w4, iteP_f w7, iteP_f w3, iteP_t w5]; rfl) | (rw [iteP_f w1, iteP_f w2, iteP_f w0, iteP_f w4, iteP_f w7, iteP_f w3, iteP_f w5, iteP_t w6]; rfl) | (rw [iteP_f w1, iteP_f w2, iteP_f w0, iteP_f w4, iteP_f w7, iteP_f w3, iteP_f w5, iteP_f w6]; rfl)
                  · skip
                    have w6 : isL T t e (wdL 6) := (is6_iff ht het (by decide)).mp ⟨c_145, c_156⟩
                    refine v_bipush hC (pc := 159) (v := 7) (by decide +kernel) dX7_lineNow_159 ?_
                    refine v_goto hC (pc := 161) (tgt := 166) dX7_lineNow_161 (by decide) ?_
                    refine v_iret hC hX (pc := 166) dX7_lineNow_166 ?_
                    refine ⟨rfl, ?_⟩
                    unfold lrN
                    first | (rw [iteP_f w1, iteP_f w2, iteP_t w0]; rfl) | (rw [iteP_f w1, iteP_f w2, iteP_f w0, iteP_t w4]; rfl) | (rw [iteP_f w1, iteP_f w2, iteP_f w0, iteP_f w4, iteP_t w7]; rfl) | (rw [iteP_f w1, iteP_f w2, iteP_f w0, iteP_f w4, iteP_f w7, iteP_t w3]; rfl) | (rw [iteP_f w1, iteP_f w2, iteP_f w0, iteP_f w4, iteP_f w7, iteP_f w3, iteP_t w5]; rfl) | (rw [iteP_f w1, iteP_f w2, iteP_f w0, iteP_f w4, iteP_f w7, iteP_f w3, iteP_f w5, iteP_t w6]; rfl) | (rw [iteP_f w1, iteP_f w2, iteP_f w0, iteP_f w4, iteP_f w7, iteP_f w3, iteP_f w5, iteP_f w6]; rfl)
              · skip
                have w5 : isL T t e (wdL 5) := (is6_iff ht het (by decide)).mp ⟨c_112, c_123⟩
                refine v_bipush hC (pc := 126) (v := 6) (by decide +kernel) dX7_lineNow_126 ?_
                refine v_goto hC (pc := 128) (tgt := 166) dX7_lineNow_128 (by decide) ?_
                refine v_iret hC hX (pc := 166) dX7_lineNow_166 ?_
                refine ⟨rfl, ?_⟩
                unfold lrN
                first | (rw [iteP_f w1, iteP_f w2, iteP_t w0]; rfl) | (rw [iteP_f w1, iteP_f w2, iteP_f w0, iteP_t w4]; rfl) | (rw [iteP_f w1, iteP_f w2, iteP_f w0, iteP_f w4, iteP_t w7]; rfl) | (rw [iteP_f w1, iteP_f w2, iteP_f w0, iteP_f w4, iteP_f w7, iteP_t w3]; rfl) | (rw [iteP_f w1, iteP_f w2, iteP_f w0, iteP_f w4, iteP_f w7, iteP_f w3, iteP_t w5]; rfl) | (rw [iteP_f w1, iteP_f w2, iteP_f w0, iteP_f w4, iteP_f w7, iteP_f w3, iteP_f w5, iteP_t w6]; rfl) | (rw [iteP_f w1, iteP_f w2, iteP_f w0, iteP_f w4, iteP_f w7, iteP_f w3, iteP_f w5, iteP_f w6]; rfl)
          · skip
            have w3 : isL T t e (wdL 3) := (is4_iff ht het).mp c_93
            refine v_iconst hC (pc := 96) (v := 5) (by decide) dX7_lineNow_96 ?_
            refine v_iret hC hX (pc := 97) dX7_lineNow_97 ?_
            refine ⟨rfl, ?_⟩
            unfold lrN
            first | (rw [iteP_f w1, iteP_f w2, iteP_t w0]; rfl) | (rw [iteP_f w1, iteP_f w2, iteP_f w0, iteP_t w4]; rfl) | (rw [iteP_f w1, iteP_f w2, iteP_f w0, iteP_f w4, iteP_t w7]; rfl) | (rw [iteP_f w1, iteP_f w2, iteP_f w0, iteP_f w4, iteP_f w7, iteP_t w3]; rfl) | (rw [iteP_f w1, iteP_f w2, iteP_f w0, iteP_f w4, iteP_f w7, iteP_f w3, iteP_t w5]; rfl) | (rw [iteP_f w1, iteP_f w2, iteP_f w0, iteP_f w4, iteP_f w7, iteP_f w3, iteP_f w5, iteP_t w6]; rfl) | (rw [iteP_f w1, iteP_f w2, iteP_f w0, iteP_f w4, iteP_f w7, iteP_f w3, iteP_f w5, iteP_f w6]; rfl)
        · skip
          refine v_aload_n hC (pc := 67) (k := 0) 0 rfl dX7_lineNow_67 ?_
          refine v_bipush hC (pc := 68) (v := 101) (by decide +kernel) dX7_lineNow_68 ?_
          refine v_bipush hC (pc := 70) (v := 115) (by decide +kernel) dX7_lineNow_70 ?_
          refine v_callV hC (pc := 72) (As := [_, _]) dX7_lineNow_72 rfl (m_ends _ _ (d := d - 1) (by omega) _ ht htp hq4 hf200 101 115) cv_X7_111 rfl (by decide) rfl (by first | rfl | exact ok_c hq rfl | exact ok_w hq hw | exact ok_w (by omega) (by omega) | exact ok_s (by omega) (by omega) | exact ok_c (by omega) rfl | assumption) (Nat.le_of_ble_eq_true rfl) (by omega) (fun r h' hr => ?_)
          obtain ⟨he9, rfl⟩ := hr
          rw [he9]
          clear he9 h'
          rw [hT]
          show V _ _ _ (72 + 3) _ (_ :: _) _
          refine v_ifb_eq hC (pc := 75) (tgt := 80) dX7_lineNow_75 (by decide) (fun c_75 => ?_) (fun c_75 => ?_)
          · skip
            have w7 : ¬ isL T t e (wdL 7) := fun z => c_75 ((is6_iff ht het (by decide)).mpr z).2
            refine v_aload_n hC (pc := 80) (k := 0) 0 rfl dX7_lineNow_80 ?_
            refine v_iconst hC (pc := 81) (v := 4) (by decide) dX7_lineNow_81 ?_
            refine v_bipush hC (pc := 82) (v := 115) (by decide +kernel) dX7_lineNow_82 ?_
            refine v_bipush hC (pc := 84) (v := 105) (by decide +kernel) dX7_lineNow_84 ?_
            refine v_bipush hC (pc := 86) (v := 103) (by decide +kernel) dX7_lineNow_86 ?_
            refine v_bipush hC (pc := 88) (v := 110) (by decide +kernel) dX7_lineNow_88 ?_
            refine v_callV hC (pc := 90) (As := [_, _, _, _, _]) dX7_lineNow_90 rfl (m_is _ _ (d := d - 1) (by omega) _ ht htp hq4 hf200 4 115 105 103 110) cv_X7_107 rfl (by decide) rfl (by first | rfl | exact ok_c hq rfl | exact ok_w hq hw | exact ok_w (by omega) (by omega) | exact ok_s (by omega) (by omega) | exact ok_c (by omega) rfl | assumption) (Nat.le_of_ble_eq_true rfl) (by omega) (fun r h' hr => ?_)
            obtain ⟨he9, rfl⟩ := hr
            rw [he9]
            clear he9 h'
            rw [hq3, hT]
            show V _ _ _ (90 + 3) _ (_ :: _) _
            refine v_ifb_eq hC (pc := 93) (tgt := 98) dX7_lineNow_93 (by decide) (fun c_93 => ?_) (fun c_93 => ?_)
            · skip
              have w3 : ¬ isL T t e (wdL 3) := fun z => c_93 ((is4_iff ht het).mpr z)
              refine v_aload_n hC (pc := 98) (k := 0) 0 rfl dX7_lineNow_98 ?_
              refine v_bipush hC (pc := 99) (v := 6) (by decide +kernel) dX7_lineNow_99 ?_
              refine v_bipush hC (pc := 101) (v := 119) (by decide +kernel) dX7_lineNow_101 ?_
              refine v_bipush hC (pc := 103) (v := 97) (by decide +kernel) dX7_lineNow_103 ?_
              refine v_bipush hC (pc := 105) (v := 108) (by decide +kernel) dX7_lineNow_105 ?_
              refine v_bipush hC (pc := 107) (v := 107) (by decide +kernel) dX7_lineNow_107 ?_
              refine v_callV hC (pc := 109) (As := [_, _, _, _, _]) dX7_lineNow_109 rfl (m_is _ _ (d := d - 1) (by omega) _ ht htp hq4 hf200 6 119 97 108 107) cv_X7_107 rfl (by decide) rfl (by first | rfl | exact ok_c hq rfl | exact ok_w hq hw | exact ok_w (by omega) (by omega) | exact ok_s (by omega) (by omega) | exact ok_c (by omega) rfl | assumption) (Nat.le_of_ble_eq_true rfl) (by omega) (fun r h' hr => ?_)
              obtain ⟨he9, rfl⟩ := hr
              rw [he9]
              clear he9 h'
              rw [hq3, hT]
              show V _ _ _ (109 + 3) _ (_ :: _) _
              refine v_ifb_eq hC (pc := 112) (tgt := 131) dX7_lineNow_112 (by decide) (fun c_112 => ?_) (fun c_112 => ?_)
              · skip
                have w5 : ¬ isL T t e (wdL 5) := fun z => c_112 ((is6_iff ht het (by decide)).mpr z).1
                refine v_aload_n hC (pc := 131) (k := 0) 0 rfl dX7_lineNow_131 ?_
                refine v_bipush hC (pc := 132) (v := 6) (by decide +kernel) dX7_lineNow_132 ?_
                refine v_bipush hC (pc := 134) (v := 107) (by decide +kernel) dX7_lineNow_134 ?_
                refine v_bipush hC (pc := 136) (v := 101) (by decide +kernel) dX7_lineNow_136 ?_
                refine v_bipush hC (pc := 138) (v := 101) (by decide +kernel) dX7_lineNow_138 ?_
                refine v_bipush hC (pc := 140) (v := 112) (by decide +kernel) dX7_lineNow_140 ?_
                refine v_callV hC (pc := 142) (As := [_, _, _, _, _]) dX7_lineNow_142 rfl (m_is _ _ (d := d - 1) (by omega) _ ht htp hq4 hf200 6 107 101 101 112) cv_X7_107 rfl (by decide) rfl (by first | rfl | exact ok_c hq rfl | exact ok_w hq hw | exact ok_w (by omega) (by omega) | exact ok_s (by omega) (by omega) | exact ok_c (by omega) rfl | assumption) (Nat.le_of_ble_eq_true rfl) (by omega) (fun r h' hr => ?_)
                obtain ⟨he9, rfl⟩ := hr
                rw [he9]
                clear he9 h'
                rw [hq3, hT]
                show V _ _ _ (142 + 3) _ (_ :: _) _
                refine v_ifb_eq hC (pc := 145) (tgt := 164) dX7_lineNow_145 (by decide) (fun c_145 => ?_) (fun c_145 => ?_)
                · skip
                  have w6 : ¬ isL T t e (wdL 6) := fun z => c_145 ((is6_iff ht het (by decide)).mpr z).1
                  refine v_bipush hC (pc := 164) (v := (-4)) (by decide +kernel) dX7_lineNow_164 ?_
                  refine v_iret hC hX (pc := 166) dX7_lineNow_166 ?_
                  refine ⟨rfl, ?_⟩
                  unfold lrN
                  first | (rw [iteP_f w1, iteP_f w2, iteP_t w0]; rfl) | (rw [iteP_f w1, iteP_f w2, iteP_f w0, iteP_t w4]; rfl) | (rw [iteP_f w1, iteP_f w2, iteP_f w0, iteP_f w4, iteP_t w7]; rfl) | (rw [iteP_f w1, iteP_f w2, iteP_f w0, iteP_f w4, iteP_f w7, iteP_t w3]; rfl) | (rw [iteP_f w1, iteP_f w2, iteP_f w0, iteP_f w4, iteP_f w7, iteP_f w3, iteP_t w5]; rfl) | (rw [iteP_f w1, iteP_f w2, iteP_f w0, iteP_f w4, iteP_f w7, iteP_f w3, iteP_f w5, iteP_t w6]; rfl) | (rw [iteP_f w1, iteP_f w2, iteP_f w0, iteP_f w4, iteP_f w7, iteP_f w3, iteP_f w5, iteP_f w6]; rfl)
                · skip
                  refine v_aload_n hC (pc := 148) (k := 0) 0 rfl dX7_lineNow_148 ?_
                  refine v_bipush hC (pc := 149) (v := 101) (by decide +kernel) dX7_lineNow_149 ?_
                  refine v_bipush hC (pc := 151) (v := 114) (by decide +kernel) dX7_lineNow_151 ?_
                  refine v_callV hC (pc := 153) (As := [_, _]) dX7_lineNow_153 rfl (m_ends _ _ (d := d - 1) (by omega) _ ht htp hq4 hf200 101 114) cv_X7_111 rfl (by decide) rfl (by first | rfl | exact ok_c hq rfl | exact ok_w hq hw | exact ok_w (by omega) (by omega) | exact ok_s (by omega) (by omega) | exact ok_c (by omega) rfl | assumption) (Nat.le_of_ble_eq_true rfl) (by omega) (fun r h' hr => ?_)
                  obtain ⟨he9, rfl⟩ := hr
                  rw [he9]
                  clear he9 h'
                  rw [hT]
                  show V _ _ _ (153 + 3) _ (_ :: _) _
                  refine v_ifb_eq hC (pc := 156) (tgt := 164) dX7_lineNow_156 (by decide) (fun c_156 => ?_) (fun c_156 => ?_)
                  · skip
                    have w6 : ¬ isL T t e (wdL 6) := fun z => c_156 ((is6_iff ht het (by decide)).mpr z).2
                    refine v_bipush hC (pc := 164) (v := (-4)) (by decide +kernel) dX7_lineNow_164 ?_
                    refine v_iret hC hX (pc := 166) dX7_lineNow_166 ?_
                    refine ⟨rfl, ?_⟩
                    unfold lrN
                    first | (rw [iteP_f w1, iteP_f w2, iteP_t w0]; rfl) | (rw [iteP_f w1, iteP_f w2, iteP_f w0, iteP_t w4]; rfl) | (rw [iteP_f w1, iteP_f w2, iteP_f w0, iteP_f w4, iteP_t w7]; rfl) | (rw [iteP_f w1, iteP_f w2, iteP_f w0, iteP_f w4, iteP_f w7, iteP_t w3]; rfl) | (rw [iteP_f w1, iteP_f w2, iteP_f w0, iteP_f w4, iteP_f w7, iteP_f w3, iteP_t w5]; rfl) | (rw [iteP_f w1, iteP_f w2, iteP_f w0, iteP_f w4, iteP_f w7, iteP_f w3, iteP_f w5, iteP_t w6]; rfl) | (rw [iteP_f w1, iteP_f w2, iteP_f w0, iteP_f w4, iteP_f w7, iteP_f w3, iteP_f w5, iteP_f w6]; rfl)
                  · skip
                    have w6 : isL T t e (wdL 6) := (is6_iff ht het (by decide)).mp ⟨c_145, c_156⟩
                    refine v_bipush hC (pc := 159) (v := 7) (by decide +kernel) dX7_lineNow_159 ?_
                    refine v_goto hC (pc := 161) (tgt := 166) dX7_lineNow_161 (by decide) ?_
                    refine v_iret hC hX (pc := 166) dX7_lineNow_166 ?_
                    refine ⟨rfl, ?_⟩
                    unfold lrN
                    first | (rw [iteP_f w1, iteP_f w2, iteP_t w0]; rfl) | (rw [iteP_f w1, iteP_f w2, iteP_f w0, iteP_t w4]; rfl) | (rw [iteP_f w1, iteP_f w2, iteP_f w0, iteP_f w4, iteP_t w7]; rfl) | (rw [iteP_f w1, iteP_f w2, iteP_f w0, iteP_f w4, iteP_f w7, iteP_t w3]; rfl) | (rw [iteP_f w1, iteP_f w2, iteP_f w0, iteP_f w4, iteP_f w7, iteP_f w3, iteP_t w5]; rfl) | (rw [iteP_f w1, iteP_f w2, iteP_f w0, iteP_f w4, iteP_f w7, iteP_f w3, iteP_f w5, iteP_t w6]; rfl) | (rw [iteP_f w1, iteP_f w2, iteP_f w0, iteP_f w4, iteP_f w7, iteP_f w3, iteP_f w5, iteP_f w6]; rfl)
              · skip
                refine v_aload_n hC (pc := 115) (k := 0) 0 rfl dX7_lineNow_115 ?_
                refine v_bipush hC (pc := 116) (v := 101) (by decide +kernel) dX7_lineNow_116 ?_
                refine v_bipush hC (pc := 118) (v := 114) (by decide +kernel) dX7_lineNow_118 ?_
                refine v_callV hC (pc := 120) (As := [_, _]) dX7_lineNow_120 rfl (m_ends _ _ (d := d - 1) (by omega) _ ht htp hq4 hf200 101 114) cv_X7_111 rfl (by decide) rfl (by first | rfl | exact ok_c hq rfl | exact ok_w hq hw | exact ok_w (by omega) (by omega) | exact ok_s (by omega) (by omega) | exact ok_c (by omega) rfl | assumption) (Nat.le_of_ble_eq_true rfl) (by omega) (fun r h' hr => ?_)
                obtain ⟨he9, rfl⟩ := hr
                rw [he9]
                clear he9 h'
                rw [hT]
                show V _ _ _ (120 + 3) _ (_ :: _) _
                refine v_ifb_eq hC (pc := 123) (tgt := 131) dX7_lineNow_123 (by decide) (fun c_123 => ?_) (fun c_123 => ?_)
                · skip
                  have w5 : ¬ isL T t e (wdL 5) := fun z => c_123 ((is6_iff ht het (by decide)).mpr z).2
                  refine v_aload_n hC (pc := 131) (k := 0) 0 rfl dX7_lineNow_131 ?_
                  refine v_bipush hC (pc := 132) (v := 6) (by decide +kernel) dX7_lineNow_132 ?_
                  refine v_bipush hC (pc := 134) (v := 107) (by decide +kernel) dX7_lineNow_134 ?_
                  refine v_bipush hC (pc := 136) (v := 101) (by decide +kernel) dX7_lineNow_136 ?_
                  refine v_bipush hC (pc := 138) (v := 101) (by decide +kernel) dX7_lineNow_138 ?_
                  refine v_bipush hC (pc := 140) (v := 112) (by decide +kernel) dX7_lineNow_140 ?_
                  refine v_callV hC (pc := 142) (As := [_, _, _, _, _]) dX7_lineNow_142 rfl (m_is _ _ (d := d - 1) (by omega) _ ht htp hq4 hf200 6 107 101 101 112) cv_X7_107 rfl (by decide) rfl (by first | rfl | exact ok_c hq rfl | exact ok_w hq hw | exact ok_w (by omega) (by omega) | exact ok_s (by omega) (by omega) | exact ok_c (by omega) rfl | assumption) (Nat.le_of_ble_eq_true rfl) (by omega) (fun r h' hr => ?_)
                  obtain ⟨he9, rfl⟩ := hr
                  rw [he9]
                  clear he9 h'
                  rw [hq3, hT]
                  show V _ _ _ (142 + 3) _ (_ :: _) _
                  refine v_ifb_eq hC (pc := 145) (tgt := 164) dX7_lineNow_145 (by decide) (fun c_145 => ?_) (fun c_145 => ?_)
                  · skip
                    have w6 : ¬ isL T t e (wdL 6) := fun z => c_145 ((is6_iff ht het (by decide)).mpr z).1
                    refine v_bipush hC (pc := 164) (v := (-4)) (by decide +kernel) dX7_lineNow_164 ?_
                    refine v_iret hC hX (pc := 166) dX7_lineNow_166 ?_
                    refine ⟨rfl, ?_⟩
                    unfold lrN
                    first | (rw [iteP_f w1, iteP_f w2, iteP_t w0]; rfl) | (rw [iteP_f w1, iteP_f w2, iteP_f w0, iteP_t w4]; rfl) | (rw [iteP_f w1, iteP_f w2, iteP_f w0, iteP_f w4, iteP_t w7]; rfl) | (rw [iteP_f w1, iteP_f w2, iteP_f w0, iteP_f w4, iteP_f w7, iteP_t w3]; rfl) | (rw [iteP_f w1, iteP_f w2, iteP_f w0, iteP_f w4, iteP_f w7, iteP_f w3, iteP_t w5]; rfl) | (rw [iteP_f w1, iteP_f w2, iteP_f w0, iteP_f w4, iteP_f w7, iteP_f w3, iteP_f w5, iteP_t w6]; rfl) | (rw [iteP_f w1, iteP_f w2, iteP_f w0, iteP_f w4, iteP_f w7, iteP_f w3, iteP_f w5, iteP_f w6]; rfl)
                  · skip
                    refine v_aload_n hC (pc := 148) (k := 0) 0 rfl dX7_lineNow_148 ?_
                    refine v_bipush hC (pc := 149) (v := 101) (by decide +kernel) dX7_lineNow_149 ?_
                    refine v_bipush hC (pc := 151) (v := 114) (by decide +kernel) dX7_lineNow_151 ?_
                    refine v_callV hC (pc := 153) (As := [_, _]) dX7_lineNow_153 rfl (m_ends _ _ (d := d - 1) (by omega) _ ht htp hq4 hf200 101 114) cv_X7_111 rfl (by decide) rfl (by first | rfl | exact ok_c hq rfl | exact ok_w hq hw | exact ok_w (by omega) (by omega) | exact ok_s (by omega) (by omega) | exact ok_c (by omega) rfl | assumption) (Nat.le_of_ble_eq_true rfl) (by omega) (fun r h' hr => ?_)
                    obtain ⟨he9, rfl⟩ := hr
                    rw [he9]
                    clear he9 h'
                    rw [hT]
                    show V _ _ _ (153 + 3) _ (_ :: _) _
                    refine v_ifb_eq hC (pc := 156) (tgt := 164) dX7_lineNow_156 (by decide) (fun c_156 => ?_) (fun c_156 => ?_)
                    · skip
                      have w6 : ¬ isL T t e (wdL 6) := fun z => c_156 ((is6_iff ht het (by decide)).mpr z).2
                      refine v_bipush hC (pc := 164) (v := (-4)) (by decide +kernel) dX7_lineNow_164 ?_
                      refine v_iret hC hX (pc := 166) dX7_lineNow_166 ?_
                      refine ⟨rfl, ?_⟩
                      unfold lrN
                      first | (rw [iteP_f w1, iteP_f w2, iteP_t w0]; rfl) | (rw [iteP_f w1, iteP_f w2, iteP_f w0, iteP_t w4]; rfl) | (rw [iteP_f w1, iteP_f w2, iteP_f w0, iteP_f w4, iteP_t w7]; rfl) | (rw [iteP_f w1, iteP_f w2, iteP_f w0, iteP_f w4, iteP_f w7, iteP_t w3]; rfl) | (rw [iteP_f w1, iteP_f w2, iteP_f w0, iteP_f w4, iteP_f w7, iteP_f w3, iteP_t w5]; rfl) | (rw [iteP_f w1, iteP_f w2, iteP_f w0, iteP_f w4, iteP_f w7, iteP_f w3, iteP_f w5, iteP_t w6]; rfl) | (rw [iteP_f w1, iteP_f w2, iteP_f w0, iteP_f w4, iteP_f w7, iteP_f w3, iteP_f w5, iteP_f w6]; rfl)
                    · skip
                      have w6 : isL T t e (wdL 6) := (is6_iff ht het (by decide)).mp ⟨c_145, c_156⟩
                      refine v_bipush hC (pc := 159) (v := 7) (by decide +kernel) dX7_lineNow_159 ?_
                      refine v_goto hC (pc := 161) (tgt := 166) dX7_lineNow_161 (by decide) ?_
                      refine v_iret hC hX (pc := 166) dX7_lineNow_166 ?_
                      refine ⟨rfl, ?_⟩
                      unfold lrN
                      first | (rw [iteP_f w1, iteP_f w2, iteP_t w0]; rfl) | (rw [iteP_f w1, iteP_f w2, iteP_f w0, iteP_t w4]; rfl) | (rw [iteP_f w1, iteP_f w2, iteP_f w0, iteP_f w4, iteP_t w7]; rfl) | (rw [iteP_f w1, iteP_f w2, iteP_f w0, iteP_f w4, iteP_f w7, iteP_t w3]; rfl) | (rw [iteP_f w1, iteP_f w2, iteP_f w0, iteP_f w4, iteP_f w7, iteP_f w3, iteP_t w5]; rfl) | (rw [iteP_f w1, iteP_f w2, iteP_f w0, iteP_f w4, iteP_f w7, iteP_f w3, iteP_f w5, iteP_t w6]; rfl) | (rw [iteP_f w1, iteP_f w2, iteP_f w0, iteP_f w4, iteP_f w7, iteP_f w3, iteP_f w5, iteP_f w6]; rfl)
                · skip
                  have w5 : isL T t e (wdL 5) := (is6_iff ht het (by decide)).mp ⟨c_112, c_123⟩
                  refine v_bipush hC (pc := 126) (v := 6) (by decide +kernel) dX7_lineNow_126 ?_
                  refine v_goto hC (pc := 128) (tgt := 166) dX7_lineNow_128 (by decide) ?_
                  refine v_iret hC hX (pc := 166) dX7_lineNow_166 ?_
                  refine ⟨rfl, ?_⟩
                  unfold lrN
                  first | (rw [iteP_f w1, iteP_f w2, iteP_t w0]; rfl) | (rw [iteP_f w1, iteP_f w2, iteP_f w0, iteP_t w4]; rfl) | (rw [iteP_f w1, iteP_f w2, iteP_f w0, iteP_f w4, iteP_t w7]; rfl) | (rw [iteP_f w1, iteP_f w2, iteP_f w0, iteP_f w4, iteP_f w7, iteP_t w3]; rfl) | (rw [iteP_f w1, iteP_f w2, iteP_f w0, iteP_f w4, iteP_f w7, iteP_f w3, iteP_t w5]; rfl) | (rw [iteP_f w1, iteP_f w2, iteP_f w0, iteP_f w4, iteP_f w7, iteP_f w3, iteP_f w5, iteP_t w6]; rfl) | (rw [iteP_f w1, iteP_f w2, iteP_f w0, iteP_f w4, iteP_f w7, iteP_f w3, iteP_f w5, iteP_f w6]; rfl)
            · skip
              have w3 : isL T t e (wdL 3) := (is4_iff ht het).mp c_93
              refine v_iconst hC (pc := 96) (v := 5) (by decide) dX7_lineNow_96 ?_
              refine v_iret hC hX (pc := 97) dX7_lineNow_97 ?_
              refine ⟨rfl, ?_⟩
              unfold lrN
              first | (rw [iteP_f w1, iteP_f w2, iteP_t w0]; rfl) | (rw [iteP_f w1, iteP_f w2, iteP_f w0, iteP_t w4]; rfl) | (rw [iteP_f w1, iteP_f w2, iteP_f w0, iteP_f w4, iteP_t w7]; rfl) | (rw [iteP_f w1, iteP_f w2, iteP_f w0, iteP_f w4, iteP_f w7, iteP_t w3]; rfl) | (rw [iteP_f w1, iteP_f w2, iteP_f w0, iteP_f w4, iteP_f w7, iteP_f w3, iteP_t w5]; rfl) | (rw [iteP_f w1, iteP_f w2, iteP_f w0, iteP_f w4, iteP_f w7, iteP_f w3, iteP_f w5, iteP_t w6]; rfl) | (rw [iteP_f w1, iteP_f w2, iteP_f w0, iteP_f w4, iteP_f w7, iteP_f w3, iteP_f w5, iteP_f w6]; rfl)
          · skip
            have w7 : isL T t e (wdL 7) := (is6_iff ht het (by decide)).mp ⟨c_64, c_75⟩
            refine v_iconst hC (pc := 78) (v := 4) (by decide) dX7_lineNow_78 ?_
            refine v_iret hC hX (pc := 79) dX7_lineNow_79 ?_
            refine ⟨rfl, ?_⟩
            unfold lrN
            first | (rw [iteP_f w1, iteP_f w2, iteP_t w0]; rfl) | (rw [iteP_f w1, iteP_f w2, iteP_f w0, iteP_t w4]; rfl) | (rw [iteP_f w1, iteP_f w2, iteP_f w0, iteP_f w4, iteP_t w7]; rfl) | (rw [iteP_f w1, iteP_f w2, iteP_f w0, iteP_f w4, iteP_f w7, iteP_t w3]; rfl) | (rw [iteP_f w1, iteP_f w2, iteP_f w0, iteP_f w4, iteP_f w7, iteP_f w3, iteP_t w5]; rfl) | (rw [iteP_f w1, iteP_f w2, iteP_f w0, iteP_f w4, iteP_f w7, iteP_f w3, iteP_f w5, iteP_t w6]; rfl) | (rw [iteP_f w1, iteP_f w2, iteP_f w0, iteP_f w4, iteP_f w7, iteP_f w3, iteP_f w5, iteP_f w6]; rfl)
      · skip
        have w4 : isL T t e (wdL 4) := (is4_iff ht het).mp c_45
        refine v_iconst hC (pc := 48) (v := 3) (by decide) dX7_lineNow_48 ?_
        refine v_iret hC hX (pc := 49) dX7_lineNow_49 ?_
        refine ⟨rfl, ?_⟩
        unfold lrN
        first | (rw [iteP_f w1, iteP_f w2, iteP_t w0]; rfl) | (rw [iteP_f w1, iteP_f w2, iteP_f w0, iteP_t w4]; rfl) | (rw [iteP_f w1, iteP_f w2, iteP_f w0, iteP_f w4, iteP_t w7]; rfl) | (rw [iteP_f w1, iteP_f w2, iteP_f w0, iteP_f w4, iteP_f w7, iteP_t w3]; rfl) | (rw [iteP_f w1, iteP_f w2, iteP_f w0, iteP_f w4, iteP_f w7, iteP_f w3, iteP_t w5]; rfl) | (rw [iteP_f w1, iteP_f w2, iteP_f w0, iteP_f w4, iteP_f w7, iteP_f w3, iteP_f w5, iteP_t w6]; rfl) | (rw [iteP_f w1, iteP_f w2, iteP_f w0, iteP_f w4, iteP_f w7, iteP_f w3, iteP_f w5, iteP_f w6]; rfl)
    · skip
      have w0 : isL T t e (wdL 0) := (is4_iff ht het).mp c_27
      refine v_iconst hC (pc := 30) (v := 2) (by decide) dX7_lineNow_30 ?_
      refine v_iret hC hX (pc := 31) dX7_lineNow_31 ?_
      refine ⟨rfl, ?_⟩
      unfold lrN
      first | (rw [iteP_f w1, iteP_f w2, iteP_t w0]; rfl) | (rw [iteP_f w1, iteP_f w2, iteP_f w0, iteP_t w4]; rfl) | (rw [iteP_f w1, iteP_f w2, iteP_f w0, iteP_f w4, iteP_t w7]; rfl) | (rw [iteP_f w1, iteP_f w2, iteP_f w0, iteP_f w4, iteP_f w7, iteP_t w3]; rfl) | (rw [iteP_f w1, iteP_f w2, iteP_f w0, iteP_f w4, iteP_f w7, iteP_f w3, iteP_t w5]; rfl) | (rw [iteP_f w1, iteP_f w2, iteP_f w0, iteP_f w4, iteP_f w7, iteP_f w3, iteP_f w5, iteP_t w6]; rfl) | (rw [iteP_f w1, iteP_f w2, iteP_f w0, iteP_f w4, iteP_f w7, iteP_f w3, iteP_f w5, iteP_f w6]; rfl)
  · skip
    have hs9 : lrN T t e = sdN2 T t e := by
      unfold lrN sdN2
      unfold sdN2 at c_6
      rcases Classical.em (isL T t e (wdL 1)) with w1 | w1
      · rw [iteP_t w1, iteP_t w1]
      · rw [iteP_f w1, iteP_f w1]
        rcases Classical.em (isL T t e (wdL 2)) with w2 | w2
        · rw [iteP_t w2, iteP_t w2]
        · rw [iteP_f w1, iteP_f w2] at c_6; exact absurd rfl c_6
    refine v_aload_n hC (pc := 9) (k := 0) 0 rfl dX7_lineNow_9 ?_
    refine v_callV hC (pc := 10) (As := []) dX7_lineNow_10 rfl (m_sideNow _ _ (d := d - 1) (by omega) _ ht htp hT hq3 hq4 het) cv_X7_115 rfl (by decide) rfl (by first | rfl | exact ok_c hq rfl | exact ok_w hq hw | exact ok_w (by omega) (by omega) | exact ok_s (by omega) (by omega) | exact ok_c (by omega) rfl | assumption) (Nat.le_of_ble_eq_true rfl) (by omega) (fun r h' hr => ?_)
    obtain ⟨he9, rfl⟩ := hr
    rw [he9]
    clear he9 h'
    show V _ _ _ (10 + 3) _ (_ :: _) _
    refine v_iret hC hX (pc := 13) dX7_lineNow_13 ?_
    exact ⟨rfl, by rw [hs9]⟩

