/-! SMALL WORDS for the contracts -/
def bI (p : Prop) [Decidable p] : Int32 := if p then 1 else 0
theorem bI_01 (p : Prop) [Decidable p] : bI p = 0 ∨ bI p = 1 := by
  unfold bI
  by_cases h : p
  · rw [if_pos h]; exact Or.inr rfl
  · rw [if_neg h]; exact Or.inl rfl
theorem bI_t {p : Prop} [Decidable p] (h : p) : bI p = 1 := if_pos h
theorem bI_f {p : Prop} [Decidable p] (h : ¬ p) : bI p = 0 := if_neg h
theorem bI_0 {p : Prop} [Decidable p] : bI p = 0 ↔ ¬ p := by
  by_cases h : p
  · rw [bI_t h]; exact ⟨fun q => absurd q (by decide), fun q => absurd h q⟩
  · rw [bI_f h]; exact ⟨fun _ => h, fun _ => rfl⟩
theorem bI_1 {p : Prop} [Decidable p] : bI p = 1 ↔ p := by
  by_cases h : p
  · rw [bI_t h]; exact ⟨fun _ => h, fun _ => rfl⟩
  · rw [bI_f h]; exact ⟨fun q => absurd q (by decide), fun q => absurd q h⟩
theorem bI_cong {p q : Prop} [Decidable p] [Decidable q] (h : p ↔ q) : bI p = bI q := by
  by_cases hp : p
  · rw [bI_t hp, bI_t (h.mp hp)]
  · rw [bI_f hp, bI_f (fun z => hp (h.mpr z))]
theorem nar_b {x : Int32} (h : x = 0 ∨ x = 1) : narrow .boolean (.int x) = .int x := by
  rcases h with rfl | rfl <;> rfl
/-- an answer that is a truth, by its cases -/
theorem rb_t {p : Prop} [Decidable p] {h : HP} (hp : p) : h = h ∧ some (vi 1) = some (vi (bI p)) := ⟨rfl, by rw [bI_t hp]⟩
theorem rb_f {p : Prop} [Decidable p] {h : HP} (hp : ¬ p) : h = h ∧ some (vi 0) = some (vi (bI p)) := ⟨rfl, by rw [bI_f hp]⟩
theorem vp_lt {x : Int32} {n : Nat} (h0 : ¬ x < 0) (h1 : ¬ nI n ≤ x) (hn : n < 2 ^ 31) : vp_in x n := by
  rw [Int32.lt_iff_toInt_lt] at h0
  rw [Int32.le_iff_toInt_le, nI_toInt hn] at h1
  rw [vp_in_iff]
  have := Int32.toInt_zero
  omega
theorem vp_nat {n N : Nat} (h : n < N) (hN : N < 2 ^ 31) : vp_in (nI n) N := vp_in_nI h hN
section VB
variable {X : CT} {G : WT} {l9 : Launch} {own : String} {cc : ByteArray} {nL d pc : Nat} {l : List (Nat × PV)} {rest : List PV} {h : HP}
theorem v_ifb_eq (hC : Cx X G l9 own cc nL d) {p : Prop} [Decidable p] {off : Int} {tgt : Nat} (hd : decode cc pc = .ok (.ifCond .eq off, 3)) (ht : (pc : Int) + off = (tgt : Int)) (kt : ¬ p → V X G nL tgt l rest h) (kf : p → V X G nL (pc + 3) l rest h) : V X G nL pc l (vi (bI p) :: rest) h :=
  v_if_eq hC hd ht (fun z => kt (bI_0.mp z)) (fun z => kf (by
    by_cases hp : p
    · exact hp
    · exact absurd (bI_f hp) z))
theorem v_ifb_ne (hC : Cx X G l9 own cc nL d) {p : Prop} [Decidable p] {off : Int} {tgt : Nat} (hd : decode cc pc = .ok (.ifCond .ne off, 3)) (ht : (pc : Int) + off = (tgt : Int)) (kt : p → V X G nL tgt l rest h) (kf : ¬ p → V X G nL (pc + 3) l rest h) : V X G nL pc l (vi (bI p) :: rest) h :=
  v_if_ne hC hd ht (fun z => kt (by
    by_cases hp : p
    · exact hp
    · exact absurd (bI_f hp) z)) (fun z => kf (bI_0.mp z))
end VB
theorem nI_inc (i : Nat) : nI i + Int32.ofInt 1 = nI (i + 1) := (nI_succ i).symm
theorem lp_ex {i N : Nat} (h : nI N ≤ nI i) (hi : i ≤ N) (hN : N < 2 ^ 31) : i = N := by
  rcases Nat.lt_or_ge i N with q | q
  · exact absurd h (nI_ge q hN)
  · omega
theorem lp_in {i N : Nat} (h : ¬ nI N ≤ nI i) (hi : i ≤ N) (hN : N < 2 ^ 31) : i < N := by
  rcases Nat.lt_or_ge i N with q | q
  · exact q
  · exact absurd (nI_le q (by omega)) h
theorem lp_gt {i N : Nat} (h : nI N < nI i) (hN : N < 2 ^ 31) (hi : i < 2 ^ 31) : N < i := by
  rcases Nat.lt_or_ge N i with q | q
  · exact q
  · exact absurd h (nI_nlt q hN)
theorem lp_ngt {i N : Nat} (h : ¬ nI N < nI i) (hN : N < 2 ^ 31) (hi : i < 2 ^ 31) : i ≤ N := by
  rcases Nat.lt_or_ge N i with q | q
  · exact absurd (nI_lt q hi) h
  · exact q
/-- a step done n times, with its number -/
def itN {α : Type} (f : Nat → α → α) : Nat → α → α
  | 0, a => a
  | n + 1, a => f n (itN f n a)
theorem itN_s {α : Type} (f : Nat → α → α) (n : Nat) (a : α) : itN f (n + 1) a = f n (itN f n a) := rfl
theorem itN_0 {α : Type} (f : Nat → α → α) (a : α) : itN f 0 a = a := rfl
theorem itN_cong {α : Type} {f g : Nat → α → α} {a b : α} : ∀ {n : Nat}, (∀ k x, k < n → f k x = g k x) → a = b → itN f n a = itN g n b
  | 0, _, e => e
  | n + 1, h, e => by rw [itN_s, itN_s, itN_cong (fun k x hk => h k x (by omega)) e, h n _ (by omega)]
/-- fewer locals, in another order -/
theorem v_loc {X : CT} {G : WT} {nL pc : Nat} {l l' : List (Nat × PV)} {st : List PV} {h : HP} (ks : List Nat) (hl : ks.filterMap (fun k => l[k]?) = l') (k : V X G nL pc l' st h) : V X G nL pc l st h := by
  obtain ⟨p, l0, e, RR, s, m, args, below, meth, c, cl, sl, A, Q⟩ := X
  intro ls H locs hl2 hP hS
  refine k ls H locs ⟨hl2.1, hl2.2.1, fun q hq => ?_⟩ hP hS
  obtain ⟨a, ha, rfl⟩ := List.mem_map.mp hq
  subst hl
  obtain ⟨i, -, hi⟩ := List.mem_filterMap.mp ha
  exact hl2.2.2 _ (List.mem_map.mpr ⟨a, List.mem_of_getElem? hi, rfl⟩)
theorem v_heap {X : CT} {G : WT} {nL pc : Nat} {l : List (Nat × PV)} {st : List PV} {h h' : HP} (e : h = h') (k : V X G nL pc l st h') : V X G nL pc l st h := e ▸ k
noncomputable def bP (p : Prop) : Int32 := @ite Int32 p (Classical.propDecidable p) 1 0
theorem bP_t {p : Prop} (h : p) : bP p = 1 := if_pos h
theorem bP_f {p : Prop} (h : ¬ p) : bP p = 0 := if_neg h
theorem bP_01 (p : Prop) : bP p = 0 ∨ bP p = 1 := by
  rcases Classical.em p with h | h
  · exact Or.inr (bP_t h)
  · exact Or.inl (bP_f h)
theorem bP_0 {p : Prop} : bP p = 0 ↔ ¬ p := by
  rcases Classical.em p with h | h
  · rw [bP_t h]; exact ⟨fun q => absurd q (by decide), fun q => absurd h q⟩
  · rw [bP_f h]; exact ⟨fun _ => h, fun _ => rfl⟩
theorem bP_1 {p : Prop} : bP p = 1 ↔ p := by
  rcases Classical.em p with h | h
  · rw [bP_t h]; exact ⟨fun _ => h, fun _ => rfl⟩
  · rw [bP_f h]; exact ⟨fun q => absurd q (by decide), fun q => absurd q h⟩
theorem bP_bI (p : Prop) [Decidable p] : bP p = bI p := by
  by_cases h : p
  · rw [bP_t h, bI_t h]
  · rw [bP_f h, bI_f h]
theorem bP_cong {p q : Prop} (h : p ↔ q) : bP p = bP q := by rw [propext h]
theorem orS_t {P : Prop} {D : Nat → Prop} {i : Nat} (h : D i) : bP (P ∨ ∃ k, k < i ∧ D k) ||| 1 = bP (P ∨ ∃ k, k < i + 1 ∧ D k) := by
  rw [bP_t (p := P ∨ ∃ k, k < i + 1 ∧ D k) (Or.inr ⟨i, Nat.lt_succ_self i, h⟩)]
  rcases bP_01 (P ∨ ∃ k, k < i ∧ D k) with e | e <;> rw [e] <;> rfl
theorem ex_succ {D : Nat → Prop} {i : Nat} : (∃ k, k < i + 1 ∧ D k) ↔ (∃ k, k < i ∧ D k) ∨ D i := by
  constructor
  · rintro ⟨k, h1, h2⟩
    rcases Nat.lt_or_ge k i with q | q
    · exact Or.inl ⟨k, q, h2⟩
    · have e : k = i := by omega
      exact Or.inr (e ▸ h2)
  · rintro (⟨k, h1, h2⟩ | h2)
    · exact ⟨k, by omega, h2⟩
    · exact ⟨i, by omega, h2⟩
theorem orS_f {P : Prop} {D : Nat → Prop} {i : Nat} (h : ¬ D i) : bP (P ∨ ∃ k, k < i ∧ D k) ||| 0 = bP (P ∨ ∃ k, k < i + 1 ∧ D k) := by
  have e : (P ∨ ∃ k, k < i + 1 ∧ D k) ↔ (P ∨ ∃ k, k < i ∧ D k) := by rw [ex_succ]; exact ⟨fun z => z.elim Or.inl (fun z => z.elim Or.inr (fun z => absurd z h)), fun z => z.elim Or.inl (fun z => Or.inr (Or.inl z))⟩
  rw [bP_cong e]
  rcases bP_01 (P ∨ ∃ k, k < i ∧ D k) with e | e <;> rw [e] <;> rfl
theorem ex_0 {P : Prop} {D : Nat → Prop} : (P ∨ ∃ k, k < 0 ∧ D k) ↔ P := ⟨fun z => z.elim id (fun ⟨_, h, _⟩ => absurd h (Nat.not_lt_zero _)), Or.inl⟩
theorem nar_P {x : Int32} {p : Prop} (e : x = bP p) : narrow .boolean (.int x) = .int x := nar_b (e ▸ bP_01 p)
