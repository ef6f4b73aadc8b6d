/-! THE WORLD: every object of both systems by a number; ints and longs that change; shapes and references that stay -/
abbrev PId : Type := Nat × Nat × Nat
abbrev PV : Type := Sum Int32 (Sum Int64 (Option PId))
abbrev vi (x : Int32) : PV := .inl x
abbrev vl (x : Int64) : PV := .inr (.inl x)
abbrev vr (i : PId) : PV := .inr (.inr (some i))
abbrev vn : PV := .inr (.inr none)
def tr (ad : PId → Nat) (v : PV) : Value := match v with
  | .inl x => .int x
  | .inr (.inl x) => .long x
  | .inr (.inr none) => .null
  | .inr (.inr (some i)) => .ref (ad i)
abbrev HP : Type := (PId → Nat → Int32) × (PId → Nat → Int64)
def upI (h : HP) (i : PId) (k : Nat) (x : Int32) : HP := (fun j m => if j = i ∧ m = k then x else h.1 j m, h.2)
def upL (h : HP) (i : PId) (k : Nat) (x : Int64) : HP := (h.1, fun j m => if j = i ∧ m = k then x else h.2 j m)
/-- a whole row at once -/
def upR (h : HP) (i : PId) (f : Nat → Int32) : HP := (fun j m => if j = i then f m else h.1 j m, h.2)
def upRL (h : HP) (i : PId) (f : Nat → Int64) : HP := (h.1, fun j m => if j = i then f m else h.2 j m)
/-- shapes: 0 .. 7 a class of vwCl with so many fields; 8 ints, 9 longs, 10 booleans, 11 cities, 12 sheets, 13 walkers, with so many places -/
def SHm : Nat → Nat × Nat := fun j => match j with
  | 0 => (7, 29)
  | 1 => (8, 240)
  | 2 => (8, 80)
  | 3 => (10, 2)
  | 6 => (8, 80)
  | 10 => (8, 2)
  | 12 => (8, 160)
  | 20 => (8, 4)
  | 21 => (10, 4)
  | 22 => (10, 1600)
  | 23 => (9, 8)
  | 24 => (9, 8)
  | 25 => (8, 4)
  | 26 => (8, 4)
  | 27 => (8, 160)
  | _ => (8, 4)
def SH : PId → Nat × Nat := fun i => match i.1 with
  | 0 => (match i.2.2 with
    | 0 => (0, 14)
    | 6 => (8, 16)
    | 7 => (13, 4)
    | 8 => (8, 4)
    | 13 => (8, 4)
    | _ => (8, 8))
  | 1 => (match i.2.2 with
    | 0 => (6, 10)
    | 1 => (11, 2)
    | 2 => (2, 9)
    | 3 => (8, 160)
    | 4 => (8, 8)
    | 5 => (12, 4)
    | 6 => (5, 3)
    | 7 => (9, 25)
    | 8 => (1, 3)
    | _ => (9, 8))
  | 2 => (match i.2.2 with
    | 0 => (3, 3)
    | _ => (8, 40))
  | 3 => SHm i.2.2
  | _ => (4, 6)
/-- what a field holds: 0 int, 1 long, 2 reference, 3 boolean -/
def fk : Nat → Nat → Nat := fun ci k => match ci with
  | 0 => if k < 6 then 0 else 2
  | 1 => if k < 2 then 2 else 1
  | 2 => if k = 0 ∨ k = 4 ∨ k = 8 then 2 else 0
  | 3 => if k = 0 then 2 else 0
  | 4 => if k = 2 then 3 else 0
  | 5 => if k = 0 then 2 else 0
  | 6 => if k < 7 then 2 else 0
  | _ => if k ∈ [0, 1, 2, 5, 9, 11, 19, 20, 21, 22, 23, 24, 25, 26, 28] then 2 else 0
def RF : PId → Nat → Option PId := fun i k => match i.1 with
  | 0 => (match i.2.2 with
    | 7 => some (6, i.2.1, k)
    | _ => some (0, i.2.1, k))
  | 1 => (match i.2.2 with
    | 0 => (match k with
      | 0 => some (0, 0, 0)
      | 1 => some (0, 1, 0)
      | 2 => some (1, 0, 1)
      | 3 => some (1, 0, 2)
      | 4 => some (1, 0, 5)
      | 5 => some (1, 0, 6)
      | _ => some (1, 0, 8))
    | 1 => some (0, 2 + k, 0)
    | 2 => (match k with
      | 0 => some (1, 0, 3)
      | 4 => some (0, 4, 0)
      | _ => some (1, 0, 4))
    | 5 => some (2, k, 0)
    | 6 => some (1, 0, 7)
    | _ => (match k with
      | 0 => some (1, 0, 9)
      | _ => some (1, 0, 10)))
  | 2 => some (2, i.2.1, 1)
  | _ => some (3, 0, k + 1)
/-- the objects that there are -/
def ok : PId → Bool := fun i => match i.1 with
  | 0 => decide (i.2.1 < 5) && (i.2.2 == 0 || (decide (6 ≤ i.2.2) && decide (i.2.2 ≤ 13)))
  | 1 => i.2.1 == 0 && decide (i.2.2 ≤ 10)
  | 2 => decide (i.2.1 < 4) && decide (i.2.2 ≤ 1)
  | 3 => i.2.1 == 0 && i.2.2 ∈ [0, 1, 2, 3, 6, 10, 12, 20, 21, 22, 23, 24, 25, 26, 27, 29]
  | 6 => decide (i.2.1 < 5) && decide (i.2.2 < 4)
  | _ => false
def idL : List PId := ((List.range 7).flatMap fun a => (List.range 5).flatMap fun b => (List.range 30).map fun c => (a, b, c)).filter ok
theorem idL_nodup : idL.Nodup := by decide +kernel
theorem ok_mem {i : PId} (h : ok i = true) : i ∈ idL := by
  obtain ⟨a, b, c⟩ := i
  refine List.mem_filter.mpr ⟨List.mem_flatMap.mpr ⟨a, List.mem_range.mpr ?_, List.mem_flatMap.mpr ⟨b, List.mem_range.mpr ?_, List.mem_map.mpr ⟨c, List.mem_range.mpr ?_, rfl⟩⟩⟩, h⟩
  all_goals
    (unfold ok at h
     dsimp only at h
     split at h <;> simp at h <;> omega)
theorem ok_of {i : PId} (h : i ∈ idL) : ok i = true := (List.mem_filter.mp h).2
theorem ok_c {q j : Nat} (hq : q < 5) (hj : (j == 0 || (decide (6 ≤ j) && decide (j ≤ 13))) = true) : ok (0, q, j) = true := by
  show (decide (q < 5) && (j == 0 || (decide (6 ≤ j) && decide (j ≤ 13)))) = true
  rw [hj, decide_eq_true hq]; rfl
theorem ok_w {q w : Nat} (hq : q < 5) (hw : w < 4) : ok (6, q, w) = true := by
  show (decide (q < 5) && decide (w < 4)) = true
  rw [decide_eq_true hq, decide_eq_true hw]; rfl
theorem ok_s {k j : Nat} (hk : k < 4) (hj : j ≤ 1) : ok (2, k, j) = true := by
  show (decide (k < 4) && decide (j ≤ 1)) = true
  rw [decide_eq_true hk, decide_eq_true hj]; rfl
/-- addresses, classes and their slots, classes of arrays -/
abbrev WT : Type := (PId → Nat) × va_G × (Nat → ClassId)
def fval (ad : PId → Nat) (h : HP) (i : PId) (k : Nat) : Value :=
  if fk (SH i).1 k = 1 then .long (h.2 i k) else if fk (SH i).1 k = 2 then va_rf ((RF i k).map ad) else .int (h.1 i k)
def EE (G : WT) (h : HP) (i : PId) : va_E :=
  if (SH i).1 < 8 then .inr ((SH i).1, (List.range (SH i).2).map (fval G.1 h i))
  else if (SH i).1 = 9 then .inl (G.2.2 9, (SH i).2, .inr (.inl (h.2 i)))
  else if (SH i).1 = 8 then .inl (G.2.2 8, (SH i).2, .inl (h.1 i))
  else if (SH i).1 = 10 then .inl (G.2.2 10, (SH i).2, .inl (h.1 i))
  else .inl (G.2.2 (SH i).1, (SH i).2, .inr (.inr (.inr (.inr (fun k => (RF i k).map G.1)))))
def ww (G : WT) (h : HP) : va_W := idL.map (fun i => (G.1 i, EE G h i))
def tysOf (G : WT) : List (ClassId × FieldType) := [(G.2.2 8, .int), (G.2.2 9, .long), (G.2.2 10, .boolean), (G.2.2 11, .object "NoonCity$City"), (G.2.2 12, .object "NoonCity$Sheet"), (G.2.2 13, .object "NoonCity$Walker")]
theorem map_set {α β : Type} {L : List α} (hn : L.Nodup) {f g : α → β} {k : Nat} {i : α} (hk : L[k]? = some i) (h : ∀ j, j ≠ i → g j = f j) {b : β} (hb : g i = b) : (L.map f).set k b = L.map g := by
  apply List.ext_getElem?
  intro m
  subst hb
  rw [List.getElem?_set, List.getElem?_map, List.getElem?_map]
  by_cases hm : k = m
  · subst hm
    have hl : k < L.length := (List.getElem?_eq_some_iff.mp hk).1
    have e0 : L[k] = i := by
      have e1 := List.getElem?_eq_getElem hl
      rw [hk] at e1
      exact (Option.some.inj e1).symm
    simp [hl, e0]
  · rw [if_neg hm]
    cases hLm : L[m]? with
    | none => rfl
    | some j =>
      have hji : j ≠ i := fun e => hm (by
        subst e
        exact (List.getElem?_inj (List.getElem?_eq_some_iff.mp hk).1 hn).mp (hk.trans hLm.symm))
      show some (f j) = some (g j)
      rw [h j hji]
theorem ww_at (G : WT) (h : HP) {i : PId} (hi : ok i = true) : ∃ k : Nat, idL[k]? = some i ∧ (ww G h)[k]? = some (G.1 i, EE G h i) := by
  obtain ⟨k, hk⟩ := List.getElem?_of_mem (ok_mem hi)
  exact ⟨k, hk, by rw [ww, List.getElem?_map, hk]; rfl⟩
theorem ww_set (G : WT) (h h' : HP) {i : PId} {k : Nat} (hk : idL[k]? = some i) {e : va_E} (he : EE G h' i = e) (ho : ∀ j, j ≠ i → EE G h' j = EE G h j) : (ww G h).set k (G.1 i, e) = ww G h' := by
  refine map_set idL_nodup hk (fun j hj => ?_) ?_
  · rw [ho j hj]
  · rw [he]
theorem EE_cong (G : WT) (h h' : HP) {i : PId} (h1 : h'.1 i = h.1 i) (h2 : h'.2 i = h.2 i) : EE G h' i = EE G h i := by
  have hf : fval G.1 h' i = fval G.1 h i := by
    funext k
    unfold fval
    rw [h1, h2]
  unfold EE
  rw [hf, h1, h2]
theorem EE_obj (G : WT) (h : HP) {i : PId} {ci n : Nat} (hs : SH i = (ci, n)) (hc : ci < 8) : EE G h i = .inr (ci, (List.range n).map (fval G.1 h i)) := by
  unfold EE
  rw [hs, if_pos hc]
theorem EE_int (G : WT) (h : HP) {i : PId} {n : Nat} (hs : SH i = (8, n)) : EE G h i = .inl (G.2.2 8, n, .inl (h.1 i)) := by
  unfold EE
  rw [hs]; rfl
theorem EE_long (G : WT) (h : HP) {i : PId} {n : Nat} (hs : SH i = (9, n)) : EE G h i = .inl (G.2.2 9, n, .inr (.inl (h.2 i))) := by
  unfold EE
  rw [hs]; rfl
theorem EE_bool (G : WT) (h : HP) {i : PId} {n : Nat} (hs : SH i = (10, n)) : EE G h i = .inl (G.2.2 10, n, .inl (h.1 i)) := by
  unfold EE
  rw [hs]; rfl
theorem EE_ref (G : WT) (h : HP) {i : PId} {c n : Nat} (hs : SH i = (c, n)) (hc : 11 ≤ c) : EE G h i = .inl (G.2.2 c, n, .inr (.inr (.inr (.inr (fun k => (RF i k).map G.1))))) := by
  unfold EE
  rw [hs, if_neg (by show ¬ c < 8; omega), if_neg (by show ¬ c = 9; omega), if_neg (by show ¬ c = 8; omega), if_neg (by show ¬ c = 10; omega)]
theorem upI_same (h : HP) (i : PId) (k : Nat) (x : Int32) : (upI h i k x).1 i = upd (h.1 i) k x := by
  funext m
  simp [upI, upd]
theorem upI_ne (h : HP) {i j : PId} (k : Nat) (x : Int32) (hj : j ≠ i) : (upI h i k x).1 j = h.1 j := by
  funext m
  simp [upI, hj]
theorem upL_same (h : HP) (i : PId) (k : Nat) (x : Int64) : (upL h i k x).2 i = vp_updL (h.2 i) k x := by
  funext m
  simp [upL, vp_updL]
theorem upL_ne (h : HP) {i j : PId} (k : Nat) (x : Int64) (hj : j ≠ i) : (upL h i k x).2 j = h.2 j := by
  funext m
  simp [upL, hj]
theorem upR_same (h : HP) (i : PId) (f : Nat → Int32) : (upR h i f).1 i = f := by
  funext m
  simp [upR]
theorem upR_ne (h : HP) {i j : PId} (f : Nat → Int32) (hj : j ≠ i) : (upR h i f).1 j = h.1 j := by
  funext m
  simp [upR, hj]
theorem upRL_same (h : HP) (i : PId) (f : Nat → Int64) : (upRL h i f).2 i = f := by
  funext m
  simp [upRL]
theorem upRL_ne (h : HP) {i j : PId} (f : Nat → Int64) (hj : j ≠ i) : (upRL h i f).2 j = h.2 j := by
  funext m
  simp [upRL, hj]
/-- the good words of the tables -/
def BIG : List Cond := lw_tbl.filter goodWord
theorem big_good : GoodIn BIG BIG := fun w hw => ⟨hw, good_of_word (List.mem_filter.mp hw).2⟩
/-- the private static methods of the outer class that its classes call -/
def nestW : List Cond := [.methodLinkNest RX0 78 yX6_isTurned RX6, .methodLinkNest RX0 127 yX6_isHeadOn RX6, .methodLinkNest RX0 140 yX6_oneIf RX6, .methodLinkNest RX4 29 yX6_isTurned RX6]
/-- the string constants: place in the pool, text, number -/
def strT : List (Nat × String × Nat) := [(90, "city", 0), (92, "left", 1), (94, "right", 2), (96, "sign", 3), (98, "hour", 4), (100, "walker", 5), (102, "keeper", 6), (104, "gloves", 7)]
def strB : List (List Int32) := [[99, 105, 116, 121], [108, 101, 102, 116], [114, 105, 103, 104, 116], [115, 105, 103, 110], [104, 111, 117, 114], [119, 97, 108, 107, 101, 114], [107, 101, 101, 112, 101, 114], [103, 108, 111, 118, 101, 115]]
def strL : List Nat := [4, 4, 5, 4, 4, 6, 6, 6]
def Ex (ad : PId → Nat) (A : Nat → Prop) (U : State) (H : Heap) : Prop :=
  (∀ w ∈ nestW, va_Nw w U) ∧ (∀ q ∈ strT, vk_R RX2 q.1 q.2.1 (ad (4, q.2.2, 0)) U) ∧
  vk_S 8 strL strB (fun i => ad (4, i, 0)) (fun i => ad (4, i, 1)) A U H ∧
  va_Z "java/lang/String" "COMPACT_STRINGS" "Z" (.int 1) A U H ∧
  va_Zq "jdk/internal/util/Preconditions" "SIOOBE_FORMATTER" "Ljava/util/function/BiFunction;" A U H
def wA (ad : PId → Nat) : Nat → Prop := fun q => ∃ i, i ∈ idL ∧ q = ad i
/-- all that is known of a state besides what the cells hold -/
def Wd (G : WT) (A : Nat → Prop) (U : State) (H : Heap) : Prop :=
  va_K G.2.1 vwCl (tysOf G) U ∧ (∀ i j, i ∈ idL → j ∈ idL → G.1 i = G.1 j → i = j) ∧ (∀ i, i ∈ idL → A (G.1 i)) ∧ Ex G.1 A U H
theorem ww_D {G : WT} {A : Nat → Prop} {U : State} {H : Heap} (hW : Wd G A U H) (h : HP) : va_D A (ww G h) := by
  obtain ⟨-, h1, h2, -⟩ := hW
  refine ⟨fun i j p q hp hq e => ?_, fun k q hq => ?_⟩
  · rw [ww, List.getElem?_map] at hp hq
    cases hi : idL[i]? with
    | none => rw [hi] at hp; cases hp
    | some a =>
      cases hj : idL[j]? with
      | none => rw [hj] at hq; cases hq
      | some b =>
        rw [hi] at hp; rw [hj] at hq
        cases hp; cases hq
        have hab := h1 a b (List.mem_of_getElem? hi) (List.mem_of_getElem? hj) e
        subst hab
        exact (List.getElem?_inj (List.getElem?_eq_some_iff.mp hi).1 idL_nodup).mp (hi.trans hj.symm)
  · rw [ww, List.getElem?_map] at hq
    cases hi : idL[k]? with
    | none => rw [hi] at hq; cases hq
    | some a =>
      rw [hi] at hq
      cases hq
      exact h2 a (List.mem_of_getElem? hi)
theorem Ex.moved {ad : PId → Nat} {A : Nat → Prop} {u U : State} {H : Heap} (hv : u.vm = U.vm) (h : Ex ad A u H) : Ex ad A U H := by
  obtain ⟨h1, h2, h3, h4, h5⟩ := h
  have hal : u.vm.Alike U.vm := by rw [hv]; exact Vm.Alike.refl U.vm
  refine ⟨fun w hw => ?_, fun q hq => vk_R.same hv.symm (h2 q hq), h3.moved hal, h4.moved hal, h5.moved hal⟩
  have hw2 := h1 w hw
  refine va_Nw.same ?_ hv hw2
  simp only [nestW, List.mem_cons, List.not_mem_nil, or_false] at hw
  rcases hw with rfl | rfl | rfl | rfl <;> rfl
theorem Ex.warm {ad : PId → Nat} {A : Nat → Prop} {s U : State} {H : Heap} (hW : s.WarmedH U.vm) (h : Ex ad A s H) : Ex ad A U H := by
  obtain ⟨h1, h2, h3, h4, h5⟩ := h
  refine ⟨fun w hw => ?_, fun q hq => vk_R.warm hW (h2 q hq), h3.moved hW.alike, h4.moved hW.alike, h5.moved hW.alike⟩
  have hw2 := h1 w hw
  simp only [nestW, List.mem_cons, List.not_mem_nil, or_false] at hw
  rcases hw with rfl | rfl | rfl | rfl <;> exact va_Nw.warmM hW hw2
theorem Ex.kept {ad : PId → Nat} {A : Nat → Prop} {U : State} {H H1 : Heap} (h : Ex ad A U H) (hq : ∀ a : Nat, a < H.size → ¬ A a → H1[a]? = H[a]?) : Ex ad A U H1 :=
  ⟨h.1, h.2.1, h.2.2.1.kept hq, h.2.2.2.1.kept hq, h.2.2.2.2.kept hq⟩
theorem Ex.narrow {ad : PId → Nat} {A B : Nat → Prop} {U : State} {H : Heap} (h : Ex ad A U H) (hAB : ∀ q, B q → A q) : Ex ad B U H :=
  ⟨h.1, h.2.1, h.2.2.1.narrow hAB, h.2.2.2.1.narrow hAB, h.2.2.2.2.narrow hAB⟩
/-- what a caller hands on: the same of the state that the callee begins in -/
theorem Wd.call {G : WT} {A : Nat → Prop} {s U : State} {H : Heap} {locs : List Loc} (hW : Wd G A s s.heap) (hS : va_S A s.heap H locs) (hU : U.heap = H) (hw : s.WarmedH U.vm) : Wd G (wA G.1) U U.heap := by
  obtain ⟨h1, h2, h3, h4⟩ := hW
  rw [hU]
  exact ⟨va_K.moved hw.alike h1, h2, fun i hi => ⟨i, hi, rfl⟩, Ex.narrow (Ex.warm hw (h4.kept hS.2.1)) (fun q ⟨i, hi, e⟩ => by rw [e]; exact h3 i hi)⟩
