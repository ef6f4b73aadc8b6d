/-! NEW OBJECTS: the walk of a world that grows (its cells one by one, new ones at the end) -/
abbrev NT : Type := Program × Launch × Env × Room × State × MethodId × Array Value × List Frame × Method × Code × (Nat → Prop) × (State → Prop)
def KA (G : WT) (U : State) : Prop := va_K G.2.1 vwCl (tysOf G) U ∧ va_AO "NoonCity$City" U ∧ va_AO "NoonCity$Sheet" U ∧ va_AO "NoonCity$Walker" U
theorem KA.moved {G : WT} {u U : State} (hvm : u.vm.Alike U.vm) (h : KA G u) : KA G U := ⟨va_K.moved hvm h.1, va_AO.moved hvm h.2.1, va_AO.moved hvm h.2.2.1, va_AO.moved hvm h.2.2.2⟩
def NW (X : NT) (G : WT) (nL pc : Nat) (l : List (Nat × Value)) (st : List Value) (cl sl : Nat) (ws : va_W) : Prop :=
  match X with
  | (p, l0, e, R, s, m, args, below, meth, c, A, Q) => ∀ (ls : Array Slot) (H : Heap) (locs : List Loc), lv_has ls nL l → va_P G.2.1 vwCl ws H → va_D A ws → va_S A s.heap H locs → W p l0 e R s m args below meth c H locs cl sl Q (F0 m pc ls st)
def NX (X : NT) (G : WT) (l9 : Launch) (own : String) (cc : ByteArray) (nL d mc ms : Nat) : Prop :=
  match X with
  | (p, l0, _, R, s, m, args, _, _, c, A, _) => p.tables.exec = Jvm.exec ∧ c.code = cc ∧ c.maxLocals = nL ∧ s.vm.findClass own = some m.cls ∧ (∀ w ∈ BIG, w.before args s = true) ∧ (d ≤ R.frames ∧ 40 * d ≤ R.locals ∧ mc ≤ R.cells ∧ ms ≤ R.slots) ∧ KA G s ∧ (∀ q : Nat, s.heap.size ≤ q → A q) ∧ l0 = l9
def NI (X : NT) : Prop :=
  match X with
  | (_, _, _, _, _, _, _, _, meth, _, _, _) => meth.name = "<init>"
def NR (X : NT) (G : WT) (w0 : va_W) {S : Type} (w1 : S → va_W) (mc ms : Nat) : Prop :=
  match X with
  | (_, _, _, _, s, _, args, below, meth, _, A, Q) => meth.sig.returnType = none ∧ meth.locks = false ∧ A = va_A w0 s.heap.size ∧ Q = MQ below (va_Qv (fun _ : S => True) (fun u t => va_P G.2.1 vwCl (w1 u) t.heap ∧ va_D (va_A w0 s.heap.size) (w1 u)) (va_A w0 s.heap.size)) args s mc ms (va_A w0 s.heap.size)
/-- a contract: over the cells w0 it returns, and there are the cells w1 then -/
def NM (l : Launch) (G : WT) (y : MethodName) (cc : ByteArray) (nL d mc ms : Nat) (As : List Value) (w0 : va_W) {S : Type} (w1 : S → va_W) : Prop :=
  ∀ sz : Nat, Met l y (.code y cc nL none :: BIG) { frames := d, cells := mc, slots := ms, locals := 40 * d } (va_Pc As (fun U => U.heap.size = sz ∧ va_P G.2.1 vwCl w0 U.heap ∧ KA G U ∧ va_D (fun _ => True) w0)) (va_Qv (fun _ : S => True) (fun u t => va_P G.2.1 vwCl (w1 u) t.heap ∧ va_D (va_A w0 sz) (w1 u)) (va_A w0 sz)) mc ms (va_A w0 sz)
def CK (ci : Nat) (C : String) (T : u_T) (N : Nat) (t0 : Nat → FieldType) : Prop := vwCl[ci]? = some (C, T, N) ∧ (∀ w ∈ u_ws C T N, w ∈ BIG) ∧ (∀ k, k < N → parseFieldDescriptor (T k).2.2.1 = some (t0 k)) ∧ (∀ a, a < N → ∀ b, b < N → a ≠ b → (T a).2.1 ≠ (T b).2.1) ∧ Cond.instantiable C N ∈ BIG ∧ Cond.initialized C ∈ BIG
theorem aw_I : Cond.arrayClass (newarray.typeOf .int) ∈ BIG := mb 136 (by decide +kernel)
theorem aw_L : Cond.arrayClass (newarray.typeOf .long) ∈ BIG := mb 276 (by decide +kernel)
theorem aw_Z : Cond.arrayClass (newarray.typeOf .boolean) ∈ BIG := mb 985 (by decide +kernel)
theorem aw_o : Cond.instanceMethod objectInit ∈ BIG ∧ Cond.code objectInit ⟨#[0xb1]⟩ 1 none ∈ BIG := by
  refine ⟨?_, ?_⟩ <;> exact List.mem_filter.mpr ⟨by decide +kernel, by decide +kernel⟩
theorem nd_app : ∀ (l : List Nat) (n : Nat), va_nd l = true → (∀ x ∈ l, x < n) → va_nd (l ++ [n]) = true
  | [], _, _, _ => rfl
  | a :: l, n, h, hx => by
    simp only [va_nd, Bool.and_eq_true, decide_eq_true_eq] at h
    show (decide (a ∉ l ++ [n]) && va_nd (l ++ [n])) = true
    rw [nd_app l n h.2 (fun x hm => hx x (List.mem_cons_of_mem _ hm)), Bool.and_true, decide_eq_true_eq]
    intro hm
    rcases List.mem_append.mp hm with q | q
    · exact h.1 q
    · have := hx a List.mem_cons_self
      have e : a = n := by simpa using q
      omega
theorem nd_range : ∀ n : Nat, va_nd (List.range n) = true
  | 0 => rfl
  | n + 1 => by
    rw [List.range_succ]
    exact nd_app _ _ (nd_range n) (fun x hx => List.mem_range.mp hx)
theorem nw_pre (pre post : va_W) : (List.range pre.length).map (fun i => (pre ++ post)[i]?) = pre.map some := by
  apply List.ext_getElem?
  intro k
  rw [List.getElem?_map, List.getElem?_map]
  by_cases h : k < pre.length
  · rw [List.getElem?_range h, Option.map_some, List.getElem?_append_left h, List.getElem?_eq_getElem h]; rfl
  · rw [List.getElem?_eq_none (by rw [List.length_range]; omega), List.getElem?_eq_none (by omega)]; rfl
theorem nw_last (pre : va_W) (x : Nat × va_E) : [pre.length].map (fun i => (pre ++ [x])[i]?) = [x].map some := by
  simp
theorem nm_blind (G : WT) (As : List Value) (w0 : va_W) (sz : Nat) : FrameBlind (va_Pc As (fun U => U.heap.size = sz ∧ va_P G.2.1 vwCl w0 U.heap ∧ KA G U ∧ va_D (fun _ => True) w0)) := by
  intro a U g mk hq
  obtain ⟨e, h1, h2, h3, h4⟩ := hq
  exact ⟨e, h1, h2, KA.moved (u := U) (U := U.calling g mk a) (Vm.Alike.refl U.vm) h3, h4⟩
section NROW
variable {X : NT} {G : WT} {l9 : Launch} {own : String} {cc : ByteArray} {nL d mc ms pc cl sl : Nat} {l l' : List (Nat × Value)} {st : List Value} {ws : va_W}

theorem n_aload (hC : NX X G l9 own cc nL d mc ms) (j : Nat) {k : Fin 4} {x : Nat} (hk : l[j]? = some ((k : Nat), .ref x)) (hd : decode cc pc = .ok (.aload_n k, 1)) (kk : NW X G nL (pc + 1) l (.ref x :: st) cl sl ws) : NW X G nL pc l (st) cl sl ws := by
  obtain ⟨p, l0, e, RR, s, m, args, below, meth, c, A, Q⟩ := X
  intro ls H locs hl hP hD hS
  obtain ⟨hx, hb, hml, hown, hts, hR, hKA, hA, hl9⟩ := hC
  have hK := hKA.1
  exact lv_aload_n hx hb hd rfl (lv_at hl j hk) (kk ls H locs hl hP hD hS)

theorem n_iload (hC : NX X G l9 own cc nL d mc ms) (j : Nat) {k : Fin 4} {x : Int32} (hk : l[j]? = some ((k : Nat), .int x)) (hd : decode cc pc = .ok (.iload_n k, 1)) (kk : NW X G nL (pc + 1) l (.int x :: st) cl sl ws) : NW X G nL pc l (st) cl sl ws := by
  obtain ⟨p, l0, e, RR, s, m, args, below, meth, c, A, Q⟩ := X
  intro ls H locs hl hP hD hS
  obtain ⟨hx, hb, hml, hown, hts, hR, hKA, hA, hl9⟩ := hC
  have hK := hKA.1
  exact lv_iload_n hx hb hd rfl (lv_at hl j hk) (kk ls H locs hl hP hD hS)

theorem n_iconst (hC : NX X G l9 own cc nL d mc ms) {n : Int} {v : Int32} (hv : Int32.ofInt n = v) (hd : decode cc pc = .ok (.iconst n, 1)) (kk : NW X G nL (pc + 1) l (.int v :: st) cl sl ws) : NW X G nL pc l (st) cl sl ws := by
  obtain ⟨p, l0, e, RR, s, m, args, below, meth, c, A, Q⟩ := X
  intro ls H locs hl hP hD hS
  obtain ⟨hx, hb, hml, hown, hts, hR, hKA, hA, hl9⟩ := hC
  have hK := hKA.1
  exact lv_iconst hx hb hd hv (kk ls H locs hl hP hD hS)

theorem n_bipush (hC : NX X G l9 own cc nL d mc ms) {n : Int} {v : Int32} (hv : (Int8.ofInt n).toInt32 = v) (hd : decode cc pc = .ok (.bipush n, 2)) (kk : NW X G nL (pc + 2) l (.int v :: st) cl sl ws) : NW X G nL pc l (st) cl sl ws := by
  obtain ⟨p, l0, e, RR, s, m, args, below, meth, c, A, Q⟩ := X
  intro ls H locs hl hP hD hS
  obtain ⟨hx, hb, hml, hown, hts, hR, hKA, hA, hl9⟩ := hC
  have hK := hKA.1
  exact lv_bipush hx hb hd hv (kk ls H locs hl hP hD hS)

theorem n_sipush (hC : NX X G l9 own cc nL d mc ms) {n : Int} {v : Int32} (hv : (Int16.ofInt n).toInt32 = v) (hd : decode cc pc = .ok (.sipush n, 3)) (kk : NW X G nL (pc + 3) l (.int v :: st) cl sl ws) : NW X G nL pc l (st) cl sl ws := by
  obtain ⟨p, l0, e, RR, s, m, args, below, meth, c, A, Q⟩ := X
  intro ls H locs hl hP hD hS
  obtain ⟨hx, hb, hml, hown, hts, hR, hKA, hA, hl9⟩ := hC
  have hK := hKA.1
  exact lv_sipush hx hb hd hv (kk ls H locs hl hP hD hS)

theorem n_lconst (hC : NX X G l9 own cc nL d mc ms) {n : Fin 2} {v : Int64} (hv : Int64.ofNat (n : Nat) = v) (hd : decode cc pc = .ok (.lconst n, 1)) (kk : NW X G nL (pc + 1) l (.long v :: st) cl sl ws) : NW X G nL pc l (st) cl sl ws := by
  obtain ⟨p, l0, e, RR, s, m, args, below, meth, c, A, Q⟩ := X
  intro ls H locs hl hP hD hS
  obtain ⟨hx, hb, hml, hown, hts, hR, hKA, hA, hl9⟩ := hC
  have hK := hKA.1
  exact lv_lconst hx hb hd hv (kk ls H locs hl hP hD hS)

theorem n_dup (hC : NX X G l9 own cc nL d mc ms) {v : Value} (hv : v.category = 1) (hd : decode cc pc = .ok (.dup, 1)) (kk : NW X G nL (pc + 1) l (v :: v :: st) cl sl ws) : NW X G nL pc l (v :: st) cl sl ws := by
  obtain ⟨p, l0, e, RR, s, m, args, below, meth, c, A, Q⟩ := X
  intro ls H locs hl hP hD hS
  obtain ⟨hx, hb, hml, hown, hts, hR, hKA, hA, hl9⟩ := hC
  have hK := hKA.1
  exact lv_dup hx hb hd hv (kk ls H locs hl hP hD hS)

theorem n_istore (hC : NX X G l9 own cc nL d mc ms) {k : Fin 4} {x : Int32} (hd : decode cc pc = .ok (.istore_n k, 1)) (hn : (k : Nat) < nL) (hq : ((k : Nat), Value.int x) :: l.filter (fun q => !(q.1 == (k : Nat)) && !(q.1 + 1 == (k : Nat) && q.2.category == 2)) = l') (kk : NW X G nL (pc + 1) l' (st) cl sl ws) : NW X G nL pc l (.int x :: st) cl sl ws := by
  obtain ⟨p, l0, e, RR, s, m, args, below, meth, c, A, Q⟩ := X
  intro ls H locs hl hP hD hS
  obtain ⟨hx, hb, hml, hown, hts, hR, hKA, hA, hl9⟩ := hC
  have hK := hKA.1
  exact lv_istore_n hx hb hd rfl hl hn hq (fun ls2 hl2 => kk ls2 H locs hl2 hP hD hS)

theorem n_iinc (hC : NX X G l9 own cc nL d mc ms) (j : Nat) {i : Nat} {n : Int} {x v : Int32} (hd : decode cc pc = .ok (.iinc i n, 3)) (hk : l[j]? = some (i, .int x)) (hv : x + Int32.ofInt n = v) (hn : i < nL) (hq : (i, Value.int v) :: l.filter (fun q => !(q.1 == i) && !(q.1 + 1 == i && q.2.category == 2)) = l') (kk : NW X G nL (pc + 3) l' (st) cl sl ws) : NW X G nL pc l (st) cl sl ws := by
  obtain ⟨p, l0, e, RR, s, m, args, below, meth, c, A, Q⟩ := X
  intro ls H locs hl hP hD hS
  obtain ⟨hx, hb, hml, hown, hts, hR, hKA, hA, hl9⟩ := hC
  have hK := hKA.1
  exact lv_iinc hx hb hd hl (k := j) hk hv hn hq (fun ls2 hl2 => kk ls2 H locs hl2 hP hD hS)

theorem n_goto (hC : NX X G l9 own cc nL d mc ms) {off : Int} {tgt : Nat} (hd : decode cc pc = .ok (.goto off, 3)) (ht : (pc : Int) + off = (tgt : Int)) (kk : NW X G nL tgt l (st) cl sl ws) : NW X G nL pc l (st) cl sl ws := by
  obtain ⟨p, l0, e, RR, s, m, args, below, meth, c, A, Q⟩ := X
  intro ls H locs hl hP hD hS
  obtain ⟨hx, hb, hml, hown, hts, hR, hKA, hA, hl9⟩ := hC
  have hK := hKA.1
  exact lv_goto hx hb hd ht (kk ls H locs hl hP hD hS)

theorem n_icmp_ge (hC : NX X G l9 own cc nL d mc ms) {x y : Int32} {off : Int} {tgt : Nat} (hd : decode cc pc = .ok (.if_icmp .ge off, 3)) (ht : (pc : Int) + off = (tgt : Int)) (kt : y ≤ x → NW X G nL tgt l (st) cl sl ws) (kf : ¬ y ≤ x → NW X G nL (pc + 3) l (st) cl sl ws) : NW X G nL pc l (.int y :: .int x :: st) cl sl ws := by
  obtain ⟨p, l0, e, RR, s, m, args, below, meth, c, A, Q⟩ := X
  intro ls H locs hl hP hD hS
  obtain ⟨hx, hb, hml, hown, hts, hR, hKA, hA, hl9⟩ := hC
  have hK := hKA.1
  exact lv_icmp_ge hx hb hd ht (fun z => kt z ls H locs hl hP hD hS) (fun z => kf z ls H locs hl hP hD hS)

theorem n_obj (hC : NX X G l9 own cc nL d mc ms) {idx q : Nat} (hlk : Cond.methodLink own idx objectInit ∈ BIG) (h1 : 1 ≤ d) (hr : (st.map fun v => v.category).sum ≤ 8) (hd : decode cc pc = .ok (.invokespecial idx, 3)) (kk : NW X G nL (pc + 3) l (st) cl sl ws) : NW X G nL pc l (.ref q :: st) cl sl ws := by
  obtain ⟨p, l0, e, RR, s, m, args, below, meth, c, A, Q⟩ := X
  intro ls H locs hl hP hD hS
  obtain ⟨hx, hb, hml, hown, hts, hR, hKA, hA, hl9⟩ := hC
  have hK := hKA.1
  have h9 := lv_room (pc := pc) (m := m) (ls := ls) (rest := .ref q :: st) hr
  refine W.objInit hx hb hown (hts _ hlk) (hts _ aw_o.1) (hts _ aw_o.2) rfl (by rw [hml]; exact hl.1) rfl hd (by omega) (by omega) ?_
  exact kk ls H locs hl hP hD hS

theorem n_new (hC : NX X G l9 own cc nL d mc ms) {ci N idx : Nat} {C : String} {T : u_T} {t0 : Nat → FieldType} (hc : CK ci C T N t0) {fs : List Value} {ws9 : Nat → va_W} (hlk : Cond.classLink own idx C ∈ BIG) (hfs : ∀ j, j < N → defaultValue (t0 j) = vp_V fs j) (hcl : cl + 1 ≤ mc) (hsl : sl + N ≤ ms) (hd : decode cc pc = .ok (.new idx, 3)) (hws : ∀ q, ws ++ [(q, .inr (ci, fs))] = ws9 q) (kk : ∀ q : Nat, NW X G nL (pc + 3) l (.ref q :: st) (cl + 1) (sl + N) (ws9 q)) : NW X G nL pc l (st) cl sl ws := by
  obtain ⟨p, l0, e, RR, s, m, args, below, meth, c, A, Q⟩ := X
  intro ls H locs hl hP hD hS
  obtain ⟨hx, hb, hml, hown, hts, hR, hKA, hA, hl9⟩ := hC
  have hK := hKA.1
  exact va_new hx hb hts hc.2.1 t0 hc.2.2.1 hown (hts _ hlk) (hts _ hc.2.2.2.2.1) (hts _ hc.2.2.2.2.2) hK hP hD hS hA hc.1 hfs (by omega) (by omega) hd (fun q H1 hP1 hD1 hS1 => kk q ls H1 locs hl (hws q ▸ hP1) (hws q ▸ hD1) hS1)

theorem n_newI (hC : NX X G l9 own cc nL d mc ms) {n : Int32} {N : Nat} {ws9 : Nat → va_W} (hn : ¬ n < 0) (hN : n.toNatClampNeg = N) (hN2 : N ≤ 10000) (hcl : cl + 1 ≤ mc) (hsl : sl + N ≤ ms) (hd : decode cc pc = .ok (.newarray .int, 2)) (hws : ∀ q, ws ++ [(q, .inl (G.2.2 8, N, .inl (fun _ => 0)))] = ws9 q) (kk : ∀ q : Nat, NW X G nL (pc + 2) l (.ref q :: st) (cl + 1) (sl + N) (ws9 q)) : NW X G nL pc l (.int n :: st) cl sl ws := by
  obtain ⟨p, l0, e, RR, s, m, args, below, meth, c, A, Q⟩ := X
  intro ls H locs hl hP hD hS
  obtain ⟨hx, hb, hml, hown, hts, hR, hKA, hA, hl9⟩ := hC
  have hK := hKA.1
  refine va_newa (a0 := (N, .inl (fun _ => 0))) (atype := .int) (ty := .int) hx hb (hts _ aw_I) rfl hK hP hD hS hA (fun _ => rfl) hn hN (by show N * 4 ≤ _; omega) (by omega) (by omega) hd (fun q cA H1 hK1 hP1 hD1 hS1 => ?_)
  have h1 : s.vm.findClass ("[" ++ FieldType.int.toString) = some cA := (hK1.2 6 (cA, .int) rfl).2
  have h2 : s.vm.findClass ("[" ++ FieldType.int.toString) = some (G.2.2 8) := (hK.2 0 (G.2.2 8, .int) rfl).2
  have e9 : cA = G.2.2 8 := Option.some.inj (h1.symm.trans h2)
  rw [e9] at hP1 hD1
  exact kk q ls H1 locs hl (hws q ▸ hP1) (hws q ▸ hD1) hS1

theorem n_newL (hC : NX X G l9 own cc nL d mc ms) {n : Int32} {N : Nat} {ws9 : Nat → va_W} (hn : ¬ n < 0) (hN : n.toNatClampNeg = N) (hN2 : N ≤ 10000) (hcl : cl + 1 ≤ mc) (hsl : sl + N ≤ ms) (hd : decode cc pc = .ok (.newarray .long, 2)) (hws : ∀ q, ws ++ [(q, .inl (G.2.2 9, N, .inr (.inl (fun _ => 0))))] = ws9 q) (kk : ∀ q : Nat, NW X G nL (pc + 2) l (.ref q :: st) (cl + 1) (sl + N) (ws9 q)) : NW X G nL pc l (.int n :: st) cl sl ws := by
  obtain ⟨p, l0, e, RR, s, m, args, below, meth, c, A, Q⟩ := X
  intro ls H locs hl hP hD hS
  obtain ⟨hx, hb, hml, hown, hts, hR, hKA, hA, hl9⟩ := hC
  have hK := hKA.1
  refine va_newa (a0 := (N, .inr (.inl (fun _ => 0)))) (atype := .long) (ty := .long) hx hb (hts _ aw_L) rfl hK hP hD hS hA (fun _ => rfl) hn hN (by show N * 8 ≤ _; omega) (by omega) (by omega) hd (fun q cA H1 hK1 hP1 hD1 hS1 => ?_)
  have h1 : s.vm.findClass ("[" ++ FieldType.long.toString) = some cA := (hK1.2 6 (cA, .long) rfl).2
  have h2 : s.vm.findClass ("[" ++ FieldType.long.toString) = some (G.2.2 9) := (hK.2 1 (G.2.2 9, .long) rfl).2
  have e9 : cA = G.2.2 9 := Option.some.inj (h1.symm.trans h2)
  rw [e9] at hP1 hD1
  exact kk q ls H1 locs hl (hws q ▸ hP1) (hws q ▸ hD1) hS1

theorem n_newZ (hC : NX X G l9 own cc nL d mc ms) {n : Int32} {N : Nat} {ws9 : Nat → va_W} (hn : ¬ n < 0) (hN : n.toNatClampNeg = N) (hN2 : N ≤ 10000) (hcl : cl + 1 ≤ mc) (hsl : sl + N ≤ ms) (hd : decode cc pc = .ok (.newarray .boolean, 2)) (hws : ∀ q, ws ++ [(q, .inl (G.2.2 10, N, .inl (fun _ => 0)))] = ws9 q) (kk : ∀ q : Nat, NW X G nL (pc + 2) l (.ref q :: st) (cl + 1) (sl + N) (ws9 q)) : NW X G nL pc l (.int n :: st) cl sl ws := by
  obtain ⟨p, l0, e, RR, s, m, args, below, meth, c, A, Q⟩ := X
  intro ls H locs hl hP hD hS
  obtain ⟨hx, hb, hml, hown, hts, hR, hKA, hA, hl9⟩ := hC
  have hK := hKA.1
  refine va_newa (a0 := (N, .inl (fun _ => 0))) (atype := .boolean) (ty := .boolean) hx hb (hts _ aw_Z) rfl hK hP hD hS hA (fun _ => rfl) hn hN (by show N * 1 ≤ _; omega) (by omega) (by omega) hd (fun q cA H1 hK1 hP1 hD1 hS1 => ?_)
  have h1 : s.vm.findClass ("[" ++ FieldType.boolean.toString) = some cA := (hK1.2 6 (cA, .boolean) rfl).2
  have h2 : s.vm.findClass ("[" ++ FieldType.boolean.toString) = some (G.2.2 10) := (hK.2 2 (G.2.2 10, .boolean) rfl).2
  have e9 : cA = G.2.2 10 := Option.some.inj (h1.symm.trans h2)
  rw [e9] at hP1 hD1
  exact kk q ls H1 locs hl (hws q ▸ hP1) (hws q ▸ hD1) hS1

theorem n_newQ (hC : NX X G l9 own cc nL d mc ms) {n : Int32} {N idx a9 t9 : Nat} {C : String} {ws9 : Nat → va_W} (hlk : Cond.classLink own idx C ∈ BIG) (hao : ∀ U, KA G U → va_AO C U) (ht : (tysOf G)[t9]? = some (G.2.2 a9, .object C)) (hn : ¬ n < 0) (hN : n.toNatClampNeg = N) (hN2 : N ≤ 10000) (hcl : cl + 1 ≤ mc) (hsl : sl + N ≤ ms) (hd : decode cc pc = .ok (.anewarray idx, 3)) (hws : ∀ q, ws ++ [(q, .inl (G.2.2 a9, N, .inr (.inr (.inr (.inr (fun _ => none))))))] = ws9 q) (kk : ∀ q : Nat, NW X G nL (pc + 3) l (.ref q :: st) (cl + 1) (sl + N) (ws9 q)) : NW X G nL pc l (.int n :: st) cl sl ws := by
  obtain ⟨p, l0, e, RR, s, m, args, below, meth, c, A, Q⟩ := X
  intro ls H locs hl hP hD hS
  obtain ⟨hx, hb, hml, hown, hts, hR, hKA, hA, hl9⟩ := hC
  have hK := hKA.1
  refine va_newq (C := C) hx hb hown (hts _ hlk) (hao _ hKA) hK hP hD hS hA hn hN (by omega) (by omega) (by omega) hd (fun q cA H1 hK1 hP1 hD1 hS1 => ?_)
  obtain ⟨_, _, -, -, -, h1⟩ := (hK1.2 6 (cA, .object C) rfl).2
  obtain ⟨_, _, -, -, -, h2⟩ := (hK.2 t9 (G.2.2 a9, .object C) ht).2
  have e9 : cA = G.2.2 a9 := Option.some.inj (h1.symm.trans h2)
  rw [e9] at hP1 hD1
  exact kk q ls H1 locs hl (hws q ▸ hP1) (hws q ▸ hD1) hS1

theorem n_putF (hC : NX X G l9 own cc nL d mc ms) (hI : NI X) {idx ci N k a : Nat} {C : String} {T : u_T} {t0 : Nat → FieldType} (hc : CK ci C T N t0) {fs : List Value} {ty : FieldType} {v : Value} {ws9 : va_W} (he : ws[0]? = some (a, .inr (ci, fs))) (hk : k < N) (hlk : Cond.fieldLink own idx C (T k).2.1 (T k).2.2.1 ∈ BIG) (hdecl : (T k).1 = C ∧ (T k).1 = own ∧ (T k).2.2.2 = true ∧ parseFieldDescriptor (T k).2.2.1 = some ty) (hn : narrow ty v = v) (hfit : fits ty v = true) (hl5 : k < fs.length) (hd : decode cc pc = .ok (.putfield idx, 3)) (hset : ws.set 0 (a, .inr (ci, fs.set k v)) = ws9) (kk : NW X G nL (pc + 3) l (st) cl sl ws9) : NW X G nL pc l (v :: .ref a :: st) cl sl ws := by
  obtain ⟨p, l0, e, RR, s, m, args, below, meth, c, A, Q⟩ := X
  intro ls H locs hl hP hD hS
  obtain ⟨hx, hb, hml, hown, hts, hR, hKA, hA, hl9⟩ := hC
  have hK := hKA.1
  exact va_putF (ref := C) (own := own) hx hb hts hc.2.1 t0 hc.2.2.1 hc.2.2.2.1 hown hK hP hD hS 0 he hc.1 k hk (hts _ hlk) (by rw [hdecl.1]; exact fun _ z => z) hdecl.2.2.1 hI hdecl.2.1 hdecl.2.2.2 hn hfit hl5 hd (fun H1 locs1 hP1 hD1 hS1 => kk ls H1 locs1 hl (hset ▸ hP1) (hset ▸ hD1) hS1)

theorem n_put (hC : NX X G l9 own cc nL d mc ms) {idx ci N k a : Nat} {C : String} {T : u_T} {t0 : Nat → FieldType} (hc : CK ci C T N t0) {fs : List Value} {ty : FieldType} {v : Value} {ws9 : va_W} (he : ws[0]? = some (a, .inr (ci, fs))) (hk : k < N) (hlk : Cond.fieldLink own idx C (T k).2.1 (T k).2.2.1 ∈ BIG) (hdecl : (T k).1 = C ∧ (T k).1 = own ∧ (T k).2.2.2 = false ∧ parseFieldDescriptor (T k).2.2.1 = some ty) (hn : narrow ty v = v) (hfit : fits ty v = true) (hl5 : k < fs.length) (hd : decode cc pc = .ok (.putfield idx, 3)) (hset : ws.set 0 (a, .inr (ci, fs.set k v)) = ws9) (kk : NW X G nL (pc + 3) l (st) cl sl ws9) : NW X G nL pc l (v :: .ref a :: st) cl sl ws := by
  obtain ⟨p, l0, e, RR, s, m, args, below, meth, c, A, Q⟩ := X
  intro ls H locs hl hP hD hS
  obtain ⟨hx, hb, hml, hown, hts, hR, hKA, hA, hl9⟩ := hC
  have hK := hKA.1
  exact va_put (ref := C) (own := own) hx hb hts hc.2.1 t0 hc.2.2.1 hc.2.2.2.1 hown hK hP hD hS 0 he hc.1 k hk (hts _ hlk) (by rw [hdecl.1]; exact fun _ z => z) hdecl.2.2.1 hdecl.2.2.2 hn hfit hl5 hd (fun H1 locs1 hP1 hD1 hS1 => kk ls H1 locs1 hl (hset ▸ hP1) (hset ▸ hD1) hS1)

theorem n_get (hC : NX X G l9 own cc nL d mc ms) {idx ci N k a : Nat} {C : String} {T : u_T} {t0 : Nat → FieldType} (hc : CK ci C T N t0) {fs : List Value} {v : Value} (he : ws[0]? = some (a, .inr (ci, fs))) (hk : k < N) (hlk : Cond.fieldLink own idx C (T k).2.1 (T k).2.2.1 ∈ BIG) (hdecl : (T k).1 = C) (hv : fs[k]? = some v) (hd : decode cc pc = .ok (.getfield idx, 3)) (kk : NW X G nL (pc + 3) l (v :: st) cl sl ws) : NW X G nL pc l (.ref a :: st) cl sl ws := by
  obtain ⟨p, l0, e, RR, s, m, args, below, meth, c, A, Q⟩ := X
  intro ls H locs hl hP hD hS
  obtain ⟨hx, hb, hml, hown, hts, hR, hKA, hA, hl9⟩ := hC
  have hK := hKA.1
  exact va_get (ref := C) (own := own) hx hb hts hc.2.1 hown hK hP 0 he hc.1 k hk (hts _ hlk) (by rw [hdecl]; exact fun _ z => z) hv hd (kk ls H locs hl hP hD hS)

theorem n_astq (hC : NX X G l9 own cc nL d mc ms) (q0 t9 qk ci : Nat) {a v n : Nat} {cA : ClassId} {r : vw_C} {vs : List Value} {f : Nat → Option Nat} {i : Int32} {ws9 : va_W} (ha : ws[q0]? = some (a, .inl (cA, n, .inr (.inr (.inr (.inr f)))))) (ht : (tysOf G)[t9]? = some (cA, .object r.1)) (hv : ws[qk]? = some (v, .inr (ci, vs))) (hc : vwCl[ci]? = some r) {k9 : Nat} (hk9 : i.toNatClampNeg = k9) (hin : vp_in i n) (hd : decode cc pc = .ok (.aastore, 1)) (hset : ws.set q0 (a, .inl (cA, n, .inr (.inr (.inr (.inr (va_up f k9 (some v))))))) = ws9) (kk : NW X G nL (pc + 1) l (st) cl sl ws9) : NW X G nL pc l (.ref v :: .int i :: .ref a :: st) cl sl ws := by
  obtain ⟨p, l0, e, RR, s, m, args, below, meth, c, A, Q⟩ := X
  intro ls H locs hl hP hD hS
  obtain ⟨hx, hb, hml, hown, hts, hR, hKA, hA, hl9⟩ := hC
  have hK := hKA.1
  subst hk9
  exact va_astq hx hb hK hP hD hS q0 t9 qk ci ha ht hv hc hin hd (fun H1 locs1 hP1 hD1 hS1 => kk ls H1 locs1 hl (hset ▸ hP1) (hset ▸ hD1) hS1)

theorem n_iast (hC : NX X G l9 own cc nL d mc ms) (q0 : Nat) {a n : Nat} {f : Nat → Int32} {i x : Int32} {ws9 : va_W} (ha : ws[q0]? = some (a, .inl (G.2.2 8, n, .inl f))) (hin : vp_in i n) (hd : decode cc pc = .ok (.iastore, 1)) (hset : ws.set q0 (a, .inl (G.2.2 8, n, .inl (upd f i.toNatClampNeg x))) = ws9) (kk : NW X G nL (pc + 1) l (st) cl sl ws9) : NW X G nL pc l (.int x :: .int i :: .ref a :: st) cl sl ws := by
  obtain ⟨p, l0, e, RR, s, m, args, below, meth, c, A, Q⟩ := X
  intro ls H locs hl hP hD hS
  obtain ⟨hx, hb, hml, hown, hts, hR, hKA, hA, hl9⟩ := hC
  have hK := hKA.1
  exact va_iast hx hb hK hP hD hS q0 0 ha rfl hin hd (fun H1 locs1 hP1 hD1 hS1 => kk ls H1 locs1 hl (hset ▸ hP1) (hset ▸ hD1) hS1)

theorem n_alenI (hC : NX X G l9 own cc nL d mc ms) (q0 : Nat) {a n : Nat} {f : Nat → Int32} (ha : ws[q0]? = some (a, .inl (G.2.2 8, n, .inl f))) (hd : decode cc pc = .ok (.arraylength, 1)) (kk : NW X G nL (pc + 1) l (.int (Int32.ofNat n) :: st) cl sl ws) : NW X G nL pc l (.ref a :: st) cl sl ws := by
  obtain ⟨p, l0, e, RR, s, m, args, below, meth, c, A, Q⟩ := X
  intro ls H locs hl hP hD hS
  obtain ⟨hx, hb, hml, hown, hts, hR, hKA, hA, hl9⟩ := hC
  have hK := hKA.1
  exact va_alen (x := (n, .inl f)) hx hb hK hP q0 0 ha rfl rfl hd (kk ls H locs hl hP hD hS)

theorem n_locs (ks : List Nat) (hl9 : ks.filterMap (fun k => l[k]?) = l') (kk : NW X G nL pc l' st cl sl ws) : NW X G nL pc l st cl sl ws := by
  obtain ⟨p, l0, e, RR, s, m, args, below, meth, c, A, Q⟩ := X
  intro ls H locs hl hP hD hS
  refine kk ls H locs ⟨hl.1, hl.2.1, fun q hq => ?_⟩ hP hD hS
  subst hl9
  obtain ⟨i, -, hi⟩ := List.mem_filterMap.mp hq
  exact hl.2.2 _ (List.mem_of_getElem? hi)
/-- a constructor called over the newest cell -/
theorem n_ctor (hC : NX X G l9 own cc nL d mc ms) {y : MethodName} {bytes : ByteArray} {maxL d' mc' ms' idx q : Nat} {o : Nat × List Value} {S : Type} {w1 : S → va_W} {pre : va_W} {ws9 : S → va_W} (hM : NM l9 G y bytes maxL d' mc' ms' [.ref q] [(q, .inr o)] w1) (hw : CB own idx y bytes maxL none 0) (hin : Cond.instanceMethod y ∈ BIG) (hy1 : y.name = "<init>") (hroom : (st.map fun v => v.category).sum ≤ 8) (hdd : d' + 1 ≤ d) (hcl : cl + mc' ≤ mc) (hsl : sl + ms' ≤ ms) (hd : decode cc pc = .ok (.invokespecial idx, 3)) (hws : ws = pre ++ [(q, .inr o)]) (hws9 : ∀ u, pre ++ w1 u = ws9 u) (kk : ∀ u, NW X G nL (pc + 3) l st (cl + mc') (sl + ms') (ws9 u)) : NW X G nL pc l (.ref q :: st) cl sl ws := by
  obtain ⟨p, l0, e, RR, s, m, args, below, meth, c, A, Q⟩ := X
  intro ls H locs hl hP hD hS
  obtain ⟨hx, hb, hml, hown, hts, hR, hKA, hA, hl9⟩ := hC
  have hK := hKA.1
  subst hl9
  subst hws
  obtain ⟨w1', w2, w3, w4, w5⟩ := hw
  have hPc : va_P G.2.1 vwCl [(q, .inr o)] H := hP.by (fun k => pre.length + k) (fun k x hx => by rw [List.getElem?_append_right (by omega), Nat.add_sub_cancel_left]; exact hx)
  have hDc := hD.sub (ws' := [(q, .inr o)]) [pre.length] (by simp [va_nd]) (nw_last pre _)
  have hFc := va_free (wc := [(q, .inr o)]) hD hS hA [pre.length] (nw_last pre _)
  refine va_callv (va_runI (As := []) (rest := st) ⟨hx, hb, hml, hown, hts⟩ (hM H.size) (cwI 0 hts (ms_in w3) rfl rfl rfl (hts _ w2) (hts _ w1') (hts _ hin) hy1 w4 ⟨by show d' + 1 ≤ _; omega, by show _ + 40 * d' ≤ _; omega⟩) ⟨nm_blind G _ _ _, fun U hU hWm => ⟨rfl, by rw [hU], by rw [hU]; exact hPc, KA.moved hWm.alike hKA, hDc.weaken (fun _ _ _ _ => trivial)⟩⟩ rfl rfl hl.1 rfl (lv_room hroom) hd ⟨by omega, by omega⟩) hS (fun q _ h => hFc q h) hFc (fun u t H1 locs1 ht hvm _ hB hz1 hk1 hS1 => ?_)
  obtain ⟨hP1, hD1⟩ := hB
  rw [ht] at hP1
  obtain ⟨hP2, hD2⟩ := va_join (wr := pre) (w1 := w1 u) hP hD [pre.length] (List.range pre.length) (nw_last pre _) (nw_pre pre _) (nd_range _) (fun i hi hm => by
    have := List.mem_range.mp hi
    have e : i = pre.length := by simpa using hm
    omega) hk1 hFc hP1 hD1
  exact kk u ls H1 locs1 hl (hws9 u ▸ hP2) (hws9 u ▸ hD2) hS1
/-- a static method called over some of the cells -/
theorem n_callS (hC : NX X G l9 own cc nL d mc ms) {y : MethodName} {bytes : ByteArray} {maxL d' mc' ms' idx : Nat} {As st0 : List Value} {w0 wr : va_W} {S : Type} {w1 : S → va_W} {ws9 : S → va_W} (hM : NM l9 G y bytes maxL d' mc' ms' As w0 w1) (hw : CS own idx y bytes maxL none As.length) (hst : st0 = As.reverse ++ st) (isC isR : List Nat) (hCs : isC.map (fun i => ws[i]?) = w0.map some) (hCn : va_nd isC = true) (hRs : isR.map (fun i => ws[i]?) = wr.map some) (hn : va_nd isR = true) (hdis : ∀ i ∈ isR, i ∉ isC) (hroom : (st.map fun v => v.category).sum ≤ 8) (hdd : d' + 1 ≤ d) (hcl : cl + mc' ≤ mc) (hsl : sl + ms' ≤ ms) (hd : decode cc pc = .ok (.invokestatic idx, 3)) (hws9 : ∀ u, wr ++ w1 u = ws9 u) (kk : ∀ u, NW X G nL (pc + 3) l st (cl + mc') (sl + ms') (ws9 u)) : NW X G nL pc l st0 cl sl ws := by
  obtain ⟨p, l0, e, RR, s, m, args, below, meth, c, A, Q⟩ := X
  intro ls H locs hl hP hD hS
  obtain ⟨hx, hb, hml, hown, hts, hR, hKA, hA, hl9⟩ := hC
  have hK := hKA.1
  subst hl9
  subst hst
  have hPc : va_P G.2.1 vwCl w0 H := fun k x hx => by
    have h1 : (isC.map (fun i => ws[i]?))[k]? = some (some x) := by rw [hCs, List.getElem?_map, hx]; rfl
    rw [List.getElem?_map] at h1
    cases hi : isC[k]? with
    | none => rw [hi] at h1; cases h1
    | some i => rw [hi] at h1; exact hP i x (Option.some.inj h1)
  have hDc := hD.sub (ws' := w0) isC hCn hCs
  have hFc := va_free (wc := w0) hD hS hA isC hCs
  refine va_callv (va_runS (As := As) (rest := st) ⟨hx, hb, hml, hown, hts⟩ (hM H.size) ⟨callB_of As.length hts (ms_in hw.1.2.2.1) rfl rfl rfl (hts _ hw.1.2.1) (hts _ hw.1.1) hw.1.2.2.2.1 ⟨by show d' + 1 ≤ _; omega, by have := hw.1.2.2.2.2; show _ + 40 * d' ≤ _; omega⟩, hts _ hw.2⟩ ⟨nm_blind G _ _ _, fun U hU hWm => ⟨rfl, by rw [hU], by rw [hU]; exact hPc, KA.moved hWm.alike hKA, hDc.weaken (fun _ _ _ _ => trivial)⟩⟩ rfl rfl hl.1 rfl (lv_room hroom) hd ⟨by omega, by omega⟩) hS (fun q _ h => hFc q h) hFc (fun u t H1 locs1 ht hvm _ hB hz1 hk1 hS1 => ?_)
  obtain ⟨hP1, hD1⟩ := hB
  rw [ht] at hP1
  obtain ⟨hP2, hD2⟩ := va_join (wr := wr) (w1 := w1 u) hP hD isC isR hCs hRs hn hdis hk1 hFc hP1 hD1
  exact kk u ls H1 locs1 hl (hws9 u ▸ hP2) (hws9 u ▸ hD2) hS1
theorem n_ret {w0 : va_W} {S : Type} {w1 : S → va_W} (hC : NX X G l9 own cc nL d mc ms) (hX : NR X G w0 w1 mc ms) (u : S) (hcl : cl ≤ mc) (hsl : sl ≤ ms) (hd : decode cc pc = .ok (.return_, 1)) (hws : ws = w1 u) : NW X G nL pc l [] cl sl ws := by
  obtain ⟨p, l0, e, RR, s, m, args, below, meth, c, A, Q⟩ := X
  intro ls H locs hl hP hD hS
  obtain ⟨hr, hlk, hA, hQ⟩ := hX
  subst hA; subst hQ; subst hws
  refine W.widen (k := mc) (n := ms) hcl hsl ?_
  exact W.vret hC.1 hC.2.1 hr (fun t ht _ => ⟨⟨u, rfl, trivial, by rw [ht]; exact hP, hD⟩, hS.F ht⟩) hS.2.2 hd hlk
theorem NM_of {y : MethodName} {As : List Value} {w0 : va_W} {S : Type} {w1 : S → va_W} (hy : plainName y.cls = true) (hlen : (lg_sl As).length ≤ nL) (body : ∀ X : NT, NX X G l9 y.cls cc nL d mc ms → NR X G w0 w1 mc ms → (y.name = "<init>" → NI X) → NW X G nL 0 (lv_args 0 As) [] 0 0 w0) : NM l9 G y cc nL d mc ms As w0 w1 := by
  intro sz
  refine Met.ofW (cc := cc) (maxL := nL) (ret := none) hy rfl ?_
  intro p e s m args below meth c s₁ B hml hv
  obtain ⟨rfl, hsz, hP, hK, hD⟩ := hv
  subst hsz
  have hts := atoms_spec (ws := .code y cc nL none :: BIG) B.pre
  have hown : s.vm.findClass y.cls = some m.cls := findClass_of_methodNamed B.named
  have hl := lv_entry As (n := nL) hlen
  rw [lg_entry_eq]
  exact body (p, l9, e, _, s, m, _, below, meth, c, va_A w0 s.heap.size, _) ⟨B.exec, B.bytes, hml, hown, fun w hw => hts w (List.mem_cons_of_mem _ hw), ⟨Nat.le_refl _, Nat.le_refl _, Nat.le_refl _, Nat.le_refl _⟩, hK, fun q h => Or.inr h, rfl⟩ ⟨B.returns, B.notSynchronized, rfl, rfl⟩ (fun h => (name_of_methodNamed B.named B.method).1.trans h) _ s.heap [] hl hP hD.self va_S.rf
end NROW
