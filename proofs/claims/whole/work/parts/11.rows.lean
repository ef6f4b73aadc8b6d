/-! THE WALK OVER THE WORLD: V X G nL pc l st h: the machine, at pc with locals l and stack st over the heap h, comes to X's end -/
abbrev CT : Type := Program × Launch × Env × Room × State × MethodId × Array Value × List Frame × Method × Code × Nat × Nat × (Nat → Prop) × (State → Prop)
def V (X : CT) (G : WT) (nL pc : Nat) (l : List (Nat × PV)) (st : List PV) (h : HP) : Prop :=
  match X with
  | (p, l0, e, R, s, m, args, below, meth, c, cl, sl, A, Q) => ∀ (ls : Array Slot) (H : Heap) (locs : List Loc), lv_has ls nL (l.map (fun q => (q.1, tr G.1 q.2))) → va_P G.2.1 vwCl (ww G h) H → va_S A s.heap H locs → W p l0 e R s m args below meth c H locs cl sl Q (F0 m pc ls (st.map (tr G.1)))
/-- what holds all through a method's body -/
def Cx (X : CT) (G : WT) (l9 : Launch) (own : String) (cc : ByteArray) (nL d : Nat) : Prop :=
  match X with
  | (p, l0, _, R, s, m, args, _, _, c, cl, sl, A, _) => p.tables.exec = Jvm.exec ∧ c.code = cc ∧ c.maxLocals = nL ∧ s.vm.findClass own = some m.cls ∧ (∀ w ∈ BIG, w.before args s = true) ∧ (d ≤ R.frames ∧ 40 * d ≤ R.locals ∧ cl ≤ R.cells ∧ sl ≤ R.slots) ∧ Wd G A s s.heap ∧ l0 = l9
/-- a method's end: R of its answer and of the heap -/
def qc (G : WT) (R : Option PV → HP → Prop) : Array Value → State → Outcome → State → Prop := fun _ st o t => (∃ (r : Option PV) (h : HP), o = .returned (r.map (tr G.1)) ∧ R r h ∧ va_P G.2.1 vwCl (ww G h) t.heap) ∧ va_F (wA G.1) st t
def Rx (X : CT) (G : WT) (ret : Option FieldType) (R : Option PV → HP → Prop) : Prop :=
  match X with
  | (_, _, _, _, s, _, args, below, meth, _, cl, sl, A, Q) => meth.sig.returnType = ret ∧ meth.locks = false ∧ cl = 0 ∧ sl = 0 ∧ A = wA G.1 ∧ Q = MQ below (qc G R) args s 0 0 (wA G.1)
/-- a method's contract: begun with av over h it returns, and R holds of its answer and of the heap behind it -/
def MS (l : Launch) (G : WT) (y : MethodName) (cc : ByteArray) (nL : Nat) (ret : Option FieldType) (d : Nat) (av : List PV) (h : HP) (R : Option PV → HP → Prop) : Prop :=
  Met l y (.code y cc nL ret :: BIG) { frames := d, cells := 0, slots := 0, locals := 40 * d } (va_Pc (av.map (tr G.1)) (fun U => va_P G.2.1 vwCl (ww G h) U.heap ∧ Wd G (wA G.1) U U.heap)) (qc G R) 0 0 (wA G.1)
theorem tr_cat (ad : PId → Nat) (v : PV) : (tr ad v).category = match v with | .inr (.inl _) => 2 | _ => 1 := by
  rcases v with x | x | _ | i <;> rfl
def cat2 (v : PV) : Bool := match v with
  | .inr (.inl _) => true
  | _ => false
theorem cat2_tr (ad : PId → Nat) (v : PV) : ((tr ad v).category == 2) = cat2 v := by
  rcases v with x | x | _ | i <;> rfl
theorem cat1_tr (ad : PId → Nat) {v : PV} (hv : cat2 v = false) : (tr ad v).category = 1 := by
  rcases v with x | x | _ | i
  · rfl
  · cases hv
  · rfl
  · rfl
def st1 (i : Nat) (v : PV) (l : List (Nat × PV)) : List (Nat × PV) := (i, v) :: l.filter (fun q => !(q.1 == i) && !(q.1 + 1 == i && cat2 q.2))
def st2 (i : Nat) (v : PV) (l : List (Nat × PV)) : List (Nat × PV) := (i, v) :: l.filter (fun q => !(q.1 == i) && (!(q.1 == i + 1) && !(q.1 + 1 == i && cat2 q.2)))
def args0 : Nat → List PV → List (Nat × PV)
  | _, [] => []
  | i, v :: vs => (i, v) :: args0 (if cat2 v then i + 2 else i + 1) vs
theorem st1_tr (ad : PId → Nat) (i : Nat) (v : PV) (l : List (Nat × PV)) : (st1 i v l).map (fun q => (q.1, tr ad q.2)) = (i, tr ad v) :: (l.map (fun q => (q.1, tr ad q.2))).filter (fun q => !(q.1 == i) && !(q.1 + 1 == i && q.2.category == 2)) := by
  unfold st1
  rw [List.map_cons, List.filter_map]
  congr 3
  funext q
  simp [Function.comp, cat2_tr]
theorem st2_tr (ad : PId → Nat) (i : Nat) (v : PV) (l : List (Nat × PV)) : (st2 i v l).map (fun q => (q.1, tr ad q.2)) = (i, tr ad v) :: (l.map (fun q => (q.1, tr ad q.2))).filter (fun q => !(q.1 == i) && (!(q.1 == i + 1) && !(q.1 + 1 == i && q.2.category == 2))) := by
  unfold st2
  rw [List.map_cons, List.filter_map]
  congr 3
  funext q
  simp [Function.comp, cat2_tr]
theorem args0_tr (ad : PId → Nat) (vs : List PV) : ∀ i, (args0 i vs).map (fun q => (q.1, tr ad q.2)) = lv_args i (vs.map (tr ad)) := by
  induction vs with
  | nil => intro i; rfl
  | cons v vs ih =>
    intro i
    rw [args0, List.map_cons, ih, List.map_cons, lv_args]
    congr 2
    rcases v with x | x | _ | i <;> rfl
/-- the place of a local in the list -/
theorem l_at {ad : PId → Nat} {ls : Array Slot} {nL : Nat} {l : List (Nat × PV)} (hl : lv_has ls nL (l.map (fun q => (q.1, tr ad q.2)))) {k i : Nat} {v : PV} (hk : l[k]? = some (i, v)) : ls[i]? = some (.val (tr ad v)) :=
  lv_at hl k (by rw [List.getElem?_map, hk]; rfl)
section VR
variable {X : CT} {G : WT} {l9 : Launch} {own : String} {cc : ByteArray} {nL d pc : Nat} {l l' : List (Nat × PV)} {rest : List PV} {h : HP} {ret : Option FieldType} {R : Option PV → HP → Prop}

theorem v_iconst (hC : Cx X G l9 own cc nL d) {n : Int} {v : Int32} (hv : Int32.ofInt n = v) (hd : decode cc pc = .ok (.iconst n, 1)) (k : V X G nL (pc + 1) l (vi v :: rest) h) : V X G nL pc l (rest) h := by
  obtain ⟨p, l0, e, RR, s, m, args, below, meth, c, cl, sl, A, Q⟩ := X
  intro ls H locs hl hP hS
  obtain ⟨hx, hb, hml, hown, hts, hR, hW, hl9⟩ := hC
  exact lv_iconst hx hb hd hv (k ls H locs hl hP hS)
theorem v_bipush (hC : Cx X G l9 own cc nL d) {n : Int} {v : Int32} (hv : (Int8.ofInt n).toInt32 = v) (hd : decode cc pc = .ok (.bipush n, 2)) (k : V X G nL (pc + 2) l (vi v :: rest) h) : V X G nL pc l (rest) h := by
  obtain ⟨p, l0, e, RR, s, m, args, below, meth, c, cl, sl, A, Q⟩ := X
  intro ls H locs hl hP hS
  obtain ⟨hx, hb, hml, hown, hts, hR, hW, hl9⟩ := hC
  exact lv_bipush hx hb hd hv (k ls H locs hl hP hS)
theorem v_sipush (hC : Cx X G l9 own cc nL d) {n : Int} {v : Int32} (hv : (Int16.ofInt n).toInt32 = v) (hd : decode cc pc = .ok (.sipush n, 3)) (k : V X G nL (pc + 3) l (vi v :: rest) h) : V X G nL pc l (rest) h := by
  obtain ⟨p, l0, e, RR, s, m, args, below, meth, c, cl, sl, A, Q⟩ := X
  intro ls H locs hl hP hS
  obtain ⟨hx, hb, hml, hown, hts, hR, hW, hl9⟩ := hC
  exact lv_sipush hx hb hd hv (k ls H locs hl hP hS)
theorem v_lconst (hC : Cx X G l9 own cc nL d) {n : Fin 2} {v : Int64} (hv : Int64.ofNat (n : Nat) = v) (hd : decode cc pc = .ok (.lconst n, 1)) (k : V X G nL (pc + 1) l (vl v :: rest) h) : V X G nL pc l (rest) h := by
  obtain ⟨p, l0, e, RR, s, m, args, below, meth, c, cl, sl, A, Q⟩ := X
  intro ls H locs hl hP hS
  obtain ⟨hx, hb, hml, hown, hts, hR, hW, hl9⟩ := hC
  exact lv_lconst hx hb hd hv (k ls H locs hl hP hS)
theorem v_iload_n (hC : Cx X G l9 own cc nL d) (j : Nat) {k : Fin 4} {x : Int32} (hk : l[j]? = some ((k : Nat), vi x)) (hd : decode cc pc = .ok (.iload_n k, 1)) (k : V X G nL (pc + 1) l (vi x :: rest) h) : V X G nL pc l (rest) h := by
  obtain ⟨p, l0, e, RR, s, m, args, below, meth, c, cl, sl, A, Q⟩ := X
  intro ls H locs hl hP hS
  obtain ⟨hx, hb, hml, hown, hts, hR, hW, hl9⟩ := hC
  exact lv_iload_n hx hb hd rfl (l_at hl hk) (k ls H locs hl hP hS)
theorem v_iload (hC : Cx X G l9 own cc nL d) (j : Nat) {i : Nat} {x : Int32} (hk : l[j]? = some (i, vi x)) (hd : decode cc pc = .ok (.iload i, 2)) (k : V X G nL (pc + 2) l (vi x :: rest) h) : V X G nL pc l (rest) h := by
  obtain ⟨p, l0, e, RR, s, m, args, below, meth, c, cl, sl, A, Q⟩ := X
  intro ls H locs hl hP hS
  obtain ⟨hx, hb, hml, hown, hts, hR, hW, hl9⟩ := hC
  exact lv_iload hx hb hd (l_at hl hk) (k ls H locs hl hP hS)
theorem v_lload_n (hC : Cx X G l9 own cc nL d) (j : Nat) {k : Fin 4} {x : Int64} (hk : l[j]? = some ((k : Nat), vl x)) (hd : decode cc pc = .ok (.lload_n k, 1)) (k : V X G nL (pc + 1) l (vl x :: rest) h) : V X G nL pc l (rest) h := by
  obtain ⟨p, l0, e, RR, s, m, args, below, meth, c, cl, sl, A, Q⟩ := X
  intro ls H locs hl hP hS
  obtain ⟨hx, hb, hml, hown, hts, hR, hW, hl9⟩ := hC
  exact lv_lload_n hx hb hd rfl (l_at hl hk) (k ls H locs hl hP hS)
theorem v_lload (hC : Cx X G l9 own cc nL d) (j : Nat) {i : Nat} {x : Int64} (hk : l[j]? = some (i, vl x)) (hd : decode cc pc = .ok (.lload i, 2)) (k : V X G nL (pc + 2) l (vl x :: rest) h) : V X G nL pc l (rest) h := by
  obtain ⟨p, l0, e, RR, s, m, args, below, meth, c, cl, sl, A, Q⟩ := X
  intro ls H locs hl hP hS
  obtain ⟨hx, hb, hml, hown, hts, hR, hW, hl9⟩ := hC
  exact lv_lload hx hb hd (l_at hl hk) (k ls H locs hl hP hS)
theorem v_aload_n (hC : Cx X G l9 own cc nL d) (j : Nat) {k : Fin 4} {x : PId} (hk : l[j]? = some ((k : Nat), vr x)) (hd : decode cc pc = .ok (.aload_n k, 1)) (k : V X G nL (pc + 1) l (vr x :: rest) h) : V X G nL pc l (rest) h := by
  obtain ⟨p, l0, e, RR, s, m, args, below, meth, c, cl, sl, A, Q⟩ := X
  intro ls H locs hl hP hS
  obtain ⟨hx, hb, hml, hown, hts, hR, hW, hl9⟩ := hC
  exact lv_aload_n hx hb hd rfl (l_at hl hk) (k ls H locs hl hP hS)
theorem v_aload (hC : Cx X G l9 own cc nL d) (j : Nat) {i : Nat} {x : PId} (hk : l[j]? = some (i, vr x)) (hd : decode cc pc = .ok (.aload i, 2)) (k : V X G nL (pc + 2) l (vr x :: rest) h) : V X G nL pc l (rest) h := by
  obtain ⟨p, l0, e, RR, s, m, args, below, meth, c, cl, sl, A, Q⟩ := X
  intro ls H locs hl hP hS
  obtain ⟨hx, hb, hml, hown, hts, hR, hW, hl9⟩ := hC
  exact lv_aload hx hb hd (l_at hl hk) (k ls H locs hl hP hS)
theorem v_istore_n (hC : Cx X G l9 own cc nL d) {k : Fin 4} {x : Int32} (hd : decode cc pc = .ok (.istore_n k, 1)) (hn : (k : Nat) < nL) (hst9 : st1 (k : Nat) (vi x) l = l') (k : V X G nL (pc + 1) l' rest h) : V X G nL pc l (vi x :: rest) h := by
  obtain ⟨p, l0, e, RR, s, m, args, below, meth, c, cl, sl, A, Q⟩ := X
  intro ls H locs hl hP hS
  obtain ⟨hx, hb, hml, hown, hts, hR, hW, hl9⟩ := hC
  subst hst9
  exact lv_istore_n hx hb hd rfl hl hn (st1_tr G.1 _ (vi x) l).symm (fun ls2 hl2 => k ls2 H locs hl2 hP hS)
theorem v_istore (hC : Cx X G l9 own cc nL d) {i : Nat} {x : Int32} (hd : decode cc pc = .ok (.istore i, 2)) (hn : i < nL) (hst9 : st1 i (vi x) l = l') (k : V X G nL (pc + 2) l' rest h) : V X G nL pc l (vi x :: rest) h := by
  obtain ⟨p, l0, e, RR, s, m, args, below, meth, c, cl, sl, A, Q⟩ := X
  intro ls H locs hl hP hS
  obtain ⟨hx, hb, hml, hown, hts, hR, hW, hl9⟩ := hC
  subst hst9
  exact lv_istore hx hb hd  hl hn (st1_tr G.1 _ (vi x) l).symm (fun ls2 hl2 => k ls2 H locs hl2 hP hS)
theorem v_lstore_n (hC : Cx X G l9 own cc nL d) {k : Fin 4} {x : Int64} (hd : decode cc pc = .ok (.lstore_n k, 1)) (hn : (k : Nat) + 1 < nL) (hst9 : st2 (k : Nat) (vl x) l = l') (k : V X G nL (pc + 1) l' rest h) : V X G nL pc l (vl x :: rest) h := by
  obtain ⟨p, l0, e, RR, s, m, args, below, meth, c, cl, sl, A, Q⟩ := X
  intro ls H locs hl hP hS
  obtain ⟨hx, hb, hml, hown, hts, hR, hW, hl9⟩ := hC
  subst hst9
  exact lv_lstore_n hx hb hd rfl hl hn (st2_tr G.1 _ (vl x) l).symm (fun ls2 hl2 => k ls2 H locs hl2 hP hS)
theorem v_lstore (hC : Cx X G l9 own cc nL d) {i : Nat} {x : Int64} (hd : decode cc pc = .ok (.lstore i, 2)) (hn : i + 1 < nL) (hst9 : st2 i (vl x) l = l') (k : V X G nL (pc + 2) l' rest h) : V X G nL pc l (vl x :: rest) h := by
  obtain ⟨p, l0, e, RR, s, m, args, below, meth, c, cl, sl, A, Q⟩ := X
  intro ls H locs hl hP hS
  obtain ⟨hx, hb, hml, hown, hts, hR, hW, hl9⟩ := hC
  subst hst9
  exact lv_lstore hx hb hd  hl hn (st2_tr G.1 _ (vl x) l).symm (fun ls2 hl2 => k ls2 H locs hl2 hP hS)
theorem v_astore_n (hC : Cx X G l9 own cc nL d) {k : Fin 4} {x : PId} (hd : decode cc pc = .ok (.astore_n k, 1)) (hn : (k : Nat) < nL) (hst9 : st1 (k : Nat) (vr x) l = l') (k : V X G nL (pc + 1) l' rest h) : V X G nL pc l (vr x :: rest) h := by
  obtain ⟨p, l0, e, RR, s, m, args, below, meth, c, cl, sl, A, Q⟩ := X
  intro ls H locs hl hP hS
  obtain ⟨hx, hb, hml, hown, hts, hR, hW, hl9⟩ := hC
  subst hst9
  exact lv_astore_n hx hb hd rfl hl hn (st1_tr G.1 _ (vr x) l).symm (fun ls2 hl2 => k ls2 H locs hl2 hP hS)
theorem v_astore (hC : Cx X G l9 own cc nL d) {i : Nat} {x : PId} (hd : decode cc pc = .ok (.astore i, 2)) (hn : i < nL) (hst9 : st1 i (vr x) l = l') (k : V X G nL (pc + 2) l' rest h) : V X G nL pc l (vr x :: rest) h := by
  obtain ⟨p, l0, e, RR, s, m, args, below, meth, c, cl, sl, A, Q⟩ := X
  intro ls H locs hl hP hS
  obtain ⟨hx, hb, hml, hown, hts, hR, hW, hl9⟩ := hC
  subst hst9
  exact lv_astore hx hb hd  hl hn (st1_tr G.1 _ (vr x) l).symm (fun ls2 hl2 => k ls2 H locs hl2 hP hS)
theorem v_iinc (hC : Cx X G l9 own cc nL d) (j : Nat) {i : Nat} {n : Int} {x v : Int32} (hd : decode cc pc = .ok (.iinc i n, 3)) (hk : l[j]? = some (i, vi x)) (hv : x + Int32.ofInt n = v) (hn : i < nL) (hst9 : st1 i (vi v) l = l') (k : V X G nL (pc + 3) l' rest h) : V X G nL pc l (rest) h := by
  obtain ⟨p, l0, e, RR, s, m, args, below, meth, c, cl, sl, A, Q⟩ := X
  intro ls H locs hl hP hS
  obtain ⟨hx, hb, hml, hown, hts, hR, hW, hl9⟩ := hC
  subst hst9
  exact lv_iinc hx hb hd hl (k := j) (by rw [List.getElem?_map, hk]; rfl) hv hn (st1_tr G.1 _ (vi v) l).symm (fun ls2 hl2 => k ls2 H locs hl2 hP hS)
theorem v_iadd (hC : Cx X G l9 own cc nL d) {x y : Int32} (hd : decode cc pc = .ok (.iadd, 1)) (k : V X G nL (pc + 1) l (vi (x + y) :: rest) h) : V X G nL pc l (vi y :: vi x :: rest) h := by
  obtain ⟨p, l0, e, RR, s, m, args, below, meth, c, cl, sl, A, Q⟩ := X
  intro ls H locs hl hP hS
  obtain ⟨hx, hb, hml, hown, hts, hR, hW, hl9⟩ := hC
  exact lv_iadd hx hb hd  (k ls H locs hl hP hS)
theorem v_isub (hC : Cx X G l9 own cc nL d) {x y : Int32} (hd : decode cc pc = .ok (.isub, 1)) (k : V X G nL (pc + 1) l (vi (x - y) :: rest) h) : V X G nL pc l (vi y :: vi x :: rest) h := by
  obtain ⟨p, l0, e, RR, s, m, args, below, meth, c, cl, sl, A, Q⟩ := X
  intro ls H locs hl hP hS
  obtain ⟨hx, hb, hml, hown, hts, hR, hW, hl9⟩ := hC
  exact lv_isub hx hb hd  (k ls H locs hl hP hS)
theorem v_imul (hC : Cx X G l9 own cc nL d) {x y : Int32} (hd : decode cc pc = .ok (.imul, 1)) (k : V X G nL (pc + 1) l (vi (x * y) :: rest) h) : V X G nL pc l (vi y :: vi x :: rest) h := by
  obtain ⟨p, l0, e, RR, s, m, args, below, meth, c, cl, sl, A, Q⟩ := X
  intro ls H locs hl hP hS
  obtain ⟨hx, hb, hml, hown, hts, hR, hW, hl9⟩ := hC
  exact lv_imul hx hb hd  (k ls H locs hl hP hS)
theorem v_iand (hC : Cx X G l9 own cc nL d) {x y : Int32} (hd : decode cc pc = .ok (.iand, 1)) (k : V X G nL (pc + 1) l (vi (x &&& y) :: rest) h) : V X G nL pc l (vi y :: vi x :: rest) h := by
  obtain ⟨p, l0, e, RR, s, m, args, below, meth, c, cl, sl, A, Q⟩ := X
  intro ls H locs hl hP hS
  obtain ⟨hx, hb, hml, hown, hts, hR, hW, hl9⟩ := hC
  exact lv_iand hx hb hd  (k ls H locs hl hP hS)
theorem v_ior (hC : Cx X G l9 own cc nL d) {x y : Int32} (hd : decode cc pc = .ok (.ior, 1)) (k : V X G nL (pc + 1) l (vi (x ||| y) :: rest) h) : V X G nL pc l (vi y :: vi x :: rest) h := by
  obtain ⟨p, l0, e, RR, s, m, args, below, meth, c, cl, sl, A, Q⟩ := X
  intro ls H locs hl hP hS
  obtain ⟨hx, hb, hml, hown, hts, hR, hW, hl9⟩ := hC
  exact lv_ior hx hb hd  (k ls H locs hl hP hS)
theorem v_ixor (hC : Cx X G l9 own cc nL d) {x y : Int32} (hd : decode cc pc = .ok (.ixor, 1)) (k : V X G nL (pc + 1) l (vi (x ^^^ y) :: rest) h) : V X G nL pc l (vi y :: vi x :: rest) h := by
  obtain ⟨p, l0, e, RR, s, m, args, below, meth, c, cl, sl, A, Q⟩ := X
  intro ls H locs hl hP hS
  obtain ⟨hx, hb, hml, hown, hts, hR, hW, hl9⟩ := hC
  exact lv_ixor hx hb hd  (k ls H locs hl hP hS)
theorem v_ishl (hC : Cx X G l9 own cc nL d) {x y : Int32} (hd : decode cc pc = .ok (.ishl, 1)) (k : V X G nL (pc + 1) l (vi (x <<< (y &&& 31)) :: rest) h) : V X G nL pc l (vi y :: vi x :: rest) h := by
  obtain ⟨p, l0, e, RR, s, m, args, below, meth, c, cl, sl, A, Q⟩ := X
  intro ls H locs hl hP hS
  obtain ⟨hx, hb, hml, hown, hts, hR, hW, hl9⟩ := hC
  exact lv_ishl hx hb hd  (k ls H locs hl hP hS)
theorem v_ishr (hC : Cx X G l9 own cc nL d) {x y : Int32} (hd : decode cc pc = .ok (.ishr, 1)) (k : V X G nL (pc + 1) l (vi (x >>> (y &&& 31)) :: rest) h) : V X G nL pc l (vi y :: vi x :: rest) h := by
  obtain ⟨p, l0, e, RR, s, m, args, below, meth, c, cl, sl, A, Q⟩ := X
  intro ls H locs hl hP hS
  obtain ⟨hx, hb, hml, hown, hts, hR, hW, hl9⟩ := hC
  exact lv_ishr hx hb hd  (k ls H locs hl hP hS)
theorem v_ineg (hC : Cx X G l9 own cc nL d) {x : Int32} (hd : decode cc pc = .ok (.ineg, 1)) (k : V X G nL (pc + 1) l (vi (-x) :: rest) h) : V X G nL pc l (vi x :: rest) h := by
  obtain ⟨p, l0, e, RR, s, m, args, below, meth, c, cl, sl, A, Q⟩ := X
  intro ls H locs hl hP hS
  obtain ⟨hx, hb, hml, hown, hts, hR, hW, hl9⟩ := hC
  exact lv_ineg hx hb hd  (k ls H locs hl hP hS)
theorem v_idiv (hC : Cx X G l9 own cc nL d) {x y : Int32} (hne : ¬ y = 0) (hd : decode cc pc = .ok (.idiv, 1)) (k : V X G nL (pc + 1) l (vi (x / y) :: rest) h) : V X G nL pc l (vi y :: vi x :: rest) h := by
  obtain ⟨p, l0, e, RR, s, m, args, below, meth, c, cl, sl, A, Q⟩ := X
  intro ls H locs hl hP hS
  obtain ⟨hx, hb, hml, hown, hts, hR, hW, hl9⟩ := hC
  exact lv_idiv hx hb hd hne (k ls H locs hl hP hS)
theorem v_irem (hC : Cx X G l9 own cc nL d) {x y : Int32} (hne : ¬ y = 0) (hd : decode cc pc = .ok (.irem, 1)) (k : V X G nL (pc + 1) l (vi (x - x / y * y) :: rest) h) : V X G nL pc l (vi y :: vi x :: rest) h := by
  obtain ⟨p, l0, e, RR, s, m, args, below, meth, c, cl, sl, A, Q⟩ := X
  intro ls H locs hl hP hS
  obtain ⟨hx, hb, hml, hown, hts, hR, hW, hl9⟩ := hC
  exact lv_irem hx hb hd hne (k ls H locs hl hP hS)
theorem v_ladd (hC : Cx X G l9 own cc nL d) {x y : Int64} (hd : decode cc pc = .ok (.ladd, 1)) (k : V X G nL (pc + 1) l (vl (x + y) :: rest) h) : V X G nL pc l (vl y :: vl x :: rest) h := by
  obtain ⟨p, l0, e, RR, s, m, args, below, meth, c, cl, sl, A, Q⟩ := X
  intro ls H locs hl hP hS
  obtain ⟨hx, hb, hml, hown, hts, hR, hW, hl9⟩ := hC
  exact lv_ladd hx hb hd  (k ls H locs hl hP hS)
theorem v_lsub (hC : Cx X G l9 own cc nL d) {x y : Int64} (hd : decode cc pc = .ok (.lsub, 1)) (k : V X G nL (pc + 1) l (vl (x - y) :: rest) h) : V X G nL pc l (vl y :: vl x :: rest) h := by
  obtain ⟨p, l0, e, RR, s, m, args, below, meth, c, cl, sl, A, Q⟩ := X
  intro ls H locs hl hP hS
  obtain ⟨hx, hb, hml, hown, hts, hR, hW, hl9⟩ := hC
  exact lv_lsub hx hb hd  (k ls H locs hl hP hS)
theorem v_lmul (hC : Cx X G l9 own cc nL d) {x y : Int64} (hd : decode cc pc = .ok (.lmul, 1)) (k : V X G nL (pc + 1) l (vl (x * y) :: rest) h) : V X G nL pc l (vl y :: vl x :: rest) h := by
  obtain ⟨p, l0, e, RR, s, m, args, below, meth, c, cl, sl, A, Q⟩ := X
  intro ls H locs hl hP hS
  obtain ⟨hx, hb, hml, hown, hts, hR, hW, hl9⟩ := hC
  exact lv_lmul hx hb hd  (k ls H locs hl hP hS)
theorem v_land (hC : Cx X G l9 own cc nL d) {x y : Int64} (hd : decode cc pc = .ok (.land, 1)) (k : V X G nL (pc + 1) l (vl (x &&& y) :: rest) h) : V X G nL pc l (vl y :: vl x :: rest) h := by
  obtain ⟨p, l0, e, RR, s, m, args, below, meth, c, cl, sl, A, Q⟩ := X
  intro ls H locs hl hP hS
  obtain ⟨hx, hb, hml, hown, hts, hR, hW, hl9⟩ := hC
  exact lv_land hx hb hd  (k ls H locs hl hP hS)
theorem v_lor (hC : Cx X G l9 own cc nL d) {x y : Int64} (hd : decode cc pc = .ok (.lor, 1)) (k : V X G nL (pc + 1) l (vl (x ||| y) :: rest) h) : V X G nL pc l (vl y :: vl x :: rest) h := by
  obtain ⟨p, l0, e, RR, s, m, args, below, meth, c, cl, sl, A, Q⟩ := X
  intro ls H locs hl hP hS
  obtain ⟨hx, hb, hml, hown, hts, hR, hW, hl9⟩ := hC
  exact lv_lor hx hb hd  (k ls H locs hl hP hS)
theorem v_ldiv (hC : Cx X G l9 own cc nL d) {x y : Int64} (hne : ¬ y = 0) (hd : decode cc pc = .ok (.ldiv, 1)) (k : V X G nL (pc + 1) l (vl (x / y) :: rest) h) : V X G nL pc l (vl y :: vl x :: rest) h := by
  obtain ⟨p, l0, e, RR, s, m, args, below, meth, c, cl, sl, A, Q⟩ := X
  intro ls H locs hl hP hS
  obtain ⟨hx, hb, hml, hown, hts, hR, hW, hl9⟩ := hC
  exact lv_ldiv hx hb hd hne (k ls H locs hl hP hS)
theorem v_lrem (hC : Cx X G l9 own cc nL d) {x y : Int64} (hne : ¬ y = 0) (hd : decode cc pc = .ok (.lrem, 1)) (k : V X G nL (pc + 1) l (vl (x - x / y * y) :: rest) h) : V X G nL pc l (vl y :: vl x :: rest) h := by
  obtain ⟨p, l0, e, RR, s, m, args, below, meth, c, cl, sl, A, Q⟩ := X
  intro ls H locs hl hP hS
  obtain ⟨hx, hb, hml, hown, hts, hR, hW, hl9⟩ := hC
  exact lv_lrem hx hb hd hne (k ls H locs hl hP hS)
theorem v_iushr (hC : Cx X G l9 own cc nL d) {x y : Int32} (hd : decode cc pc = .ok (.iushr, 1)) (k : V X G nL (pc + 1) l (vi (x.toUInt32 >>> (y.toUInt32 &&& Int32.toUInt32 31)).toInt32 :: rest) h) : V X G nL pc l (vi y :: vi x :: rest) h := by
  obtain ⟨p, l0, e, RR, s, m, args, below, meth, c, cl, sl, A, Q⟩ := X
  intro ls H locs hl hP hS
  obtain ⟨hx, hb, hml, hown, hts, hR, hW, hl9⟩ := hC
  exact lv_iushr hx hb hd rfl (k ls H locs hl hP hS)
theorem v_lshl (hC : Cx X G l9 own cc nL d) {x : Int64} {y : Int32} (hd : decode cc pc = .ok (.lshl, 1)) (k : V X G nL (pc + 1) l (vl (x <<< (y.toInt64 &&& 63)) :: rest) h) : V X G nL pc l (vi y :: vl x :: rest) h := by
  obtain ⟨p, l0, e, RR, s, m, args, below, meth, c, cl, sl, A, Q⟩ := X
  intro ls H locs hl hP hS
  obtain ⟨hx, hb, hml, hown, hts, hR, hW, hl9⟩ := hC
  exact lv_lshl hx hb hd rfl (k ls H locs hl hP hS)
theorem v_i2l (hC : Cx X G l9 own cc nL d) {x : Int32} (hd : decode cc pc = .ok (.i2l, 1)) (k : V X G nL (pc + 1) l (vl x.toInt64 :: rest) h) : V X G nL pc l (vi x :: rest) h := by
  obtain ⟨p, l0, e, RR, s, m, args, below, meth, c, cl, sl, A, Q⟩ := X
  intro ls H locs hl hP hS
  obtain ⟨hx, hb, hml, hown, hts, hR, hW, hl9⟩ := hC
  exact lv_i2l hx hb hd rfl (k ls H locs hl hP hS)
theorem v_i2b (hC : Cx X G l9 own cc nL d) {x : Int32} (hd : decode cc pc = .ok (.i2b, 1)) (k : V X G nL (pc + 1) l (vi x.toInt8.toInt32 :: rest) h) : V X G nL pc l (vi x :: rest) h := by
  obtain ⟨p, l0, e, RR, s, m, args, below, meth, c, cl, sl, A, Q⟩ := X
  intro ls H locs hl hP hS
  obtain ⟨hx, hb, hml, hown, hts, hR, hW, hl9⟩ := hC
  exact lv_i2b hx hb hd rfl (k ls H locs hl hP hS)
theorem v_i2s (hC : Cx X G l9 own cc nL d) {x : Int32} (hd : decode cc pc = .ok (.i2s, 1)) (k : V X G nL (pc + 1) l (vi x.toInt16.toInt32 :: rest) h) : V X G nL pc l (vi x :: rest) h := by
  obtain ⟨p, l0, e, RR, s, m, args, below, meth, c, cl, sl, A, Q⟩ := X
  intro ls H locs hl hP hS
  obtain ⟨hx, hb, hml, hown, hts, hR, hW, hl9⟩ := hC
  exact lv_i2s hx hb hd rfl (k ls H locs hl hP hS)
theorem v_i2c (hC : Cx X G l9 own cc nL d) {x : Int32} (hd : decode cc pc = .ok (.i2c, 1)) (k : V X G nL (pc + 1) l (vi (x.toUInt32 % 65536).toInt32 :: rest) h) : V X G nL pc l (vi x :: rest) h := by
  obtain ⟨p, l0, e, RR, s, m, args, below, meth, c, cl, sl, A, Q⟩ := X
  intro ls H locs hl hP hS
  obtain ⟨hx, hb, hml, hown, hts, hR, hW, hl9⟩ := hC
  exact lv_i2c hx hb hd rfl (k ls H locs hl hP hS)
theorem v_lcmp (hC : Cx X G l9 own cc nL d) {x y : Int64} (hd : decode cc pc = .ok (.lcmp, 1)) (k : V X G nL (pc + 1) l (vi (lg_cmp x y) :: rest) h) : V X G nL pc l (vl y :: vl x :: rest) h := by
  obtain ⟨p, l0, e, RR, s, m, args, below, meth, c, cl, sl, A, Q⟩ := X
  intro ls H locs hl hP hS
  obtain ⟨hx, hb, hml, hown, hts, hR, hW, hl9⟩ := hC
  exact W.lcmp hx hb hd  (k ls H locs hl hP hS)
theorem v_dup (hC : Cx X G l9 own cc nL d) {v : PV} (hv : cat2 v = false) (hd : decode cc pc = .ok (.dup, 1)) (k : V X G nL (pc + 1) l (v :: v :: rest) h) : V X G nL pc l (v :: rest) h := by
  obtain ⟨p, l0, e, RR, s, m, args, below, meth, c, cl, sl, A, Q⟩ := X
  intro ls H locs hl hP hS
  obtain ⟨hx, hb, hml, hown, hts, hR, hW, hl9⟩ := hC
  exact lv_dup hx hb hd (cat1_tr G.1 hv) (k ls H locs hl hP hS)
theorem v_pop (hC : Cx X G l9 own cc nL d) {v : PV} (hv : cat2 v = false) (hd : decode cc pc = .ok (.pop, 1)) (k : V X G nL (pc + 1) l (rest) h) : V X G nL pc l (v :: rest) h := by
  obtain ⟨p, l0, e, RR, s, m, args, below, meth, c, cl, sl, A, Q⟩ := X
  intro ls H locs hl hP hS
  obtain ⟨hx, hb, hml, hown, hts, hR, hW, hl9⟩ := hC
  exact lv_pop hx hb hd (cat1_tr G.1 hv) (k ls H locs hl hP hS)
theorem v_dup2 (hC : Cx X G l9 own cc nL d) {x : Int32} {i : PId} (hd : decode cc pc = .ok (.dup2, 1)) (k : V X G nL (pc + 1) l (vi x :: vr i :: vi x :: vr i :: rest) h) : V X G nL pc l (vi x :: vr i :: rest) h := by
  obtain ⟨p, l0, e, RR, s, m, args, below, meth, c, cl, sl, A, Q⟩ := X
  intro ls H locs hl hP hS
  obtain ⟨hx, hb, hml, hown, hts, hR, hW, hl9⟩ := hC
  exact lv_dup2_11 hx hb hd rfl rfl (k ls H locs hl hP hS)
theorem v_if_eq (hC : Cx X G l9 own cc nL d) {x : Int32} {off : Int} {tgt : Nat} (hd : decode cc pc = .ok (.ifCond .eq off, 3)) (ht : (pc : Int) + off = (tgt : Int)) (kt : x = 0 → V X G nL tgt l rest h) (kf : ¬ x = 0 → V X G nL (pc + 3) l rest h) : V X G nL pc l (vi x :: rest) h := by
  obtain ⟨p, l0, e, RR, s, m, args, below, meth, c, cl, sl, A, Q⟩ := X
  intro ls H locs hl hP hS
  exact lv_if_eq hC.1 hC.2.1 hd ht (fun z => kt z ls H locs hl hP hS) (fun z => kf z ls H locs hl hP hS)
theorem v_icmp_eq (hC : Cx X G l9 own cc nL d) {x y : Int32} {off : Int} {tgt : Nat} (hd : decode cc pc = .ok (.if_icmp .eq off, 3)) (ht : (pc : Int) + off = (tgt : Int)) (kt : x = y → V X G nL tgt l rest h) (kf : ¬ x = y → V X G nL (pc + 3) l rest h) : V X G nL pc l (vi y :: vi x :: rest) h := by
  obtain ⟨p, l0, e, RR, s, m, args, below, meth, c, cl, sl, A, Q⟩ := X
  intro ls H locs hl hP hS
  exact lv_icmp_eq hC.1 hC.2.1 hd ht (fun z => kt z ls H locs hl hP hS) (fun z => kf z ls H locs hl hP hS)
theorem v_if_ne (hC : Cx X G l9 own cc nL d) {x : Int32} {off : Int} {tgt : Nat} (hd : decode cc pc = .ok (.ifCond .ne off, 3)) (ht : (pc : Int) + off = (tgt : Int)) (kt : ¬ x = 0 → V X G nL tgt l rest h) (kf : x = 0 → V X G nL (pc + 3) l rest h) : V X G nL pc l (vi x :: rest) h := by
  obtain ⟨p, l0, e, RR, s, m, args, below, meth, c, cl, sl, A, Q⟩ := X
  intro ls H locs hl hP hS
  exact lv_if_ne hC.1 hC.2.1 hd ht (fun z => kt z ls H locs hl hP hS) (fun z => kf z ls H locs hl hP hS)
theorem v_icmp_ne (hC : Cx X G l9 own cc nL d) {x y : Int32} {off : Int} {tgt : Nat} (hd : decode cc pc = .ok (.if_icmp .ne off, 3)) (ht : (pc : Int) + off = (tgt : Int)) (kt : ¬ x = y → V X G nL tgt l rest h) (kf : x = y → V X G nL (pc + 3) l rest h) : V X G nL pc l (vi y :: vi x :: rest) h := by
  obtain ⟨p, l0, e, RR, s, m, args, below, meth, c, cl, sl, A, Q⟩ := X
  intro ls H locs hl hP hS
  exact lv_icmp_ne hC.1 hC.2.1 hd ht (fun z => kt z ls H locs hl hP hS) (fun z => kf z ls H locs hl hP hS)
theorem v_if_lt (hC : Cx X G l9 own cc nL d) {x : Int32} {off : Int} {tgt : Nat} (hd : decode cc pc = .ok (.ifCond .lt off, 3)) (ht : (pc : Int) + off = (tgt : Int)) (kt : x < 0 → V X G nL tgt l rest h) (kf : ¬ x < 0 → V X G nL (pc + 3) l rest h) : V X G nL pc l (vi x :: rest) h := by
  obtain ⟨p, l0, e, RR, s, m, args, below, meth, c, cl, sl, A, Q⟩ := X
  intro ls H locs hl hP hS
  exact lv_if_lt hC.1 hC.2.1 hd ht (fun z => kt z ls H locs hl hP hS) (fun z => kf z ls H locs hl hP hS)
theorem v_icmp_lt (hC : Cx X G l9 own cc nL d) {x y : Int32} {off : Int} {tgt : Nat} (hd : decode cc pc = .ok (.if_icmp .lt off, 3)) (ht : (pc : Int) + off = (tgt : Int)) (kt : x < y → V X G nL tgt l rest h) (kf : ¬ x < y → V X G nL (pc + 3) l rest h) : V X G nL pc l (vi y :: vi x :: rest) h := by
  obtain ⟨p, l0, e, RR, s, m, args, below, meth, c, cl, sl, A, Q⟩ := X
  intro ls H locs hl hP hS
  exact lv_icmp_lt hC.1 hC.2.1 hd ht (fun z => kt z ls H locs hl hP hS) (fun z => kf z ls H locs hl hP hS)
theorem v_if_ge (hC : Cx X G l9 own cc nL d) {x : Int32} {off : Int} {tgt : Nat} (hd : decode cc pc = .ok (.ifCond .ge off, 3)) (ht : (pc : Int) + off = (tgt : Int)) (kt : 0 ≤ x → V X G nL tgt l rest h) (kf : ¬ 0 ≤ x → V X G nL (pc + 3) l rest h) : V X G nL pc l (vi x :: rest) h := by
  obtain ⟨p, l0, e, RR, s, m, args, below, meth, c, cl, sl, A, Q⟩ := X
  intro ls H locs hl hP hS
  exact lv_if_ge hC.1 hC.2.1 hd ht (fun z => kt z ls H locs hl hP hS) (fun z => kf z ls H locs hl hP hS)
theorem v_icmp_ge (hC : Cx X G l9 own cc nL d) {x y : Int32} {off : Int} {tgt : Nat} (hd : decode cc pc = .ok (.if_icmp .ge off, 3)) (ht : (pc : Int) + off = (tgt : Int)) (kt : y ≤ x → V X G nL tgt l rest h) (kf : ¬ y ≤ x → V X G nL (pc + 3) l rest h) : V X G nL pc l (vi y :: vi x :: rest) h := by
  obtain ⟨p, l0, e, RR, s, m, args, below, meth, c, cl, sl, A, Q⟩ := X
  intro ls H locs hl hP hS
  exact lv_icmp_ge hC.1 hC.2.1 hd ht (fun z => kt z ls H locs hl hP hS) (fun z => kf z ls H locs hl hP hS)
theorem v_if_gt (hC : Cx X G l9 own cc nL d) {x : Int32} {off : Int} {tgt : Nat} (hd : decode cc pc = .ok (.ifCond .gt off, 3)) (ht : (pc : Int) + off = (tgt : Int)) (kt : 0 < x → V X G nL tgt l rest h) (kf : ¬ 0 < x → V X G nL (pc + 3) l rest h) : V X G nL pc l (vi x :: rest) h := by
  obtain ⟨p, l0, e, RR, s, m, args, below, meth, c, cl, sl, A, Q⟩ := X
  intro ls H locs hl hP hS
  exact lv_if_gt hC.1 hC.2.1 hd ht (fun z => kt z ls H locs hl hP hS) (fun z => kf z ls H locs hl hP hS)
theorem v_icmp_gt (hC : Cx X G l9 own cc nL d) {x y : Int32} {off : Int} {tgt : Nat} (hd : decode cc pc = .ok (.if_icmp .gt off, 3)) (ht : (pc : Int) + off = (tgt : Int)) (kt : y < x → V X G nL tgt l rest h) (kf : ¬ y < x → V X G nL (pc + 3) l rest h) : V X G nL pc l (vi y :: vi x :: rest) h := by
  obtain ⟨p, l0, e, RR, s, m, args, below, meth, c, cl, sl, A, Q⟩ := X
  intro ls H locs hl hP hS
  exact lv_icmp_gt hC.1 hC.2.1 hd ht (fun z => kt z ls H locs hl hP hS) (fun z => kf z ls H locs hl hP hS)
theorem v_if_le (hC : Cx X G l9 own cc nL d) {x : Int32} {off : Int} {tgt : Nat} (hd : decode cc pc = .ok (.ifCond .le off, 3)) (ht : (pc : Int) + off = (tgt : Int)) (kt : x ≤ 0 → V X G nL tgt l rest h) (kf : ¬ x ≤ 0 → V X G nL (pc + 3) l rest h) : V X G nL pc l (vi x :: rest) h := by
  obtain ⟨p, l0, e, RR, s, m, args, below, meth, c, cl, sl, A, Q⟩ := X
  intro ls H locs hl hP hS
  exact lv_if_le hC.1 hC.2.1 hd ht (fun z => kt z ls H locs hl hP hS) (fun z => kf z ls H locs hl hP hS)
theorem v_icmp_le (hC : Cx X G l9 own cc nL d) {x y : Int32} {off : Int} {tgt : Nat} (hd : decode cc pc = .ok (.if_icmp .le off, 3)) (ht : (pc : Int) + off = (tgt : Int)) (kt : x ≤ y → V X G nL tgt l rest h) (kf : ¬ x ≤ y → V X G nL (pc + 3) l rest h) : V X G nL pc l (vi y :: vi x :: rest) h := by
  obtain ⟨p, l0, e, RR, s, m, args, below, meth, c, cl, sl, A, Q⟩ := X
  intro ls H locs hl hP hS
  exact lv_icmp_le hC.1 hC.2.1 hd ht (fun z => kt z ls H locs hl hP hS) (fun z => kf z ls H locs hl hP hS)
theorem v_goto (hC : Cx X G l9 own cc nL d) {off : Int} {tgt : Nat} (hd : decode cc pc = .ok (.goto off, 3)) (ht : (pc : Int) + off = (tgt : Int)) (k : V X G nL tgt l rest h) : V X G nL pc l rest h := by
  obtain ⟨p, l0, e, RR, s, m, args, below, meth, c, cl, sl, A, Q⟩ := X
  intro ls H locs hl hP hS
  exact lv_goto hC.1 hC.2.1 hd ht (k ls H locs hl hP hS)
theorem v_tabOut (hC : Cx X G l9 own cc nL d) {dflt lo hi : Int} {offs : Array Int} {len : Nat} {x : Int32} {tgt : Nat} (hd : decode cc pc = .ok (.tableswitch dflt lo hi offs, len)) (hx9 : x.toInt < lo ∨ hi < x.toInt) (ht : (pc : Int) + dflt = (tgt : Int)) (k : V X G nL tgt l rest h) : V X G nL pc l (vi x :: rest) h := by
  obtain ⟨p, l0, e, RR, s, m, args, below, meth, c, cl, sl, A, Q⟩ := X
  intro ls H locs hl hP hS
  exact lv_tableOut hC.1 hC.2.1 hd hx9 ht (k ls H locs hl hP hS)
theorem v_tabIn (hC : Cx X G l9 own cc nL d) {dflt lo hi : Int} {offs : Array Int} {len : Nat} {x : Int32} {off : Int} {tgt : Nat} (hd : decode cc pc = .ok (.tableswitch dflt lo hi offs, len)) (h1 : ¬ x.toInt < lo) (h2 : ¬ hi < x.toInt) (ho : offs[(x.toInt - lo).toNat]? = some off) (ht : (pc : Int) + off = (tgt : Int)) (k : V X G nL tgt l rest h) : V X G nL pc l (vi x :: rest) h := by
  obtain ⟨p, l0, e, RR, s, m, args, below, meth, c, cl, sl, A, Q⟩ := X
  intro ls H locs hl hP hS
  exact lv_tableIn hC.1 hC.2.1 hd h1 h2 ho ht (k ls H locs hl hP hS)
theorem v_ldc (hC : Cx X G l9 own cc nL d) {idx : Nat} {v : Int32} (hw : Cond.constant own idx v ∈ BIG) (hd : decode cc pc = .ok (.ldc idx, 2)) (k : V X G nL (pc + 2) l (vi v :: rest) h) : V X G nL pc l rest h := by
  obtain ⟨p, l0, e, RR, s, m, args, below, meth, c, cl, sl, A, Q⟩ := X
  intro ls H locs hl hP hS
  obtain ⟨hx, hb, hml, hown, hts, hR, hW, hl9⟩ := hC
  exact lv_ldc hx hb hown (hts _ hw) hd (k ls H locs hl hP hS)
theorem v_ldcw (hC : Cx X G l9 own cc nL d) {idx : Nat} {v : Int32} (hw : Cond.constant own idx v ∈ BIG) (hd : decode cc pc = .ok (.ldc_w idx, 3)) (k : V X G nL (pc + 3) l (vi v :: rest) h) : V X G nL pc l rest h := by
  obtain ⟨p, l0, e, RR, s, m, args, below, meth, c, cl, sl, A, Q⟩ := X
  intro ls H locs hl hP hS
  obtain ⟨hx, hb, hml, hown, hts, hR, hW, hl9⟩ := hC
  exact lv_ldcw hx hb hown (hts _ hw) hd (k ls H locs hl hP hS)
theorem v_ldc2 (hC : Cx X G l9 own cc nL d) {idx : Nat} {v : Int64} (hw : Cond.constantLong own idx v ∈ BIG) (hd : decode cc pc = .ok (.ldc2_w idx, 3)) (k : V X G nL (pc + 3) l (vl v :: rest) h) : V X G nL pc l rest h := by
  obtain ⟨p, l0, e, RR, s, m, args, below, meth, c, cl, sl, A, Q⟩ := X
  intro ls H locs hl hP hS
  obtain ⟨hx, hb, hml, hown, hts, hR, hW, hl9⟩ := hC
  exact lv_ldc2 hx hb hown (hts _ hw) hd (k ls H locs hl hP hS)
theorem v_ldcS (hC : Cx X G l9 RX2 cc nL d) {idx : Nat} {tx : String} {n : Nat} (hw : (idx, tx, n) ∈ strT) (hd : decode cc pc = .ok (.ldc idx, 2)) (k : V X G nL (pc + 2) l (vr (4, n, 0) :: rest) h) : V X G nL pc l rest h := by
  obtain ⟨p, l0, e, RR, s, m, args, below, meth, c, cl, sl, A, Q⟩ := X
  intro ls H locs hl hP hS
  obtain ⟨hx, hb, hml, hown, hts, hR, hW, hl9⟩ := hC
  exact va_ldcS hx hb hown (hW.2.2.2.2.1 _ hw) hd (k ls H locs hl hP hS)
/-- a field's place, by the class that speaks of it and the number in its pool -/
def FL (own : String) (idx ci k : Nat) : Prop := ∃ (C : String) (T : u_T) (N : Nat), vwCl[ci]? = some (C, T, N) ∧ k < N ∧ Cond.fieldLink own idx C (T k).2.1 (T k).2.2.1 ∈ BIG ∧ (∀ w ∈ u_ws C T N, w ∈ BIG) ∧ (T k).1 = C

theorem v_getI (hC : Cx X G l9 own cc nL d) {idx : Nat} {i : PId} {ci n k : Nat} (hd : decode cc pc = .ok (.getfield idx, 3)) (hF : FL own idx ci k) (hs : SH i = (ci, n)) (hi : ok i = true) (hk : fk ci k = 0) (hkn : k < n) (hc8 : ci < 8) (kk : V X G nL (pc + 3) l (vi (h.1 i k) :: rest) h) : V X G nL pc l (vr i :: rest) h := by
  obtain ⟨p, l0, e, RR, s, m, args, below, meth, c, cl, sl, A, Q⟩ := X
  intro ls H locs hl hP hS
  obtain ⟨hx, hb, hml, hown, hts, hR, hW, hl9⟩ := hC
  obtain ⟨C, T, N, hcl, hkN, hfl, hin, hT⟩ := hF
  obtain ⟨q0, -, hq⟩ := ww_at G h hi
  rw [EE_obj G h hs hc8] at hq
  refine va_get (ref := C) hx hb hts hin hown hW.1 hP q0 hq hcl k hkN (hts _ hfl) (by rw [hT]; exact fun x hx => hx) (v := .int (h.1 i k)) ?_ hd (kk ls H locs hl hP hS)
  rw [List.getElem?_map, List.getElem?_range hkn]
  show some (fval G.1 h i k) = _
  unfold fval
  rw [hs]
  simp [hk]
theorem v_getZ (hC : Cx X G l9 own cc nL d) {idx : Nat} {i : PId} {ci n k : Nat} (hd : decode cc pc = .ok (.getfield idx, 3)) (hF : FL own idx ci k) (hs : SH i = (ci, n)) (hi : ok i = true) (hk : fk ci k = 3) (hkn : k < n) (hc8 : ci < 8) (kk : V X G nL (pc + 3) l (vi (h.1 i k) :: rest) h) : V X G nL pc l (vr i :: rest) h := by
  obtain ⟨p, l0, e, RR, s, m, args, below, meth, c, cl, sl, A, Q⟩ := X
  intro ls H locs hl hP hS
  obtain ⟨hx, hb, hml, hown, hts, hR, hW, hl9⟩ := hC
  obtain ⟨C, T, N, hcl, hkN, hfl, hin, hT⟩ := hF
  obtain ⟨q0, -, hq⟩ := ww_at G h hi
  rw [EE_obj G h hs hc8] at hq
  refine va_get (ref := C) hx hb hts hin hown hW.1 hP q0 hq hcl k hkN (hts _ hfl) (by rw [hT]; exact fun x hx => hx) (v := .int (h.1 i k)) ?_ hd (kk ls H locs hl hP hS)
  rw [List.getElem?_map, List.getElem?_range hkn]
  show some (fval G.1 h i k) = _
  unfold fval
  rw [hs]
  simp [hk]
theorem v_getL (hC : Cx X G l9 own cc nL d) {idx : Nat} {i : PId} {ci n k : Nat} (hd : decode cc pc = .ok (.getfield idx, 3)) (hF : FL own idx ci k) (hs : SH i = (ci, n)) (hi : ok i = true) (hk : fk ci k = 1) (hkn : k < n) (hc8 : ci < 8) (kk : V X G nL (pc + 3) l (vl (h.2 i k) :: rest) h) : V X G nL pc l (vr i :: rest) h := by
  obtain ⟨p, l0, e, RR, s, m, args, below, meth, c, cl, sl, A, Q⟩ := X
  intro ls H locs hl hP hS
  obtain ⟨hx, hb, hml, hown, hts, hR, hW, hl9⟩ := hC
  obtain ⟨C, T, N, hcl, hkN, hfl, hin, hT⟩ := hF
  obtain ⟨q0, -, hq⟩ := ww_at G h hi
  rw [EE_obj G h hs hc8] at hq
  refine va_get (ref := C) hx hb hts hin hown hW.1 hP q0 hq hcl k hkN (hts _ hfl) (by rw [hT]; exact fun x hx => hx) (v := .long (h.2 i k)) ?_ hd (kk ls H locs hl hP hS)
  rw [List.getElem?_map, List.getElem?_range hkn]
  show some (fval G.1 h i k) = _
  unfold fval
  rw [hs]
  simp [hk]
theorem v_getR (hC : Cx X G l9 own cc nL d) {idx : Nat} {i j : PId} {ci n k : Nat} (hd : decode cc pc = .ok (.getfield idx, 3)) (hF : FL own idx ci k) (hs : SH i = (ci, n)) (hi : ok i = true) (hk : fk ci k = 2) (hkn : k < n) (hc8 : ci < 8) (hj : RF i k = some j) (kk : V X G nL (pc + 3) l (vr j :: rest) h) : V X G nL pc l (vr i :: rest) h := by
  obtain ⟨p, l0, e, RR, s, m, args, below, meth, c, cl, sl, A, Q⟩ := X
  intro ls H locs hl hP hS
  obtain ⟨hx, hb, hml, hown, hts, hR, hW, hl9⟩ := hC
  obtain ⟨C, T, N, hcl, hkN, hfl, hin, hT⟩ := hF
  obtain ⟨q0, -, hq⟩ := ww_at G h hi
  rw [EE_obj G h hs hc8] at hq
  refine va_get (ref := C) hx hb hts hin hown hW.1 hP q0 hq hcl k hkN (hts _ hfl) (by rw [hT]; exact fun x hx => hx) (v := .ref (G.1 j)) ?_ hd (kk ls H locs hl hP hS)
  rw [List.getElem?_map, List.getElem?_range hkn]
  show some (fval G.1 h i k) = _
  unfold fval
  rw [hs, hj]
  simp [hk, va_rf]
/-- a field's place, and what a store in it wants -/
def FS (own : String) (idx ci k : Nat) (ty : FieldType) : Prop := ∃ (C : String) (T : u_T) (N : Nat) (t0 : Nat → FieldType), vwCl[ci]? = some (C, T, N) ∧ k < N ∧ Cond.fieldLink own idx C (T k).2.1 (T k).2.2.1 ∈ BIG ∧ (∀ w ∈ u_ws C T N, w ∈ BIG) ∧ (T k).1 = C ∧ (T k).2.2.2 = false ∧ parseFieldDescriptor (T k).2.2.1 = some ty ∧ (∀ k, k < N → parseFieldDescriptor (T k).2.2.1 = some (t0 k)) ∧ (∀ a, a < N → ∀ b, b < N → a ≠ b → (T a).2.1 ≠ (T b).2.1)
theorem fl_len (G : WT) (h : HP) (i : PId) (n : Nat) : ((List.range n).map (fval G.1 h i)).length = n := by simp

theorem v_putI (hC : Cx X G l9 own cc nL d) {idx : Nat} {i : PId} {ci n k : Nat} {x : Int32} (hd : decode cc pc = .ok (.putfield idx, 3)) (hF : FS own idx ci k .int) (hs : SH i = (ci, n)) (hi : ok i = true) (hk : fk ci k = 0) (hkn : k < n) (hc8 : ci < 8) (kk : V X G nL (pc + 3) l rest (upI h i k x)) : V X G nL pc l (vi x :: vr i :: rest) h := by
  obtain ⟨p, l0, e, RR, s, m, args, below, meth, c, cl, sl, A, Q⟩ := X
  intro ls H locs hl hP hS
  obtain ⟨hx, hb, hml, hown, hts, hR, hW, hl9⟩ := hC
  obtain ⟨C, T, N, t0, hcl, hkN, hfl, hin, hT, hfin, hty, ht0, hnm⟩ := hF
  obtain ⟨q0, hq0, hq⟩ := ww_at G h hi
  rw [EE_obj G h hs hc8] at hq
  refine va_put (ref := C) hx hb hts hin t0 ht0 hnm hown hW.1 hP (ww_D hW h) hS q0 hq hcl k hkN (hts _ hfl) (by rw [hT]; exact fun x hx => hx) hfin (ty := .int) (v := .int x) hty rfl rfl (by rw [fl_len]; exact hkn) hd (fun H1 locs1 hP1 _ hS1 => ?_)
  rw [ww_set G h (upI h i k x) hq0 (e := .inr (ci, ((List.range n).map (fval G.1 h i)).set k (.int x))) ?_ ?_] at hP1
  · exact kk ls H1 locs1 hl hP1 hS1
  · rw [EE_obj G _ hs hc8]
    congr 2
    refine (map_set List.nodup_range (i := k) (by rw [List.getElem?_range hkn]) (fun j hj => ?_) ?_).symm
    · unfold fval
      simp [upI, hj]
    · unfold fval
      rw [hs]
      simp [hk, upI]
  · intro j hj
    exact EE_cong G h _ (upI_ne h k x hj) rfl
theorem v_putL (hC : Cx X G l9 own cc nL d) {idx : Nat} {i : PId} {ci n k : Nat} {x : Int64} (hd : decode cc pc = .ok (.putfield idx, 3)) (hF : FS own idx ci k .long) (hs : SH i = (ci, n)) (hi : ok i = true) (hk : fk ci k = 1) (hkn : k < n) (hc8 : ci < 8) (kk : V X G nL (pc + 3) l rest (upL h i k x)) : V X G nL pc l (vl x :: vr i :: rest) h := by
  obtain ⟨p, l0, e, RR, s, m, args, below, meth, c, cl, sl, A, Q⟩ := X
  intro ls H locs hl hP hS
  obtain ⟨hx, hb, hml, hown, hts, hR, hW, hl9⟩ := hC
  obtain ⟨C, T, N, t0, hcl, hkN, hfl, hin, hT, hfin, hty, ht0, hnm⟩ := hF
  obtain ⟨q0, hq0, hq⟩ := ww_at G h hi
  rw [EE_obj G h hs hc8] at hq
  refine va_put (ref := C) hx hb hts hin t0 ht0 hnm hown hW.1 hP (ww_D hW h) hS q0 hq hcl k hkN (hts _ hfl) (by rw [hT]; exact fun x hx => hx) hfin (ty := .long) (v := .long x) hty rfl rfl (by rw [fl_len]; exact hkn) hd (fun H1 locs1 hP1 _ hS1 => ?_)
  rw [ww_set G h (upL h i k x) hq0 (e := .inr (ci, ((List.range n).map (fval G.1 h i)).set k (.long x))) ?_ ?_] at hP1
  · exact kk ls H1 locs1 hl hP1 hS1
  · rw [EE_obj G _ hs hc8]
    congr 2
    refine (map_set List.nodup_range (i := k) (by rw [List.getElem?_range hkn]) (fun j hj => ?_) ?_).symm
    · unfold fval
      simp [upL, hj]
    · unfold fval
      rw [hs]
      simp [hk, upL]
  · intro j hj
    exact EE_cong G h _ rfl (upL_ne h k x hj)
theorem v_putZ (hC : Cx X G l9 own cc nL d) {idx : Nat} {i : PId} {ci n k : Nat} {x : Int32} (hd : decode cc pc = .ok (.putfield idx, 3)) (hF : FS own idx ci k .boolean) (hs : SH i = (ci, n)) (hi : ok i = true) (hk : fk ci k = 3) (hkn : k < n) (hc8 : ci < 8) (hz : x = 0 ∨ x = 1) (kk : V X G nL (pc + 3) l rest (upI h i k x)) : V X G nL pc l (vi x :: vr i :: rest) h := by
  obtain ⟨p, l0, e, RR, s, m, args, below, meth, c, cl, sl, A, Q⟩ := X
  intro ls H locs hl hP hS
  obtain ⟨hx, hb, hml, hown, hts, hR, hW, hl9⟩ := hC
  obtain ⟨C, T, N, t0, hcl, hkN, hfl, hin, hT, hfin, hty, ht0, hnm⟩ := hF
  obtain ⟨q0, hq0, hq⟩ := ww_at G h hi
  rw [EE_obj G h hs hc8] at hq
  refine va_put (ref := C) hx hb hts hin t0 ht0 hnm hown hW.1 hP (ww_D hW h) hS q0 hq hcl k hkN (hts _ hfl) (by rw [hT]; exact fun x hx => hx) hfin (ty := .boolean) (v := .int x) hty (by rcases hz with rfl | rfl <;> rfl) (by rcases hz with rfl | rfl <;> rfl) (by rw [fl_len]; exact hkn) hd (fun H1 locs1 hP1 _ hS1 => ?_)
  rw [ww_set G h (upI h i k x) hq0 (e := .inr (ci, ((List.range n).map (fval G.1 h i)).set k (.int x))) ?_ ?_] at hP1
  · exact kk ls H1 locs1 hl hP1 hS1
  · rw [EE_obj G _ hs hc8]
    congr 2
    refine (map_set List.nodup_range (i := k) (by rw [List.getElem?_range hkn]) (fun j hj => ?_) ?_).symm
    · unfold fval
      simp [upI, hj]
    · unfold fval
      rw [hs]
      simp [hk, upI]
  · intro j hj
    exact EE_cong G h _ (upI_ne h k x hj) rfl
theorem v_iald (hC : Cx X G l9 own cc nL d) {i : PId} {n : Nat} {x : Int32} (hd : decode cc pc = .ok (.iaload, 1)) (hs : SH i = (8, n)) (hi : ok i = true) (hin : vp_in x n) (kk : V X G nL (pc + 1) l (vi (h.1 i x.toNatClampNeg) :: rest) h) : V X G nL pc l (vi x :: vr i :: rest) h := by
  obtain ⟨p, l0, e, RR, s, m, args, below, meth, c, cl, sl, A, Q⟩ := X
  intro ls H locs hl hP hS
  obtain ⟨hx, hb, hml, hown, hts, hR, hW, hl9⟩ := hC
  obtain ⟨q0, -, hq⟩ := ww_at G h hi
  rw [EE_int G h hs] at hq
  exact va_iald hx hb hW.1 hP q0 0 hq rfl hin hd (kk ls H locs hl hP hS)
theorem v_lald (hC : Cx X G l9 own cc nL d) {i : PId} {n : Nat} {x : Int32} (hd : decode cc pc = .ok (.laload, 1)) (hs : SH i = (9, n)) (hi : ok i = true) (hin : vp_in x n) (kk : V X G nL (pc + 1) l (vl (h.2 i x.toNatClampNeg) :: rest) h) : V X G nL pc l (vi x :: vr i :: rest) h := by
  obtain ⟨p, l0, e, RR, s, m, args, below, meth, c, cl, sl, A, Q⟩ := X
  intro ls H locs hl hP hS
  obtain ⟨hx, hb, hml, hown, hts, hR, hW, hl9⟩ := hC
  obtain ⟨q0, -, hq⟩ := ww_at G h hi
  rw [EE_long G h hs] at hq
  exact va_lald hx hb hW.1 hP q0 1 hq rfl hin hd (kk ls H locs hl hP hS)
theorem v_zald (hC : Cx X G l9 own cc nL d) {i : PId} {n : Nat} {x : Int32} (hd : decode cc pc = .ok (.baload, 1)) (hs : SH i = (10, n)) (hi : ok i = true) (hin : vp_in x n) (kk : V X G nL (pc + 1) l (vi (h.1 i x.toNatClampNeg) :: rest) h) : V X G nL pc l (vi x :: vr i :: rest) h := by
  obtain ⟨p, l0, e, RR, s, m, args, below, meth, c, cl, sl, A, Q⟩ := X
  intro ls H locs hl hP hS
  obtain ⟨hx, hb, hml, hown, hts, hR, hW, hl9⟩ := hC
  obtain ⟨q0, -, hq⟩ := ww_at G h hi
  rw [EE_bool G h hs] at hq
  exact va_zald hx hb hW.1 hP q0 2 hq rfl hin hd (kk ls H locs hl hP hS)
theorem v_aald (hC : Cx X G l9 own cc nL d) {i j : PId} {c0 n : Nat} {x : Int32} (t0 : Nat) {C : String} (hd : decode cc pc = .ok (.aaload, 1)) (hs : SH i = (c0, n)) (hc0 : 11 ≤ c0) (ht : ∀ f : Nat → ClassId, [(f 8, FieldType.int), (f 9, .long), (f 10, .boolean), (f 11, .object "NoonCity$City"), (f 12, .object "NoonCity$Sheet"), (f 13, .object "NoonCity$Walker")][t0]? = some (f c0, .object C)) (hi : ok i = true) (hin : vp_in x n) (hj : RF i x.toNatClampNeg = some j) (kk : V X G nL (pc + 1) l (vr j :: rest) h) : V X G nL pc l (vi x :: vr i :: rest) h := by
  obtain ⟨p, l0, e, RR, s, m, args, below, meth, c, cl, sl, A, Q⟩ := X
  intro ls H locs hl hP hS
  obtain ⟨hx, hb, hml, hown, hts, hR, hW, hl9⟩ := hC
  obtain ⟨q0, -, hq⟩ := ww_at G h hi
  rw [EE_ref G h hs hc0] at hq
  refine va_aldq hx hb hW.1 hP q0 t0 hq (ht G.2.2) hin hd ?_
  rw [hj]
  exact kk ls H locs hl hP hS
theorem v_alen (hC : Cx X G l9 own cc nL d) {i : PId} {c0 n : Nat} {v : Int32} (t0 : Nat) {ty : FieldType} (hd : decode cc pc = .ok (.arraylength, 1)) (hs : SH i = (c0, n)) (ht : ∀ f : Nat → ClassId, [(f 8, FieldType.int), (f 9, .long), (f 10, .boolean), (f 11, .object "NoonCity$City"), (f 12, .object "NoonCity$Sheet"), (f 13, .object "NoonCity$Walker")][t0]? = some (f c0, ty)) (hc0 : c0 = 8 ∨ c0 = 9) (hi : ok i = true) (hv : Int32.ofNat n = v) (kk : V X G nL (pc + 1) l (vi v :: rest) h) : V X G nL pc l (vr i :: rest) h := by
  obtain ⟨p, l0, e, RR, s, m, args, below, meth, c, cl, sl, A, Q⟩ := X
  intro ls H locs hl hP hS
  obtain ⟨hx, hb, hml, hown, hts, hR, hW, hl9⟩ := hC
  obtain ⟨q0, -, hq⟩ := ww_at G h hi
  rcases hc0 with rfl | rfl
  · rw [EE_int G h hs] at hq
    exact va_alen hx hb hW.1 hP q0 t0 hq (ht G.2.2) hv hd (kk ls H locs hl hP hS)
  · rw [EE_long G h hs] at hq
    exact va_alen hx hb hW.1 hP q0 t0 hq (ht G.2.2) hv hd (kk ls H locs hl hP hS)
theorem v_iast (hC : Cx X G l9 own cc nL d) {i : PId} {n : Nat} {x : Int32} {v : Int32} (hd : decode cc pc = .ok (.iastore, 1)) (hs : SH i = (8, n)) (hi : ok i = true) (hin : vp_in x n) (kk : V X G nL (pc + 1) l rest (upI h i x.toNatClampNeg v)) : V X G nL pc l (vi v :: vi x :: vr i :: rest) h := by
  obtain ⟨p, l0, e, RR, s, m, args, below, meth, c, cl, sl, A, Q⟩ := X
  intro ls H locs hl hP hS
  obtain ⟨hx, hb, hml, hown, hts, hR, hW, hl9⟩ := hC
  obtain ⟨q0, hq0, hq⟩ := ww_at G h hi
  rw [EE_int G h hs] at hq
  refine va_iast hx hb hW.1 hP (ww_D hW h) hS q0 0 hq rfl hin hd (fun H1 locs1 hP1 _ hS1 => ?_)
  rw [ww_set G h (upI h i x.toNatClampNeg v) hq0 ?_ ?_] at hP1
  · exact kk ls H1 locs1 hl hP1 hS1
  · rw [EE_int G _ hs, upI_same]
  · intro j hj
    exact EE_cong G h _ (upI_ne h _ _ hj) rfl
theorem v_last (hC : Cx X G l9 own cc nL d) {i : PId} {n : Nat} {x : Int32} {v : Int64} (hd : decode cc pc = .ok (.lastore, 1)) (hs : SH i = (9, n)) (hi : ok i = true) (hin : vp_in x n) (kk : V X G nL (pc + 1) l rest (upL h i x.toNatClampNeg v)) : V X G nL pc l (vl v :: vi x :: vr i :: rest) h := by
  obtain ⟨p, l0, e, RR, s, m, args, below, meth, c, cl, sl, A, Q⟩ := X
  intro ls H locs hl hP hS
  obtain ⟨hx, hb, hml, hown, hts, hR, hW, hl9⟩ := hC
  obtain ⟨q0, hq0, hq⟩ := ww_at G h hi
  rw [EE_long G h hs] at hq
  refine va_last hx hb hW.1 hP (ww_D hW h) hS q0 1 hq rfl hin hd (fun H1 locs1 hP1 _ hS1 => ?_)
  rw [ww_set G h (upL h i x.toNatClampNeg v) hq0 ?_ ?_] at hP1
  · exact kk ls H1 locs1 hl hP1 hS1
  · rw [EE_long G _ hs, upL_same]
  · intro j hj
    exact EE_cong G h _ rfl (upL_ne h _ _ hj)
theorem v_zast (hC : Cx X G l9 own cc nL d) {i : PId} {n : Nat} {x : Int32} {v : Int32} (hd : decode cc pc = .ok (.bastore, 1)) (hs : SH i = (10, n)) (hi : ok i = true) (hin : vp_in x n) (kk : V X G nL (pc + 1) l rest (upI h i x.toNatClampNeg (vp_nar .boolean v))) : V X G nL pc l (vi v :: vi x :: vr i :: rest) h := by
  obtain ⟨p, l0, e, RR, s, m, args, below, meth, c, cl, sl, A, Q⟩ := X
  intro ls H locs hl hP hS
  obtain ⟨hx, hb, hml, hown, hts, hR, hW, hl9⟩ := hC
  obtain ⟨q0, hq0, hq⟩ := ww_at G h hi
  rw [EE_bool G h hs] at hq
  refine va_zast hx hb hW.1 hP (ww_D hW h) hS q0 2 hq rfl hin hd (fun H1 locs1 hP1 _ hS1 => ?_)
  rw [ww_set G h (upI h i x.toNatClampNeg (vp_nar .boolean v)) hq0 ?_ ?_] at hP1
  · exact kk ls H1 locs1 hl hP1 hS1
  · rw [EE_bool G _ hs, upI_same]
  · intro j hj
    exact EE_cong G h _ (upI_ne h _ _ hj) rfl
end VR
