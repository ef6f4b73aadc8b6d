/-! CALLS, RETURNS, CONTRACTS -/
theorem ms_blind (G : WT) (av : List PV) (h : HP) : FrameBlind (va_Pc (av.map (tr G.1)) (fun U => va_P G.2.1 vwCl (ww G h) U.heap ∧ Wd G (wA G.1) U U.heap)) := by
  intro a U g mk hq
  obtain ⟨e, hP, h1, h2, h3, h4⟩ := hq
  exact ⟨e, hP, va_K.moved (u := U) (U := U.calling g mk a) (Vm.Alike.refl U.vm) h1, h2, h3, Ex.moved (u := U) (U := U.calling g mk a) rfl h4⟩
theorem ms_in {y : MethodName} {cc : ByteArray} {nL : Nat} {ret : Option FieldType} (h : Cond.code y cc nL ret ∈ BIG) : GoodIn BIG (.code y cc nL ret :: BIG) := by
  intro w hw
  rcases List.mem_cons.mp hw with e | hw
  · rw [e]; exact big_good _ h
  · exact big_good _ hw
theorem v_back {p : Program} {l : Launch} {e : Env} {RR : Room} {s : State} {m : MethodId} {args : Array Value} {below : List Frame} {meth : Method} {c : Code} {H : Heap} {locs : List Loc} {cl sl pc : Nat} {Q : State → Prop} {G : WT} {R : Option PV → HP → Prop} {ls : Array Slot} {rest st0 : List Value} {a : Array Value} {A0 : Nat → Prop}
    (hr : va_Run p l e RR s m args below meth c H locs cl sl 0 0 (F0 m pc ls st0) rest (qc G R a) (wA G.1)) (hS : va_S A0 s.heap H locs) (hA : ∀ q, wA G.1 q → A0 q)
    (kk : ∀ (r : Option PV) (h : HP) (H1 : Heap) (locs1 : List Loc), R r h → va_P G.2.1 vwCl (ww G h) H1 → va_S A0 s.heap H1 locs1 → W p l e RR s m args below meth c H1 locs1 cl sl Q (F0 m (pc + 3) ls ((r.map (tr G.1)).toList ++ rest))) :
    W p l e RR s m args below meth c H locs cl sl Q (F0 m pc ls st0) := by
  intro T hT X
  obtain ⟨v, st₀, t, T', L, h0, X', hL, e1, e2, ⟨⟨r, h', hv, hp, hb⟩, hz, hk⟩, st⟩ := hr T hT X
  cases hv
  rw [h0] at hz hk
  obtain ⟨t2, a1, b1⟩ := kk r h' T'.heap (locs ++ L) hp (by rw [e1]; exact hb)
    ⟨Nat.le_trans hS.1 (by rw [e1]; exact hz), fun q h1 h2 => by rw [e1, hk q (Nat.lt_of_lt_of_le h1 hS.1) (fun z => h2 (hA q z))]; exact hS.2.1 q h1 h2, fun q hq => by
      rcases List.mem_append.mp hq with h | h
      · exact hS.2.2 q h
      · exact hA _ (hL q h)⟩ T' rfl X'
  exact ⟨t2, st t2 a1, b1⟩
/-- the words of a call -/
def CB (own : String) (idx : Nat) (y : MethodName) (cc : ByteArray) (nL : Nat) (ret : Option FieldType) (n : Nat) : Prop :=
  Cond.methodLink own idx y ∈ BIG ∧ Cond.initialized y.cls ∈ BIG ∧ Cond.code y cc nL ret ∈ BIG ∧ (y.cls ≠ "java/lang/invoke/MethodHandle" ∧ y.cls ≠ "java/lang/invoke/VarHandle" ∧ (parseMethodDescriptor y.desc).map (fun d => d.parameters.length) = some n) ∧ nL ≤ 21
def CV (own : String) (idx : Nat) (y : MethodName) (cc : ByteArray) (nL : Nat) (ret : Option FieldType) (n : Nat) : Prop := CB own idx y cc nL ret n ∧ Cond.instanceMethod y ∈ BIG ∧ Cond.selects y.cls y y ∈ BIG
def CS (own : String) (idx : Nat) (y : MethodName) (cc : ByteArray) (nL : Nat) (ret : Option FieldType) (n : Nat) : Prop := CB own idx y cc nL ret n ∧ Cond.static y ∈ BIG
def CN (own : String) (idx : Nat) (y : MethodName) (host : String) (cc : ByteArray) (nL : Nat) (ret : Option FieldType) (n : Nat) : Prop := Cond.methodLinkNest own idx y host ∈ nestW ∧ Cond.static y ∈ BIG ∧ Cond.initialized y.cls ∈ BIG ∧ Cond.code y cc nL ret ∈ BIG ∧ (y.cls ≠ "java/lang/invoke/MethodHandle" ∧ y.cls ≠ "java/lang/invoke/VarHandle" ∧ (parseMethodDescriptor y.desc).map (fun d => d.parameters.length) = some n) ∧ nL ≤ 21
def catS (l : List PV) : Nat := (l.map fun v => if cat2 v then 2 else 1).sum
theorem catS_tr (ad : PId → Nat) (l : List PV) : ((l.map (tr ad)).map fun v => v.category).sum = catS l := by
  unfold catS
  rw [List.map_map]
  congr 1
  apply List.map_congr_left
  intro v _
  rcases v with x | x | _ | i <;> rfl
section VC
variable {X : CT} {G : WT} {l9 : Launch} {own : String} {cc bytes : ByteArray} {nL maxL d d' pc idx : Nat} {l : List (Nat × PV)} {st rest As : List PV} {h : HP} {ret ret' : Option FieldType} {R R' : Option PV → HP → Prop} {y : MethodName}
theorem cb_of {RR : Room} {s : State} {args : Array Value} {n : Nat} (hts : ∀ w ∈ BIG, w.before args s = true) (hw : CB own idx y bytes maxL ret' n) (hR : d ≤ RR.frames ∧ 40 * d ≤ RR.locals) (hdd : d' + 1 ≤ d) : CallB RR s args own idx y bytes maxL ret' (.code y bytes maxL ret' :: BIG) { frames := d', cells := 0, slots := 0, locals := 40 * d' } 0 0 n := by
  obtain ⟨h1, h2, h3, h4, h5⟩ := hw
  exact callB_of n hts (ms_in h3) rfl rfl rfl (hts _ h2) (hts _ h1) h4 ⟨by show d' + 1 ≤ _; omega, by show _ + 40 * d' ≤ _; omega⟩
theorem v_callV (hC : Cx X G l9 own cc nL d) {i : PId} {ci n0 : Nat} {T : u_T} {N : Nat} (hd : decode cc pc = .ok (.invokevirtual idx, 3)) (hst : st = As.reverse ++ (vr i :: rest)) (hM : MS l9 G y bytes maxL ret' d' (vr i :: As) h R') (hw : CV own idx y bytes maxL ret' As.length) (hs : SH i = (ci, n0)) (hc8 : ci < 8) (hcl : vwCl[ci]? = some (y.cls, T, N)) (hi : ok i = true) (hroom : catS rest ≤ 8) (hdd : d' + 1 ≤ d)
    (kk : ∀ r h', R' r h' → V X G nL (pc + 3) l (r.toList ++ rest) h') : V X G nL pc l st h := by
  obtain ⟨p, l0, e, RR, s, m, args, below, meth, c, cl, sl, A, Q⟩ := X
  intro ls H locs hl hP hS
  obtain ⟨hx, hb, hml, hown, hts, hR, hW, hl9⟩ := hC
  subst hl9
  subst hst
  obtain ⟨q0, -, hq⟩ := ww_at G h hi
  rw [EE_obj G h hs hc8] at hq
  have cw : CallW RR s args own y.cls idx y bytes maxL ret' (.code y bytes maxL ret' :: BIG) { frames := d', cells := 0, slots := 0, locals := 40 * d' } 0 0 As.length := ⟨cb_of hts hw.1 ⟨hR.1, hR.2.1⟩ hdd, hts _ hw.2.1, hts _ hw.2.2⟩
  refine v_back (va_runV (As := As.map (tr G.1)) (rest := rest.map (tr G.1)) (b := G.1 i) ⟨hx, hb, hml, hown, hts⟩ hM cw ⟨ms_blind G _ h, va_recv hW.1 hP hcl hq, fun U hU hWm => ⟨rfl, by rw [hU]; exact hP, Wd.call hW hS hU hWm⟩⟩ rfl (by rw [List.length_map]) hl.1 (by simp [tr, List.map_append, List.map_reverse]) (lv_room (by rw [catS_tr]; exact hroom)) hd ⟨by have := hR.2.2.1; omega, by have := hR.2.2.2; omega⟩) hS (fun q ⟨j, hj, e⟩ => by rw [e]; exact hW.2.2.1 j hj) (fun r h' H1 locs1 hr hP1 hS1 => ?_)
  have k1 := kk r h' hr ls H1 locs1 hl hP1 hS1
  rw [List.map_append] at k1
  rcases r with _ | r <;> exact k1
theorem v_callS (hC : Cx X G l9 own cc nL d) (hd : decode cc pc = .ok (.invokestatic idx, 3)) (hst : st = As.reverse ++ rest) (hM : MS l9 G y bytes maxL ret' d' As h R') (hw : CS own idx y bytes maxL ret' As.length) (hroom : catS rest ≤ 8) (hdd : d' + 1 ≤ d)
    (kk : ∀ r h', R' r h' → V X G nL (pc + 3) l (r.toList ++ rest) h') : V X G nL pc l st h := by
  obtain ⟨p, l0, e, RR, s, m, args, below, meth, c, cl, sl, A, Q⟩ := X
  intro ls H locs hl hP hS
  obtain ⟨hx, hb, hml, hown, hts, hR, hW, hl9⟩ := hC
  subst hl9
  subst hst
  refine v_back (va_runS (As := As.map (tr G.1)) (rest := rest.map (tr G.1)) ⟨hx, hb, hml, hown, hts⟩ hM ⟨cb_of hts hw.1 ⟨hR.1, hR.2.1⟩ hdd, hts _ hw.2⟩ ⟨ms_blind G _ h, fun U hU hWm => ⟨rfl, by rw [hU]; exact hP, Wd.call hW hS hU hWm⟩⟩ rfl (by rw [List.length_map]) hl.1 (by simp [List.map_append, List.map_reverse]) (lv_room (by rw [catS_tr]; exact hroom)) hd ⟨by have := hR.2.2.1; omega, by have := hR.2.2.2; omega⟩) hS (fun q ⟨j, hj, e⟩ => by rw [e]; exact hW.2.2.1 j hj) (fun r h' H1 locs1 hr hP1 hS1 => ?_)
  have k1 := kk r h' hr ls H1 locs1 hl hP1 hS1
  rw [List.map_append] at k1
  rcases r with _ | r <;> exact k1
theorem v_callN (hC : Cx X G l9 own cc nL d) {host : String} (hd : decode cc pc = .ok (.invokestatic idx, 3)) (hst : st = As.reverse ++ rest) (hM : MS l9 G y bytes maxL ret' d' As h R') (hw : CN own idx y host bytes maxL ret' As.length) (hroom : catS rest ≤ 8) (hdd : d' + 1 ≤ d)
    (kk : ∀ r h', R' r h' → V X G nL (pc + 3) l (r.toList ++ rest) h') : V X G nL pc l st h := by
  obtain ⟨p, l0, e, RR, s, m, args, below, meth, c, cl, sl, A, Q⟩ := X
  intro ls H locs hl hP hS
  obtain ⟨hx, hb, hml, hown, hts, hR, hW, hl9⟩ := hC
  subst hl9
  subst hst
  obtain ⟨w1, w2, w3, w4, w5, w6⟩ := hw
  refine v_back (va_runSN (As := As.map (tr G.1)) (rest := rest.map (tr G.1)) ⟨hx, hb, hml, hown, hts⟩ hM ⟨va_cnB (rm := { frames := d', cells := 0, slots := 0, locals := 40 * d' }) As.length hts (ms_in w4) rfl rfl rfl (hW.2.2.2.1 _ w1) (hts _ w3) w5 ⟨by show d' + 1 ≤ _; omega, by show _ + 40 * d' ≤ _; omega⟩, hts _ w2, trivial⟩ ⟨ms_blind G _ h, fun U hU hWm => ⟨rfl, by rw [hU]; exact hP, Wd.call hW hS hU hWm⟩⟩ rfl (by rw [List.length_map]) hl.1 (by simp [List.map_append, List.map_reverse]) (lv_room (by rw [catS_tr]; exact hroom)) hd ⟨by have := hR.2.2.1; omega, by have := hR.2.2.2; omega⟩) hS (fun q ⟨j, hj, e⟩ => by rw [e]; exact hW.2.2.1 j hj) (fun r h' H1 locs1 hr hP1 hS1 => ?_)
  have k1 := kk r h' hr ls H1 locs1 hl hP1 hS1
  rw [List.map_append] at k1
  rcases r with _ | r <;> exact k1
/-- a call on a string constant -/
theorem v_callT (hC : Cx X G l9 own cc nL d) {i : Nat} (hi : i < 8) (hd : decode cc pc = .ok (.invokevirtual idx, 3)) (hst : st = As.reverse ++ (vr (4, i, 0) :: rest)) (hM : MS l9 G y bytes maxL ret' d' (vr (4, i, 0) :: As) h R') (hw : CV own idx y bytes maxL ret' As.length) (hcl : y.cls = "java/lang/String") (hroom : catS rest ≤ 8) (hdd : d' + 1 ≤ d)
    (kk : ∀ r h', R' r h' → V X G nL (pc + 3) l (r.toList ++ rest) h') : V X G nL pc l st h := by
  obtain ⟨p, l0, e, RR, s, m, args, below, meth, c, cl, sl, A, Q⟩ := X
  intro ls H locs hl hP hS
  obtain ⟨hx, hb, hml, hown, hts, hR, hW, hl9⟩ := hC
  subst hl9
  subst hst
  have cw : CallW RR s args own y.cls idx y bytes maxL ret' (.code y bytes maxL ret' :: BIG) { frames := d', cells := 0, slots := 0, locals := 40 * d' } 0 0 As.length := ⟨cb_of hts hw.1 ⟨hR.1, hR.2.1⟩ hdd, hts _ hw.2.1, hts _ hw.2.2⟩
  refine v_back (va_runV (As := As.map (tr G.1)) (rest := rest.map (tr G.1)) (b := G.1 (4, i, 0)) ⟨hx, hb, hml, hown, hts⟩ hM cw ⟨ms_blind G _ h, by rw [hcl]; exact vk_recv hW.2.2.2.2.2.1 hi hS, fun U hU hWm => ⟨rfl, by rw [hU]; exact hP, Wd.call hW hS hU hWm⟩⟩ rfl (by rw [List.length_map]) hl.1 (by simp [tr, List.map_append, List.map_reverse]) (lv_room (by rw [catS_tr]; exact hroom)) hd ⟨by have := hR.2.2.1; omega, by have := hR.2.2.2; omega⟩) hS (fun q ⟨j, hj, e⟩ => by rw [e]; exact hW.2.2.1 j hj) (fun r h' H1 locs1 hr hP1 hS1 => ?_)
  have k1 := kk r h' hr ls H1 locs1 hl hP1 hS1
  rw [List.map_append] at k1
  rcases r with _ | r <;> exact k1
theorem v_max (hC : Cx X G l9 own cc nL d) {x z : Int32} (hd : decode cc pc = .ok (.invokestatic idx, 3)) (hw : Cond.methodLink own idx Lib.Math.max.name ∈ BIG) (hr : catS rest ≤ 8) (hdd : 1 ≤ d) (kk : V X G nL (pc + 3) l (vi (if x < z then z else x) :: rest) h) : V X G nL pc l (vi z :: vi x :: rest) h := by
  obtain ⟨p, l0, e, RR, s, m, args, below, meth, c, cl, sl, A, Q⟩ := X
  intro ls H locs hl hP hS
  obtain ⟨hx, hb, hml, hown, hts, hR, hW, hl9⟩ := hC
  exact va_mmax hx hb (hml.trans hl.1.symm) hown (hts _ hw) (hts _ (by decide +kernel)) (hts _ (by decide +kernel)) (hts _ (by decide +kernel)) (by omega) (by rw [catS_tr]; omega) hR.2.2.1 hR.2.2.2 hd (kk ls H locs hl hP hS)
theorem v_min (hC : Cx X G l9 own cc nL d) {x z : Int32} (hd : decode cc pc = .ok (.invokestatic idx, 3)) (hw : Cond.methodLink own idx Lib.Math.min.name ∈ BIG) (hr : catS rest ≤ 8) (hdd : 1 ≤ d) (kk : V X G nL (pc + 3) l (vi (if z < x then z else x) :: rest) h) : V X G nL pc l (vi z :: vi x :: rest) h := by
  obtain ⟨p, l0, e, RR, s, m, args, below, meth, c, cl, sl, A, Q⟩ := X
  intro ls H locs hl hP hS
  obtain ⟨hx, hb, hml, hown, hts, hR, hW, hl9⟩ := hC
  exact va_mmin hx hb (hml.trans hl.1.symm) hown (hts _ hw) (hts _ (by decide +kernel)) (hts _ (by decide +kernel)) (hts _ (by decide +kernel)) (by omega) (by rw [catS_tr]; omega) hR.2.2.1 hR.2.2.2 hd (kk ls H locs hl hP hS)
theorem v_copyI (hC : Cx X G l9 own cc nL d) {i j : PId} {n0 n1 : Nat} {sp dp n : Int32} (hd : decode cc pc = .ok (.invokestatic idx, 3)) (hw : Cond.methodLink own idx arraycopyName ∈ BIG) (hs0 : SH i = (8, n0)) (hs1 : SH j = (8, n1)) (hi : ok i = true) (hj : ok j = true) (h1 : ¬ sp < 0) (h2 : ¬ dp < 0) (h3 : ¬ n < 0) (h4 : sp.toNatClampNeg + n.toNatClampNeg ≤ n0) (h5 : dp.toNatClampNeg + n.toNatClampNeg ≤ n1) (hr : catS rest ≤ 8) (hdd : 1 ≤ d)
    (kk : V X G nL (pc + 3) l rest (upR h j (va_cpy (h.1 i) (h.1 j) sp.toNatClampNeg dp.toNatClampNeg n.toNatClampNeg))) : V X G nL pc l (vi n :: vi dp :: vr j :: vi sp :: vr i :: rest) h := by
  obtain ⟨p, l0, e, RR, s, m, args, below, meth, c, cl, sl, A, Q⟩ := X
  intro ls H locs hl hP hS
  obtain ⟨hx, hb, hml, hown, hts, hR, hW, hl9⟩ := hC
  obtain ⟨q0, hq0, hq⟩ := ww_at G h hi
  obtain ⟨q1, hq1, hqj⟩ := ww_at G h hj
  rw [EE_int G h hs0] at hq
  rw [EE_int G h hs1] at hqj
  refine va_copyi hx hb (hml.trans hl.1.symm) hown (hts _ hw) (hts _ (by decide +kernel)) (hts _ (by decide +kernel)) (hts _ (by decide +kernel)) hW.1 hP (ww_D hW h) hS q0 q1 0 0 hq hqj rfl rfl rfl h1 h2 h3 h4 h5 (fun _ _ => rfl) (by omega) (by rw [catS_tr]; show catS rest + (5 + 2 + 11) ≤ _; omega) hd (fun H1 locs1 hP1 _ hS1 => ?_)
  rw [ww_set G h (upR h j (va_cpy (h.1 i) (h.1 j) sp.toNatClampNeg dp.toNatClampNeg n.toNatClampNeg)) hq1 ?_ ?_] at hP1
  · exact kk ls H1 locs1 hl hP1 hS1
  · rw [EE_int G _ hs1, upR_same]
  · intro k hk
    exact EE_cong G h _ (upR_ne h _ hk) rfl
theorem v_copyL (hC : Cx X G l9 own cc nL d) {i j : PId} {n0 n1 : Nat} {sp dp n : Int32} (hd : decode cc pc = .ok (.invokestatic idx, 3)) (hw : Cond.methodLink own idx arraycopyName ∈ BIG) (hs0 : SH i = (9, n0)) (hs1 : SH j = (9, n1)) (hi : ok i = true) (hj : ok j = true) (h1 : ¬ sp < 0) (h2 : ¬ dp < 0) (h3 : ¬ n < 0) (h4 : sp.toNatClampNeg + n.toNatClampNeg ≤ n0) (h5 : dp.toNatClampNeg + n.toNatClampNeg ≤ n1) (hr : catS rest ≤ 8) (hdd : 1 ≤ d)
    (kk : V X G nL (pc + 3) l rest (upRL h j (va_cpy (h.2 i) (h.2 j) sp.toNatClampNeg dp.toNatClampNeg n.toNatClampNeg))) : V X G nL pc l (vi n :: vi dp :: vr j :: vi sp :: vr i :: rest) h := by
  obtain ⟨p, l0, e, RR, s, m, args, below, meth, c, cl, sl, A, Q⟩ := X
  intro ls H locs hl hP hS
  obtain ⟨hx, hb, hml, hown, hts, hR, hW, hl9⟩ := hC
  obtain ⟨q0, hq0, hq⟩ := ww_at G h hi
  obtain ⟨q1, hq1, hqj⟩ := ww_at G h hj
  rw [EE_long G h hs0] at hq
  rw [EE_long G h hs1] at hqj
  refine va_copyl hx hb (hml.trans hl.1.symm) hown (hts _ hw) (hts _ (by decide +kernel)) (hts _ (by decide +kernel)) (hts _ (by decide +kernel)) hW.1 hP (ww_D hW h) hS q0 q1 1 1 hq hqj rfl rfl rfl h1 h2 h3 h4 h5 (fun _ _ => rfl) (by omega) (by rw [catS_tr]; show catS rest + (5 + 2 + 11) ≤ _; omega) hd (fun H1 locs1 hP1 _ hS1 => ?_)
  rw [ww_set G h (upRL h j (va_cpy (h.2 i) (h.2 j) sp.toNatClampNeg dp.toNatClampNeg n.toNatClampNeg)) hq1 ?_ ?_] at hP1
  · exact kk ls H1 locs1 hl hP1 hS1
  · rw [EE_long G _ hs1, upRL_same]
  · intro k hk
    exact EE_cong G h _ rfl (upRL_ne h _ hk)
/-! the ends -/
theorem v_iret (hC : Cx X G l9 own cc nL d) (hX : Rx X G (some .int) R) {v : Int32} (hd : decode cc pc = .ok (.ireturn, 1)) (hq : R (some (vi v)) h) : V X G nL pc l [vi v] h := by
  obtain ⟨p, l0, e, RR, s, m, args, below, meth, c, cl, sl, A, Q⟩ := X
  intro ls H locs hl hP hS
  obtain ⟨hr, hlk, hcl0, hsl0, hA, hQ⟩ := hX
  subst hcl0; subst hsl0; subst hA; subst hQ
  exact W.iret hC.1 hC.2.1 hr (fun t ht _ => ⟨⟨_, h, rfl, hq, by rw [ht]; exact hP⟩, hS.F ht⟩) hS.2.2 hd hlk
theorem v_zret (hC : Cx X G l9 own cc nL d) {ty : FieldType} (hX : Rx X G (some ty) R) {v : Int32} (hd : decode cc pc = .ok (.ireturn, 1)) (hn : narrow ty (.int v) = .int v) (hq : R (some (vi v)) h) : V X G nL pc l [vi v] h := by
  obtain ⟨p, l0, e, RR, s, m, args, below, meth, c, cl, sl, A, Q⟩ := X
  intro ls H locs hl hP hS
  obtain ⟨hr, hlk, hcl0, hsl0, hA, hQ⟩ := hX
  subst hcl0; subst hsl0; subst hA; subst hQ
  exact W.zret hC.1 hC.2.1 hr hn (fun t ht _ => ⟨⟨_, h, rfl, hq, by rw [ht]; exact hP⟩, hS.F ht⟩) hS.2.2 hd hlk
theorem v_lret (hC : Cx X G l9 own cc nL d) (hX : Rx X G (some .long) R) {v : Int64} (hd : decode cc pc = .ok (.lreturn, 1)) (hq : R (some (vl v)) h) : V X G nL pc l [vl v] h := by
  obtain ⟨p, l0, e, RR, s, m, args, below, meth, c, cl, sl, A, Q⟩ := X
  intro ls H locs hl hP hS
  obtain ⟨hr, hlk, hcl0, hsl0, hA, hQ⟩ := hX
  subst hcl0; subst hsl0; subst hA; subst hQ
  exact W.lret hC.1 hC.2.1 hr (fun t ht _ => ⟨⟨_, h, rfl, hq, by rw [ht]; exact hP⟩, hS.F ht⟩) hS.2.2 hd hlk
theorem v_vret (hC : Cx X G l9 own cc nL d) (hX : Rx X G none R) (hd : decode cc pc = .ok (.return_, 1)) (hq : R none h) : V X G nL pc l [] h := by
  obtain ⟨p, l0, e, RR, s, m, args, below, meth, c, cl, sl, A, Q⟩ := X
  intro ls H locs hl hP hS
  obtain ⟨hr, hlk, hcl0, hsl0, hA, hQ⟩ := hX
  subst hcl0; subst hsl0; subst hA; subst hQ
  exact W.vret hC.1 hC.2.1 hr (fun t ht _ => ⟨⟨_, h, rfl, hq, by rw [ht]; exact hP⟩, hS.F ht⟩) hS.2.2 hd hlk
theorem v_aret (hC : Cx X G l9 own cc nL d) {rt : FieldType} (hrt : (∃ n, rt = .object n) ∨ ∃ t, rt = .array t) (hX : Rx X G (some rt) R) {i : PId} (hd : decode cc pc = .ok (.areturn, 1)) (hq : R (some (vr i)) h) : V X G nL pc l [vr i] h := by
  obtain ⟨p, l0, e, RR, s, m, args, below, meth, c, cl, sl, A, Q⟩ := X
  intro ls H locs hl hP hS
  obtain ⟨hr, hlk, hcl0, hsl0, hA, hQ⟩ := hX
  subst hcl0; subst hsl0; subst hA; subst hQ
  exact W.aret hC.1 hC.2.1 hr hrt (Or.inr ⟨_, rfl⟩) (fun t ht _ => ⟨⟨some (vr i), h, rfl, hq, by rw [ht]; exact hP⟩, hS.F ht⟩) hS.2.2 hd hlk
/-- a contract out of the walk of the body -/
theorem MS_of {av : List PV} (hy : plainName y.cls = true) (hlen : (lg_sl (av.map (tr G.1))).length ≤ nL) (body : ∀ X : CT, Cx X G l9 y.cls cc nL d → Rx X G ret R → V X G nL 0 (args0 0 av) [] h) : MS l9 G y cc nL ret d av h R := by
  refine Met.ofW (cc := cc) (maxL := nL) (ret := ret) hy rfl ?_
  intro p e s m args below meth c s₁ B hml hv
  obtain ⟨rfl, hP, hW⟩ := hv
  have hts := atoms_spec (ws := .code y cc nL ret :: BIG) B.pre
  have hown : s.vm.findClass y.cls = some m.cls := findClass_of_methodNamed B.named
  have hl := lv_entry (av.map (tr G.1)) (n := nL) hlen
  rw [lg_entry_eq]
  rw [← args0_tr] at hl
  exact body (p, l9, e, _, s, m, _, below, meth, c, 0, 0, wA G.1, MQ below (qc G R) _ s 0 0 (wA G.1)) ⟨B.exec, B.bytes, hml, hown, fun w hw => hts w (List.mem_cons_of_mem _ hw), ⟨Nat.le_refl _, Nat.le_refl _, Nat.le_refl _, Nat.le_refl _⟩, hW, rfl⟩ ⟨B.returns, B.notSynchronized, rfl, rfl, rfl, rfl⟩ _ s.heap [] hl hP va_S.rf
/-- a contract says less -/
theorem MS.mono {av : List PV} (hM : MS l9 G y cc nL ret d av h R) (hq : ∀ r h', R r h' → R' r h') : MS l9 G y cc nL ret d av h R' := by
  intro p e h1 h2 h3 s m args below h4 h5 h6 h7
  obtain ⟨n, o, a1, a2, a3, ⟨⟨r, h', e1, hr, hP⟩, hF⟩, hL⟩ := hM p e h1 h2 h3 s m args below h4 h5 h6 h7
  exact ⟨n, o, a1, a2, a3, ⟨⟨r, h', e1, hq _ _ hr, hP⟩, hF⟩, hL⟩
end VC
