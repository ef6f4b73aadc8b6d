/-! THE LAW from its entry -/
theorem ci_L_9 : CB RL 9 yX6_init cX6_init 2 none 0 ∧ Cond.instanceMethod yX6_init ∈ BIG := by
  have k := mbs (ws := [Cond.methodLink RL 9 yX6_init, .initialized yX6_init.cls, .code yX6_init cX6_init 2 none, .instanceMethod yX6_init]) [86, 68, 88, 87] (by decide +kernel)
  have h2 := yok_spec (y := yX6_init) (nL := 2) (n := 0) (by decide +kernel)
  exact ⟨⟨k _ (by simp), k _ (by simp), k _ (by simp), h2.1, h2.2⟩, k _ (by simp)⟩
theorem ci_L_12 : CB RL 12 yX7_init cX7_init 2 none 0 ∧ Cond.instanceMethod yX7_init ∈ BIG := by
  have k := mbs (ws := [Cond.methodLink RL 12 yX7_init, .initialized yX7_init.cls, .code yX7_init cX7_init 2 none, .instanceMethod yX7_init]) [885, 76, 887, 886] (by decide +kernel)
  have h2 := yok_spec (y := yX7_init) (nL := 2) (n := 0) (by decide +kernel)
  exact ⟨⟨k _ (by simp), k _ (by simp), k _ (by simp), h2.1, h2.2⟩, k _ (by simp)⟩
theorem n_astore {X : NT} {G : WT} {l9 : Launch} {own : String} {cc : ByteArray} {nL d mc ms pc cl sl : Nat} {l l' : List (Nat × Value)} {st : List Value} {ws : va_W} (hC : NX X G l9 own cc nL d mc ms) {k : Fin 4} {x : Nat} (hd : decode cc pc = .ok (.astore_n k, 1)) (hn : (k : Nat) < nL) (hq : ((k : Nat), Value.ref x) :: l.filter (fun q => !(q.1 == (k : Nat)) && !(q.1 + 1 == (k : Nat) && q.2.category == 2)) = l') (kk : NW X G nL (pc + 1) l' st cl sl ws) : NW X G nL pc l (.ref x :: st) cl sl ws := by
  obtain ⟨p, l0, e, RR, s, m, args, below, meth, c, A, Q⟩ := X
  intro ls H locs hl hP hD hS
  obtain ⟨hx, hb, hml, hown, hts, hR, hKA, hA, hl9⟩ := hC
  exact lv_astore_n hx hb hd rfl hl hn hq (fun ls2 hl2 => kk ls2 H locs hl2 hP hD hS)
theorem u_all {args : Array Value} {s : State} (hts : ∀ w ∈ BIG, w.before args s = true) : ∃ (dC : Nat → ClassId) (dI : Nat → Nat → Nat), ∀ (k : Nat) (q : vw_C), vwCl[k]? = some q → u_Kn s q.1 q.2.1 q.2.2 (dC k) (dI k) := by
  obtain ⟨c0, i0, h0⟩ := u_known (C := RX0) (T := TX0) (N := 14) (n := 14) hts cw_X0 (hts _ ck_0.2.2.2.2.1)
  obtain ⟨c1, i1, h1⟩ := u_known (C := RX1) (T := TX1) (N := 3) (n := 3) hts cw_X1 (hts _ ck_1.2.2.2.2.1)
  obtain ⟨c2, i2, h2⟩ := u_known (C := RX2) (T := TX2) (N := 9) (n := 9) hts cw_X2 (hts _ ck_2.2.2.2.2.1)
  obtain ⟨c3, i3, h3⟩ := u_known (C := RX3) (T := TX3) (N := 3) (n := 3) hts cw_X3 (hts _ ck_3.2.2.2.2.1)
  obtain ⟨c4, i4, h4⟩ := u_known (C := RX4) (T := TX4) (N := 6) (n := 6) hts cw_X4 (hts _ ck_4.2.2.2.2.1)
  obtain ⟨c5, i5, h5⟩ := u_known (C := RX5) (T := TX5) (N := 3) (n := 3) hts cw_X5 (hts _ ck_5.2.2.2.2.1)
  obtain ⟨c6, i6, h6⟩ := u_known (C := RX6) (T := TX6) (N := 10) (n := 10) hts cw_X6 (hts _ ck_6.2.2.2.2.1)
  obtain ⟨c7, i7, h7⟩ := u_known (C := RX7) (T := TX7) (N := 29) (n := 29) hts cw_X7 (hts _ ck_7.2.2.2.2.1)
  refine ⟨fun k => match k with | 0 => c0 | 1 => c1 | 2 => c2 | 3 => c3 | 4 => c4 | 5 => c5 | 6 => c6 | _ => c7, fun k => match k with | 0 => i0 | 1 => i1 | 2 => i2 | 3 => i3 | 4 => i4 | 5 => i5 | 6 => i6 | _ => i7, ?_⟩
  intro k q hq
  match k, hq with
  | 0, hq => cases hq; exact h0
  | 1, hq => cases hq; exact h1
  | 2, hq => cases hq; exact h2
  | 3, hq => cases hq; exact h3
  | 4, hq => cases hq; exact h4
  | 5, hq => cases hq; exact h5
  | 6, hq => cases hq; exact h6
  | 7, hq => cases hq; exact h7
  | k + 8, hq => exact absurd hq (by simp [vwCl])
theorem a_prim {args : Array Value} {s : State} {ty : FieldType} (h : (Cond.arrayClass ty).before args s = true) : ∃ cA : ClassId, ArrOfT s cA ty ∧ s.vm.findClass ("[" ++ ty.toString) = some cA := by
  obtain ⟨cA, kA, comp, h1, h2, h3⟩ := Cond.arrayClass_spec (args := args) (first := s) (o := none) (s := s) (idx := []) h
  exact ⟨cA, fun n z => ⟨(fun k h => by cases h), kA, h2, comp, h3⟩, h1⟩
theorem a_ref {args : Array Value} {s : State} {C : String} (h : (Cond.arrayOver (.object C)).before args s = true) : ∃ cA : ClassId, ArrOfT s cA (.object C) ∧ va_RA s cA (.object C) := by
  obtain ⟨comp, cA, kA, f1, -, f2, f3, f4⟩ := Cond.arrayOver_spec (args := args) (first := s) (o := none) (s := s) (idx := []) h
  exact ⟨cA, fun n z => ⟨(fun k h => by cases h), kA, f2, comp, f3⟩, kA, comp, f2, f3, f1, f4⟩
theorem K_all {args : Array Value} {s : State} (hts : ∀ w ∈ lw_tbl, w.before args s = true) : ∃ D : va_G × (Nat → ClassId), KA (fun _ => 0, D) s := by
  have htB : ∀ w ∈ BIG, w.before args s = true := fun w hw => hts w (List.mem_filter.mp hw).1
  obtain ⟨dC, dI, hKn⟩ := u_all htB
  obtain ⟨cI, I1, I2⟩ := a_prim (htB _ aw_I)
  obtain ⟨cL, L1, L2⟩ := a_prim (htB _ aw_L)
  obtain ⟨cZ, Z1, Z2⟩ := a_prim (htB _ aw_Z)
  have o3 : (Cond.arrayOver (.object "NoonCity$City")).before args s = true := hts _ (List.mem_of_getElem? (i := 199) (by decide +kernel))
  have o4 : (Cond.arrayOver (.object "NoonCity$Sheet")).before args s = true := hts _ (List.mem_of_getElem? (i := 242) (by decide +kernel))
  have o5 : (Cond.arrayOver (.object "NoonCity$Walker")).before args s = true := hts _ (List.mem_of_getElem? (i := 99) (by decide +kernel))
  obtain ⟨c3, A1, A2⟩ := a_ref o3
  obtain ⟨c4, B1, B2⟩ := a_ref o4
  obtain ⟨c5, C1, C2⟩ := a_ref o5
  refine ⟨((dC, dI), fun k => match k with | 8 => cI | 9 => cL | 10 => cZ | 11 => c3 | 12 => c4 | _ => c5), ⟨hKn, fun k q hq => ?_⟩, va_AO.of o3, va_AO.of o4, va_AO.of o5⟩
  match k, hq with
  | 0, hq => cases hq; exact ⟨I1, I2⟩
  | 1, hq => cases hq; exact ⟨L1, L2⟩
  | 2, hq => cases hq; exact ⟨Z1, Z2⟩
  | 3, hq => cases hq; exact ⟨A1, A2⟩
  | 4, hq => cases hq; exact ⟨B1, B2⟩
  | 5, hq => cases hq; exact ⟨C1, C2⟩
  | k + 6, hq => exact absurd hq (by simp [tysOf])
theorem nd_swap : ∀ n : Nat, va_nd (n :: List.range n) = true := fun n => by
  show (decide (n ∉ List.range n) && va_nd (List.range n)) = true
  rw [nd_range, Bool.and_true, decide_eq_true_eq]
  exact fun h => Nat.lt_irrefl _ (List.mem_range.mp h)
theorem mp_swap (w1 : va_W) (x : Nat × va_E) : (w1.length :: List.range w1.length).map (fun i => (w1 ++ [x])[i]?) = ([x] ++ w1).map some := by
  rw [List.map_cons, nw_pre]
  simp
theorem x7_blind (D : va_G × (Nat → ClassId)) (As : List Value) (w0 : va_W) (sz : Nat) (ad : PId → Nat) (A : Nat → Prop) : FrameBlind (va_Pc As (fun U => U.heap.size = sz ∧ va_P D.1 vwCl w0 U.heap ∧ KA (fun _ => 0, D) U ∧ va_D (fun _ => True) w0 ∧ Ex ad A U U.heap)) := by
  intro a U g mk hq
  obtain ⟨e, h1, h2, h3, h4, h5⟩ := hq
  exact ⟨e, h1, h2, KA.moved (u := U) (U := U.calling g mk a) (Vm.Alike.refl U.vm) h3, h4, Ex.moved (u := U) (U := U.calling g mk a) rfl h5⟩
set_option maxRecDepth 20000 in
set_option maxHeartbeats 4000000 in
theorem law_main {X : CT} {G : WT} {l9 : Launch} {L : Nat} {xs : Nat → Int32} {h : HP} (hC : Cx X G l9 RL code 4 11) (hX : SX X G L xs) (hL : L ≤ 2560) (K1 : ∀ l h, V X G 4 1688 l [vi 1] h) (hI : Inv h) : V X G 4 15 [(1, vr (1, 0, 0)), (0, vr (5, 0, 0))] [vr (3, 0, 0)] h := by
  refine v_astore_n hC (pc := 15) (l' := [(2, vr (3, 0, 0)), (1, vr (1, 0, 0)), (0, vr (5, 0, 0))]) dL_law_15 (by decide) rfl ?_
  refine v_iconst hC (pc := 16) (v := 0) (by decide) dL_law_16 ?_
  refine v_istore_n hC (pc := 17) (l' := loc 0) dL_law_17 (by decide) rfl ?_
  exact law_loop hC hX hL K1 (L + 1) 0 h (Nat.zero_le _) (by omega) hI
set_option maxRecDepth 20000 in
set_option maxHeartbeats 4000000 in
theorem whole_start {p : Program} {e : Env} {s : State} {m : MethodId} {below : List Frame} {meth : Method} {c : Code} (l : Launch) (hflags : l.flags = flags0) {b L : Nat} {xs : Nat → Int32} (hL : L ≤ 2560) (C0 : lw_At p s m meth c b L xs) : W p l e room_1 s m #[Value.ref b] below meth c s.heap [] 0 0 (lw_Z below #[Value.ref b] s) (entryFrame m ([Value.ref b] : List Value).toArray 4) := by
  obtain ⟨hx, hb, hr, hml, hown, hts, hX, hbl, hlocks, hgv⟩ := id C0
  obtain ⟨D, hKA⟩ := K_all hts
  obtain ⟨sA, hEx⟩ := Ex_start hts hgv
  have htB : ∀ w ∈ BIG, w.before #[Value.ref b] s = true := fun w hw => hts w (List.mem_filter.mp hw).1
  have hl := lv_entry [.ref b] (n := 4) (Nat.le_of_ble_eq_true rfl)
  rw [lg_entry_eq]
  have hC : NX (p, l, e, room_1, s, m, #[Value.ref b], below, meth, c, (fun q : Nat => s.heap.size ≤ q), lw_Z below #[Value.ref b] s) (fun _ => 0, D) l RL code 4 11 100 3291 := ⟨hx, hb, hml, hown, htB, ⟨by decide, by decide, by decide, by decide⟩, hKA, fun _ h => h, rfl⟩
  suffices hN : NW (p, l, e, room_1, s, m, #[Value.ref b], below, meth, c, (fun q : Nat => s.heap.size ≤ q), lw_Z below #[Value.ref b] s) (fun _ => 0, D) 4 0 [(0, .ref b)] [] 0 0 [] from hN _ s.heap [] hl (fun k q h => by simp at h) ⟨fun i j p q h => by simp at h, fun k q h => by simp at h⟩ va_S.rf
  refine n_new hC (pc := 0) (fs := [.null, .null, .null, .null, .null, .null, .null, .int 0, .int 0, .int 0]) (ws9 := fun q => [(q, .inr (6, [.null, .null, .null, .null, .null, .null, .null, .int 0, .int 0, .int 0]))]) ck_6 (mb 84 (by decide +kernel)) (fun j hj => match j, hj with | 0, _ => rfl | 1, _ => rfl | 2, _ => rfl | 3, _ => rfl | 4, _ => rfl | 5, _ => rfl | 6, _ => rfl | 7, _ => rfl | 8, _ => rfl | 9, _ => rfl | j + 10, h => absurd h (by omega)) (Nat.le_of_ble_eq_true rfl) (Nat.le_of_ble_eq_true rfl) dL_law_0 (fun _ => rfl) (fun q6 => ?_)
  refine n_dup hC (pc := 3) rfl dL_law_3 ?_
  refine n_ctor hC (pc := 4) (pre := []) (ws9 := fun u : U6 => WK6 (fun _ => 0, D) q6 u) (z_X6 l (fun _ => 0, D) q6 (d := 4) (Nat.le_refl _)) ci_L_9.1 ci_L_9.2 rfl (Nat.le_of_ble_eq_true rfl) (by decide) (Nat.le_of_ble_eq_true rfl) (Nat.le_of_ble_eq_true rfl) dL_law_4 rfl (fun _ => rfl) (fun u => ?_)
  refine n_astore hC (pc := 7) (l' := [(1, .ref q6), (0, .ref b)]) dL_law_7 (by decide) rfl ?_
  refine n_new hC (pc := 8) (fs := [.null, .null, .null, .int 0, .int 0, .null, .int 0, .int 0, .int 0, .null, .int 0, .null, .int 0, .int 0, .int 0, .int 0, .int 0, .int 0, .int 0, .null, .null, .null, .null, .null, .null, .null, .null, .int 0, .null]) (ws9 := fun q => WK6 (fun _ => 0, D) q6 u ++ [(q, .inr (7, [.null, .null, .null, .int 0, .int 0, .null, .int 0, .int 0, .int 0, .null, .int 0, .null, .int 0, .int 0, .int 0, .int 0, .int 0, .int 0, .int 0, .null, .null, .null, .null, .null, .null, .null, .null, .int 0, .null]))]) ck_7 (mb 883 (by decide +kernel)) (fun j hj => match j, hj with | 0, _ => rfl | 1, _ => rfl | 2, _ => rfl | 3, _ => rfl | 4, _ => rfl | 5, _ => rfl | 6, _ => rfl | 7, _ => rfl | 8, _ => rfl | 9, _ => rfl | 10, _ => rfl | 11, _ => rfl | 12, _ => rfl | 13, _ => rfl | 14, _ => rfl | 15, _ => rfl | 16, _ => rfl | 17, _ => rfl | 18, _ => rfl | 19, _ => rfl | 20, _ => rfl | 21, _ => rfl | 22, _ => rfl | 23, _ => rfl | 24, _ => rfl | 25, _ => rfl | 26, _ => rfl | 27, _ => rfl | 28, _ => rfl | j + 29, h => absurd h (by omega)) (Nat.le_of_ble_eq_true rfl) (Nat.le_of_ble_eq_true rfl) dL_law_8 (fun _ => rfl) (fun q => ?_)
  refine n_dup hC (pc := 11) rfl dL_law_11 ?_
  intro ls H locs hl hP hD hS
  have hb' : ∀ q9 : Nat, s.heap.size ≤ q9 → (fun q : Nat => s.heap.size ≤ q) q9 := fun _ h => h
  have hPc : va_P D.1 vwCl (w7 D q q6 u) H := fun k x hx => by
    obtain ⟨h1, h2⟩ := P_split hP
    have hm := List.mem_of_getElem? hx
    rcases List.mem_append.mp hm with h | h
    · obtain ⟨j, hj⟩ := List.getElem?_of_mem h; exact h2 j x hj
    · obtain ⟨j, hj⟩ := List.getElem?_of_mem h; exact h1 j x hj
  have hDc : va_D (fun q : Nat => s.heap.size ≤ q) (w7 D q q6 u) := hD.sub _ (nd_swap _) (mp_swap _ _)
  have hFc := va_free (wc := w7 D q q6 u) hD hS hb' _ (mp_swap _ _)
  have hE0 := hEx (adW q6 u sA b (fun _ => 0)) (fun i j => rfl)
  obtain ⟨w1', w2, w3, w4, w5⟩ := ci_L_12.1
  refine va_callv (va_runI (As := []) (rest := [.ref q]) ⟨hx, hb, hml, hown, htB⟩ (z_X7 l D (d := 10) (by decide) q q6 u sA b H.size) (cwI 0 htB (ms_in w3) rfl rfl rfl (htB _ w2) (htB _ w1') (htB _ ci_L_12.2) rfl w4 ⟨by decide, by decide⟩) ⟨x7_blind D _ _ _ _ _, fun U hU hWm => ⟨rfl, by rw [hU], by rw [hU]; exact hPc, KA.moved hWm.alike hKA, hDc.weaken (fun _ _ _ _ => trivial), by rw [hU]; exact Ex.narrow (Ex.warm hWm (hE0.kept hS.2.1)) (fun q9 h9 => hFc q9 h9)⟩⟩ rfl rfl hl.1 rfl (lv_room (Nat.le_of_ble_eq_true rfl)) dL_law_12 ⟨Nat.le_of_ble_eq_true rfl, Nat.le_of_ble_eq_true rfl⟩) hS (fun q9 _ h9 => hFc q9 h9) hFc (fun v t H1 locs1 ht hvm hw hB hz1 hk1 hS1 => ?_)
  obtain ⟨hP1, hD1⟩ := hB
  obtain ⟨hInv, hv0⟩ := hw
  rw [ht] at hP1
  have hI := D_ids (ids := idL) (ad := adW q6 u sA b v.1) hD1 (by rw [ww, List.map_map]; rfl)
  have hW : Wd (adW q6 u sA b v.1, D) (fun q : Nat => s.heap.size ≤ q) s s.heap := ⟨hKA.1, hI.1, fun i hi => hFc _ (hI.2 i hi), hEx _ (fun i j => rfl)⟩
  have hCx : Cx (p, l, e, room_1, s, m, #[Value.ref b], below, meth, c, 100, 3291, (fun q : Nat => s.heap.size ≤ q), lw_Z below #[Value.ref b] s) (adW q6 u sA b v.1, D) l RL code 4 11 := ⟨hx, hb, hml, hown, htB, ⟨by decide, by decide, by decide, by decide⟩, hW, rfl⟩
  have hSX : SX (p, l, e, room_1, s, m, #[Value.ref b], below, meth, c, 100, 3291, (fun q : Nat => s.heap.size ≤ q), lw_Z below #[Value.ref b] s) (adW q6 u sA b v.1, D) L xs := ⟨hX, hbl, Nat.not_le.mpr hbl⟩
  have hK1 : ∀ l9 h9, V (p, l, e, room_1, s, m, #[Value.ref b], below, meth, c, 100, 3291, (fun q : Nat => s.heap.size ≤ q), lw_Z below #[Value.ref b] s) (adW q6 u sA b v.1, D) 4 1688 l9 [vi 1] h9 := by
    intro l9 h9 ls9 H9 locs9 _ _ hS9
    refine va_forget (fun q9 h => hS9.2.2 q9 h) ?_
    refine W.widen (k := 600000) (n := 7302249) (Nat.le_of_ble_eq_true rfl) (Nat.le_of_ble_eq_true rfl) ?_
    exact lw_ret hx hb hr hlocks dL_law_1688
  have hV := law_main hCx hSX hL hK1 hInv ls H1 locs1 hl hP1 hS1
  have e9 : ([vr (3, 0, 0)] : List PV).map (tr (adW q6 u sA b v.1)) = [.ref q] := by
    rw [← hv0]; rfl
  rw [e9] at hV
  exact hV

