/-! CONSTRUCTORS: the words -/
set_option maxHeartbeats 4000000 in
set_option maxRecDepth 100000 in
theorem cw_X5_l : Cond.methodLink RX5 3 objectInit ∈ BIG ∧ Cond.arrayClass (newarray.typeOf .long) ∈ BIG := by
  refine ⟨?_, ?_⟩ <;> exact List.mem_filter.mpr ⟨by decide +kernel, by decide +kernel⟩
abbrev W5 (q r : Nat) (c : ClassId) : va_W := [(q, .inr (5, [.ref r, .int 0, .int 0])), (r, .inl (c, 25, .inr (.inl (fun _ => 0))))]
abbrev W5n (q : Nat) : va_W := [(q, .inr (5, [.null, .int 0, .int 0]))]
set_option maxHeartbeats 4000000 in
set_option maxRecDepth 100000 in
theorem c_X5_init (l : Launch) (dC : Nat → ClassId) (dI : Nat → Nat → Nat) (h0 : Nat) (sz : Nat) : Met l yX5_init (.code yX5_init cX5_init 1 none :: BIG) ({ frames := 1, cells := 1, slots := 25, locals := 12 }) (va_Pc [.ref h0] (fun U => U.heap.size = sz ∧ va_P (dC, dI) vwCl (W5n h0) U.heap ∧ va_K (dC, dI) vwCl [] U ∧ va_D (fun _ => True) (W5n h0))) (va_Qv (fun _ : Nat × ClassId => True) (fun u t => va_P (dC, dI) vwCl (W5 h0 u.1 u.2) t.heap ∧ va_K (dC, dI) vwCl [(u.2, .long)] t ∧ va_D (va_A (W5n h0) sz) (W5 h0 u.1 u.2)) (va_A (W5n h0) sz)) 1 25 (va_A (W5n h0) sz) := by
  refine Met.ofW (cc := cX5_init) (maxL := 1) (ret := none) (by decide) rfl ?_
  intro p e s m args below meth c s₁ B hml hv
  obtain ⟨rfl, hsz, hP, hK, hD0⟩ := hv
  have hx := B.exec
  have hb := B.bytes
  have hr := B.returns
  have hts := atoms_spec (ws := .code yX5_init cX5_init 1 none :: BIG) B.pre
  have hown : s.vm.findClass RX5 = some m.cls := findClass_of_methodNamed B.named
  have hin : meth.name = "<init>" := (name_of_methodNamed B.named B.method).1
  subst hsz
  have hD := hD0.self (sz := s.heap.size)
  generalize hAe : va_A (W5n h0) s.heap.size = A at hD ⊢
  have hA : ∀ q : Nat, s.heap.size ≤ q → A q := fun q h => by rw [← hAe]; exact Or.inr h
  have hS : va_S A s.heap s.heap [] := va_S.rf
  have hl := lv_entry ([.ref h0]) (n := 1) (Nat.le_of_ble_eq_true rfl)
  rw [lg_entry_eq]
  generalize (lg_sl ([.ref h0]) ++ List.replicate (1 - (lg_sl ([.ref h0])).length) Slot.unset).toArray = ls at hl ⊢
  have hl : lv_has ls 1 [(0, .ref h0)] := hl
  refine lv_aload_n hx hb dX5_init_0 rfl (lv_at hl 0 rfl) ?_
  refine W.objInit hx hb hown (hts _ (List.mem_cons_of_mem _ cw_X5_l.1)) (hts _ (List.mem_cons_of_mem _ cw_X4_l.2.1)) (hts _ (List.mem_cons_of_mem _ cw_X4_l.2.2)) rfl (by rw [hml]; exact hl.1) rfl dX5_init_1 (Nat.le_of_ble_eq_true rfl) (Nat.le_of_ble_eq_true rfl) ?_
  refine W.eq (g2 := F0 m 4 ls []) rfl ?_
  refine lv_aload_n hx hb dX5_init_4 rfl (lv_at hl 0 rfl) ?_
  refine lv_bipush hx hb (v := 25) dX5_init_5 (by decide +kernel) ?_
  refine va_newa (a0 := (25, .inr (.inl (fun _ => 0)))) (N' := 25) hx hb (hts _ (List.mem_cons_of_mem _ cw_X5_l.2)) (ty := .long) rfl hK hP hD hS hA (fun _ => rfl) (by decide) (by decide) (by decide) (Nat.le_of_ble_eq_true rfl) (Nat.le_of_ble_eq_true rfl) dX5_init_7 (fun q7 cA H hK hP hD hS => ?_)
  have hP : va_P (dC, dI) vwCl [(h0, .inr (5, [.null, .int 0, .int 0])), (q7, .inl (cA, 25, .inr (.inl (fun _ => 0))))] H := hP
  have hD : va_D A [(h0, .inr (5, [.null, .int 0, .int 0])), (q7, .inl (cA, 25, .inr (.inl (fun _ => 0))))] := hD
  refine va_putF (D := (dC, dI)) (ci := 5) (v := .ref q7) (ty := .array .long) (C := RX5) (T := TX5) (N := 3) hx hb hts (fun w hw => List.mem_cons_of_mem _ (cw_X5 w hw)) tyX5 tyX5_ok nmX5 hown hK hP hD hS 0 rfl rfl 0 (by decide) (hts _ (List.mem_cons_of_mem _ (mb 266 (by decide +kernel)))) (fun _ h9 => h9) rfl hin rfl (by decide +kernel) rfl rfl (Nat.le_of_ble_eq_true rfl) dX5_init_9 (fun H locs hP hD hS => ?_)
  exact W.vret hx hb hr (fun t ht hW => ⟨⟨(q7, cA), rfl, trivial, by rw [ht]; exact hP, va_K.moved hW.alike hK, hD⟩, hS.F ht⟩) hS.2.2 dX5_init_12
