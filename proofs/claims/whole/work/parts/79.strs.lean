/-! STRING CONSTANTS: length() and charAt() of the JDK over the world -/
theorem fz_9 : Cond.fieldLink RJ0 9 "java/lang/String" "value" "[B" ∈ BIG := mb 1361 (by decide +kernel)
theorem fz_15 : Cond.fieldLink RJ0 15 "java/lang/String" "coder" "B" ∈ BIG := mb 1362 (by decide +kernel)
theorem fz_38 : Cond.fieldLink RJ0 38 "java/lang/String" "COMPACT_STRINGS" "Z" ∈ BIG := mb 396 (by decide +kernel)
theorem fz_1053 : Cond.fieldLink RJ0 1053 "jdk/internal/util/Preconditions" "SIOOBE_FORMATTER" "Ljava/util/function/BiFunction;" ∈ BIG := mb 412 (by decide +kernel)
section VS
variable {X : CT} {G : WT} {l9 : Launch} {cc : ByteArray} {nL d pc : Nat} {l : List (Nat × PV)} {rest : List PV} {h : HP}
theorem v_strV (hC : Cx X G l9 RJ0 cc nL d) {i : Nat} (hi : i < 8) (hd : decode cc pc = .ok (.getfield 9, 3)) (kk : V X G nL (pc + 3) l (vr (4, i, 1) :: rest) h) : V X G nL pc l (vr (4, i, 0) :: rest) h := by
  obtain ⟨p, l0, e, RR, s, m, args, below, meth, c, cl, sl, A, Q⟩ := X
  intro ls H locs hl hP hS
  obtain ⟨hx, hb, hml, hown, hts, hR, hW, hl9⟩ := hC
  exact vk_getf hx hb (hW.2.2.2.2.2.1.1 i hi).2.2.1 hS hown (hts _ fz_9) (fun x h => h) hd (kk ls H locs hl hP hS)
theorem v_strC (hC : Cx X G l9 RJ0 cc nL d) {i : Nat} (hi : i < 8) (hd : decode cc pc = .ok (.getfield 15, 3)) (kk : V X G nL (pc + 3) l (vi 0 :: rest) h) : V X G nL pc l (vr (4, i, 0) :: rest) h := by
  obtain ⟨p, l0, e, RR, s, m, args, below, meth, c, cl, sl, A, Q⟩ := X
  intro ls H locs hl hP hS
  obtain ⟨hx, hb, hml, hown, hts, hR, hW, hl9⟩ := hC
  exact vk_getf hx hb (hW.2.2.2.2.2.1.1 i hi).2.1 hS hown (hts _ fz_15) (fun x h => h) hd (kk ls H locs hl hP hS)
theorem v_strZ (hC : Cx X G l9 RJ0 cc nL d) (hd : decode cc pc = .ok (.getstatic 38, 3)) (kk : V X G nL (pc + 3) l (vi 1 :: rest) h) : V X G nL pc l rest h := by
  obtain ⟨p, l0, e, RR, s, m, args, below, meth, c, cl, sl, A, Q⟩ := X
  intro ls H locs hl hP hS
  obtain ⟨hx, hb, hml, hown, hts, hR, hW, hl9⟩ := hC
  exact va_gets hx hb hW.2.2.2.2.2.2.1 hS hown (hts _ fz_38) (fun x h => h) hd (kk ls H locs hl hP hS)
theorem v_strL {own : String} (hC : Cx X G l9 own cc nL d) {i : Nat} (hi : i < 8) (hd : decode cc pc = .ok (.arraylength, 1)) (kk : V X G nL (pc + 1) l (vi (nI (strL.getD i 0)) :: rest) h) : V X G nL pc l (vr (4, i, 1) :: rest) h := by
  obtain ⟨p, l0, e, RR, s, m, args, below, meth, c, cl, sl, A, Q⟩ := X
  intro ls H locs hl hP hS
  obtain ⟨hx, hb, hml, hown, hts, hR, hW, hl9⟩ := hC
  exact va_tlen hx hb (hW.2.2.2.2.2.1.1 i hi).2.2.2 hS rfl hd (kk ls H locs hl hP hS)
theorem v_strB {own : String} (hC : Cx X G l9 own cc nL d) {i k : Nat} (hi : i < 8) (hk : k < strL.getD i 0) (hk2 : k < 2 ^ 31) (hd : decode cc pc = .ok (.baload, 1)) (kk : V X G nL (pc + 1) l (vi ((strB.getD i []).getD k 0) :: rest) h) : V X G nL pc l (vi (nI k) :: vr (4, i, 1) :: rest) h := by
  obtain ⟨p, l0, e, RR, s, m, args, below, meth, c, cl, sl, A, Q⟩ := X
  intro ls H locs hl hP hS
  obtain ⟨hx, hb, hml, hown, hts, hR, hW, hl9⟩ := hC
  exact va_tb hx hb (hW.2.2.2.2.2.1.1 i hi).2.2.2 hS (by rw [vp_in_iff, nI_toInt hk2]; omega) (by rw [nI_clamp hk2]; rfl) hd (kk ls H locs hl hP hS)
end VS
theorem ms_blindR (G : WT) (as : List Value) (h : HP) : FrameBlind (va_Pc as (fun U => va_P G.2.1 vwCl (ww G h) U.heap ∧ Wd G (wA G.1) U U.heap)) := by
  intro a U g mk hq
  obtain ⟨e, hP, h1, h2, h3, h4⟩ := hq
  exact ⟨e, hP, va_K.moved (u := U) (U := U.calling g mk a) (Vm.Alike.refl U.vm) h1, h2, h3, Ex.moved (u := U) (U := U.calling g mk a) rfl h4⟩
set_option maxRecDepth 20000 in
theorem j3_chk (l9 : Launch) (G : WT) {d : Nat} (hd : 1 ≤ d) (h : HP) {k n : Nat} (hk : k < n) (hn : n < 2 ^ 31) (o : Option Nat) : Met l9 yJ3_checkIndex_8e157 (.code yJ3_checkIndex_8e157 cJ3_checkIndex_8e157 3 (some .int) :: BIG) { frames := d, cells := 0, slots := 0, locals := 40 * d } (va_Pc [.int (nI k), .int (nI n), va_rf o] (fun U => va_P G.2.1 vwCl (ww G h) U.heap ∧ Wd G (wA G.1) U U.heap)) (qc G (fun r h1 => h1 = h ∧ r = some (vi (nI k)))) 0 0 (wA G.1) := by
  refine Met.ofW (cc := cJ3_checkIndex_8e157) (maxL := 3) (ret := some .int) (by decide +kernel) rfl ?_
  intro p e s m args below meth c s₁ B hml hv
  obtain ⟨rfl, hP, hW⟩ := hv
  have hts := atoms_spec (ws := .code yJ3_checkIndex_8e157 cJ3_checkIndex_8e157 3 (some .int) :: BIG) B.pre
  have hown : s.vm.findClass yJ3_checkIndex_8e157.cls = some m.cls := findClass_of_methodNamed B.named
  have hlen : (lg_sl [Value.int (nI k), .int (nI n), va_rf o]).length ≤ 3 := by rcases o with _ | t <;> exact Nat.le_refl 3
  have hl0 := lv_entry [Value.int (nI k), .int (nI n), va_rf o] (n := 3) hlen
  rw [lg_entry_eq]
  have hl := lv_sub hl0 [0, 1] (l' := ([(0, vi (nI k)), (1, vi (nI n))] : List (Nat × PV)).map (fun q => (q.1, tr G.1 q.2))) rfl
  have body : ∀ X : CT, Cx X G l9 yJ3_checkIndex_8e157.cls cJ3_checkIndex_8e157 3 d → Rx X G (some .int) (fun r h1 => h1 = h ∧ r = some (vi (nI k))) → V X G 3 0 [(0, vi (nI k)), (1, vi (nI n))] [] h := by
    intro X hC hX
    refine v_iload_n hC (pc := 0) (k := 0) 0 rfl dJ3_checkIndex_8e157_0 ?_
    refine v_if_lt hC (pc := 1) (tgt := 9) dJ3_checkIndex_8e157_1 (by decide) (fun c_1 => absurd c_1 (nI_pos (by omega))) (fun _ => ?_)
    refine v_iload_n hC (pc := 4) (k := 0) 0 rfl dJ3_checkIndex_8e157_4 ?_
    refine v_iload_n hC (pc := 5) (k := 1) 1 rfl dJ3_checkIndex_8e157_5 ?_
    refine v_icmp_lt hC (pc := 6) (tgt := 16) dJ3_checkIndex_8e157_6 (by decide) (fun _ => ?_) (fun c_6 => absurd (nI_lt hk hn) c_6)
    refine v_iload_n hC (pc := 16) (k := 0) 0 rfl dJ3_checkIndex_8e157_16 ?_
    exact v_iret hC hX (pc := 17) dJ3_checkIndex_8e157_17 ⟨rfl, rfl⟩
  exact body (p, l9, e, _, s, m, _, below, meth, c, 0, 0, wA G.1, MQ below (qc G _) _ s 0 0 (wA G.1)) ⟨B.exec, B.bytes, hml, hown, fun w hw => hts w (List.mem_cons_of_mem _ hw), ⟨Nat.le_refl _, Nat.le_refl _, Nat.le_refl _, Nat.le_refl _⟩, hW, rfl⟩ ⟨B.returns, B.notSynchronized, rfl, rfl, rfl, rfl⟩ _ s.heap [] hl hP va_S.rf
theorem v_chk {X : CT} {G : WT} {l9 : Launch} {cc : ByteArray} {nL d pc : Nat} {l : List (Nat × PV)} {rest : List PV} {h : HP} (hC : Cx X G l9 RJ0 cc nL d) {k n : Nat} (hk : k < n) (hn : n < 2 ^ 31) (hd : decode cc pc = .ok (.getstatic 1053, 3)) (hd2 : decode cc (pc + 3) = .ok (.invokestatic 1059, 3)) (hroom : catS rest ≤ 8) (hdd : 2 ≤ d) (kk : V X G nL (pc + 3 + 3) l (vi (nI k) :: rest) h) : V X G nL pc l (vi (nI n) :: vi (nI k) :: rest) h := by
  obtain ⟨p, l0, e, RR, s, m, args, below, meth, c, cl, sl, A, Q⟩ := X
  intro ls H locs hl hP hS
  obtain ⟨hx, hb, hml, hown, hts, hR, hW, hl9⟩ := hC
  subst hl9
  have hZ : ∃ o : Option Nat, va_Z "jdk/internal/util/Preconditions" "SIOOBE_FORMATTER" "Ljava/util/function/BiFunction;" (va_rf o) A s s.heap := by
    rcases hW.2.2.2.2.2.2.2 with z | ⟨t, z⟩
    · exact ⟨none, z⟩
    · exact ⟨some t, z⟩
  obtain ⟨o, hZ⟩ := hZ
  refine va_gets hx hb hZ hS hown (hts _ fz_1053) (fun x h => h) hd ?_
  have hM := j3_chk l0 G (d := d - 1) (by omega) h hk hn o
  refine v_back (pc := pc + 3) (R := fun r h1 => h1 = h ∧ r = some (vi (nI k))) (rest := rest.map (tr G.1)) (va_runS (As := [.int (nI k), .int (nI n), va_rf o]) (rest := rest.map (tr G.1)) ⟨hx, hb, hml, hown, hts⟩ hM ⟨cb_of hts cs_J0_1059.1 ⟨hR.1, hR.2.1⟩ (by omega), hts _ cs_J0_1059.2⟩ ⟨ms_blindR G _ h, fun U hU hWm => ⟨rfl, by rw [hU]; exact hP, Wd.call hW hS hU hWm⟩⟩ rfl rfl hl.1 rfl (lv_room (by rw [catS_tr]; exact hroom)) hd2 ⟨by have := hR.2.2.1; omega, by have := hR.2.2.2; omega⟩) hS (fun q ⟨j, hj, e⟩ => by rw [e]; exact hW.2.2.1 j hj) (fun r h' H1 locs1 hr hP1 hS1 => ?_)
  obtain ⟨rfl, rfl⟩ := hr
  exact kk ls H1 locs1 hl hP1 hS1
def chC (i k : Nat) : Int32 := (strB.getD i []).getD k 0
theorem ch_ok : ∀ i, i < 8 → ∀ k, k < 6 → (((chC i k) &&& 255).toUInt32 % 65536).toInt32 = chC i k ∧ narrow .char (.int (chC i k)) = .int (chC i k) := by decide +kernel
theorem sl_6 : ∀ i, i < 8 → strL.getD i 0 ≤ 6 := by decide
set_option maxRecDepth 20000 in
theorem t_coder (l9 : Launch) (G : WT) {d : Nat} (hd : 1 ≤ d) (h : HP) {i : Nat} (hi : i < 8) : MS l9 G yJ0_coder_7d493 cJ0_coder_7d493 1 (some .byte) d [vr (4, i, 0)] h (fun r h1 => h1 = h ∧ r = some (vi 0)) := by
  refine MS_of (by decide +kernel) (Nat.le_of_ble_eq_true rfl) (fun X hC hX => ?_)
  show V X G 1 0 _ [] _
  refine v_strZ hC (pc := 0) dJ0_coder_7d493_0 ?_
  refine v_if_eq hC (pc := 3) (tgt := 13) dJ0_coder_7d493_3 (by decide) (fun c_3 => absurd c_3 (by decide)) (fun _ => ?_)
  refine v_aload_n hC (pc := 6) (k := 0) 0 rfl dJ0_coder_7d493_6 ?_
  refine v_strC hC hi (pc := 7) dJ0_coder_7d493_7 ?_
  refine v_goto hC (pc := 10) (tgt := 14) dJ0_coder_7d493_10 (by decide) ?_
  exact v_zret hC hX (pc := 14) dJ0_coder_7d493_14 rfl ⟨rfl, rfl⟩
set_option maxRecDepth 20000 in
theorem t_isLatin1 (l9 : Launch) (G : WT) {d : Nat} (hd : 1 ≤ d) (h : HP) {i : Nat} (hi : i < 8) : MS l9 G yJ0_isLatin1_aae02 cJ0_isLatin1_aae02 1 (some .boolean) d [vr (4, i, 0)] h (fun r h1 => h1 = h ∧ r = some (vi 1)) := by
  refine MS_of (by decide +kernel) (Nat.le_of_ble_eq_true rfl) (fun X hC hX => ?_)
  show V X G 1 0 _ [] _
  refine v_strZ hC (pc := 0) dJ0_isLatin1_aae02_0 ?_
  refine v_if_eq hC (pc := 3) (tgt := 17) dJ0_isLatin1_aae02_3 (by decide) (fun c_3 => absurd c_3 (by decide)) (fun _ => ?_)
  refine v_aload_n hC (pc := 6) (k := 0) 0 rfl dJ0_isLatin1_aae02_6 ?_
  refine v_strC hC hi (pc := 7) dJ0_isLatin1_aae02_7 ?_
  refine v_if_ne hC (pc := 10) (tgt := 17) dJ0_isLatin1_aae02_10 (by decide) (fun c_3 => absurd rfl c_3) (fun _ => ?_)
  refine v_iconst hC (pc := 13) (v := 1) (by decide) dJ0_isLatin1_aae02_13 ?_
  refine v_goto hC (pc := 14) (tgt := 18) dJ0_isLatin1_aae02_14 (by decide) ?_
  exact v_zret hC hX (pc := 18) dJ0_isLatin1_aae02_18 rfl ⟨rfl, rfl⟩
theorem shr0 : ∀ n, n ≤ 6 → nI n >>> ((0 : Int32) &&& 31) = nI n := by decide +kernel
set_option maxRecDepth 20000 in
theorem t_slen (l9 : Launch) (G : WT) {d : Nat} (hd : 2 ≤ d) (h : HP) {i : Nat} (hi : i < 8) : MS l9 G yJ0_length_8abf5 cJ0_length_8abf5 1 (some .int) d [vr (4, i, 0)] h (fun r h1 => h1 = h ∧ r = some (vi (nI (strL.getD i 0)))) := by
  refine MS_of (by decide +kernel) (Nat.le_of_ble_eq_true rfl) (fun X hC hX => ?_)
  show V X G 1 0 _ [] _
  refine v_aload_n hC (pc := 0) (k := 0) 0 rfl dJ0_length_8abf5_0 ?_
  refine v_strV hC hi (pc := 1) dJ0_length_8abf5_1 ?_
  refine v_strL hC hi (pc := 4) dJ0_length_8abf5_4 ?_
  refine v_aload_n hC (pc := 5) (k := 0) 0 rfl dJ0_length_8abf5_5 ?_
  refine v_callT hC (pc := 6) (As := []) hi dJ0_length_8abf5_6 rfl (t_coder _ _ (d := d - 1) (by omega) _ hi) cv_J0_335 rfl (Nat.le_of_ble_eq_true rfl) (by omega) (fun r h' hr => ?_)
  obtain ⟨he9, rfl⟩ := hr
  rw [he9]
  clear he9 h'
  show V _ _ _ (6 + 3) _ (_ :: _) _
  refine v_ishr hC (pc := 9) dJ0_length_8abf5_9 ?_
  rw [shr0 _ (sl_6 i hi)]
  exact v_iret hC hX (pc := 10) dJ0_length_8abf5_10 ⟨rfl, rfl⟩
set_option maxRecDepth 20000 in
theorem t_chkIdx (l9 : Launch) (G : WT) {d : Nat} (hd : 2 ≤ d) (h : HP) {k n : Nat} (hk : k < n) (hn : n < 2 ^ 31) : MS l9 G yJ0_checkIndex_df160 cJ0_checkIndex_df160 2 none d [vi (nI k), vi (nI n)] h (fun r h1 => h1 = h ∧ r = none) := by
  refine MS_of (by decide +kernel) (Nat.le_of_ble_eq_true rfl) (fun X hC hX => ?_)
  show V X G 2 0 _ [] _
  refine v_iload_n hC (pc := 0) (k := 0) 0 rfl dJ0_checkIndex_df160_0 ?_
  refine v_iload_n hC (pc := 1) (k := 1) 1 rfl dJ0_checkIndex_df160_1 ?_
  refine v_chk hC (pc := 2) hk hn dJ0_checkIndex_df160_2 dJ0_checkIndex_df160_5 (Nat.le_of_ble_eq_true rfl) hd ?_
  refine v_pop hC (pc := 8) rfl dJ0_checkIndex_df160_8 ?_
  exact v_vret hC hX (pc := 9) dJ0_checkIndex_df160_9 ⟨rfl, rfl⟩
set_option maxRecDepth 20000 in
theorem t_char1 (l9 : Launch) (G : WT) {d : Nat} (hd : 3 ≤ d) (h : HP) {i k : Nat} (hi : i < 8) (hk : k < strL.getD i 0) : MS l9 G yJ1_charAt_3b067 cJ1_charAt_3b067 2 (some .char) d [vr (4, i, 1), vi (nI k)] h (fun r h1 => h1 = h ∧ r = some (vi (chC i k))) := by
  refine MS_of (by decide +kernel) (Nat.le_of_ble_eq_true rfl) (fun X hC hX => ?_)
  have h6 := sl_6 i hi
  show V X G 2 0 _ [] _
  refine v_iload_n hC (pc := 0) (k := 1) 1 rfl dJ1_charAt_3b067_0 ?_
  refine v_aload_n hC (pc := 1) (k := 0) 0 rfl dJ1_charAt_3b067_1 ?_
  refine v_strL hC hi (pc := 2) dJ1_charAt_3b067_2 ?_
  refine v_callS hC (pc := 3) (As := [_, _]) dJ1_charAt_3b067_3 rfl (t_chkIdx _ _ (d := d - 1) (by omega) _ hk (by omega)) cs_J1_9 (Nat.le_of_ble_eq_true rfl) (by omega) (fun r h' hr => ?_)
  obtain ⟨he9, rfl⟩ := hr
  rw [he9]
  clear he9 h'
  show V _ _ _ (3 + 3) _ _ _
  refine v_aload_n hC (pc := 6) (k := 0) 0 rfl dJ1_charAt_3b067_6 ?_
  refine v_iload_n hC (pc := 7) (k := 1) 1 rfl dJ1_charAt_3b067_7 ?_
  refine v_strB hC hi hk (by omega) (pc := 8) dJ1_charAt_3b067_8 ?_
  refine v_sipush hC (pc := 9) (v := 255) (by decide +kernel) dJ1_charAt_3b067_9 ?_
  refine v_iand hC (pc := 12) dJ1_charAt_3b067_12 ?_
  refine v_i2c hC (pc := 13) dJ1_charAt_3b067_13 ?_
  have e9 := ch_ok i hi k (by omega)
  rw [show ((strB.getD i []).getD k 0 &&& 255).toUInt32 % 65536 = ((chC i k) &&& 255).toUInt32 % 65536 from rfl, e9.1]
  exact v_zret hC hX (pc := 14) dJ1_charAt_3b067_14 e9.2 ⟨rfl, rfl⟩
set_option maxRecDepth 20000 in
theorem t_charAt (l9 : Launch) (G : WT) {d : Nat} (hd : 4 ≤ d) (h : HP) {i k : Nat} (hi : i < 8) (hk : k < strL.getD i 0) : MS l9 G yJ0_charAt_5068e cJ0_charAt_5068e 2 (some .char) d [vr (4, i, 0), vi (nI k)] h (fun r h1 => h1 = h ∧ r = some (vi (chC i k))) := by
  refine MS_of (by decide +kernel) (Nat.le_of_ble_eq_true rfl) (fun X hC hX => ?_)
  have h6 := sl_6 i hi
  show V X G 2 0 _ [] _
  refine v_aload_n hC (pc := 0) (k := 0) 0 rfl dJ0_charAt_5068e_0 ?_
  refine v_callT hC (pc := 1) (As := []) hi dJ0_charAt_5068e_1 rfl (t_isLatin1 _ _ (d := d - 1) (by omega) _ hi) cv_J0_492 rfl (Nat.le_of_ble_eq_true rfl) (by omega) (fun r h' hr => ?_)
  obtain ⟨he9, rfl⟩ := hr
  rw [he9]
  clear he9 h'
  show V _ _ _ (1 + 3) _ (_ :: _) _
  refine v_if_eq hC (pc := 4) (tgt := 16) dJ0_charAt_5068e_4 (by decide) (fun c_3 => absurd c_3 (by decide)) (fun _ => ?_)
  refine v_aload_n hC (pc := 7) (k := 0) 0 rfl dJ0_charAt_5068e_7 ?_
  refine v_strV hC hi (pc := 8) dJ0_charAt_5068e_8 ?_
  refine v_iload_n hC (pc := 11) (k := 1) 1 rfl dJ0_charAt_5068e_11 ?_
  refine v_callS hC (pc := 12) (As := [_, _]) dJ0_charAt_5068e_12 rfl (t_char1 _ _ (d := d - 1) (by omega) _ hi hk) cs_J0_495 (Nat.le_of_ble_eq_true rfl) (by omega) (fun r h' hr => ?_)
  obtain ⟨he9, rfl⟩ := hr
  rw [he9]
  clear he9 h'
  show V _ _ _ (12 + 3) _ (_ :: _) _
  have e9 := ch_ok i hi k (by omega)
  exact v_zret hC hX (pc := 15) dJ0_charAt_5068e_15 e9.2 ⟨rfl, rfl⟩
