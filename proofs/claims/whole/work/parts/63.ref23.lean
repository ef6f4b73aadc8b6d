/-! THE REFERENCE: drift -/
theorem b_32767 : ∀ i, i < 32 → bt 32767 i = decide (i < 15) := by decide +kernel
theorem sd_sh (v : Int32) : (v >>> ((16 : Int32) &&& 31)) &&& 32767 = (v.toUInt32 >>> ((16 : Int32).toUInt32 &&& Int32.toUInt32 31)).toInt32 &&& 32767 := by
  refine b_ext (fun i hi => ?_)
  rw [b_and, b_and, b_32767 i hi]
  by_cases e : i < 15
  · rw [show bt (v >>> ((16 : Int32) &&& 31)) i = bt v (16 + i) from (b_sshr 16 (by decide) v hi).trans (if_pos (by omega)), show bt ((v.toUInt32 >>> ((16 : Int32).toUInt32 &&& Int32.toUInt32 31)).toInt32) i = bt v (16 + i) from b_ushr 16 (by decide) v i]
  · rw [show decide (i < 15) = false from decide_eq_false e, Bool.and_false, Bool.and_false]
theorem and_nat (x : Int32) : ∃ m, m < 2 ^ 15 ∧ x &&& 32767 = nI m := by
  obtain ⟨k, hk, e⟩ := wb_of32 x
  refine ⟨k % 2 ^ 15, Nat.mod_lt _ (by decide), ?_⟩
  rw [e]
  refine Int32.toBitVec_inj.mp ?_
  show BitVec.ofNat 32 k &&& 32767#32 = BitVec.ofNat 32 (k % 2 ^ 15)
  apply BitVec.eq_of_toNat_eq
  rw [BitVec.toNat_and, BitVec.toNat_ofNat, BitVec.toNat_ofNat, Nat.mod_eq_of_lt hk]
  show k &&& 32767 = _
  rw [show (32767 : Nat) = 2 ^ 15 - 1 from rfl, Nat.and_two_pow_sub_one_eq_mod, BitVec.toNat_ofNat, Nat.mod_eq_of_lt (a := k % 2 ^ 15) (Nat.lt_of_lt_of_le (Nat.mod_lt _ (by decide)) (by decide))]
theorem sdG_nat (v : Int32) : ∃ s, s < 3 ∧ sdG v = nI s := by
  obtain ⟨m, hm, e⟩ := and_nat (v.toUInt32 >>> ((16 : Int32).toUInt32 &&& Int32.toUInt32 31)).toInt32
  unfold sdG
  rw [e, nL_3, pk_rem (by omega) (by decide) (by decide)]
  exact ⟨m % 3, Nat.mod_lt _ (by decide), rfl⟩
def dgo (s : Int32) : Int32 := if s = 2 then 0 else 1
def dto (A : Nat → Int32) (w : Nat) (s : Int32) : Int32 := if s = 2 then A (18 + 6 * w + 0) else goM A (A (18 + 6 * w + 0)).toNatClampNeg s.toNatClampNeg (A 17) (kpA A w)
def dtoF (A : Nat → Int32) (v : Int32) (w : Nat) : Int32 := dto A w (sdG (sdN (w + 1) v))
def dgoF (v : Int32) (w : Nat) : Int32 := dgo (sdG (sdN (w + 1) v))
def drM (h : HP) (n : Nat) (v : Int32) : HP := (fun i k => if i = (3, 0, 21) ∧ k < n then dgoF v k else if i = (3, 0, 20) ∧ k < n then dtoF (h.1 (3, 0, 2)) v k else h.1 i k, h.2)
theorem drM_0 (h : HP) (v : Int32) : drM h 0 v = h := by
  unfold drM
  simp
theorem drM_s (h : HP) (n : Nat) (v : Int32) : upI (upI (drM h n v) (3, 0, 21) n (dgoF v n)) (3, 0, 20) n (dtoF (h.1 (3, 0, 2)) v n) = drM h (n + 1) v := by
  unfold drM upI
  refine Prod.ext (funext fun i => funext fun k => ?_) rfl
  by_cases e1 : i = (3, 0, 21)
  · subst e1
    by_cases e3 : k = n
    · subst e3; simp
    · by_cases e4 : k < n
      · simp [e3, e4, show k < n + 1 by omega]
      · simp [e3, e4, show ¬ k < n + 1 by omega]
  · by_cases e2 : i = (3, 0, 20)
    · subst e2
      by_cases e3 : k = n
      · subst e3; simp
      · by_cases e4 : k < n
        · simp [e3, e4, show k < n + 1 by omega]
        · simp [e3, e4, show ¬ k < n + 1 by omega]
    · simp [e1, e2]
theorem drM_o (h : HP) (n : Nat) (v : Int32) {i : PId} (h1 : i ≠ (3, 0, 21)) (h2 : i ≠ (3, 0, 20)) : (drM h n v).1 i = h.1 i := by
  funext k
  simp [drM, h1, h2]
theorem scr_dr {h u : HP} (e : scr h u) (n : Nat) (v : Int32) : scr h (drM u n v) := by
  refine ⟨fun i h1 => ?_, e.2⟩
  rw [drM_o _ _ _ (sc_ne h1 (by decide)) (sc_ne h1 (by decide))]
  exact e.1 i h1
/-- an hour by a seed: the row, how many clash, the seed -/
noncomputable def dS (nW : Nat) (u : (Nat → Int32) × Int32 × Int32) : (Nat → Int32) × Int32 × Int32 := (arrR u.1 (dtoF u.1 u.2.2) nW, u.2.1 + ckF (fun w => u.1 (18 + 6 * w + 0)) (dtoF u.1 u.2.2) (dgoF u.2.2) nW, sdN nW u.2.2)
noncomputable def dI (nW n : Nat) (u : (Nat → Int32) × Int32 × Int32) : (Nat → Int32) × Int32 × Int32 := itN (fun _ => dS nW) n u
theorem dI_s (nW n : Nat) (u : (Nat → Int32) × Int32 × Int32) : dI nW (n + 1) u = dS nW (dI nW n u) := rfl
theorem arr_lo (A D : Nat → Int32) {nW k : Nat} (hk : k < 17) : arrR A D nW k = A k := by
  unfold arrR
  rw [show upd (plR A D nW) 17 (A 17 + 1) k = plR A D nW k from if_neg (by omega)]
  exact if_neg (by omega)
theorem arr_pl (A D : Nat → Int32) {nW w : Nat} (hw : w < nW) : arrR A D nW (18 + 6 * w + 0) = D w := by
  unfold arrR
  rw [show upd (plR A D nW) 17 (A 17 + 1) (18 + 6 * w + 0) = plR A D nW (18 + 6 * w + 0) from if_neg (by omega)]
  unfold plR
  rw [if_pos (by omega), show (18 + 6 * w + 0 - 18) / 6 = w by omega]
theorem dto_wf {A : Nat → Int32} {nC nW w : Nat} (h8 : nC ≤ 8) (hS : wfS A nC) (hW : wfW A nC nW) (hw : w < nW) (v : Int32) : ∃ p, p < nC ∧ dto A w (sdG v) = nI p := by
  unfold dto
  obtain ⟨s, hs, e⟩ := sdG_nat v
  split
  · exact hW w hw
  · rename_i hne
    obtain ⟨p, hp, e2⟩ := hW w hw
    have : ¬ s = 2 := fun z => hne (by rw [e, z]; rfl)
    rw [e2, e, nI_clamp (by omega), nI_clamp (by omega)]
    exact goM_wf h8 hS hp (by omega) _ _
theorem dI_wf {A : Nat → Int32} {nC nW : Nat} (h8 : nC ≤ 8) (hS : wfS A nC) (hW : wfW A nC nW) (m v : Int32) : ∀ n, wfS (dI nW n (A, m, v)).1 nC ∧ wfW (dI nW n (A, m, v)).1 nC nW
  | 0 => ⟨hS, hW⟩
  | n + 1 => by
    have ⟨h1, h2⟩ := dI_wf h8 hS hW m v n
    rw [dI_s]
    refine ⟨fun c s hc hs => ?_, fun w hw => ?_⟩
    · show arrR _ _ nW (8 * s + c) = _ ∨ ∃ p, p < nC ∧ arrR _ _ nW (8 * s + c) = _
      rw [arr_lo _ _ (by omega)]
      exact h1 c s hc hs
    · show ∃ p, p < nC ∧ arrR _ _ nW (18 + 6 * w + 0) = _
      rw [arr_pl _ _ hw]
      exact dto_wf h8 h1 h2 hw _
noncomputable def plB (A : Nat → Int32) (n : Nat) : Int32 := itN (fun w a => a ||| (1 <<< (A (18 + 6 * w + 0) &&& 31))) n 0
theorem drM_t (h : HP) {n k : Nat} (v : Int32) (hk : k < n) : (drM h n v).1 (3, 0, 20) k = dtoF (h.1 (3, 0, 2)) v k := by
  simp [drM, hk]
theorem drM_g (h : HP) {n k : Nat} (v : Int32) (hk : k < n) : (drM h n v).1 (3, 0, 21) k = dgoF v k := by
  simp [drM, hk]
theorem arr_cong {A D D' : Nat → Int32} {n : Nat} (h : ∀ k, k < n → D k = D' k) : arrR A D n = arrR A D' n := by
  unfold arrR
  rw [plR_cong h]
set_option maxRecDepth 20000 in
set_option maxHeartbeats 2000000 in
theorem m_drift_ok (l9 : Launch) (G : WT) {d : Nat} (hd : 6 ≤ d) (h : HP) {nC nW : Nat} (hn8 : nC ≤ 8) (hn4 : nW ≤ 4) (hnw : h.1 (3, 0, 0) 4 = nI nW) (hS : wfS (h.1 (3, 0, 1)) nC) (hW : wfW (h.1 (3, 0, 1)) nC nW) {seed : Int32} {n1 x : Nat} (hn0 : 1 ≤ n1) (hn : n1 ≤ 60) (hx : x < 2) : MS l9 G yX7_drift cX7_drift 10 (some .int) d [vr (3, 0, 0), vi seed, vi (nI n1), vi (nI x)] h (fun r h1 => scr h h1 ∧ r = some (vi (if x = 0 then (dI nW n1 (((stH h).1 (3, 0, 2)), 0, seed)).2.1 else plB (dI nW n1 (((stH h).1 (3, 0, 2)), 0, seed)).1 nW))) := by
  refine MS_of (by decide +kernel) (Nat.le_of_ble_eq_true rfl) (fun X hC hX => ?_)
  show V X G 10 0 _ [] _
  have hwf := dI_wf hn8 (stH_wf hn8 hn4 hS hW).1 (stH_wf hn8 hn4 hS hW).2 0 seed
  have loop : ∀ (n k : Nat) (u : HP), k ≤ n1 → n1 + 1 ≤ k + n → (scr h u ∧ u.1 (3, 0, 2) = (dI nW k (((stH h).1 (3, 0, 2)), 0, seed)).1) → V X G 10 37 [(7, vi (nI k)), (6, vi (dI nW k (((stH h).1 (3, 0, 2)), 0, seed)).2.2), (5, vi 0), (4, vi (dI nW k (((stH h).1 (3, 0, 2)), 0, seed)).2.1), (0, vr (3, 0, 0)), (1, vi seed), (2, vi (nI n1)), (3, vi (nI x))] [] u := by
    intro n
    induction n with
    | zero => intro k u h1 h2; exact absurd h2 (by omega)
    | succ n ih =>
      intro k u h1 h2 ha
      refine v_iload hC (pc := 37) 0 rfl dX7_drift_37 ?_
      refine v_iload_n hC (pc := 39) (k := 2) 6 rfl dX7_drift_39 ?_
      refine v_icmp_ge hC (pc := 40) (tgt := 182) dX7_drift_40 (by decide) (fun c_40 => ?_) (fun c_40 => ?_)
      · skip
        have hk : k = n1 := lp_ex c_40 h1 (by omega)
        subst hk
        refine v_iconst hC (pc := 182) (v := 0) (by decide) dX7_drift_182 ?_
        refine v_istore hC (pc := 183) (l' := [(7, _), (6, _), (5, _), (4, _), (0, _), (1, _), (2, _), (3, _)]) dX7_drift_183 (by decide) rfl ?_
        refine v_loc (l' := [(7, _), (5, _), (6, _), (4, _), (0, _), (1, _), (2, _), (3, _)]) [0, 2, 1, 3, 4, 5, 6, 7] rfl ?_
        have pl : ∀ (n w : Nat), w ≤ nW → nW + 1 ≤ w + n → V X G 10 185 [(7, vi (nI w)), (5, vi (plB (dI nW k (((stH h).1 (3, 0, 2)), 0, seed)).1 w)), (6, vi (dI nW k (((stH h).1 (3, 0, 2)), 0, seed)).2.2), (4, vi (dI nW k (((stH h).1 (3, 0, 2)), 0, seed)).2.1), (0, vr (3, 0, 0)), (1, vi seed), (2, vi (nI k)), (3, vi (nI x))] [] u := by
          intro n
          induction n with
          | zero => intro w h1 h2; exact absurd h2 (by omega)
          | succ n ih =>
            intro w h1 h2
            refine v_iload hC (pc := 185) 0 rfl dX7_drift_185 ?_
            refine v_aload_n hC (pc := 187) (k := 0) 4 rfl dX7_drift_187 ?_
            refine v_getI hC (pc := 188) dX7_drift_188 fl_X7_79 rfl (by first | rfl | exact ok_c hq rfl | exact ok_w hq hw | exact ok_w (by omega) (by omega) | exact ok_s (by omega) (by omega) | exact ok_c (by omega) rfl | assumption) rfl (by decide) (by decide) ?_
            refine v_icmp_ge hC (pc := 191) (tgt := 214) dX7_drift_191 (by decide) (fun c_191 => ?_) (fun c_191 => ?_)
            · skip
              have hw : w = nW := lp_ex (by rw [scr_0 ha.1, hnw] at c_191; exact c_191) h1 (by omega)
              subst hw
              refine v_iload_n hC (pc := 214) (k := 3) 7 rfl dX7_drift_214 ?_
              refine v_if_ne hC (pc := 215) (tgt := 223) dX7_drift_215 (by decide) (fun c_215 => ?_) (fun c_215 => ?_)
              · skip
                refine v_iload hC (pc := 223) 1 rfl dX7_drift_223 ?_
                refine v_iret hC hX (pc := 225) dX7_drift_225 ?_
                refine ⟨ha.1, ?_⟩
                first | (rw [if_pos (nI_z c_215 (by omega))]; done) | (rw [if_neg (fun z => c_215 (by rw [z]; rfl))]; done) | (rw [if_neg (fun z => c_215 (by rw [z]; rfl))]; rfl)
              · skip
                refine v_iload hC (pc := 218) 3 rfl dX7_drift_218 ?_
                refine v_goto hC (pc := 220) (tgt := 225) dX7_drift_220 (by decide) ?_
                refine v_iret hC hX (pc := 225) dX7_drift_225 ?_
                refine ⟨ha.1, ?_⟩
                first | (rw [if_pos (nI_z c_215 (by omega))]; done) | (rw [if_neg (fun z => c_215 (by rw [z]; rfl))]; done) | (rw [if_neg (fun z => c_215 (by rw [z]; rfl))]; rfl)
            · skip
              have hw : w < nW := lp_in (by rw [scr_0 ha.1, hnw] at c_191; exact c_191) h1 (by omega)
              refine v_iload hC (pc := 194) 1 rfl dX7_drift_194 ?_
              refine v_iconst hC (pc := 196) (v := 1) (by decide) dX7_drift_196 ?_
              refine v_aload_n hC (pc := 197) (k := 0) 4 rfl dX7_drift_197 ?_
              refine v_iload hC (pc := 198) 0 rfl dX7_drift_198 ?_
              refine v_iconst hC (pc := 200) (v := 0) (by decide) dX7_drift_200 ?_
              refine v_callV hC (pc := 201) (As := [_, _]) dX7_drift_201 rfl (m_of _ _ (d := d - 1) (by omega) _ (w := w) (by omega) (k := 0) (by decide)) cv_X7_187 rfl (by decide) rfl (by first | rfl | exact ok_c hq rfl | exact ok_w hq hw | exact ok_w (by omega) (by omega) | exact ok_s (by omega) (by omega) | exact ok_c (by omega) rfl | assumption) (Nat.le_of_ble_eq_true rfl) (by omega) (fun r h' hr => ?_)
              obtain ⟨he9, rfl⟩ := hr
              rw [he9]
              clear he9 h'
              show V X G 10 204 _ (vi (u.1 (3, 0, 2) (18 + 6 * w + 0)) :: _) _
              rw [ha.2]
              show V _ _ _ (201 + 3) _ (_ :: _) _
              refine v_ishl hC (pc := 204) dX7_drift_204 ?_
              refine v_ior hC (pc := 205) dX7_drift_205 ?_
              refine v_istore hC (pc := 206) (l' := [(5, _), (7, _), (6, _), (4, _), (0, _), (1, _), (2, _), (3, _)]) dX7_drift_206 (by decide) rfl ?_
              refine v_iinc hC (pc := 208) (l' := [(7, _), (5, _), (6, _), (4, _), (0, _), (1, _), (2, _), (3, _)]) 1 (v := nI (w + 1)) dX7_drift_208 rfl (nI_inc w) (by decide) rfl ?_
              refine v_goto hC (pc := 211) (tgt := 185) dX7_drift_211 (by decide) ?_
              exact ih (w + 1) (by omega) (by omega)
        exact pl (nW + 1) 0 (by omega) (by omega)
      · skip
        have hk : k < n1 := lp_in c_40 h1 (by omega)
        refine v_iconst hC (pc := 43) (v := 0) (by decide) dX7_drift_43 ?_
        refine v_istore hC (pc := 44) (l' := [(8, _), (7, _), (6, _), (5, _), (4, _), (0, _), (1, _), (2, _), (3, _)]) dX7_drift_44 (by decide) rfl ?_
        obtain ⟨hS, hW⟩ := hwf k
        generalize hAe : (dI nW k (((stH h).1 (3, 0, 2)), 0, seed)).1 = A at *
        generalize hve : (dI nW k (((stH h).1 (3, 0, 2)), 0, seed)).2.2 = v at *
        generalize hme : (dI nW k (((stH h).1 (3, 0, 2)), 0, seed)).2.1 = mn at *
        have wl : ∀ (n9 w : Nat), w ≤ nW → nW + 1 ≤ w + n9 → V X G 10 46 [(8, vi (nI w)), (7, vi (nI k)), (6, vi (sdN w v)), (5, vi 0), (4, vi mn), (0, vr (3, 0, 0)), (1, vi seed), (2, vi (nI n1)), (3, vi (nI x))] [] (drM u w v) := by
          intro n9
          induction n9 with
          | zero => intro w h1 h2; exact absurd h2 (by omega)
          | succ n9 ihw =>
            intro w h1 h2
            refine v_iload hC (pc := 46) 0 rfl dX7_drift_46 ?_
            refine v_aload_n hC (pc := 48) (k := 0) 5 rfl dX7_drift_48 ?_
            refine v_getI hC (pc := 49) dX7_drift_49 fl_X7_79 rfl (by first | rfl | exact ok_c hq rfl | exact ok_w hq hw | exact ok_w (by omega) (by omega) | exact ok_s (by omega) (by omega) | exact ok_c (by omega) rfl | assumption) rfl (by decide) (by decide) ?_
            refine v_icmp_ge hC (pc := 52) (tgt := 167) dX7_drift_52 (by decide) (fun c_52 => ?_) (fun c_52 => ?_)
            · skip
              have hw : w = nW := lp_ex (by rw [drM_o _ _ _ (by decide) (by decide), scr_0 ha.1, hnw] at c_52; exact c_52) h1 (by omega)
              subst hw
              refine v_iload hC (pc := 167) 4 rfl dX7_drift_167 ?_
              refine v_aload_n hC (pc := 169) (k := 0) 5 rfl dX7_drift_169 ?_
              refine v_callV hC (pc := 170) (As := []) dX7_drift_170 rfl (m_arrive _ _ (d := d - 1) (by omega) _ hn4 (by rw [drM_o _ _ _ (by decide) (by decide), scr_0 ha.1]; exact hnw)) cv_X7_207 rfl (by decide) rfl (by first | rfl | exact ok_c hq rfl | exact ok_w hq hw | exact ok_w (by omega) (by omega) | exact ok_s (by omega) (by omega) | exact ok_c (by omega) rfl | assumption) (Nat.le_of_ble_eq_true rfl) (by omega) (fun r h' hr => ?_)
              obtain ⟨rfl, rfl⟩ := hr
              show V _ _ _ (170 + 3) _ (_ :: _) _
              rw [show plM (drM u w v) = (fun k => A (18 + 6 * k + 0)) from by unfold plM; rw [drM_o _ _ _ (by decide) (by decide), ha.2], show ckF (fun k => A (18 + 6 * k + 0)) ((drM u w v).1 (3, 0, 20)) ((drM u w v).1 (3, 0, 21)) w = ckF (fun k => A (18 + 6 * k + 0)) (dtoF A v) (dgoF v) w from ckF_cong (fun k _ => rfl) (fun k hk => by rw [← ha.2]; exact drM_t u v hk) (fun k hk => drM_g u v hk)]
              refine v_iadd hC (pc := 173) dX7_drift_173 ?_
              refine v_istore hC (pc := 174) (l' := [(4, _), (8, _), (7, _), (6, _), (5, _), (0, _), (1, _), (2, _), (3, _)]) dX7_drift_174 (by decide) rfl ?_
              refine v_iinc hC (pc := 176) (l' := [(7, _), (4, _), (8, _), (6, _), (5, _), (0, _), (1, _), (2, _), (3, _)]) 2 (v := nI (k + 1)) dX7_drift_176 rfl (nI_inc k) (by decide) rfl ?_
              refine v_goto hC (pc := 179) (tgt := 37) dX7_drift_179 (by decide) ?_
              refine v_loc (l' := [(7, _), (6, _), (5, _), (4, _), (0, _), (1, _), (2, _), (3, _)]) [0, 3, 4, 1, 5, 6, 7, 8] rfl ?_
              have i2 := ih (k + 1)
              simp only [dI_s, dS, hAe, hve, hme] at i2
              refine i2 _ (by omega) (by omega) ⟨scr_upR (j := (3, 0, 2)) (scr_dr ha.1 w v) (by decide) _, ?_⟩
              rw [upR_same, drM_o _ _ _ (by decide) (by decide), ha.2]
              exact arr_cong (fun j hj => by rw [← ha.2]; exact drM_t u v hj)
            · skip
              have hw : w < nW := lp_in (by rw [drM_o _ _ _ (by decide) (by decide), scr_0 ha.1, hnw] at c_52; exact c_52) h1 (by omega)
              obtain ⟨s, hs, es⟩ := sdG_nat (sdN (w + 1) v)
              by_cases hs2 : s = 2
              · skip
                refine v_iload hC (pc := 55) 2 rfl dX7_drift_55 ?_
                refine v_ldcw hC (pc := 57) k_X7_296 dX7_drift_57 ?_
                refine v_imul hC (pc := 60) dX7_drift_60 ?_
                refine v_sipush hC (pc := 61) (v := 12345) (by decide +kernel) dX7_drift_61 ?_
                refine v_iadd hC (pc := 64) dX7_drift_64 ?_
                refine v_istore hC (pc := 65) (l' := [(6, _), (8, _), (7, _), (5, _), (4, _), (0, _), (1, _), (2, _), (3, _)]) dX7_drift_65 (by decide) rfl ?_
                refine v_iload hC (pc := 67) 0 rfl dX7_drift_67 ?_
                refine v_bipush hC (pc := 69) (v := 16) (by decide +kernel) dX7_drift_69 ?_
                refine v_ishr hC (pc := 71) dX7_drift_71 ?_
                refine v_sipush hC (pc := 72) (v := 32767) (by decide +kernel) dX7_drift_72 ?_
                refine v_iand hC (pc := 75) dX7_drift_75 ?_
                refine v_iconst hC (pc := 76) (v := 3) (by decide) dX7_drift_76 ?_
                refine v_irem hC (pc := 77) (by decide) dX7_drift_77 ?_
                rw [sd_sh]
                show V X G 10 78 _ (vi (sdG (sdN (w + 1) v)) :: _) _
                rw [es]
                refine v_istore hC (pc := 78) (l' := [(9, _), (6, _), (8, _), (7, _), (5, _), (4, _), (0, _), (1, _), (2, _), (3, _)]) dX7_drift_78 (by decide) rfl ?_
                refine v_aload_n hC (pc := 80) (k := 0) 6 rfl dX7_drift_80 ?_
                refine v_getR hC (pc := 81) dX7_drift_81 fl_X7_32 rfl (by first | rfl | exact ok_c hq rfl | exact ok_w hq hw | exact ok_w (by omega) (by omega) | exact ok_s (by omega) (by omega) | exact ok_c (by omega) rfl | assumption) rfl (by decide) (by decide) rfl ?_
                refine v_iload hC (pc := 84) 2 rfl dX7_drift_84 ?_
                refine v_iload hC (pc := 86) 0 rfl dX7_drift_86 ?_
                refine v_iconst hC (pc := 88) (v := 2) (by decide) dX7_drift_88 ?_
                refine v_icmp_ge hC (pc := 89) (tgt := 96) dX7_drift_89 (by decide) (fun c_89 => ?_) (fun c_89 => ?_)
                · skip
                  refine v_iconst hC (pc := 96) (v := 0) (by decide) dX7_drift_96 ?_
                  refine v_zast hC (pc := 97) dX7_drift_97 rfl (by first | rfl | exact ok_c hq rfl | exact ok_w hq hw | exact ok_w (by omega) (by omega) | exact ok_s (by omega) (by omega) | exact ok_c (by omega) rfl | assumption) (vp_nat (n := w) (by omega) (by decide)) ?_
                  obtain ⟨u2, hu2⟩ : ∃ u2, u2 = upI (drM u w v) (3, 0, 21) w (dgoF v w) := ⟨_, rfl⟩
                  have hA2 : u2.1 (3, 0, 2) = A := by rw [hu2, upI_ne _ _ _ (show ((3, 0, 2) : PId) ≠ (3, 0, 21) by decide), drM_o _ _ _ (by decide) (by decide)]; exact ha.2
                  have hg2 : u2.1 (3, 0, 21) w = dgoF v w := by rw [hu2, upI_same]; exact if_pos rfl
                  have hgv : dgoF v w = (if s = 2 then 0 else 1) := by
                    unfold dgoF dgo
                    rw [es]
                    by_cases e : s = 2
                    · rw [if_pos e, if_pos (by rw [e]; rfl)]
                    · rw [if_neg e, if_neg (show ¬ nI s = 2 from fun z => e ((nI_eq (by omega) (by decide)).mp (show nI s = nI 2 from z)))]
                  refine v_heap (show _ = u2 from ?_) ?_
                  · rw [hu2, nI_clamp (show w < 2 ^ 31 by omega), hgv]
                    first | rw [if_pos hs2, vnar_b (Or.inl rfl)] | rw [if_neg hs2, vnar_b (Or.inr rfl)]
                  refine v_aload_n hC (pc := 98) (k := 0) 6 rfl dX7_drift_98 ?_
                  refine v_getR hC (pc := 99) dX7_drift_99 fl_X7_29 rfl (by first | rfl | exact ok_c hq rfl | exact ok_w hq hw | exact ok_w (by omega) (by omega) | exact ok_s (by omega) (by omega) | exact ok_c (by omega) rfl | assumption) rfl (by decide) (by decide) rfl ?_
                  refine v_iload hC (pc := 102) 2 rfl dX7_drift_102 ?_
                  refine v_aload_n hC (pc := 104) (k := 0) 6 rfl dX7_drift_104 ?_
                  refine v_getR hC (pc := 105) dX7_drift_105 fl_X7_32 rfl (by first | rfl | exact ok_c hq rfl | exact ok_w hq hw | exact ok_w (by omega) (by omega) | exact ok_s (by omega) (by omega) | exact ok_c (by omega) rfl | assumption) rfl (by decide) (by decide) rfl ?_
                  refine v_iload hC (pc := 108) 2 rfl dX7_drift_108 ?_
                  refine v_zald hC (pc := 110) dX7_drift_110 rfl (by first | rfl | exact ok_c hq rfl | exact ok_w hq hw | exact ok_w (by omega) (by omega) | exact ok_s (by omega) (by omega) | exact ok_c (by omega) rfl | assumption) (vp_nat (n := w) (by omega) (by decide)) ?_
                  rw [nI_clamp (show w < 2 ^ 31 by omega)]
                  show V X G 10 111 _ (vi (u2.1 (3, 0, 21) w) :: _) _
                  rw [hg2, hgv]
                  first | rw [if_pos hs2] | rw [if_neg hs2]
                  refine v_if_eq hC (pc := 111) (tgt := 153) dX7_drift_111 (by decide) (fun c_111 => ?_) (fun c_111 => ?_)
                  · skip
                    refine v_aload_n hC (pc := 153) (k := 0) 6 rfl dX7_drift_153 ?_
                    refine v_iload hC (pc := 154) 2 rfl dX7_drift_154 ?_
                    refine v_iconst hC (pc := 156) (v := 0) (by decide) dX7_drift_156 ?_
                    refine v_callV hC (pc := 157) (As := [_, _]) dX7_drift_157 rfl (m_of _ _ (d := d - 1) (by omega) _ (w := w) (by omega) (k := 0) (by decide)) cv_X7_187 rfl (by decide) rfl (by first | rfl | exact ok_c hq rfl | exact ok_w hq hw | exact ok_w (by omega) (by omega) | exact ok_s (by omega) (by omega) | exact ok_c (by omega) rfl | assumption) (Nat.le_of_ble_eq_true rfl) (by omega) (fun r h' hr => ?_)
                    obtain ⟨he9, rfl⟩ := hr
                    rw [he9]
                    clear he9 h'
                    show V X G 10 160 _ (vi (u2.1 (3, 0, 2) (18 + 6 * w + 0)) :: _) _
                    rw [hA2]
                    show V _ _ _ (157 + 3) _ (_ :: _) _
                    refine v_iast hC (pc := 160) dX7_drift_160 rfl (by first | rfl | exact ok_c hq rfl | exact ok_w hq hw | exact ok_w (by omega) (by omega) | exact ok_s (by omega) (by omega) | exact ok_c (by omega) rfl | assumption) (vp_nat (n := w) (by omega) (by decide)) ?_
                    rw [nI_clamp (show w < 2 ^ 31 by omega)]
                    refine v_heap (show _ = drM u (w + 1) v from ?_) ?_
                    · rw [← drM_s, ← hu2]
                      refine congrArg (upI u2 (3, 0, 20) w) ?_
                      rw [ha.2]
                      unfold dtoF dto
                      rw [es]
                      first
                        | (rw [if_pos (by rw [hs2]; rfl)]; done)
                        | (rw [if_neg (show ¬ nI s = 2 from fun z => hs2 ((nI_eq (by omega) (by decide)).mp (show nI s = nI 2 from z))), ep, nI_clamp (show p < 2 ^ 31 by omega), nI_clamp (show s < 2 ^ 31 by omega), show kpA A w = 1 from if_pos c_139, ← hA2]; done)
                        | (rw [if_neg (show ¬ nI s = 2 from fun z => hs2 ((nI_eq (by omega) (by decide)).mp (show nI s = nI 2 from z))), ep, nI_clamp (show p < 2 ^ 31 by omega), nI_clamp (show s < 2 ^ 31 by omega), show kpA A w = 0 from if_neg c_139, ← hA2]; done)
                    refine v_iinc hC (pc := 161) (l' := [(8, _), (9, _), (6, _), (7, _), (5, _), (4, _), (0, _), (1, _), (2, _), (3, _)]) 2 (v := nI (w + 1)) dX7_drift_161 rfl (nI_inc w) (by decide) rfl ?_
                    refine v_goto hC (pc := 164) (tgt := 46) dX7_drift_164 (by decide) ?_
                    refine v_loc (l' := [(8, _), (7, _), (6, _), (5, _), (4, _), (0, _), (1, _), (2, _), (3, _)]) [0, 3, 2, 4, 5, 6, 7, 8, 9] rfl ?_
                    exact ihw (w + 1) (by omega) (by omega)
                  · exact absurd rfl c_111
                · exact absurd (by rw [hs2]; decide) c_89
              · skip
                refine v_iload hC (pc := 55) 2 rfl dX7_drift_55 ?_
                refine v_ldcw hC (pc := 57) k_X7_296 dX7_drift_57 ?_
                refine v_imul hC (pc := 60) dX7_drift_60 ?_
                refine v_sipush hC (pc := 61) (v := 12345) (by decide +kernel) dX7_drift_61 ?_
                refine v_iadd hC (pc := 64) dX7_drift_64 ?_
                refine v_istore hC (pc := 65) (l' := [(6, _), (8, _), (7, _), (5, _), (4, _), (0, _), (1, _), (2, _), (3, _)]) dX7_drift_65 (by decide) rfl ?_
                refine v_iload hC (pc := 67) 0 rfl dX7_drift_67 ?_
                refine v_bipush hC (pc := 69) (v := 16) (by decide +kernel) dX7_drift_69 ?_
                refine v_ishr hC (pc := 71) dX7_drift_71 ?_
                refine v_sipush hC (pc := 72) (v := 32767) (by decide +kernel) dX7_drift_72 ?_
                refine v_iand hC (pc := 75) dX7_drift_75 ?_
                refine v_iconst hC (pc := 76) (v := 3) (by decide) dX7_drift_76 ?_
                refine v_irem hC (pc := 77) (by decide) dX7_drift_77 ?_
                rw [sd_sh]
                show V X G 10 78 _ (vi (sdG (sdN (w + 1) v)) :: _) _
                rw [es]
                refine v_istore hC (pc := 78) (l' := [(9, _), (6, _), (8, _), (7, _), (5, _), (4, _), (0, _), (1, _), (2, _), (3, _)]) dX7_drift_78 (by decide) rfl ?_
                refine v_aload_n hC (pc := 80) (k := 0) 6 rfl dX7_drift_80 ?_
                refine v_getR hC (pc := 81) dX7_drift_81 fl_X7_32 rfl (by first | rfl | exact ok_c hq rfl | exact ok_w hq hw | exact ok_w (by omega) (by omega) | exact ok_s (by omega) (by omega) | exact ok_c (by omega) rfl | assumption) rfl (by decide) (by decide) rfl ?_
                refine v_iload hC (pc := 84) 2 rfl dX7_drift_84 ?_
                refine v_iload hC (pc := 86) 0 rfl dX7_drift_86 ?_
                refine v_iconst hC (pc := 88) (v := 2) (by decide) dX7_drift_88 ?_
                refine v_icmp_ge hC (pc := 89) (tgt := 96) dX7_drift_89 (by decide) (fun c_89 => ?_) (fun c_89 => ?_)
                · exact absurd c_89 (nI_ge (show s < 2 by omega) (by decide))
                · skip
                  refine v_iconst hC (pc := 92) (v := 1) (by decide) dX7_drift_92 ?_
                  refine v_goto hC (pc := 93) (tgt := 97) dX7_drift_93 (by decide) ?_
                  refine v_zast hC (pc := 97) dX7_drift_97 rfl (by first | rfl | exact ok_c hq rfl | exact ok_w hq hw | exact ok_w (by omega) (by omega) | exact ok_s (by omega) (by omega) | exact ok_c (by omega) rfl | assumption) (vp_nat (n := w) (by omega) (by decide)) ?_
                  obtain ⟨u2, hu2⟩ : ∃ u2, u2 = upI (drM u w v) (3, 0, 21) w (dgoF v w) := ⟨_, rfl⟩
                  have hA2 : u2.1 (3, 0, 2) = A := by rw [hu2, upI_ne _ _ _ (show ((3, 0, 2) : PId) ≠ (3, 0, 21) by decide), drM_o _ _ _ (by decide) (by decide)]; exact ha.2
                  have hg2 : u2.1 (3, 0, 21) w = dgoF v w := by rw [hu2, upI_same]; exact if_pos rfl
                  have hgv : dgoF v w = (if s = 2 then 0 else 1) := by
                    unfold dgoF dgo
                    rw [es]
                    by_cases e : s = 2
                    · rw [if_pos e, if_pos (by rw [e]; rfl)]
                    · rw [if_neg e, if_neg (show ¬ nI s = 2 from fun z => e ((nI_eq (by omega) (by decide)).mp (show nI s = nI 2 from z)))]
                  refine v_heap (show _ = u2 from ?_) ?_
                  · rw [hu2, nI_clamp (show w < 2 ^ 31 by omega), hgv]
                    first | rw [if_pos hs2, vnar_b (Or.inl rfl)] | rw [if_neg hs2, vnar_b (Or.inr rfl)]
                  refine v_aload_n hC (pc := 98) (k := 0) 6 rfl dX7_drift_98 ?_
                  refine v_getR hC (pc := 99) dX7_drift_99 fl_X7_29 rfl (by first | rfl | exact ok_c hq rfl | exact ok_w hq hw | exact ok_w (by omega) (by omega) | exact ok_s (by omega) (by omega) | exact ok_c (by omega) rfl | assumption) rfl (by decide) (by decide) rfl ?_
                  refine v_iload hC (pc := 102) 2 rfl dX7_drift_102 ?_
                  refine v_aload_n hC (pc := 104) (k := 0) 6 rfl dX7_drift_104 ?_
                  refine v_getR hC (pc := 105) dX7_drift_105 fl_X7_32 rfl (by first | rfl | exact ok_c hq rfl | exact ok_w hq hw | exact ok_w (by omega) (by omega) | exact ok_s (by omega) (by omega) | exact ok_c (by omega) rfl | assumption) rfl (by decide) (by decide) rfl ?_
                  refine v_iload hC (pc := 108) 2 rfl dX7_drift_108 ?_
                  refine v_zald hC (pc := 110) dX7_drift_110 rfl (by first | rfl | exact ok_c hq rfl | exact ok_w hq hw | exact ok_w (by omega) (by omega) | exact ok_s (by omega) (by omega) | exact ok_c (by omega) rfl | assumption) (vp_nat (n := w) (by omega) (by decide)) ?_
                  rw [nI_clamp (show w < 2 ^ 31 by omega)]
                  show V X G 10 111 _ (vi (u2.1 (3, 0, 21) w) :: _) _
                  rw [hg2, hgv]
                  first | rw [if_pos hs2] | rw [if_neg hs2]
                  refine v_if_eq hC (pc := 111) (tgt := 153) dX7_drift_111 (by decide) (fun c_111 => ?_) (fun c_111 => ?_)
                  · exact absurd c_111 (by decide)
                  · skip
                    refine v_aload_n hC (pc := 114) (k := 0) 6 rfl dX7_drift_114 ?_
                    refine v_aload_n hC (pc := 115) (k := 0) 6 rfl dX7_drift_115 ?_
                    refine v_iload hC (pc := 116) 2 rfl dX7_drift_116 ?_
                    refine v_iconst hC (pc := 118) (v := 0) (by decide) dX7_drift_118 ?_
                    refine v_callV hC (pc := 119) (As := [_, _]) dX7_drift_119 rfl (m_of _ _ (d := d - 1) (by omega) _ (w := w) (by omega) (k := 0) (by decide)) cv_X7_187 rfl (by decide) rfl (by first | rfl | exact ok_c hq rfl | exact ok_w hq hw | exact ok_w (by omega) (by omega) | exact ok_s (by omega) (by omega) | exact ok_c (by omega) rfl | assumption) (Nat.le_of_ble_eq_true rfl) (by omega) (fun r h' hr => ?_)
                    obtain ⟨he9, rfl⟩ := hr
                    rw [he9]
                    clear he9 h'
                    show V X G 10 122 _ (vi (u2.1 (3, 0, 2) (18 + 6 * w + 0)) :: _) _
                    rw [hA2]
                    show V _ _ _ (119 + 3) _ (_ :: _) _
                    obtain ⟨p, hp, ep⟩ := hW w hw
                    rw [ep]
                    refine v_iload hC (pc := 122) 0 rfl dX7_drift_122 ?_
                    refine v_aload_n hC (pc := 124) (k := 0) 6 rfl dX7_drift_124 ?_
                    refine v_getR hC (pc := 125) dX7_drift_125 fl_X7_13 rfl (by first | rfl | exact ok_c hq rfl | exact ok_w hq hw | exact ok_w (by omega) (by omega) | exact ok_s (by omega) (by omega) | exact ok_c (by omega) rfl | assumption) rfl (by decide) (by decide) rfl ?_
                    refine v_bipush hC (pc := 128) (v := 17) (by decide +kernel) dX7_drift_128 ?_
                    refine v_iald hC (pc := 130) dX7_drift_130 rfl (by first | rfl | exact ok_c hq rfl | exact ok_w hq hw | exact ok_w (by omega) (by omega) | exact ok_s (by omega) (by omega) | exact ok_c (by omega) rfl | assumption) (vp_nat (n := 17) (by omega) (by decide)) ?_
                    show V X G 10 131 _ (vi (u2.1 (3, 0, 2) 17) :: _) _
                    rw [hA2]
                    refine v_aload_n hC (pc := 131) (k := 0) 6 rfl dX7_drift_131 ?_
                    refine v_iload hC (pc := 132) 2 rfl dX7_drift_132 ?_
                    refine v_iconst hC (pc := 134) (v := 2) (by decide) dX7_drift_134 ?_
                    refine v_callV hC (pc := 135) (As := [_, _]) dX7_drift_135 rfl (m_of _ _ (d := d - 1) (by omega) _ (w := w) (by omega) (k := 2) (by decide)) cv_X7_187 rfl (by decide) rfl (by first | rfl | exact ok_c hq rfl | exact ok_w hq hw | exact ok_w (by omega) (by omega) | exact ok_s (by omega) (by omega) | exact ok_c (by omega) rfl | assumption) (Nat.le_of_ble_eq_true rfl) (by omega) (fun r h' hr => ?_)
                    obtain ⟨he9, rfl⟩ := hr
                    rw [he9]
                    clear he9 h'
                    show V X G 10 138 _ (vi (u2.1 (3, 0, 2) (18 + 6 * w + 2)) :: _) _
                    rw [hA2]
                    show V _ _ _ (135 + 3) _ (_ :: _) _
                    refine v_iconst hC (pc := 138) (v := 1) (by decide) dX7_drift_138 ?_
                    refine v_icmp_ne hC (pc := 139) (tgt := 146) dX7_drift_139 (by decide) (fun c_139 => ?_) (fun c_139 => ?_)
                    · skip
                      refine v_iconst hC (pc := 146) (v := 0) (by decide) dX7_drift_146 ?_
                      refine v_callV hC (pc := 147) (As := [_, _, _, _]) dX7_drift_147 rfl (m_goesFrom _ _ (d := d - 1) (by omega) _ (c := p) (s := s) (by omega) (by omega) _ _) cv_X7_200 rfl (by decide) rfl (by first | rfl | exact ok_c hq rfl | exact ok_w hq hw | exact ok_w (by omega) (by omega) | exact ok_s (by omega) (by omega) | exact ok_c (by omega) rfl | assumption) (Nat.le_of_ble_eq_true rfl) (by omega) (fun r h' hr => ?_)
                      obtain ⟨he9, rfl⟩ := hr
                      rw [he9]
                      clear he9 h'
                      show V _ _ _ (147 + 3) _ (_ :: _) _
                      refine v_goto hC (pc := 150) (tgt := 160) dX7_drift_150 (by decide) ?_
                      refine v_iast hC (pc := 160) dX7_drift_160 rfl (by first | rfl | exact ok_c hq rfl | exact ok_w hq hw | exact ok_w (by omega) (by omega) | exact ok_s (by omega) (by omega) | exact ok_c (by omega) rfl | assumption) (vp_nat (n := w) (by omega) (by decide)) ?_
                      rw [nI_clamp (show w < 2 ^ 31 by omega)]
                      refine v_heap (show _ = drM u (w + 1) v from ?_) ?_
                      · rw [← drM_s, ← hu2]
                        refine congrArg (upI u2 (3, 0, 20) w) ?_
                        rw [ha.2]
                        unfold dtoF dto
                        rw [es]
                        first
                          | (rw [if_pos (by rw [hs2]; rfl)]; done)
                          | (rw [if_neg (show ¬ nI s = 2 from fun z => hs2 ((nI_eq (by omega) (by decide)).mp (show nI s = nI 2 from z))), ep, nI_clamp (show p < 2 ^ 31 by omega), nI_clamp (show s < 2 ^ 31 by omega), show kpA A w = 1 from if_pos c_139, ← hA2]; done)
                          | (rw [if_neg (show ¬ nI s = 2 from fun z => hs2 ((nI_eq (by omega) (by decide)).mp (show nI s = nI 2 from z))), ep, nI_clamp (show p < 2 ^ 31 by omega), nI_clamp (show s < 2 ^ 31 by omega), show kpA A w = 0 from if_neg c_139, ← hA2]; done)
                      refine v_iinc hC (pc := 161) (l' := [(8, _), (9, _), (6, _), (7, _), (5, _), (4, _), (0, _), (1, _), (2, _), (3, _)]) 2 (v := nI (w + 1)) dX7_drift_161 rfl (nI_inc w) (by decide) rfl ?_
                      refine v_goto hC (pc := 164) (tgt := 46) dX7_drift_164 (by decide) ?_
                      refine v_loc (l' := [(8, _), (7, _), (6, _), (5, _), (4, _), (0, _), (1, _), (2, _), (3, _)]) [0, 3, 2, 4, 5, 6, 7, 8, 9] rfl ?_
                      exact ihw (w + 1) (by omega) (by omega)
                    · skip
                      refine v_iconst hC (pc := 142) (v := 1) (by decide) dX7_drift_142 ?_
                      refine v_goto hC (pc := 143) (tgt := 147) dX7_drift_143 (by decide) ?_
                      refine v_callV hC (pc := 147) (As := [_, _, _, _]) dX7_drift_147 rfl (m_goesFrom _ _ (d := d - 1) (by omega) _ (c := p) (s := s) (by omega) (by omega) _ _) cv_X7_200 rfl (by decide) rfl (by first | rfl | exact ok_c hq rfl | exact ok_w hq hw | exact ok_w (by omega) (by omega) | exact ok_s (by omega) (by omega) | exact ok_c (by omega) rfl | assumption) (Nat.le_of_ble_eq_true rfl) (by omega) (fun r h' hr => ?_)
                      obtain ⟨he9, rfl⟩ := hr
                      rw [he9]
                      clear he9 h'
                      show V _ _ _ (147 + 3) _ (_ :: _) _
                      refine v_goto hC (pc := 150) (tgt := 160) dX7_drift_150 (by decide) ?_
                      refine v_iast hC (pc := 160) dX7_drift_160 rfl (by first | rfl | exact ok_c hq rfl | exact ok_w hq hw | exact ok_w (by omega) (by omega) | exact ok_s (by omega) (by omega) | exact ok_c (by omega) rfl | assumption) (vp_nat (n := w) (by omega) (by decide)) ?_
                      rw [nI_clamp (show w < 2 ^ 31 by omega)]
                      refine v_heap (show _ = drM u (w + 1) v from ?_) ?_
                      · rw [← drM_s, ← hu2]
                        refine congrArg (upI u2 (3, 0, 20) w) ?_
                        rw [ha.2]
                        unfold dtoF dto
                        rw [es]
                        first
                          | (rw [if_pos (by rw [hs2]; rfl)]; done)
                          | (rw [if_neg (show ¬ nI s = 2 from fun z => hs2 ((nI_eq (by omega) (by decide)).mp (show nI s = nI 2 from z))), ep, nI_clamp (show p < 2 ^ 31 by omega), nI_clamp (show s < 2 ^ 31 by omega), show kpA A w = 1 from if_pos c_139, ← hA2]; done)
                          | (rw [if_neg (show ¬ nI s = 2 from fun z => hs2 ((nI_eq (by omega) (by decide)).mp (show nI s = nI 2 from z))), ep, nI_clamp (show p < 2 ^ 31 by omega), nI_clamp (show s < 2 ^ 31 by omega), show kpA A w = 0 from if_neg c_139, ← hA2]; done)
                      refine v_iinc hC (pc := 161) (l' := [(8, _), (9, _), (6, _), (7, _), (5, _), (4, _), (0, _), (1, _), (2, _), (3, _)]) 2 (v := nI (w + 1)) dX7_drift_161 rfl (nI_inc w) (by decide) rfl ?_
                      refine v_goto hC (pc := 164) (tgt := 46) dX7_drift_164 (by decide) ?_
                      refine v_loc (l' := [(8, _), (7, _), (6, _), (5, _), (4, _), (0, _), (1, _), (2, _), (3, _)]) [0, 3, 2, 4, 5, 6, 7, 8, 9] rfl ?_
                      exact ihw (w + 1) (by omega) (by omega)
        exact wl (nW + 1) 0 (by omega) (by omega)
  refine v_iload_n hC (pc := 0) (k := 2) 2 rfl dX7_drift_0 ?_
  refine v_i2l hC (pc := 1) dX7_drift_1 ?_
  refine v_lconst hC (pc := 2) (v := 1) (by decide) dX7_drift_2 ?_
  refine v_ldc2 hC (pc := 3) k_X7_235 dX7_drift_3 ?_
  refine v_callS hC (pc := 6) (As := [_, _, _]) dX7_drift_6 rfl (m_in_t _ _ (d := d - 1) (by omega) _ (nI n1) 1 60 ⟨nI_ge2 hn0 (by omega), nI_nlt hn (by decide)⟩) cs_X7_84 (Nat.le_of_ble_eq_true rfl) (by omega) (fun r h' hr => ?_)
  obtain ⟨he9, rfl⟩ := hr
  rw [he9]
  clear he9 h'
  show V _ _ _ (6 + 3) _ (_ :: _) _
  refine v_if_eq hC (pc := 9) (tgt := 19) dX7_drift_9 (by decide) (fun c_9 => ?_) (fun c_9 => ?_)
  · exact absurd c_9 (by decide)
  · skip
    refine v_iload_n hC (pc := 12) (k := 3) 3 rfl dX7_drift_12 ?_
    refine v_callS hC (pc := 13) (As := [_]) dX7_drift_13 rfl (m_isPart_t _ _ (d := d - 1) (by omega) _ (s := x) (by assumption)) cs_X7_213 (Nat.le_of_ble_eq_true rfl) (by omega) (fun r h' hr => ?_)
    obtain ⟨he9, rfl⟩ := hr
    rw [he9]
    clear he9 h'
    show V _ _ _ (13 + 3) _ (_ :: _) _
    refine v_if_ne hC (pc := 16) (tgt := 21) dX7_drift_16 (by decide) (fun c_16 => ?_) (fun c_16 => ?_)
    · skip
      refine v_iconst hC (pc := 21) (v := 0) (by decide) dX7_drift_21 ?_
      refine v_istore hC (pc := 22) (l' := [(4, _), (0, _), (1, _), (2, _), (3, _)]) dX7_drift_22 (by decide) rfl ?_
      refine v_iconst hC (pc := 24) (v := 0) (by decide) dX7_drift_24 ?_
      refine v_istore hC (pc := 25) (l' := [(5, _), (4, _), (0, _), (1, _), (2, _), (3, _)]) dX7_drift_25 (by decide) rfl ?_
      refine v_iload_n hC (pc := 27) (k := 1) 3 rfl dX7_drift_27 ?_
      refine v_istore hC (pc := 28) (l' := [(6, _), (5, _), (4, _), (0, _), (1, _), (2, _), (3, _)]) dX7_drift_28 (by decide) rfl ?_
      refine v_aload_n hC (pc := 30) (k := 0) 3 rfl dX7_drift_30 ?_
      refine v_callV hC (pc := 31) (As := []) dX7_drift_31 rfl (m_starts _ _ (d := d - 1) (by omega) _) cv_X7_219 rfl (by decide) rfl (by first | rfl | exact ok_c hq rfl | exact ok_w hq hw | exact ok_w (by omega) (by omega) | exact ok_s (by omega) (by omega) | exact ok_c (by omega) rfl | assumption) (Nat.le_of_ble_eq_true rfl) (by omega) (fun r h' hr => ?_)
      obtain ⟨rfl, rfl⟩ := hr
      refine v_heap (show _ = stH h from rfl) ?_
      show V _ _ _ (31 + 3) _ _ _
      refine v_iconst hC (pc := 34) (v := 0) (by decide) dX7_drift_34 ?_
      refine v_istore hC (pc := 35) (l' := [(7, _), (6, _), (5, _), (4, _), (0, _), (1, _), (2, _), (3, _)]) dX7_drift_35 (by decide) rfl ?_
      exact loop (n1 + 1) 0 _ (by omega) (by omega) ⟨scr_st h, rfl⟩
    · exact absurd c_16 (by decide)

set_option maxRecDepth 20000 in
set_option maxHeartbeats 2000000 in
theorem m_drift_bad (l9 : Launch) (G : WT) {d : Nat} (hd : 3 ≤ d) (h : HP) (s n x : Int32) (hbad : ¬ ((¬ n < 1 ∧ ¬ 60 < n) ∧ (x = 0 ∨ x = 1))) : MS l9 G yX7_drift cX7_drift 10 (some .int) d [vr (3, 0, 0), vi s, vi n, vi x] h (fun r h1 => h1 = h ∧ r = some (vi (-1))) := by
  refine MS_of (by decide +kernel) (Nat.le_of_ble_eq_true rfl) (fun X hC hX => ?_)
  show V X G 10 0 _ [] _
  refine v_iload_n hC (pc := 0) (k := 2) 2 rfl dX7_drift_0 ?_
  refine v_i2l hC (pc := 1) dX7_drift_1 ?_
  refine v_lconst hC (pc := 2) (v := 1) (by decide) dX7_drift_2 ?_
  refine v_ldc2 hC (pc := 3) k_X7_235 dX7_drift_3 ?_
  refine v_callS hC (pc := 6) (As := [_, _, _]) dX7_drift_6 rfl (m_in _ _ (d := d - 1) (by omega) _ (n) (1) (60)) cs_X7_84 (Nat.le_of_ble_eq_true rfl) (by omega) (fun r h' hr => ?_)
  obtain ⟨he9, rfl⟩ := hr
  rw [he9]
  clear he9 h'
  show V _ _ _ (6 + 3) _ (_ :: _) _
  refine v_ifb_eq hC (pc := 9) (tgt := 19) dX7_drift_9 (by decide) (fun c_9 => ?_) (fun c_9 => ?_)
  · skip
    refine v_iconst hC (pc := 19) (v := (-1)) (by decide) dX7_drift_19 ?_
    refine v_iret hC hX (pc := 20) dX7_drift_20 ?_
    exact ⟨rfl, rfl⟩
  · skip
    refine v_iload_n hC (pc := 12) (k := 3) 3 rfl dX7_drift_12 ?_
    refine v_callS hC (pc := 13) (As := [_]) dX7_drift_13 rfl (m_isPart _ _ (d := d - 1) (by omega) _ _) cs_X7_213 (Nat.le_of_ble_eq_true rfl) (by omega) (fun r h' hr => ?_)
    obtain ⟨he9, rfl⟩ := hr
    rw [he9]
    clear he9 h'
    show V _ _ _ (13 + 3) _ (_ :: _) _
    refine v_ifb_ne hC (pc := 16) (tgt := 21) dX7_drift_16 (by decide) (fun c_16 => ?_) (fun c_16 => ?_)
    · skip
      exact absurd ⟨c_9, c_16⟩ hbad
    · skip
      refine v_iconst hC (pc := 19) (v := (-1)) (by decide) dX7_drift_19 ?_
      refine v_iret hC hX (pc := 20) dX7_drift_20 ?_
      exact ⟨rfl, rfl⟩

