/-! THE REFERENCE: read, pairs -/
def ceF (h : HP) (k f0 i : Nat) : Int32 := h.1 (3, 0, 27) (40 * k + f0 + 2 * i)
def ceG (h : HP) (k f0 i : Nat) : Int32 := h.1 (3, 0, 27) (40 * k + f0 + 2 * i + 1)
/-- the row behind i pairs -/
def rdS (h : HP) (k f0 i : Nat) : Nat → Int32 := itN (fun i S => upd S (18 + 6 * (ceF h k f0 i).toNatClampNeg + 0) (ceG h k f0 i)) i (h.1 (3, 0, 1))
def rdK (h : HP) (k f0 nC nW i : Nat) : Prop := (¬ ceF h k f0 i < 0 ∧ ¬ nI nW ≤ ceF h k f0 i) ∧ ¬ ceG h k f0 i < 0 ∧ ¬ nI nC ≤ ceG h k f0 i
theorem rdS_pl {h : HP} {k f0 nC nW : Nat} (hn4 : nW ≤ 4) (hp : ∀ w, w < nW → ¬ h.1 (3, 0, 1) (18 + 6 * w + 0) < 0) : ∀ i, (∀ j, j < i → rdK h k f0 nC nW j) → ∀ w, w < nW → ¬ rdS h k f0 i (18 + 6 * w + 0) < 0
  | 0, _ => hp
  | i + 1, hk => fun w hw => by
    show ¬ (if 18 + 6 * w + 0 = 18 + 6 * (ceF h k f0 i).toNatClampNeg + 0 then ceG h k f0 i else rdS h k f0 i (18 + 6 * w + 0)) < 0
    split
    · exact (hk i (by omega)).2.1
    · exact rdS_pl hn4 hp i (fun j hj => hk j (by omega)) w hw
theorem rdS_o {h : HP} {k f0 nC nW : Nat} (hn4 : nW ≤ 4) : ∀ i, (∀ j, j < i → rdK h k f0 nC nW j) → ∀ x, (∀ w, w < 4 → ¬ x = 18 + 6 * w + 0) → rdS h k f0 i x = h.1 (3, 0, 1) x
  | 0, _, _, _ => rfl
  | i + 1, hk, x, hx => by
    show (if x = 18 + 6 * (ceF h k f0 i).toNatClampNeg + 0 then ceG h k f0 i else rdS h k f0 i x) = _
    obtain ⟨w, hw, e⟩ := nat_of (hk i (by omega)).1 (by omega)
    rw [e, nI_clamp (show w < 2 ^ 31 by omega), if_neg (hx w (by omega))]
    exact rdS_o hn4 i (fun j hj => hk j (by omega)) x hx
theorem scr_I {h v : HP} {R : Nat → Int32} {k : Nat} {x : Int32} (e : scr (upR h (3, 0, 1) R) v) : scr (upR h (3, 0, 1) (upd R k x)) (upI v (3, 0, 1) k x) := by
  refine ⟨fun i hi => ?_, e.2⟩
  by_cases z : i = (3, 0, 1)
  · subst z
    rw [upI_same, upR_same, e.1 _ hi, upR_same]
  · rw [upI_ne _ _ _ z, upR_ne _ _ z, e.1 _ hi, upR_ne _ _ z]
set_option maxRecDepth 20000 in
set_option maxHeartbeats 2000000 in
theorem m_read_go (l9 : Launch) (G : WT) {d : Nat} (hd : 4 ≤ d) (h : HP) {nC : Nat} (hn8 : nC ≤ 8) (hnc : h.1 (3, 0, 0) 3 = nI nC) {nW : Nat} (hn4 : nW ≤ 4) (hnw : h.1 (3, 0, 0) 4 = nI nW) {k l f0 n0 z m : Nat} (hk : k < 4) (hl : l < 3) (hn : n0 ≤ 20) (hf0 : f0 < 2 ^ 31) (hln : h.1 (3, 0, 25) k = nI l) (hsz : h.1 (3, 0, 26) k = nI z) (hz40 : z ≤ 40) (hmn0 : m ≤ n0) (hfit : ∀ i, i < m → f0 + 2 * i + 1 < z) (hstop : m = n0 ∨ ¬ f0 + 2 * m + 1 < z) (hpl : ∀ w, w < nW → ¬ h.1 (3, 0, 1) (18 + 6 * w + 0) < 0) : MS l9 G yX7_read cX7_read 11 (some .int) d [vr (3, 0, 0), vi (nI k), vi (nI l), vi (nI f0), vi (nI n0)] h (fun r h1 => ((∀ j, j < m → rdK h k f0 nC nW j) ∧ r = some (vi (nI m)) ∧ ∃ u, scr (upR h (3, 0, 1) (rdS h k f0 m)) u ∧ h1 = upI u (3, 0, 0) 27 (if m = n0 then 0 else 2)) ∨ ∃ i, i < m ∧ ¬ rdK h k f0 nC nW i ∧ (∀ j, j < i → rdK h k f0 nC nW j) ∧ r = some (vi (-20 - nI i)) ∧ scr h h1) := by
  refine MS_of (by decide +kernel) (Nat.le_of_ble_eq_true rfl) (fun X hC hX => ?_)
  show V X G 11 0 _ [] _
  have mainL : ∀ (n i : Nat) (u : HP), i ≤ m → m + 1 ≤ i + n → scr (upR h (3, 0, 1) (rdS h k f0 i)) u → (∀ i9, i9 < 4 → u.1 (3, 0, 29) i9 = h.1 (3, 0, 1) (18 + 6 * i9 + 0)) → (∀ j, j < i → rdK h k f0 nC nW j) → V X G 11 69 [(7, vi (nI i)), (6, vi (nI i)), (5, vi 0), (0, vr (3, 0, 0)), (1, vi (nI k)), (2, vi (nI l)), (3, vi (nI f0)), (4, vi (nI n0))] [] u := by
    intro n
    induction n with
    | zero => intro i u h1 h2; exact absurd h2 (by omega)
    | succ n ih =>
      intro i u h1 h2 ha hhad hok
      by_cases hio : i = n0
      · have e : m = n0 := by omega
        subst hio
        subst e
        refine v_iload hC (pc := 69) 0 rfl dX7_read_69 ?_
        refine v_iload hC (pc := 71) 7 rfl dX7_read_71 ?_
        refine v_icmp_ge hC (pc := 73) (tgt := 264) dX7_read_73 (by decide) (fun c_73 => ?_) (fun c_73 => ?_)
        · skip
          refine v_aload_n hC (pc := 264) (k := 0) 3 rfl dX7_read_264 ?_
          refine v_iload hC (pc := 265) 2 rfl dX7_read_265 ?_
          refine v_putI hC (pc := 267) dX7_read_267 fs_X7_309 rfl (by first | rfl | exact ok_c hq rfl | exact ok_w hq hw | exact ok_w (by omega) (by omega) | exact ok_s (by omega) (by omega) | exact ok_c (by omega) rfl | assumption) rfl (by decide) (by decide) ?_
          refine v_iload hC (pc := 270) 1 rfl dX7_read_270 ?_
          refine v_iret hC hX (pc := 272) dX7_read_272 ?_
          exact Or.inl ⟨hok, rfl, u, ha, by rw [if_pos rfl]⟩
        · exact absurd (Int32.le_refl _) c_73
      · have c0 : V X G 11 84 [(8, vi (nI 0)), (7, vi (nI i)), (6, vi (nI i)), (5, vi 0), (0, vr (3, 0, 0)), (1, vi (nI k)), (2, vi (nI l)), (3, vi (nI f0)), (4, vi (nI n0))] [] u := by
          by_cases him : i < m
          · have hfi := hfit i him
            have put : V X G 11 171 [(7, vi (nI i)), (6, vi (nI i)), (5, vi 0), (0, vr (3, 0, 0)), (1, vi (nI k)), (2, vi (nI l)), (3, vi (nI f0)), (4, vi (nI n0))] [] u := by
              have hi9 := him
              have rl : ∀ (n9 j : Nat) (v : HP) (R : Nat → Int32), j ≤ 4 → 5 ≤ j + n9 → ¬ rdK h k f0 nC nW i → scr (upR h (3, 0, 1) R) v → (∀ w, w < j → R (18 + 6 * w + 0) = h.1 (3, 0, 1) (18 + 6 * w + 0)) → (∀ x, (∀ w, w < 4 → ¬ x = 18 + 6 * w + 0) → R x = h.1 (3, 0, 1) x) → (∀ i9, i9 < 4 → v.1 (3, 0, 29) i9 = h.1 (3, 0, 1) (18 + 6 * i9 + 0)) → V X G 11 215 [(9, vi (nI j)), (8, vi (nI (40 * k + f0 + 2 * i))), (7, vi (nI i)), (6, vi (nI i)), (5, vi 0), (0, vr (3, 0, 0)), (1, vi (nI k)), (2, vi (nI l)), (3, vi (nI f0)), (4, vi (nI n0))] [] v := by
                intro n9
                induction n9 with
                | zero => intro j v R h1 h2; exact absurd h2 (by omega)
                | succ n9 ihr =>
                  intro j v R h1 h2 hk9 hv1 hv2 hv3 hv4
                  refine v_iload hC (pc := 215) 0 rfl dX7_read_215 ?_
                  refine v_iconst hC (pc := 217) (v := 4) (by decide) dX7_read_217 ?_
                  refine v_icmp_ge hC (pc := 218) (tgt := 249) dX7_read_218 (by decide) (fun c_218 => ?_) (fun c_218 => ?_)
                  · skip
                    have hj : j = 4 := lp_ex (N := 4) c_218 h1 (by decide)
                    subst hj
                    refine v_bipush hC (pc := 249) (v := (-20)) (by decide +kernel) dX7_read_249 ?_
                    refine v_iload hC (pc := 251) 2 rfl dX7_read_251 ?_
                    refine v_isub hC (pc := 253) dX7_read_253 ?_
                    refine v_iret hC hX (pc := 254) dX7_read_254 ?_
                    refine Or.inr ⟨i, hi9, hk9, hok, rfl, fun i1 h9 => ?_, hv1.2⟩
                    rw [hv1.1 i1 h9]
                    by_cases z : i1 = (3, 0, 1)
                    · subst z
                      rw [upR_same]
                      funext x
                      by_cases y : ∃ w, w < 4 ∧ x = 18 + 6 * w + 0
                      · obtain ⟨w, y1, rfl⟩ := y
                        exact hv2 w y1
                      · exact hv3 x (fun w y1 y2 => y ⟨w, y1, y2⟩)
                    · rw [upR_ne _ _ z]
                  · skip
                    have hj : j < 4 := lp_in (N := 4) c_218 h1 (by decide)
                    refine v_aload_n hC (pc := 221) (k := 0) 5 rfl dX7_read_221 ?_
                    refine v_getR hC (pc := 222) dX7_read_222 fl_X7_7 rfl (by first | rfl | exact ok_c hq rfl | exact ok_w hq hw | exact ok_w (by omega) (by omega) | exact ok_s (by omega) (by omega) | exact ok_c (by omega) rfl | assumption) rfl (by decide) (by decide) rfl ?_
                    refine v_bipush hC (pc := 225) (v := 18) (by decide +kernel) dX7_read_225 ?_
                    refine v_bipush hC (pc := 227) (v := 6) (by decide +kernel) dX7_read_227 ?_
                    refine v_iload hC (pc := 229) 0 rfl dX7_read_229 ?_
                    refine v_imul hC (pc := 231) dX7_read_231 ?_
                    refine v_iadd hC (pc := 232) dX7_read_232 ?_
                    refine v_iconst hC (pc := 233) (v := 0) (by decide) dX7_read_233 ?_
                    refine v_iadd hC (pc := 234) dX7_read_234 ?_
                    rw [show (18 : Int32) + 6 * nI j + 0 = nI (18 + 6 * j + 0) from by rw [show (18 : Int32) = nI 18 from rfl, show (6 : Int32) = nI 6 from rfl, nL_0, pk_mul, nI_add, nI_add]]
                    refine v_aload_n hC (pc := 235) (k := 0) 5 rfl dX7_read_235 ?_
                    refine v_getR hC (pc := 236) dX7_read_236 fl_X7_54 rfl (by first | rfl | exact ok_c hq rfl | exact ok_w hq hw | exact ok_w (by omega) (by omega) | exact ok_s (by omega) (by omega) | exact ok_c (by omega) rfl | assumption) rfl (by decide) (by decide) rfl ?_
                    refine v_iload hC (pc := 239) 0 rfl dX7_read_239 ?_
                    refine v_iald hC (pc := 241) dX7_read_241 rfl (by first | rfl | exact ok_c hq rfl | exact ok_w hq hw | exact ok_w (by omega) (by omega) | exact ok_s (by omega) (by omega) | exact ok_c (by omega) rfl | assumption) (vp_nat (n := j) (by omega) (by decide)) ?_
                    rw [nI_clamp (show j < 2 ^ 31 by omega)]
                    show V X G 11 242 _ (vi (v.1 (3, 0, 29) j) :: _) _
                    rw [hv4 j hj]
                    refine v_iast hC (pc := 242) dX7_read_242 rfl (by first | rfl | exact ok_c hq rfl | exact ok_w hq hw | exact ok_w (by omega) (by omega) | exact ok_s (by omega) (by omega) | exact ok_c (by omega) rfl | assumption) (vp_nat (n := 18 + 6 * j + 0) (by omega) (by decide)) ?_
                    rw [nI_clamp (show 18 + 6 * j + 0 < 2 ^ 31 by omega)]
                    refine v_iinc hC (pc := 243) (l' := [(9, _), (8, _), (7, _), (6, _), (5, _), (0, _), (1, _), (2, _), (3, _), (4, _)]) 0 (v := nI (j + 1)) dX7_read_243 rfl (nI_inc j) (by decide) rfl ?_
                    refine v_goto hC (pc := 246) (tgt := 215) dX7_read_246 (by decide) ?_
                    refine ihr (j + 1) _ _ (by omega) (by omega) hk9 (scr_I hv1) (fun w hw => ?_) (fun x hx => ?_) (fun i9 hi => ?_)
                    · show (if 18 + 6 * w + 0 = 18 + 6 * j + 0 then _ else R (18 + 6 * w + 0)) = _
                      by_cases z : w = j
                      · rw [if_pos (by rw [z]), z]
                      · rw [if_neg (by omega)]; exact hv2 w (by omega)
                    · show (if x = 18 + 6 * j + 0 then _ else R x) = _
                      rw [if_neg (hx j hj)]; exact hv3 x hx
                    · rw [upI_ne _ _ _ (show ((3, 0, 29) : PId) ≠ (3, 0, 1) by decide)]; exact hv4 i9 hi
              by_cases hk9 : rdK h k f0 nC nW i
              · obtain ⟨w9, hw9, ew⟩ := nat_of hk9.1 (by omega)
                obtain ⟨c9, hc9, ec⟩ := nat_of hk9.2 (by omega)
                refine v_iload hC (pc := 171) 2 rfl dX7_read_171 ?_
                refine v_if_ne hC (pc := 173) (tgt := 258) dX7_read_173 (by decide) (fun c_173 => ?_) (fun c_173 => ?_)
                · exact absurd rfl c_173
                · skip
                  refine v_bipush hC (pc := 176) (v := 40) (by decide +kernel) dX7_read_176 ?_
                  refine v_iload_n hC (pc := 178) (k := 1) 4 rfl dX7_read_178 ?_
                  refine v_imul hC (pc := 179) dX7_read_179 ?_
                  refine v_iload_n hC (pc := 180) (k := 3) 6 rfl dX7_read_180 ?_
                  refine v_iadd hC (pc := 181) dX7_read_181 ?_
                  refine v_iconst hC (pc := 182) (v := 2) (by decide) dX7_read_182 ?_
                  refine v_iload hC (pc := 183) 0 rfl dX7_read_183 ?_
                  refine v_imul hC (pc := 185) dX7_read_185 ?_
                  refine v_iadd hC (pc := 186) dX7_read_186 ?_
                  rw [show (40 : Int32) * nI k + nI f0 + 2 * nI i = nI (40 * k + f0 + 2 * i) from by rw [show (40 : Int32) = nI 40 from rfl, nL_2, pk_mul, pk_mul, nI_add, nI_add]]
                  refine v_istore hC (pc := 187) (l' := [(8, _), (7, _), (6, _), (5, _), (0, _), (1, _), (2, _), (3, _), (4, _)]) dX7_read_187 (by decide) rfl ?_
                  refine v_aload_n hC (pc := 189) (k := 0) 4 rfl dX7_read_189 ?_
                  refine v_aload_n hC (pc := 190) (k := 0) 4 rfl dX7_read_190 ?_
                  refine v_getR hC (pc := 191) dX7_read_191 fl_X7_51 rfl (by first | rfl | exact ok_c hq rfl | exact ok_w hq hw | exact ok_w (by omega) (by omega) | exact ok_s (by omega) (by omega) | exact ok_c (by omega) rfl | assumption) rfl (by decide) (by decide) rfl ?_
                  refine v_iload hC (pc := 194) 0 rfl dX7_read_194 ?_
                  refine v_iald hC (pc := 196) dX7_read_196 rfl (by first | rfl | exact ok_c hq rfl | exact ok_w hq hw | exact ok_w (by omega) (by omega) | exact ok_s (by omega) (by omega) | exact ok_c (by omega) rfl | assumption) (vp_nat (n := 40 * k + f0 + 2 * i) (by omega) (by decide)) ?_
                  rw [nI_clamp (show 40 * k + f0 + 2 * i < 2 ^ 31 by omega)]
                  show V X G 11 197 _ (vi (u.1 (3, 0, 27) (40 * k + f0 + 2 * i)) :: _) _
                  rw [ha.1 _ (by decide), upR_ne _ _ (show ((3, 0, 27) : PId) ≠ (3, 0, 1) by decide)]
                  show V X G 11 197 _ (vi (ceF h k f0 i) :: _) _
                  refine v_aload_n hC (pc := 197) (k := 0) 4 rfl dX7_read_197 ?_
                  refine v_getR hC (pc := 198) dX7_read_198 fl_X7_51 rfl (by first | rfl | exact ok_c hq rfl | exact ok_w hq hw | exact ok_w (by omega) (by omega) | exact ok_s (by omega) (by omega) | exact ok_c (by omega) rfl | assumption) rfl (by decide) (by decide) rfl ?_
                  refine v_iload hC (pc := 201) 0 rfl dX7_read_201 ?_
                  refine v_iconst hC (pc := 203) (v := 1) (by decide) dX7_read_203 ?_
                  refine v_iadd hC (pc := 204) dX7_read_204 ?_
                  rw [nL_1, nI_add]
                  refine v_iald hC (pc := 205) dX7_read_205 rfl (by first | rfl | exact ok_c hq rfl | exact ok_w hq hw | exact ok_w (by omega) (by omega) | exact ok_s (by omega) (by omega) | exact ok_c (by omega) rfl | assumption) (vp_nat (n := 40 * k + f0 + 2 * i + 1) (by omega) (by decide)) ?_
                  rw [nI_clamp (show 40 * k + f0 + 2 * i + 1 < 2 ^ 31 by omega)]
                  show V X G 11 206 _ (vi (u.1 (3, 0, 27) (40 * k + f0 + 2 * i + 1)) :: _) _
                  rw [ha.1 _ (by decide), upR_ne _ _ (show ((3, 0, 27) : PId) ≠ (3, 0, 1) by decide)]
                  show V X G 11 206 _ (vi (ceG h k f0 i) :: _) _
                  rw [ew, ec]
                  refine v_callV hC (pc := 206) (As := [_, _]) dX7_read_206 rfl (m_put_ok _ _ (d := d - 1) (by omega) _ hn8 (by rw [scr_0 ha, upR_ne _ _ (show ((3, 0, 0) : PId) ≠ (3, 0, 1) by decide)]; exact hnc) hn4 (by rw [scr_0 ha, upR_ne _ _ (show ((3, 0, 0) : PId) ≠ (3, 0, 1) by decide)]; exact hnw) hw9 hc9) cv_X7_306 rfl (by decide) rfl (by first | rfl | exact ok_c hq rfl | exact ok_w hq hw | exact ok_w (by omega) (by omega) | exact ok_s (by omega) (by omega) | exact ok_c (by omega) rfl | assumption) (Nat.le_of_ble_eq_true rfl) (by omega) (fun r h' hr => ?_)
                  obtain ⟨rfl, rfl⟩ := hr
                  rw [ha.1 _ (by decide), upR_same]
                  show V _ _ _ (206 + 3) _ (_ :: _) _
                  refine v_if_ge hC (pc := 209) (tgt := 255) dX7_read_209 (by decide) (fun c_209 => ?_) (fun c_209 => ?_)
                  · skip
                    refine v_iinc hC (pc := 255) (l' := [(6, _), (8, _), (7, _), (5, _), (0, _), (1, _), (2, _), (3, _), (4, _)]) 2 (v := nI (i + 1)) dX7_read_255 rfl (nI_inc i) (by decide) rfl ?_
                    refine v_iinc hC (pc := 258) (l' := [(7, _), (6, _), (8, _), (5, _), (0, _), (1, _), (2, _), (3, _), (4, _)]) 2 (v := nI (i + 1)) dX7_read_258 rfl (nI_inc i) (by decide) rfl ?_
                    refine v_goto hC (pc := 261) (tgt := 69) dX7_read_261 (by decide) ?_
                    refine v_loc (l' := [(7, _), (6, _), (5, _), (0, _), (1, _), (2, _), (3, _), (4, _)]) [0, 1, 3, 4, 5, 6, 7, 8] rfl ?_
                    refine ih (i + 1) _ (by omega) (by omega) ?_ (fun j hj => ?_) (fun j hj => ?_)
                    · have y := scr_I (k := 18 + 6 * w9 + 0) (x := nI c9) ha
                      rw [show upd (rdS h k f0 i) (18 + 6 * w9 + 0) (nI c9) = rdS h k f0 (i + 1) from by show _ = upd (rdS h k f0 i) (18 + 6 * (ceF h k f0 i).toNatClampNeg + 0) (ceG h k f0 i); rw [ew, ec, nI_clamp (show w9 < 2 ^ 31 by omega)]] at y
                      exact y
                    · rw [upI_ne _ _ _ (show ((3, 0, 29) : PId) ≠ (3, 0, 1) by decide)]
                      exact hhad j hj
                    · rcases (show j < i ∨ j = i by omega) with q | rfl
                      · exact hok j q
                      · exact hk9
                  · exact absurd (Int32.not_lt.mp (rdS_pl hn4 hpl i hok w9 hw9)) c_209
              · skip
                refine v_iload hC (pc := 171) 2 rfl dX7_read_171 ?_
                refine v_if_ne hC (pc := 173) (tgt := 258) dX7_read_173 (by decide) (fun c_173 => ?_) (fun c_173 => ?_)
                · exact absurd rfl c_173
                · skip
                  refine v_bipush hC (pc := 176) (v := 40) (by decide +kernel) dX7_read_176 ?_
                  refine v_iload_n hC (pc := 178) (k := 1) 4 rfl dX7_read_178 ?_
                  refine v_imul hC (pc := 179) dX7_read_179 ?_
                  refine v_iload_n hC (pc := 180) (k := 3) 6 rfl dX7_read_180 ?_
                  refine v_iadd hC (pc := 181) dX7_read_181 ?_
                  refine v_iconst hC (pc := 182) (v := 2) (by decide) dX7_read_182 ?_
                  refine v_iload hC (pc := 183) 0 rfl dX7_read_183 ?_
                  refine v_imul hC (pc := 185) dX7_read_185 ?_
                  refine v_iadd hC (pc := 186) dX7_read_186 ?_
                  rw [show (40 : Int32) * nI k + nI f0 + 2 * nI i = nI (40 * k + f0 + 2 * i) from by rw [show (40 : Int32) = nI 40 from rfl, nL_2, pk_mul, pk_mul, nI_add, nI_add]]
                  refine v_istore hC (pc := 187) (l' := [(8, _), (7, _), (6, _), (5, _), (0, _), (1, _), (2, _), (3, _), (4, _)]) dX7_read_187 (by decide) rfl ?_
                  refine v_aload_n hC (pc := 189) (k := 0) 4 rfl dX7_read_189 ?_
                  refine v_aload_n hC (pc := 190) (k := 0) 4 rfl dX7_read_190 ?_
                  refine v_getR hC (pc := 191) dX7_read_191 fl_X7_51 rfl (by first | rfl | exact ok_c hq rfl | exact ok_w hq hw | exact ok_w (by omega) (by omega) | exact ok_s (by omega) (by omega) | exact ok_c (by omega) rfl | assumption) rfl (by decide) (by decide) rfl ?_
                  refine v_iload hC (pc := 194) 0 rfl dX7_read_194 ?_
                  refine v_iald hC (pc := 196) dX7_read_196 rfl (by first | rfl | exact ok_c hq rfl | exact ok_w hq hw | exact ok_w (by omega) (by omega) | exact ok_s (by omega) (by omega) | exact ok_c (by omega) rfl | assumption) (vp_nat (n := 40 * k + f0 + 2 * i) (by omega) (by decide)) ?_
                  rw [nI_clamp (show 40 * k + f0 + 2 * i < 2 ^ 31 by omega)]
                  show V X G 11 197 _ (vi (u.1 (3, 0, 27) (40 * k + f0 + 2 * i)) :: _) _
                  rw [ha.1 _ (by decide), upR_ne _ _ (show ((3, 0, 27) : PId) ≠ (3, 0, 1) by decide)]
                  show V X G 11 197 _ (vi (ceF h k f0 i) :: _) _
                  refine v_aload_n hC (pc := 197) (k := 0) 4 rfl dX7_read_197 ?_
                  refine v_getR hC (pc := 198) dX7_read_198 fl_X7_51 rfl (by first | rfl | exact ok_c hq rfl | exact ok_w hq hw | exact ok_w (by omega) (by omega) | exact ok_s (by omega) (by omega) | exact ok_c (by omega) rfl | assumption) rfl (by decide) (by decide) rfl ?_
                  refine v_iload hC (pc := 201) 0 rfl dX7_read_201 ?_
                  refine v_iconst hC (pc := 203) (v := 1) (by decide) dX7_read_203 ?_
                  refine v_iadd hC (pc := 204) dX7_read_204 ?_
                  rw [nL_1, nI_add]
                  refine v_iald hC (pc := 205) dX7_read_205 rfl (by first | rfl | exact ok_c hq rfl | exact ok_w hq hw | exact ok_w (by omega) (by omega) | exact ok_s (by omega) (by omega) | exact ok_c (by omega) rfl | assumption) (vp_nat (n := 40 * k + f0 + 2 * i + 1) (by omega) (by decide)) ?_
                  rw [nI_clamp (show 40 * k + f0 + 2 * i + 1 < 2 ^ 31 by omega)]
                  show V X G 11 206 _ (vi (u.1 (3, 0, 27) (40 * k + f0 + 2 * i + 1)) :: _) _
                  rw [ha.1 _ (by decide), upR_ne _ _ (show ((3, 0, 27) : PId) ≠ (3, 0, 1) by decide)]
                  show V X G 11 206 _ (vi (ceG h k f0 i) :: _) _
                  refine v_callV hC (pc := 206) (As := [_, _]) dX7_read_206 rfl (m_put_bad _ _ (d := d - 1) (by omega) _ hn8 (by rw [scr_0 ha, upR_ne _ _ (show ((3, 0, 0) : PId) ≠ (3, 0, 1) by decide)]; exact hnc) hn4 (by rw [scr_0 ha, upR_ne _ _ (show ((3, 0, 0) : PId) ≠ (3, 0, 1) by decide)]; exact hnw) _ _ hk9) cv_X7_306 rfl (by decide) rfl (by first | rfl | exact ok_c hq rfl | exact ok_w hq hw | exact ok_w (by omega) (by omega) | exact ok_s (by omega) (by omega) | exact ok_c (by omega) rfl | assumption) (Nat.le_of_ble_eq_true rfl) (by omega) (fun r h' hr => ?_)
                  obtain ⟨he9, rfl⟩ := hr
                  rw [he9]
                  clear he9 h'
                  show V _ _ _ (206 + 3) _ (_ :: _) _
                  refine v_if_ge hC (pc := 209) (tgt := 255) dX7_read_209 (by decide) (fun c_209 => ?_) (fun c_209 => ?_)
                  · exact absurd c_209 (by decide)
                  · skip
                    refine v_iconst hC (pc := 212) (v := 0) (by decide) dX7_read_212 ?_
                    refine v_istore hC (pc := 213) (l' := [(9, _), (8, _), (7, _), (6, _), (5, _), (0, _), (1, _), (2, _), (3, _), (4, _)]) dX7_read_213 (by decide) rfl ?_
                    exact rl 5 0 u _ (by omega) (by omega) hk9 ha (fun j hj => absurd hj (Nat.not_lt_zero _)) (fun x hx => rdS_o hn4 i hok x hx) hhad
            have cl : ∀ (n9 c : Nat), c ≤ 2 → 3 ≤ c + n9 → V X G 11 84 [(8, vi (nI c)), (7, vi (nI i)), (6, vi (nI i)), (5, vi 0), (0, vr (3, 0, 0)), (1, vi (nI k)), (2, vi (nI l)), (3, vi (nI f0)), (4, vi (nI n0))] [] u := by
              intro n9
              induction n9 with
              | zero => intro c h1 h2; exact absurd h2 (by omega)
              | succ n9 ihc =>
                intro c h1 h2
                refine v_iload hC (pc := 84) 0 rfl dX7_read_84 ?_
                refine v_iconst hC (pc := 86) (v := 2) (by decide) dX7_read_86 ?_
                refine v_icmp_ge hC (pc := 87) (tgt := 171) dX7_read_87 (by decide) (fun c_87 => ?_) (fun c_87 => ?_)
                · skip
                  have hc2 : c = 2 := lp_ex (N := 2) c_87 h1 (by decide)
                  refine v_loc (l' := [(7, _), (6, _), (5, _), (0, _), (1, _), (2, _), (3, _), (4, _)]) [1, 2, 3, 4, 5, 6, 7, 8] rfl ?_
                  exact put
                · skip
                  have hc2 : c < 2 := lp_in (N := 2) c_87 h1 (by decide)
                  refine v_iload hC (pc := 90) 3 rfl dX7_read_90 ?_
                  refine v_if_ne hC (pc := 92) (tgt := 171) dX7_read_92 (by decide) (fun c_92 => ?_) (fun c_92 => ?_)
                  · exact absurd rfl c_92
                  · skip
                    refine v_iload_n hC (pc := 95) (k := 3) 7 rfl dX7_read_95 ?_
                    refine v_i2l hC (pc := 96) dX7_read_96 ?_
                    refine v_iconst hC (pc := 97) (v := 2) (by decide) dX7_read_97 ?_
                    refine v_iload hC (pc := 98) 1 rfl dX7_read_98 ?_
                    refine v_imul hC (pc := 100) dX7_read_100 ?_
                    refine v_i2l hC (pc := 101) dX7_read_101 ?_
                    refine v_ladd hC (pc := 102) dX7_read_102 ?_
                    refine v_iload hC (pc := 103) 0 rfl dX7_read_103 ?_
                    refine v_i2l hC (pc := 105) dX7_read_105 ?_
                    refine v_ladd hC (pc := 106) dX7_read_106 ?_
                    rw [nL_2, pk_mul, nI_l (show f0 < 2 ^ 31 by omega), nI_l (show 2 * i < 2 ^ 31 by omega), nI_l (show c < 2 ^ 31 by omega), lN_add, lN_add]
                    refine v_lstore hC (pc := 107) (l' := [(9, _), (8, _), (7, _), (6, _), (5, _), (0, _), (1, _), (2, _), (3, _), (4, _)]) dX7_read_107 (by decide) rfl ?_
                    refine v_aload_n hC (pc := 109) (k := 0) 5 rfl dX7_read_109 ?_
                    refine v_getR hC (pc := 110) dX7_read_110 fl_X7_45 rfl (by first | rfl | exact ok_c hq rfl | exact ok_w hq hw | exact ok_w (by omega) (by omega) | exact ok_s (by omega) (by omega) | exact ok_c (by omega) rfl | assumption) rfl (by decide) (by decide) rfl ?_
                    refine v_iload_n hC (pc := 113) (k := 1) 6 rfl dX7_read_113 ?_
                    refine v_iald hC (pc := 114) dX7_read_114 rfl (by first | rfl | exact ok_c hq rfl | exact ok_w hq hw | exact ok_w (by omega) (by omega) | exact ok_s (by omega) (by omega) | exact ok_c (by omega) rfl | assumption) (vp_nat (n := k) (by omega) (by decide)) ?_
                    rw [nI_clamp (show k < 2 ^ 31 by omega)]
                    show V X G 11 115 _ (vi (u.1 (3, 0, 25) k) :: _) _
                    rw [ha.1 _ (by decide), upR_ne _ _ (show ((3, 0, 25) : PId) ≠ (3, 0, 1) by decide), hln]
                    refine v_bipush hC (pc := 115) (v := (-4)) (by decide +kernel) dX7_read_115 ?_
                    refine v_icmp_ne hC (pc := 117) (tgt := 124) dX7_read_117 (by decide) (fun c_117 => ?_) (fun c_117 => ?_)
                    · skip
                      refine v_aload_n hC (pc := 124) (k := 0) 5 rfl dX7_read_124 ?_
                      refine v_getR hC (pc := 125) dX7_read_125 fl_X7_45 rfl (by first | rfl | exact ok_c hq rfl | exact ok_w hq hw | exact ok_w (by omega) (by omega) | exact ok_s (by omega) (by omega) | exact ok_c (by omega) rfl | assumption) rfl (by decide) (by decide) rfl ?_
                      refine v_iload_n hC (pc := 128) (k := 1) 6 rfl dX7_read_128 ?_
                      refine v_iald hC (pc := 129) dX7_read_129 rfl (by first | rfl | exact ok_c hq rfl | exact ok_w hq hw | exact ok_w (by omega) (by omega) | exact ok_s (by omega) (by omega) | exact ok_c (by omega) rfl | assumption) (vp_nat (n := k) (by omega) (by decide)) ?_
                      rw [nI_clamp (show k < 2 ^ 31 by omega)]
                      show V X G 11 130 _ (vi (u.1 (3, 0, 25) k) :: _) _
                      rw [ha.1 _ (by decide), upR_ne _ _ (show ((3, 0, 25) : PId) ≠ (3, 0, 1) by decide), hln]
                      refine v_iload_n hC (pc := 130) (k := 2) 7 rfl dX7_read_130 ?_
                      refine v_icmp_eq hC (pc := 131) (tgt := 138) dX7_read_131 (by decide) (fun c_131 => ?_) (fun c_131 => ?_)
                      · skip
                        refine v_lload hC (pc := 138) 0 rfl dX7_read_138 ?_
                        refine v_lconst hC (pc := 140) (v := 0) (by decide) dX7_read_140 ?_
                        refine v_lcmp hC (pc := 141) dX7_read_141 ?_
                        refine v_if_lt hC (pc := 142) (tgt := 158) dX7_read_142 (by decide) (fun c_142 => ?_) (fun c_142 => ?_)
                        · exact absurd (lcmp_lt.mp c_142) (fun z => absurd ((pk_lLT (show f0 + 2 * i + c < 2 ^ 63 by omega) (show 0 < 2 ^ 63 by decide)).mp z) (Nat.not_lt_zero _))
                        · skip
                          refine v_lload hC (pc := 145) 0 rfl dX7_read_145 ?_
                          refine v_aload_n hC (pc := 147) (k := 0) 5 rfl dX7_read_147 ?_
                          refine v_getR hC (pc := 148) dX7_read_148 fl_X7_48 rfl (by first | rfl | exact ok_c hq rfl | exact ok_w hq hw | exact ok_w (by omega) (by omega) | exact ok_s (by omega) (by omega) | exact ok_c (by omega) rfl | assumption) rfl (by decide) (by decide) rfl ?_
                          refine v_iload_n hC (pc := 151) (k := 1) 6 rfl dX7_read_151 ?_
                          refine v_iald hC (pc := 152) dX7_read_152 rfl (by first | rfl | exact ok_c hq rfl | exact ok_w hq hw | exact ok_w (by omega) (by omega) | exact ok_s (by omega) (by omega) | exact ok_c (by omega) rfl | assumption) (vp_nat (n := k) (by omega) (by decide)) ?_
                          rw [nI_clamp (show k < 2 ^ 31 by omega)]
                          show V X G 11 153 _ (vi (u.1 (3, 0, 26) k) :: _) _
                          rw [ha.1 _ (by decide), upR_ne _ _ (show ((3, 0, 26) : PId) ≠ (3, 0, 1) by decide), hsz]
                          refine v_i2l hC (pc := 153) dX7_read_153 ?_
                          rw [nI_l (show z < 2 ^ 31 by omega)]
                          refine v_lcmp hC (pc := 154) dX7_read_154 ?_
                          refine v_if_lt hC (pc := 155) (tgt := 162) dX7_read_155 (by decide) (fun c_155 => ?_) (fun c_155 => ?_)
                          · skip
                            refine v_iconst hC (pc := 162) (v := 0) (by decide) dX7_read_162 ?_
                            refine v_istore hC (pc := 163) (l' := [(5, _), (9, _), (8, _), (7, _), (6, _), (0, _), (1, _), (2, _), (3, _), (4, _)]) dX7_read_163 (by decide) rfl ?_
                            refine v_iinc hC (pc := 165) (l' := [(8, _), (5, _), (9, _), (7, _), (6, _), (0, _), (1, _), (2, _), (3, _), (4, _)]) 2 (v := nI (c + 1)) dX7_read_165 rfl (nI_inc c) (by decide) rfl ?_
                            refine v_goto hC (pc := 168) (tgt := 84) dX7_read_168 (by decide) ?_
                            refine v_loc (l' := [(8, _), (7, _), (6, _), (5, _), (0, _), (1, _), (2, _), (3, _), (4, _)]) [0, 3, 4, 1, 5, 6, 7, 8, 9] rfl ?_
                            exact ihc (c + 1) (by omega) (by omega)
                          · exact absurd (lcmp_lt.mpr ((pk_lLT (show f0 + 2 * i + c < 2 ^ 63 by omega) (show z < 2 ^ 63 by omega)).mpr (by omega))) c_155
                      · exact absurd rfl c_131
                    · exact absurd c_117 (nI_n4 (by omega))
            exact cl 3 0 (by omega) (by omega)
          · have hime : i = m := by omega
            have hmn : ¬ m = n0 := fun z => hio (hime.trans z)
            have hst := hstop.resolve_left hmn
            subst hime
            have fin2 : V X G 11 69 [(7, vi (nI (i + 1))), (6, vi (nI i)), (5, vi 2), (0, vr (3, 0, 0)), (1, vi (nI k)), (2, vi (nI l)), (3, vi (nI f0)), (4, vi (nI n0))] [] u := by
              refine v_iload hC (pc := 69) 0 rfl dX7_read_69 ?_
              refine v_iload hC (pc := 71) 7 rfl dX7_read_71 ?_
              refine v_icmp_ge hC (pc := 73) (tgt := 264) dX7_read_73 (by decide) (fun c_73 => ?_) (fun c_73 => ?_)
              · skip
                refine v_aload_n hC (pc := 264) (k := 0) 3 rfl dX7_read_264 ?_
                refine v_iload hC (pc := 265) 2 rfl dX7_read_265 ?_
                refine v_putI hC (pc := 267) dX7_read_267 fs_X7_309 rfl (by first | rfl | exact ok_c hq rfl | exact ok_w hq hw | exact ok_w (by omega) (by omega) | exact ok_s (by omega) (by omega) | exact ok_c (by omega) rfl | assumption) rfl (by decide) (by decide) ?_
                refine v_iload hC (pc := 270) 1 rfl dX7_read_270 ?_
                refine v_iret hC hX (pc := 272) dX7_read_272 ?_
                exact Or.inl ⟨hok, rfl, u, ha, by rw [if_neg hmn]⟩
              · skip
                refine v_iload hC (pc := 76) 2 rfl dX7_read_76 ?_
                refine v_if_ne hC (pc := 78) (tgt := 264) dX7_read_78 (by decide) (fun c_78 => ?_) (fun c_78 => ?_)
                · skip
                  refine v_aload_n hC (pc := 264) (k := 0) 3 rfl dX7_read_264 ?_
                  refine v_iload hC (pc := 265) 2 rfl dX7_read_265 ?_
                  refine v_putI hC (pc := 267) dX7_read_267 fs_X7_309 rfl (by first | rfl | exact ok_c hq rfl | exact ok_w hq hw | exact ok_w (by omega) (by omega) | exact ok_s (by omega) (by omega) | exact ok_c (by omega) rfl | assumption) rfl (by decide) (by decide) ?_
                  refine v_iload hC (pc := 270) 1 rfl dX7_read_270 ?_
                  refine v_iret hC hX (pc := 272) dX7_read_272 ?_
                  exact Or.inl ⟨hok, rfl, u, ha, by rw [if_neg hmn]⟩
                · exact absurd (show (2 : Int32) = 0 from c_78) (by decide)
            have st2 : ∀ c : Nat, V X G 11 84 [(8, vi (nI c)), (7, vi (nI i)), (6, vi (nI i)), (5, vi 2), (0, vr (3, 0, 0)), (1, vi (nI k)), (2, vi (nI l)), (3, vi (nI f0)), (4, vi (nI n0))] [] u := by
              intro c
              refine v_iload hC (pc := 84) 0 rfl dX7_read_84 ?_
              refine v_iconst hC (pc := 86) (v := 2) (by decide) dX7_read_86 ?_
              refine v_icmp_ge hC (pc := 87) (tgt := 171) dX7_read_87 (by decide) (fun c_87 => ?_) (fun c_87 => ?_)
              · skip
                refine v_iload hC (pc := 171) 3 rfl dX7_read_171 ?_
                refine v_if_ne hC (pc := 173) (tgt := 258) dX7_read_173 (by decide) (fun c_173 => ?_) (fun c_173 => ?_)
                · skip
                  refine v_iinc hC (pc := 258) (l' := [(7, _), (8, _), (6, _), (5, _), (0, _), (1, _), (2, _), (3, _), (4, _)]) 1 (v := nI (i + 1)) dX7_read_258 rfl (nI_inc i) (by decide) rfl ?_
                  refine v_goto hC (pc := 261) (tgt := 69) dX7_read_261 (by decide) ?_
                  refine v_loc (l' := [(7, _), (6, _), (5, _), (0, _), (1, _), (2, _), (3, _), (4, _)]) [0, 2, 3, 4, 5, 6, 7, 8] rfl ?_
                  exact fin2
                · exact absurd (show (2 : Int32) = 0 from c_173) (by decide)
              · skip
                refine v_iload hC (pc := 90) 3 rfl dX7_read_90 ?_
                refine v_if_ne hC (pc := 92) (tgt := 171) dX7_read_92 (by decide) (fun c_92 => ?_) (fun c_92 => ?_)
                · skip
                  refine v_iload hC (pc := 171) 3 rfl dX7_read_171 ?_
                  refine v_if_ne hC (pc := 173) (tgt := 258) dX7_read_173 (by decide) (fun c_173 => ?_) (fun c_173 => ?_)
                  · skip
                    refine v_iinc hC (pc := 258) (l' := [(7, _), (8, _), (6, _), (5, _), (0, _), (1, _), (2, _), (3, _), (4, _)]) 1 (v := nI (i + 1)) dX7_read_258 rfl (nI_inc i) (by decide) rfl ?_
                    refine v_goto hC (pc := 261) (tgt := 69) dX7_read_261 (by decide) ?_
                    refine v_loc (l' := [(7, _), (6, _), (5, _), (0, _), (1, _), (2, _), (3, _), (4, _)]) [0, 2, 3, 4, 5, 6, 7, 8] rfl ?_
                    exact fin2
                  · exact absurd (show (2 : Int32) = 0 from c_173) (by decide)
                · exact absurd (show (2 : Int32) = 0 from c_92) (by decide)
            have bd : ∀ c : Nat, c < 2 → (f0 + 2 * i + c < z → V X G 11 84 [(8, vi (nI (c + 1))), (7, vi (nI i)), (6, vi (nI i)), (5, vi 0), (0, vr (3, 0, 0)), (1, vi (nI k)), (2, vi (nI l)), (3, vi (nI f0)), (4, vi (nI n0))] [] u) → V X G 11 84 [(8, vi (nI c)), (7, vi (nI i)), (6, vi (nI i)), (5, vi 0), (0, vr (3, 0, 0)), (1, vi (nI k)), (2, vi (nI l)), (3, vi (nI f0)), (4, vi (nI n0))] [] u := by
              intro c hc2 nx
              refine v_iload hC (pc := 84) 0 rfl dX7_read_84 ?_
              refine v_iconst hC (pc := 86) (v := 2) (by decide) dX7_read_86 ?_
              refine v_icmp_ge hC (pc := 87) (tgt := 171) dX7_read_87 (by decide) (fun c_87 => ?_) (fun c_87 => ?_)
              · exact absurd c_87 (nI_ge (show c < 2 by omega) (by decide))
              · skip
                refine v_iload hC (pc := 90) 3 rfl dX7_read_90 ?_
                refine v_if_ne hC (pc := 92) (tgt := 171) dX7_read_92 (by decide) (fun c_92 => ?_) (fun c_92 => ?_)
                · exact absurd rfl c_92
                · skip
                  refine v_iload_n hC (pc := 95) (k := 3) 7 rfl dX7_read_95 ?_
                  refine v_i2l hC (pc := 96) dX7_read_96 ?_
                  refine v_iconst hC (pc := 97) (v := 2) (by decide) dX7_read_97 ?_
                  refine v_iload hC (pc := 98) 1 rfl dX7_read_98 ?_
                  refine v_imul hC (pc := 100) dX7_read_100 ?_
                  refine v_i2l hC (pc := 101) dX7_read_101 ?_
                  refine v_ladd hC (pc := 102) dX7_read_102 ?_
                  refine v_iload hC (pc := 103) 0 rfl dX7_read_103 ?_
                  refine v_i2l hC (pc := 105) dX7_read_105 ?_
                  refine v_ladd hC (pc := 106) dX7_read_106 ?_
                  rw [nL_2, pk_mul, nI_l (show f0 < 2 ^ 31 by omega), nI_l (show 2 * i < 2 ^ 31 by omega), nI_l (show c < 2 ^ 31 by omega), lN_add, lN_add]
                  refine v_lstore hC (pc := 107) (l' := [(9, _), (8, _), (7, _), (6, _), (5, _), (0, _), (1, _), (2, _), (3, _), (4, _)]) dX7_read_107 (by decide) rfl ?_
                  refine v_aload_n hC (pc := 109) (k := 0) 5 rfl dX7_read_109 ?_
                  refine v_getR hC (pc := 110) dX7_read_110 fl_X7_45 rfl (by first | rfl | exact ok_c hq rfl | exact ok_w hq hw | exact ok_w (by omega) (by omega) | exact ok_s (by omega) (by omega) | exact ok_c (by omega) rfl | assumption) rfl (by decide) (by decide) rfl ?_
                  refine v_iload_n hC (pc := 113) (k := 1) 6 rfl dX7_read_113 ?_
                  refine v_iald hC (pc := 114) dX7_read_114 rfl (by first | rfl | exact ok_c hq rfl | exact ok_w hq hw | exact ok_w (by omega) (by omega) | exact ok_s (by omega) (by omega) | exact ok_c (by omega) rfl | assumption) (vp_nat (n := k) (by omega) (by decide)) ?_
                  rw [nI_clamp (show k < 2 ^ 31 by omega)]
                  show V X G 11 115 _ (vi (u.1 (3, 0, 25) k) :: _) _
                  rw [ha.1 _ (by decide), upR_ne _ _ (show ((3, 0, 25) : PId) ≠ (3, 0, 1) by decide), hln]
                  refine v_bipush hC (pc := 115) (v := (-4)) (by decide +kernel) dX7_read_115 ?_
                  refine v_icmp_ne hC (pc := 117) (tgt := 124) dX7_read_117 (by decide) (fun c_117 => ?_) (fun c_117 => ?_)
                  · skip
                    refine v_aload_n hC (pc := 124) (k := 0) 5 rfl dX7_read_124 ?_
                    refine v_getR hC (pc := 125) dX7_read_125 fl_X7_45 rfl (by first | rfl | exact ok_c hq rfl | exact ok_w hq hw | exact ok_w (by omega) (by omega) | exact ok_s (by omega) (by omega) | exact ok_c (by omega) rfl | assumption) rfl (by decide) (by decide) rfl ?_
                    refine v_iload_n hC (pc := 128) (k := 1) 6 rfl dX7_read_128 ?_
                    refine v_iald hC (pc := 129) dX7_read_129 rfl (by first | rfl | exact ok_c hq rfl | exact ok_w hq hw | exact ok_w (by omega) (by omega) | exact ok_s (by omega) (by omega) | exact ok_c (by omega) rfl | assumption) (vp_nat (n := k) (by omega) (by decide)) ?_
                    rw [nI_clamp (show k < 2 ^ 31 by omega)]
                    show V X G 11 130 _ (vi (u.1 (3, 0, 25) k) :: _) _
                    rw [ha.1 _ (by decide), upR_ne _ _ (show ((3, 0, 25) : PId) ≠ (3, 0, 1) by decide), hln]
                    refine v_iload_n hC (pc := 130) (k := 2) 7 rfl dX7_read_130 ?_
                    refine v_icmp_eq hC (pc := 131) (tgt := 138) dX7_read_131 (by decide) (fun c_131 => ?_) (fun c_131 => ?_)
                    · skip
                      refine v_lload hC (pc := 138) 0 rfl dX7_read_138 ?_
                      refine v_lconst hC (pc := 140) (v := 0) (by decide) dX7_read_140 ?_
                      refine v_lcmp hC (pc := 141) dX7_read_141 ?_
                      refine v_if_lt hC (pc := 142) (tgt := 158) dX7_read_142 (by decide) (fun c_142 => ?_) (fun c_142 => ?_)
                      · exact absurd (lcmp_lt.mp c_142) (fun z => absurd ((pk_lLT (show f0 + 2 * i + c < 2 ^ 63 by omega) (show 0 < 2 ^ 63 by decide)).mp z) (Nat.not_lt_zero _))
                      · skip
                        refine v_lload hC (pc := 145) 0 rfl dX7_read_145 ?_
                        refine v_aload_n hC (pc := 147) (k := 0) 5 rfl dX7_read_147 ?_
                        refine v_getR hC (pc := 148) dX7_read_148 fl_X7_48 rfl (by first | rfl | exact ok_c hq rfl | exact ok_w hq hw | exact ok_w (by omega) (by omega) | exact ok_s (by omega) (by omega) | exact ok_c (by omega) rfl | assumption) rfl (by decide) (by decide) rfl ?_
                        refine v_iload_n hC (pc := 151) (k := 1) 6 rfl dX7_read_151 ?_
                        refine v_iald hC (pc := 152) dX7_read_152 rfl (by first | rfl | exact ok_c hq rfl | exact ok_w hq hw | exact ok_w (by omega) (by omega) | exact ok_s (by omega) (by omega) | exact ok_c (by omega) rfl | assumption) (vp_nat (n := k) (by omega) (by decide)) ?_
                        rw [nI_clamp (show k < 2 ^ 31 by omega)]
                        show V X G 11 153 _ (vi (u.1 (3, 0, 26) k) :: _) _
                        rw [ha.1 _ (by decide), upR_ne _ _ (show ((3, 0, 26) : PId) ≠ (3, 0, 1) by decide), hsz]
                        refine v_i2l hC (pc := 153) dX7_read_153 ?_
                        rw [nI_l (show z < 2 ^ 31 by omega)]
                        refine v_lcmp hC (pc := 154) dX7_read_154 ?_
                        refine v_if_lt hC (pc := 155) (tgt := 162) dX7_read_155 (by decide) (fun c_155 => ?_) (fun c_155 => ?_)
                        · skip
                          refine v_iconst hC (pc := 162) (v := 0) (by decide) dX7_read_162 ?_
                          refine v_istore hC (pc := 163) (l' := [(5, _), (9, _), (8, _), (7, _), (6, _), (0, _), (1, _), (2, _), (3, _), (4, _)]) dX7_read_163 (by decide) rfl ?_
                          refine v_iinc hC (pc := 165) (l' := [(8, _), (5, _), (9, _), (7, _), (6, _), (0, _), (1, _), (2, _), (3, _), (4, _)]) 2 (v := nI (c + 1)) dX7_read_165 rfl (nI_inc c) (by decide) rfl ?_
                          refine v_goto hC (pc := 168) (tgt := 84) dX7_read_168 (by decide) ?_
                          refine v_loc (l' := [(8, _), (7, _), (6, _), (5, _), (0, _), (1, _), (2, _), (3, _), (4, _)]) [0, 3, 4, 1, 5, 6, 7, 8, 9] rfl ?_
                          first | exact st2 (c + 1) | exact nx (by
                            have := (pk_lLT (show f0 + 2 * i + c < 2 ^ 63 by omega) (show z < 2 ^ 63 by omega)).mp (lcmp_lt.mp c_155)
                            omega)
                        · skip
                          refine v_iconst hC (pc := 158) (v := 2) (by decide) dX7_read_158 ?_
                          refine v_goto hC (pc := 159) (tgt := 163) dX7_read_159 (by decide) ?_
                          refine v_istore hC (pc := 163) (l' := [(5, _), (9, _), (8, _), (7, _), (6, _), (0, _), (1, _), (2, _), (3, _), (4, _)]) dX7_read_163 (by decide) rfl ?_
                          refine v_iinc hC (pc := 165) (l' := [(8, _), (5, _), (9, _), (7, _), (6, _), (0, _), (1, _), (2, _), (3, _), (4, _)]) 2 (v := nI (c + 1)) dX7_read_165 rfl (nI_inc c) (by decide) rfl ?_
                          refine v_goto hC (pc := 168) (tgt := 84) dX7_read_168 (by decide) ?_
                          refine v_loc (l' := [(8, _), (7, _), (6, _), (5, _), (0, _), (1, _), (2, _), (3, _), (4, _)]) [0, 3, 4, 1, 5, 6, 7, 8, 9] rfl ?_
                          first | exact st2 (c + 1) | exact nx (by
                            have := (pk_lLT (show f0 + 2 * i + c < 2 ^ 63 by omega) (show z < 2 ^ 63 by omega)).mp (lcmp_lt.mp c_155)
                            omega)
                    · exact absurd rfl c_131
                  · exact absurd c_117 (nI_n4 (by omega))
            exact bd 0 (by decide) (fun _ => bd 1 (by decide) (fun y => absurd y (by omega)))
        refine v_iload hC (pc := 69) 0 rfl dX7_read_69 ?_
        refine v_iload hC (pc := 71) 7 rfl dX7_read_71 ?_
        refine v_icmp_ge hC (pc := 73) (tgt := 264) dX7_read_73 (by decide) (fun c_73 => ?_) (fun c_73 => ?_)
        · exact absurd c_73 (nI_ge (show i < n0 by omega) (by omega))
        · skip
          refine v_iload hC (pc := 76) 2 rfl dX7_read_76 ?_
          refine v_if_ne hC (pc := 78) (tgt := 264) dX7_read_78 (by decide) (fun c_78 => ?_) (fun c_78 => ?_)
          · exact absurd rfl c_78
          · skip
            refine v_iconst hC (pc := 81) (v := 0) (by decide) dX7_read_81 ?_
            refine v_istore hC (pc := 82) (l' := [(8, _), (7, _), (6, _), (5, _), (0, _), (1, _), (2, _), (3, _), (4, _)]) dX7_read_82 (by decide) rfl ?_
            exact c0
  have loop : ∀ (n j : Nat) (u : HP), j ≤ 4 → 5 ≤ j + n → scr h u → (∀ i9, i9 < j → u.1 (3, 0, 29) i9 = h.1 (3, 0, 1) (18 + 6 * i9 + 0)) → V X G 11 26 [(5, vi (nI j)), (0, vr (3, 0, 0)), (1, vi (nI k)), (2, vi (nI l)), (3, vi (nI f0)), (4, vi (nI n0))] [] u := by
    intro n
    induction n with
    | zero => intro j u h1 h2; exact absurd h2 (by omega)
    | succ n ih =>
      intro j u h1 h2 ha hhad
      refine v_iload hC (pc := 26) 0 rfl dX7_read_26 ?_
      refine v_iconst hC (pc := 28) (v := 4) (by decide) dX7_read_28 ?_
      refine v_icmp_ge hC (pc := 29) (tgt := 60) dX7_read_29 (by decide) (fun c_29 => ?_) (fun c_29 => ?_)
      · skip
        have hj : j = 4 := lp_ex (N := 4) c_29 h1 (by decide)
        subst hj
        refine v_iconst hC (pc := 60) (v := 0) (by decide) dX7_read_60 ?_
        refine v_istore hC (pc := 61) (l' := [(5, _), (0, _), (1, _), (2, _), (3, _), (4, _)]) dX7_read_61 (by decide) rfl ?_
        refine v_iconst hC (pc := 63) (v := 0) (by decide) dX7_read_63 ?_
        refine v_istore hC (pc := 64) (l' := [(6, _), (5, _), (0, _), (1, _), (2, _), (3, _), (4, _)]) dX7_read_64 (by decide) rfl ?_
        refine v_iconst hC (pc := 66) (v := 0) (by decide) dX7_read_66 ?_
        refine v_istore hC (pc := 67) (l' := [(7, _), (6, _), (5, _), (0, _), (1, _), (2, _), (3, _), (4, _)]) dX7_read_67 (by decide) rfl ?_
        exact mainL (m + 1) 0 u (by omega) (by omega) (by rw [show rdS h k f0 0 = h.1 (3, 0, 1) from rfl, upR_id]; exact ha) hhad (fun j hj => absurd hj (Nat.not_lt_zero _))
      · skip
        have hj : j < 4 := lp_in (N := 4) c_29 h1 (by decide)
        refine v_aload_n hC (pc := 32) (k := 0) 1 rfl dX7_read_32 ?_
        refine v_getR hC (pc := 33) dX7_read_33 fl_X7_54 rfl (by first | rfl | exact ok_c hq rfl | exact ok_w hq hw | exact ok_w (by omega) (by omega) | exact ok_s (by omega) (by omega) | exact ok_c (by omega) rfl | assumption) rfl (by decide) (by decide) rfl ?_
        refine v_iload hC (pc := 36) 0 rfl dX7_read_36 ?_
        refine v_aload_n hC (pc := 38) (k := 0) 1 rfl dX7_read_38 ?_
        refine v_getR hC (pc := 39) dX7_read_39 fl_X7_7 rfl (by first | rfl | exact ok_c hq rfl | exact ok_w hq hw | exact ok_w (by omega) (by omega) | exact ok_s (by omega) (by omega) | exact ok_c (by omega) rfl | assumption) rfl (by decide) (by decide) rfl ?_
        refine v_bipush hC (pc := 42) (v := 18) (by decide +kernel) dX7_read_42 ?_
        refine v_bipush hC (pc := 44) (v := 6) (by decide +kernel) dX7_read_44 ?_
        refine v_iload hC (pc := 46) 0 rfl dX7_read_46 ?_
        refine v_imul hC (pc := 48) dX7_read_48 ?_
        refine v_iadd hC (pc := 49) dX7_read_49 ?_
        refine v_iconst hC (pc := 50) (v := 0) (by decide) dX7_read_50 ?_
        refine v_iadd hC (pc := 51) dX7_read_51 ?_
        rw [show (18 : Int32) = nI 18 from rfl, show (6 : Int32) = nI 6 from rfl, nL_0, pk_mul, nI_add, nI_add]
        refine v_iald hC (pc := 52) dX7_read_52 rfl (by first | rfl | exact ok_c hq rfl | exact ok_w hq hw | exact ok_w (by omega) (by omega) | exact ok_s (by omega) (by omega) | exact ok_c (by omega) rfl | assumption) (vp_nat (n := 18 + 6 * j + 0) (by omega) (by decide)) ?_
        rw [nI_clamp (show 18 + 6 * j + 0 < 2 ^ 31 by omega)]
        show V X G 11 53 _ (vi (u.1 (3, 0, 1) (18 + 6 * j + 0)) :: _) _
        rw [scr_1 ha]
        refine v_iast hC (pc := 53) dX7_read_53 rfl (by first | rfl | exact ok_c hq rfl | exact ok_w hq hw | exact ok_w (by omega) (by omega) | exact ok_s (by omega) (by omega) | exact ok_c (by omega) rfl | assumption) (vp_nat (n := j) (by omega) (by decide)) ?_
        rw [nI_clamp (show j < 2 ^ 31 by omega)]
        refine v_iinc hC (pc := 54) (l' := [(5, _), (0, _), (1, _), (2, _), (3, _), (4, _)]) 0 (v := nI (j + 1)) dX7_read_54 rfl (nI_inc j) (by decide) rfl ?_
        refine v_goto hC (pc := 57) (tgt := 26) dX7_read_57 (by decide) ?_
        refine ih (j + 1) _ (by omega) (by omega) (scr_upI ha (j := (3, 0, 29)) (by decide) _ _) (fun i hi => ?_)
        rw [upI_same]
        show (if i = j then _ else u.1 (3, 0, 29) i) = _
        by_cases e : i = j
        · rw [if_pos e, e]
        · rw [if_neg e]; exact hhad i (by omega)
  refine v_iload_n hC (pc := 0) (k := 1) 1 rfl dX7_read_0 ?_
  refine v_iload_n hC (pc := 1) (k := 2) 2 rfl dX7_read_1 ?_
  refine v_callS hC (pc := 2) (As := [_, _]) dX7_read_2 rfl (m_isSheet_t _ _ (d := d - 1) (by omega) _ (k := k) (l := l) (by assumption) (by assumption)) cs_X7_301 (Nat.le_of_ble_eq_true rfl) (by omega) (fun r h' hr => ?_)
  obtain ⟨he9, rfl⟩ := hr
  rw [he9]
  clear he9 h'
  show V _ _ _ (2 + 3) _ (_ :: _) _
  refine v_if_eq hC (pc := 5) (tgt := 21) dX7_read_5 (by decide) (fun c_5 => ?_) (fun c_5 => ?_)
  · exact absurd c_5 (by decide)
  · skip
    refine v_iload hC (pc := 8) 4 rfl dX7_read_8 ?_
    refine v_i2l hC (pc := 10) dX7_read_10 ?_
    refine v_lconst hC (pc := 11) (v := 0) (by decide) dX7_read_11 ?_
    refine v_ldc2 hC (pc := 12) k_X7_304 dX7_read_12 ?_
    refine v_callS hC (pc := 15) (As := [_, _, _]) dX7_read_15 rfl (m_in_t _ _ (d := d - 1) (by omega) _ (nI n0) 0 20 ⟨nI_pos (by omega), nI_nlt hn (by decide)⟩) cs_X7_84 (Nat.le_of_ble_eq_true rfl) (by omega) (fun r h' hr => ?_)
    obtain ⟨he9, rfl⟩ := hr
    rw [he9]
    clear he9 h'
    show V _ _ _ (15 + 3) _ (_ :: _) _
    refine v_if_ne hC (pc := 18) (tgt := 23) dX7_read_18 (by decide) (fun c_18 => ?_) (fun c_18 => ?_)
    · skip
      refine v_iconst hC (pc := 23) (v := 0) (by decide) dX7_read_23 ?_
      refine v_istore hC (pc := 24) (l' := [(5, _), (0, _), (1, _), (2, _), (3, _), (4, _)]) dX7_read_24 (by decide) rfl ?_
      exact loop 5 0 h (by omega) (by omega) (scr_r h) (fun i hi => absurd hi (Nat.not_lt_zero _))
    · exact absurd c_18 (by decide)

