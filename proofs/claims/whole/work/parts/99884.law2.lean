/-! THE LAW: its rows, its cases -/
def SX (X : CT) (G : WT) (L : Nat) (xs : Nat → Int32) : Prop :=
  match X with
  | (_, _, _, _, s, _, _, _, _, _, _, _, A, _) => va_X (G.1 (5, 0, 0)) L xs s s.heap ∧ G.1 (5, 0, 0) < s.heap.size ∧ ¬ A (G.1 (5, 0, 0))
abbrev loc (i : Nat) : List (Nat × PV) := [(3, vi (nI i)), (2, vr (3, 0, 0)), (1, vr (1, 0, 0)), (0, vr (5, 0, 0))]
section LAW
variable {X : CT} {G : WT} {l9 : Launch} {L : Nat} {xs : Nat → Int32} {h : HP} {rest : List PV} {pc i : Nat}
theorem v_sld {l : List (Nat × PV)} (hC : Cx X G l9 RL code 4 11) (hX : SX X G L xs) {k : Nat} (hk : k < L) (hL : L ≤ 2560) (hd : decode code pc = .ok (.iaload, 1)) (kk : V X G 4 (pc + 1) l (vi (xs k) :: rest) h) : V X G 4 pc l (vi (nI k) :: vr (5, 0, 0) :: rest) h := by
  obtain ⟨p, l0, e, RR, s, m, args, below, meth, c, cl, sl, A, Q⟩ := X
  intro ls H locs hl hP hS
  have e1 : (nI k).toNatClampNeg = k := nI_clamp (by omega)
  have k2 := kk ls H locs hl hP hS
  rw [← e1] at k2
  exact va_sld hC.1 hC.2.1 hX.1 hX.2.1 hX.2.2 hS (vp_nat hk (by omega)) hd k2
theorem v_slen {l : List (Nat × PV)} (hC : Cx X G l9 RL code 4 11) (hX : SX X G L xs) (hd : decode code pc = .ok (.arraylength, 1)) (kk : V X G 4 (pc + 1) l (vi (nI L) :: rest) h) : V X G 4 pc l (vr (5, 0, 0) :: rest) h := by
  obtain ⟨p, l0, e, RR, s, m, args, below, meth, c, cl, sl, A, Q⟩ := X
  intro ls H locs hl hP hS
  exact va_slen hC.1 hC.2.1 hX.1 hX.2.1 hX.2.2 hS hd (kk ls H locs hl hP hS)
/-- script[i + k] -/
theorem v_sarg (hC : Cx X G l9 RL code 4 11) (hX : SX X G L xs) {k : Nat} {z : Int} (hz : Int32.ofInt z = nI k) (hik : i + k < L) (hL : L ≤ 2560) (d0 : decode code pc = .ok (.aload_n 0, 1)) (d1 : decode code (pc + 1) = .ok (.iload_n 3, 1)) (d2 : decode code (pc + 2) = .ok (.iconst z, 1)) (d3 : decode code (pc + 3) = .ok (.iadd, 1)) (d4 : decode code (pc + 4) = .ok (.iaload, 1)) (kk : V X G 4 (pc + 5) (loc i) (vi (xs (i + k)) :: rest) h) : V X G 4 pc (loc i) rest h := by
  refine v_aload_n hC (k := 0) 3 rfl d0 ?_
  refine v_iload_n hC (k := 3) 0 rfl d1 ?_
  refine v_iconst hC hz d2 ?_
  refine v_iadd hC d3 ?_
  rw [nI_add]
  exact v_sld hC hX hik hL d4 kk
/-- x != 0 -/
theorem v_bool {l : List (Nat × PV)} (hC : Cx X G l9 RL code 4 11) {x : Int32} (d0 : decode code pc = .ok (.ifCond .eq 7, 3)) (d1 : decode code (pc + 3) = .ok (.iconst 1, 1)) (d2 : decode code (pc + 4) = .ok (.goto 4, 3)) (d3 : decode code (pc + 7) = .ok (.iconst 0, 1)) (kk : V X G 4 (pc + 8) l (vi (bI (¬ x = 0)) :: rest) h) : V X G 4 pc l (vi x :: rest) h := by
  refine v_if_eq hC (tgt := pc + 7) d0 (by omega) (fun z => ?_) (fun z => ?_)
  · rw [bI_f (not_not_intro z)] at kk
    exact v_iconst hC (by decide) d3 kk
  · rw [bI_t z] at kk
    refine v_iconst hC (v := 1) (by decide) d1 ?_
    exact v_goto hC (tgt := pc + 8) d2 (by omega) kk
theorem and63 (x : Int32) : ∃ k, k < 64 ∧ x &&& 63 = nI k := by
  refine ⟨(x.toBitVec &&& 63#32).toNat, ?_, ?_⟩
  · rw [BitVec.toNat_and]
    have h1 := Nat.and_le_right (n := x.toBitVec.toNat) (m := (63#32).toNat)
    have e : (63#32).toNat = 63 := rfl
    omega
  · apply Int32.toBitVec_inj.mp
    rw [Int32.toBitVec_and]
    show _ = (Int32.ofNat _).toBitVec
    rw [Int32.toBitVec_ofNat']
    simp
theorem lw_le {i L : Nat} (hL : L ≤ 2560) (hi : i ≤ L) (h : ¬ nI L - 5 < nI i) : i + 5 ≤ L := by
  by_cases c : 5 ≤ L
  · rw [show (5 : Int32) = nI 5 from rfl, nI_sb c] at h
    have h2 : ¬ L - 5 < i := fun z => h (nI_lt z (by omega))
    omega
  · refine absurd ?_ h
    have h1 : nI L - 5 < 0 := by
      rcases (show L = 0 ∨ L = 1 ∨ L = 2 ∨ L = 3 ∨ L = 4 by omega) with rfl | rfl | rfl | rfl | rfl <;> decide
    have h2 : 0 ≤ nI i := nI_pos' (by omega)
    rw [Int32.lt_iff_toInt_lt] at h1 ⊢
    rw [Int32.le_iff_toInt_le] at h2
    omega
set_option maxRecDepth 20000 in
set_option maxHeartbeats 2000000 in
theorem lc_0 (hC : Cx X G l9 RL code 4 11) (hX : SX X G L xs) (hL : L ≤ 2560) (hi : i + 5 ≤ L) (hI : Inv h) (K : ∀ h2, Inv h2 → V X G 4 1681 (loc i) [] h2) : V X G 4 216 (loc i) [] h := by
  obtain ⟨P, hA9, hB9⟩ := s_feed l9 G (d := 10) (Nat.le_refl _) h hI (xs (i + 1))
  refine v_aload_n hC (pc := 216) (k := 1) 2 rfl dL_law_216 ?_
  refine v_sarg hC hX (pc := 217) (k := 1) (by decide) (by omega) hL dL_law_217 dL_law_218 dL_law_219 dL_law_220 dL_law_221 ?_
  refine v_callV hC (pc := 222) (As := [vi (xs (i + 1))]) (rest := []) dL_law_222 rfl hA9 cv_L_13 rfl (by decide) rfl rfl (Nat.le_of_ble_eq_true rfl) (by decide) (fun r h1 hr => ?_)
  obtain ⟨v, rfl, hv⟩ := hr
  refine v_aload_n hC (pc := 225) (k := 2) 1 rfl dL_law_225 ?_
  refine v_sarg hC hX (pc := 226) (k := 1) (by decide) (by omega) hL dL_law_226 dL_law_227 dL_law_228 dL_law_229 dL_law_230 ?_
  refine v_callV hC (pc := 231) (As := [vi (xs (i + 1))]) (rest := [vi v]) dL_law_231 rfl (hB9 v h1 hv) cv_L_17 rfl (by decide) rfl rfl (Nat.le_of_ble_eq_true rfl) (by decide) (fun r2 h2 hr2 => ?_)
  rw [hr2.1]
  exact v_icmp_eq hC (pc := 234) (tgt := 1681) dL_law_234 (by decide) (fun _ => K h2 hr2.2) (fun z => absurd rfl z)
set_option maxRecDepth 20000 in
set_option maxHeartbeats 2000000 in
theorem lc_1 (hC : Cx X G l9 RL code 4 11) (hX : SX X G L xs) (hL : L ≤ 2560) (hi : i + 5 ≤ L) (hI : Inv h) (K : ∀ h2, Inv h2 → V X G 4 1681 (loc i) [] h2) : V X G 4 239 (loc i) [] h := by
  obtain ⟨P, hA9, hB9⟩ := s_end l9 G (d := 10) (Nat.le_refl _) h hI (xs (i + 1))
  refine v_aload_n hC (pc := 239) (k := 1) 2 rfl dL_law_239 ?_
  refine v_sarg hC hX (pc := 240) (k := 1) (by decide) (by omega) hL dL_law_240 dL_law_241 dL_law_242 dL_law_243 dL_law_244 ?_
  refine v_callV hC (pc := 245) (As := [vi (xs (i + 1))]) (rest := []) dL_law_245 rfl hA9 cv_L_18 rfl (by decide) rfl rfl (Nat.le_of_ble_eq_true rfl) (by decide) (fun r h1 hr => ?_)
  obtain ⟨v, rfl, hv⟩ := hr
  refine v_aload_n hC (pc := 248) (k := 2) 1 rfl dL_law_248 ?_
  refine v_sarg hC hX (pc := 249) (k := 1) (by decide) (by omega) hL dL_law_249 dL_law_250 dL_law_251 dL_law_252 dL_law_253 ?_
  refine v_callV hC (pc := 254) (As := [vi (xs (i + 1))]) (rest := [vi v]) dL_law_254 rfl (hB9 v h1 hv) cv_L_21 rfl (by decide) rfl rfl (Nat.le_of_ble_eq_true rfl) (by decide) (fun r2 h2 hr2 => ?_)
  rw [hr2.1]
  exact v_icmp_eq hC (pc := 257) (tgt := 1681) dL_law_257 (by decide) (fun _ => K h2 hr2.2) (fun z => absurd rfl z)
set_option maxRecDepth 20000 in
set_option maxHeartbeats 2000000 in
theorem lc_2 (hC : Cx X G l9 RL code 4 11) (hX : SX X G L xs) (hL : L ≤ 2560) (hi : i + 5 ≤ L) (hI : Inv h) (K : ∀ h2, Inv h2 → V X G 4 1681 (loc i) [] h2) : V X G 4 262 (loc i) [] h := by
  obtain ⟨P, hA9, hB9⟩ := s_text l9 G (d := 10) (Nat.le_refl _) h hI 
  refine v_aload_n hC (pc := 262) (k := 1) 2 rfl dL_law_262 ?_
  refine v_callV hC (pc := 263) (As := []) (rest := []) dL_law_263 rfl hA9 cv_L_22 rfl (by decide) rfl rfl (Nat.le_of_ble_eq_true rfl) (by decide) (fun r h1 hr => ?_)
  obtain ⟨v, rfl, hv⟩ := hr
  refine v_aload_n hC (pc := 266) (k := 2) 1 rfl dL_law_266 ?_
  refine v_callV hC (pc := 267) (As := []) (rest := [vi v]) dL_law_267 rfl (hB9 v h1 hv) cv_L_26 rfl (by decide) rfl rfl (Nat.le_of_ble_eq_true rfl) (by decide) (fun r2 h2 hr2 => ?_)
  rw [hr2.1]
  exact v_icmp_eq hC (pc := 270) (tgt := 1681) dL_law_270 (by decide) (fun _ => K h2 hr2.2) (fun z => absurd rfl z)
set_option maxRecDepth 20000 in
set_option maxHeartbeats 2000000 in
theorem lc_3 (hC : Cx X G l9 RL code 4 11) (hX : SX X G L xs) (hL : L ≤ 2560) (hi : i + 5 ≤ L) (hI : Inv h) (K : ∀ h2, Inv h2 → V X G 4 1681 (loc i) [] h2) : V X G 4 275 (loc i) [] h := by
  obtain ⟨P, hA9, hB9⟩ := s_fault l9 G (d := 10) (Nat.le_refl _) h hI 
  refine v_aload_n hC (pc := 275) (k := 1) 2 rfl dL_law_275 ?_
  refine v_callV hC (pc := 276) (As := []) (rest := []) dL_law_276 rfl hA9 cv_L_27 rfl (by decide) rfl rfl (Nat.le_of_ble_eq_true rfl) (by decide) (fun r h1 hr => ?_)
  obtain ⟨v, rfl, hv⟩ := hr
  refine v_aload_n hC (pc := 279) (k := 2) 1 rfl dL_law_279 ?_
  refine v_callV hC (pc := 280) (As := []) (rest := [vi v]) dL_law_280 rfl (hB9 v h1 hv) cv_L_30 rfl (by decide) rfl rfl (Nat.le_of_ble_eq_true rfl) (by decide) (fun r2 h2 hr2 => ?_)
  rw [hr2.1]
  exact v_icmp_eq hC (pc := 283) (tgt := 1681) dL_law_283 (by decide) (fun _ => K h2 hr2.2) (fun z => absurd rfl z)
set_option maxRecDepth 20000 in
set_option maxHeartbeats 2000000 in
theorem lc_4 (hC : Cx X G l9 RL code 4 11) (hX : SX X G L xs) (hL : L ≤ 2560) (hi : i + 5 ≤ L) (hI : Inv h) (K : ∀ h2, Inv h2 → V X G 4 1681 (loc i) [] h2) : V X G 4 288 (loc i) [] h := by
  obtain ⟨P, hA9, hB9⟩ := s_rule l9 G (d := 10) (Nat.le_refl _) h hI (xs (i + 1))
  refine v_aload_n hC (pc := 288) (k := 1) 2 rfl dL_law_288 ?_
  refine v_sarg hC hX (pc := 289) (k := 1) (by decide) (by omega) hL dL_law_289 dL_law_290 dL_law_291 dL_law_292 dL_law_293 ?_
  refine v_callV hC (pc := 294) (As := [vi (xs (i + 1))]) (rest := []) dL_law_294 rfl hA9 cv_L_31 rfl (by decide) rfl rfl (Nat.le_of_ble_eq_true rfl) (by decide) (fun r h1 hr => ?_)
  obtain ⟨v, rfl, hv⟩ := hr
  refine v_aload_n hC (pc := 297) (k := 2) 1 rfl dL_law_297 ?_
  refine v_sarg hC hX (pc := 298) (k := 1) (by decide) (by omega) hL dL_law_298 dL_law_299 dL_law_300 dL_law_301 dL_law_302 ?_
  refine v_callV hC (pc := 303) (As := [vi (xs (i + 1))]) (rest := [vi v]) dL_law_303 rfl (hB9 v h1 hv) cv_L_34 rfl (by decide) rfl rfl (Nat.le_of_ble_eq_true rfl) (by decide) (fun r2 h2 hr2 => ?_)
  rw [hr2.1]
  exact v_icmp_eq hC (pc := 306) (tgt := 1681) dL_law_306 (by decide) (fun _ => K h2 hr2.2) (fun z => absurd rfl z)
set_option maxRecDepth 20000 in
set_option maxHeartbeats 2000000 in
theorem lc_5 (hC : Cx X G l9 RL code 4 11) (hX : SX X G L xs) (hL : L ≤ 2560) (hi : i + 5 ≤ L) (hI : Inv h) (K : ∀ h2, Inv h2 → V X G 4 1681 (loc i) [] h2) : V X G 4 311 (loc i) [] h := by
  obtain ⟨P, hA9, hB9⟩ := s_corner l9 G (d := 10) (Nat.le_refl _) h hI (xs (i + 1)) (xs (i + 2))
  refine v_aload_n hC (pc := 311) (k := 1) 2 rfl dL_law_311 ?_
  refine v_sarg hC hX (pc := 312) (k := 1) (by decide) (by omega) hL dL_law_312 dL_law_313 dL_law_314 dL_law_315 dL_law_316 ?_
  refine v_sarg hC hX (pc := 317) (k := 2) (by decide) (by omega) hL dL_law_317 dL_law_318 dL_law_319 dL_law_320 dL_law_321 ?_
  refine v_callV hC (pc := 322) (As := [vi (xs (i + 1)), vi (xs (i + 2))]) (rest := []) dL_law_322 rfl hA9 cv_L_35 rfl (by decide) rfl rfl (Nat.le_of_ble_eq_true rfl) (by decide) (fun r h1 hr => ?_)
  obtain ⟨v, rfl, hv⟩ := hr
  refine v_aload_n hC (pc := 325) (k := 2) 1 rfl dL_law_325 ?_
  refine v_sarg hC hX (pc := 326) (k := 1) (by decide) (by omega) hL dL_law_326 dL_law_327 dL_law_328 dL_law_329 dL_law_330 ?_
  refine v_sarg hC hX (pc := 331) (k := 2) (by decide) (by omega) hL dL_law_331 dL_law_332 dL_law_333 dL_law_334 dL_law_335 ?_
  refine v_callV hC (pc := 336) (As := [vi (xs (i + 1)), vi (xs (i + 2))]) (rest := [vi v]) dL_law_336 rfl (hB9 v h1 hv) cv_L_39 rfl (by decide) rfl rfl (Nat.le_of_ble_eq_true rfl) (by decide) (fun r2 h2 hr2 => ?_)
  rw [hr2.1]
  exact v_icmp_eq hC (pc := 339) (tgt := 1681) dL_law_339 (by decide) (fun _ => K h2 hr2.2) (fun z => absurd rfl z)
set_option maxRecDepth 20000 in
set_option maxHeartbeats 2000000 in
theorem lc_6 (hC : Cx X G l9 RL code 4 11) (hX : SX X G L xs) (hL : L ≤ 2560) (hi : i + 5 ≤ L) (hI : Inv h) (K : ∀ h2, Inv h2 → V X G 4 1681 (loc i) [] h2) : V X G 4 344 (loc i) [] h := by
  obtain ⟨P, hA9, hB9⟩ := s_walker l9 G (d := 10) (Nat.le_refl _) h hI (xs (i + 1)) (xs (i + 2))
  refine v_aload_n hC (pc := 344) (k := 1) 2 rfl dL_law_344 ?_
  refine v_sarg hC hX (pc := 345) (k := 1) (by decide) (by omega) hL dL_law_345 dL_law_346 dL_law_347 dL_law_348 dL_law_349 ?_
  refine v_sarg hC hX (pc := 350) (k := 2) (by decide) (by omega) hL dL_law_350 dL_law_351 dL_law_352 dL_law_353 dL_law_354 ?_
  refine v_callV hC (pc := 355) (As := [vi (xs (i + 1)), vi (xs (i + 2))]) (rest := []) dL_law_355 rfl hA9 cv_L_40 rfl (by decide) rfl rfl (Nat.le_of_ble_eq_true rfl) (by decide) (fun r h1 hr => ?_)
  obtain ⟨v, rfl, hv⟩ := hr
  refine v_aload_n hC (pc := 358) (k := 2) 1 rfl dL_law_358 ?_
  refine v_sarg hC hX (pc := 359) (k := 1) (by decide) (by omega) hL dL_law_359 dL_law_360 dL_law_361 dL_law_362 dL_law_363 ?_
  refine v_sarg hC hX (pc := 364) (k := 2) (by decide) (by omega) hL dL_law_364 dL_law_365 dL_law_366 dL_law_367 dL_law_368 ?_
  refine v_callV hC (pc := 369) (As := [vi (xs (i + 1)), vi (xs (i + 2))]) (rest := [vi v]) dL_law_369 rfl (hB9 v h1 hv) cv_L_43 rfl (by decide) rfl rfl (Nat.le_of_ble_eq_true rfl) (by decide) (fun r2 h2 hr2 => ?_)
  rw [hr2.1]
  exact v_icmp_eq hC (pc := 372) (tgt := 1681) dL_law_372 (by decide) (fun _ => K h2 hr2.2) (fun z => absurd rfl z)
set_option maxRecDepth 20000 in
set_option maxHeartbeats 2000000 in
theorem lc_7 (hC : Cx X G l9 RL code 4 11) (hX : SX X G L xs) (hL : L ≤ 2560) (hi : i + 5 ≤ L) (hI : Inv h) (K : ∀ h2, Inv h2 → V X G 4 1681 (loc i) [] h2) : V X G 4 377 (loc i) [] h := by
  obtain ⟨P, hA9, hB9⟩ := s_letter l9 G (d := 10) (Nat.le_refl _) h hI (xs (i + 1)) (xs (i + 2))
  refine v_aload_n hC (pc := 377) (k := 1) 2 rfl dL_law_377 ?_
  refine v_sarg hC hX (pc := 378) (k := 1) (by decide) (by omega) hL dL_law_378 dL_law_379 dL_law_380 dL_law_381 dL_law_382 ?_
  refine v_sarg hC hX (pc := 383) (k := 2) (by decide) (by omega) hL dL_law_383 dL_law_384 dL_law_385 dL_law_386 dL_law_387 ?_
  refine v_callV hC (pc := 388) (As := [vi (xs (i + 1)), vi (xs (i + 2))]) (rest := []) dL_law_388 rfl hA9 cv_L_44 rfl (by decide) rfl rfl (Nat.le_of_ble_eq_true rfl) (by decide) (fun r h1 hr => ?_)
  obtain ⟨v, rfl, hv⟩ := hr
  refine v_aload_n hC (pc := 391) (k := 2) 1 rfl dL_law_391 ?_
  refine v_sarg hC hX (pc := 392) (k := 1) (by decide) (by omega) hL dL_law_392 dL_law_393 dL_law_394 dL_law_395 dL_law_396 ?_
  refine v_sarg hC hX (pc := 397) (k := 2) (by decide) (by omega) hL dL_law_397 dL_law_398 dL_law_399 dL_law_400 dL_law_401 ?_
  refine v_callV hC (pc := 402) (As := [vi (xs (i + 1)), vi (xs (i + 2))]) (rest := [vi v]) dL_law_402 rfl (hB9 v h1 hv) cv_L_47 rfl (by decide) rfl rfl (Nat.le_of_ble_eq_true rfl) (by decide) (fun r2 h2 hr2 => ?_)
  rw [hr2.1]
  exact v_icmp_eq hC (pc := 405) (tgt := 1681) dL_law_405 (by decide) (fun _ => K h2 hr2.2) (fun z => absurd rfl z)
set_option maxRecDepth 20000 in
set_option maxHeartbeats 2000000 in
theorem lc_8 (hC : Cx X G l9 RL code 4 11) (hX : SX X G L xs) (hL : L ≤ 2560) (hi : i + 5 ≤ L) (hI : Inv h) (K : ∀ h2, Inv h2 → V X G 4 1681 (loc i) [] h2) : V X G 4 410 (loc i) [] h := by
  obtain ⟨P, hA9, hB9⟩ := s_gloves l9 G (d := 10) (Nat.le_refl _) h hI (xs (i + 1))
  refine v_aload_n hC (pc := 410) (k := 1) 2 rfl dL_law_410 ?_
  refine v_sarg hC hX (pc := 411) (k := 1) (by decide) (by omega) hL dL_law_411 dL_law_412 dL_law_413 dL_law_414 dL_law_415 ?_
  refine v_callV hC (pc := 416) (As := [vi (xs (i + 1))]) (rest := []) dL_law_416 rfl hA9 cv_L_48 rfl (by decide) rfl rfl (Nat.le_of_ble_eq_true rfl) (by decide) (fun r h1 hr => ?_)
  obtain ⟨v, rfl, hv⟩ := hr
  refine v_aload_n hC (pc := 419) (k := 2) 1 rfl dL_law_419 ?_
  refine v_sarg hC hX (pc := 420) (k := 1) (by decide) (by omega) hL dL_law_420 dL_law_421 dL_law_422 dL_law_423 dL_law_424 ?_
  refine v_callV hC (pc := 425) (As := [vi (xs (i + 1))]) (rest := [vi v]) dL_law_425 rfl (hB9 v h1 hv) cv_L_51 rfl (by decide) rfl rfl (Nat.le_of_ble_eq_true rfl) (by decide) (fun r2 h2 hr2 => ?_)
  rw [hr2.1]
  exact v_icmp_eq hC (pc := 428) (tgt := 1681) dL_law_428 (by decide) (fun _ => K h2 hr2.2) (fun z => absurd rfl z)
set_option maxRecDepth 20000 in
set_option maxHeartbeats 2000000 in
theorem lc_9 (hC : Cx X G l9 RL code 4 11) (hX : SX X G L xs) (hL : L ≤ 2560) (hi : i + 5 ≤ L) (hI : Inv h) (K : ∀ h2, Inv h2 → V X G 4 1681 (loc i) [] h2) : V X G 4 433 (loc i) [] h := by
  obtain ⟨P, hA9, hB9⟩ := s_leads l9 G (d := 10) (Nat.le_refl _) h hI (xs (i + 1)) (xs (i + 2)) (xs (i + 3))
  refine v_aload_n hC (pc := 433) (k := 1) 2 rfl dL_law_433 ?_
  refine v_sarg hC hX (pc := 434) (k := 1) (by decide) (by omega) hL dL_law_434 dL_law_435 dL_law_436 dL_law_437 dL_law_438 ?_
  refine v_sarg hC hX (pc := 439) (k := 2) (by decide) (by omega) hL dL_law_439 dL_law_440 dL_law_441 dL_law_442 dL_law_443 ?_
  refine v_sarg hC hX (pc := 444) (k := 3) (by decide) (by omega) hL dL_law_444 dL_law_445 dL_law_446 dL_law_447 dL_law_448 ?_
  refine v_callV hC (pc := 449) (As := [vi (xs (i + 1)), vi (xs (i + 2)), vi (xs (i + 3))]) (rest := []) dL_law_449 rfl hA9 cv_L_52 rfl (by decide) rfl rfl (Nat.le_of_ble_eq_true rfl) (by decide) (fun r h1 hr => ?_)
  obtain ⟨v, rfl, hv⟩ := hr
  refine v_aload_n hC (pc := 452) (k := 2) 1 rfl dL_law_452 ?_
  refine v_sarg hC hX (pc := 453) (k := 1) (by decide) (by omega) hL dL_law_453 dL_law_454 dL_law_455 dL_law_456 dL_law_457 ?_
  refine v_sarg hC hX (pc := 458) (k := 2) (by decide) (by omega) hL dL_law_458 dL_law_459 dL_law_460 dL_law_461 dL_law_462 ?_
  refine v_sarg hC hX (pc := 463) (k := 3) (by decide) (by omega) hL dL_law_463 dL_law_464 dL_law_465 dL_law_466 dL_law_467 ?_
  refine v_callV hC (pc := 468) (As := [vi (xs (i + 1)), vi (xs (i + 2)), vi (xs (i + 3))]) (rest := [vi v]) dL_law_468 rfl (hB9 v h1 hv) cv_L_56 rfl (by decide) rfl rfl (Nat.le_of_ble_eq_true rfl) (by decide) (fun r2 h2 hr2 => ?_)
  rw [hr2.1]
  exact v_icmp_eq hC (pc := 471) (tgt := 1681) dL_law_471 (by decide) (fun _ => K h2 hr2.2) (fun z => absurd rfl z)
set_option maxRecDepth 20000 in
set_option maxHeartbeats 2000000 in
theorem lc_10 (hC : Cx X G l9 RL code 4 11) (hX : SX X G L xs) (hL : L ≤ 2560) (hi : i + 5 ≤ L) (hI : Inv h) (K : ∀ h2, Inv h2 → V X G 4 1681 (loc i) [] h2) : V X G 4 476 (loc i) [] h := by
  obtain ⟨P, hA9, hB9⟩ := s_street l9 G (d := 10) (Nat.le_refl _) h hI (xs (i + 1)) (xs (i + 2)) (xs (i + 3))
  refine v_aload_n hC (pc := 476) (k := 1) 2 rfl dL_law_476 ?_
  refine v_sarg hC hX (pc := 477) (k := 1) (by decide) (by omega) hL dL_law_477 dL_law_478 dL_law_479 dL_law_480 dL_law_481 ?_
  refine v_sarg hC hX (pc := 482) (k := 2) (by decide) (by omega) hL dL_law_482 dL_law_483 dL_law_484 dL_law_485 dL_law_486 ?_
  refine v_sarg hC hX (pc := 487) (k := 3) (by decide) (by omega) hL dL_law_487 dL_law_488 dL_law_489 dL_law_490 dL_law_491 ?_
  refine v_callV hC (pc := 492) (As := [vi (xs (i + 1)), vi (xs (i + 2)), vi (xs (i + 3))]) (rest := []) dL_law_492 rfl hA9 cv_L_57 rfl (by decide) rfl rfl (Nat.le_of_ble_eq_true rfl) (by decide) (fun r h1 hr => ?_)
  obtain ⟨v, rfl, hv⟩ := hr
  refine v_aload_n hC (pc := 495) (k := 2) 1 rfl dL_law_495 ?_
  refine v_sarg hC hX (pc := 496) (k := 1) (by decide) (by omega) hL dL_law_496 dL_law_497 dL_law_498 dL_law_499 dL_law_500 ?_
  refine v_sarg hC hX (pc := 501) (k := 2) (by decide) (by omega) hL dL_law_501 dL_law_502 dL_law_503 dL_law_504 dL_law_505 ?_
  refine v_sarg hC hX (pc := 506) (k := 3) (by decide) (by omega) hL dL_law_506 dL_law_507 dL_law_508 dL_law_509 dL_law_510 ?_
  refine v_callV hC (pc := 511) (As := [vi (xs (i + 1)), vi (xs (i + 2)), vi (xs (i + 3))]) (rest := [vi v]) dL_law_511 rfl (hB9 v h1 hv) cv_L_60 rfl (by decide) rfl rfl (Nat.le_of_ble_eq_true rfl) (by decide) (fun r2 h2 hr2 => ?_)
  rw [hr2.1]
  exact v_icmp_eq hC (pc := 514) (tgt := 1681) dL_law_514 (by decide) (fun _ => K h2 hr2.2) (fun z => absurd rfl z)
set_option maxRecDepth 20000 in
set_option maxHeartbeats 2000000 in
theorem lc_11 (hC : Cx X G l9 RL code 4 11) (hX : SX X G L xs) (hL : L ≤ 2560) (hi : i + 5 ≤ L) (hI : Inv h) (K : ∀ h2, Inv h2 → V X G 4 1681 (loc i) [] h2) : V X G 4 519 (loc i) [] h := by
  obtain ⟨P, hA9, hB9⟩ := s_sign l9 G (d := 10) (Nat.le_refl _) h hI (xs (i + 1)) (bI (¬ xs (i + 2) = 0)) (bI_01 _)
  refine v_aload_n hC (pc := 519) (k := 1) 2 rfl dL_law_519 ?_
  refine v_sarg hC hX (pc := 520) (k := 1) (by decide) (by omega) hL dL_law_520 dL_law_521 dL_law_522 dL_law_523 dL_law_524 ?_
  refine v_sarg hC hX (pc := 525) (k := 2) (by decide) (by omega) hL dL_law_525 dL_law_526 dL_law_527 dL_law_528 dL_law_529 ?_
  refine v_bool hC (pc := 530) dL_law_530 dL_law_533 dL_law_534 dL_law_537 ?_
  refine v_callV hC (pc := 538) (As := [vi (xs (i + 1)), vi (bI (¬ xs (i + 2) = 0))]) (rest := []) dL_law_538 rfl hA9 cv_L_61 rfl (by decide) rfl rfl (Nat.le_of_ble_eq_true rfl) (by decide) (fun r h1 hr => ?_)
  obtain ⟨v, rfl, hv⟩ := hr
  refine v_aload_n hC (pc := 541) (k := 2) 1 rfl dL_law_541 ?_
  refine v_sarg hC hX (pc := 542) (k := 1) (by decide) (by omega) hL dL_law_542 dL_law_543 dL_law_544 dL_law_545 dL_law_546 ?_
  refine v_sarg hC hX (pc := 547) (k := 2) (by decide) (by omega) hL dL_law_547 dL_law_548 dL_law_549 dL_law_550 dL_law_551 ?_
  refine v_bool hC (pc := 552) dL_law_552 dL_law_555 dL_law_556 dL_law_559 ?_
  refine v_callV hC (pc := 560) (As := [vi (xs (i + 1)), vi (bI (¬ xs (i + 2) = 0))]) (rest := [vi v]) dL_law_560 rfl (hB9 v h1 hv) cv_L_65 rfl (by decide) rfl rfl (Nat.le_of_ble_eq_true rfl) (by decide) (fun r2 h2 hr2 => ?_)
  rw [hr2.1]
  exact v_icmp_eq hC (pc := 563) (tgt := 1681) dL_law_563 (by decide) (fun _ => K h2 hr2.2) (fun z => absurd rfl z)
set_option maxRecDepth 20000 in
set_option maxHeartbeats 2000000 in
theorem lc_12 (hC : Cx X G l9 RL code 4 11) (hX : SX X G L xs) (hL : L ≤ 2560) (hi : i + 5 ≤ L) (hI : Inv h) (K : ∀ h2, Inv h2 → V X G 4 1681 (loc i) [] h2) : V X G 4 568 (loc i) [] h := by
  obtain ⟨P, hA9, hB9⟩ := s_clock l9 G (d := 10) (Nat.le_refl _) h hI (xs (i + 1))
  refine v_aload_n hC (pc := 568) (k := 1) 2 rfl dL_law_568 ?_
  refine v_sarg hC hX (pc := 569) (k := 1) (by decide) (by omega) hL dL_law_569 dL_law_570 dL_law_571 dL_law_572 dL_law_573 ?_
  refine v_callV hC (pc := 574) (As := [vi (xs (i + 1))]) (rest := []) dL_law_574 rfl hA9 cv_L_66 rfl (by decide) rfl rfl (Nat.le_of_ble_eq_true rfl) (by decide) (fun r h1 hr => ?_)
  obtain ⟨v, rfl, hv⟩ := hr
  refine v_aload_n hC (pc := 577) (k := 2) 1 rfl dL_law_577 ?_
  refine v_sarg hC hX (pc := 578) (k := 1) (by decide) (by omega) hL dL_law_578 dL_law_579 dL_law_580 dL_law_581 dL_law_582 ?_
  refine v_callV hC (pc := 583) (As := [vi (xs (i + 1))]) (rest := [vi v]) dL_law_583 rfl (hB9 v h1 hv) cv_L_69 rfl (by decide) rfl rfl (Nat.le_of_ble_eq_true rfl) (by decide) (fun r2 h2 hr2 => ?_)
  rw [hr2.1]
  exact v_icmp_eq hC (pc := 586) (tgt := 1681) dL_law_586 (by decide) (fun _ => K h2 hr2.2) (fun z => absurd rfl z)
set_option maxRecDepth 20000 in
set_option maxHeartbeats 2000000 in
theorem lc_13 (hC : Cx X G l9 RL code 4 11) (hX : SX X G L xs) (hL : L ≤ 2560) (hi : i + 5 ≤ L) (hI : Inv h) (K : ∀ h2, Inv h2 → V X G 4 1681 (loc i) [] h2) : V X G 4 591 (loc i) [] h := by
  obtain ⟨P, hA9, hB9⟩ := s_put l9 G (d := 10) (Nat.le_refl _) h hI (xs (i + 1)) (xs (i + 2))
  refine v_aload_n hC (pc := 591) (k := 1) 2 rfl dL_law_591 ?_
  refine v_sarg hC hX (pc := 592) (k := 1) (by decide) (by omega) hL dL_law_592 dL_law_593 dL_law_594 dL_law_595 dL_law_596 ?_
  refine v_sarg hC hX (pc := 597) (k := 2) (by decide) (by omega) hL dL_law_597 dL_law_598 dL_law_599 dL_law_600 dL_law_601 ?_
  refine v_callV hC (pc := 602) (As := [vi (xs (i + 1)), vi (xs (i + 2))]) (rest := []) dL_law_602 rfl hA9 cv_L_70 rfl (by decide) rfl rfl (Nat.le_of_ble_eq_true rfl) (by decide) (fun r h1 hr => ?_)
  obtain ⟨v, rfl, hv⟩ := hr
  refine v_aload_n hC (pc := 605) (k := 2) 1 rfl dL_law_605 ?_
  refine v_sarg hC hX (pc := 606) (k := 1) (by decide) (by omega) hL dL_law_606 dL_law_607 dL_law_608 dL_law_609 dL_law_610 ?_
  refine v_sarg hC hX (pc := 611) (k := 2) (by decide) (by omega) hL dL_law_611 dL_law_612 dL_law_613 dL_law_614 dL_law_615 ?_
  refine v_callV hC (pc := 616) (As := [vi (xs (i + 1)), vi (xs (i + 2))]) (rest := [vi v]) dL_law_616 rfl (hB9 v h1 hv) cv_L_73 rfl (by decide) rfl rfl (Nat.le_of_ble_eq_true rfl) (by decide) (fun r2 h2 hr2 => ?_)
  rw [hr2.1]
  exact v_icmp_eq hC (pc := 619) (tgt := 1681) dL_law_619 (by decide) (fun _ => K h2 hr2.2) (fun z => absurd rfl z)
set_option maxRecDepth 20000 in
set_option maxHeartbeats 2000000 in
theorem lc_14 (hC : Cx X G l9 RL code 4 11) (hX : SX X G L xs) (hL : L ≤ 2560) (hi : i + 5 ≤ L) (hI : Inv h) (K : ∀ h2, Inv h2 → V X G 4 1681 (loc i) [] h2) : V X G 4 624 (loc i) [] h := by
  obtain ⟨P, hA9, hB9⟩ := s_keeps l9 G (d := 10) (Nat.le_refl _) h hI (xs (i + 1)) (bI (¬ xs (i + 2) = 0)) (bI_01 _)
  refine v_aload_n hC (pc := 624) (k := 1) 2 rfl dL_law_624 ?_
  refine v_sarg hC hX (pc := 625) (k := 1) (by decide) (by omega) hL dL_law_625 dL_law_626 dL_law_627 dL_law_628 dL_law_629 ?_
  refine v_sarg hC hX (pc := 630) (k := 2) (by decide) (by omega) hL dL_law_630 dL_law_631 dL_law_632 dL_law_633 dL_law_634 ?_
  refine v_bool hC (pc := 635) dL_law_635 dL_law_638 dL_law_639 dL_law_642 ?_
  refine v_callV hC (pc := 643) (As := [vi (xs (i + 1)), vi (bI (¬ xs (i + 2) = 0))]) (rest := []) dL_law_643 rfl hA9 cv_L_74 rfl (by decide) rfl rfl (Nat.le_of_ble_eq_true rfl) (by decide) (fun r h1 hr => ?_)
  obtain ⟨v, rfl, hv⟩ := hr
  refine v_aload_n hC (pc := 646) (k := 2) 1 rfl dL_law_646 ?_
  refine v_sarg hC hX (pc := 647) (k := 1) (by decide) (by omega) hL dL_law_647 dL_law_648 dL_law_649 dL_law_650 dL_law_651 ?_
  refine v_sarg hC hX (pc := 652) (k := 2) (by decide) (by omega) hL dL_law_652 dL_law_653 dL_law_654 dL_law_655 dL_law_656 ?_
  refine v_bool hC (pc := 657) dL_law_657 dL_law_660 dL_law_661 dL_law_664 ?_
  refine v_callV hC (pc := 665) (As := [vi (xs (i + 1)), vi (bI (¬ xs (i + 2) = 0))]) (rest := [vi v]) dL_law_665 rfl (hB9 v h1 hv) cv_L_77 rfl (by decide) rfl rfl (Nat.le_of_ble_eq_true rfl) (by decide) (fun r2 h2 hr2 => ?_)
  rw [hr2.1]
  exact v_icmp_eq hC (pc := 668) (tgt := 1681) dL_law_668 (by decide) (fun _ => K h2 hr2.2) (fun z => absurd rfl z)
set_option maxRecDepth 20000 in
set_option maxHeartbeats 2000000 in
theorem lc_15 (hC : Cx X G l9 RL code 4 11) (hX : SX X G L xs) (hL : L ≤ 2560) (hi : i + 5 ≤ L) (hI : Inv h) (K : ∀ h2, Inv h2 → V X G 4 1681 (loc i) [] h2) : V X G 4 673 (loc i) [] h := by
  obtain ⟨P, hA9, hB9⟩ := s_adds l9 G (d := 10) (Nat.le_refl _) h hI (xs (i + 1)) (xs (i + 2))
  refine v_aload_n hC (pc := 673) (k := 1) 2 rfl dL_law_673 ?_
  refine v_sarg hC hX (pc := 674) (k := 1) (by decide) (by omega) hL dL_law_674 dL_law_675 dL_law_676 dL_law_677 dL_law_678 ?_
  refine v_sarg hC hX (pc := 679) (k := 2) (by decide) (by omega) hL dL_law_679 dL_law_680 dL_law_681 dL_law_682 dL_law_683 ?_
  refine v_callV hC (pc := 684) (As := [vi (xs (i + 1)), vi (xs (i + 2))]) (rest := []) dL_law_684 rfl hA9 cv_L_78 rfl (by decide) rfl rfl (Nat.le_of_ble_eq_true rfl) (by decide) (fun r h1 hr => ?_)
  obtain ⟨v, rfl, hv⟩ := hr
  refine v_aload_n hC (pc := 687) (k := 2) 1 rfl dL_law_687 ?_
  refine v_sarg hC hX (pc := 688) (k := 1) (by decide) (by omega) hL dL_law_688 dL_law_689 dL_law_690 dL_law_691 dL_law_692 ?_
  refine v_sarg hC hX (pc := 693) (k := 2) (by decide) (by omega) hL dL_law_693 dL_law_694 dL_law_695 dL_law_696 dL_law_697 ?_
  refine v_callV hC (pc := 698) (As := [vi (xs (i + 1)), vi (xs (i + 2))]) (rest := [vi v]) dL_law_698 rfl (hB9 v h1 hv) cv_L_81 rfl (by decide) rfl rfl (Nat.le_of_ble_eq_true rfl) (by decide) (fun r2 h2 hr2 => ?_)
  rw [hr2.1]
  exact v_icmp_eq hC (pc := 701) (tgt := 1681) dL_law_701 (by decide) (fun _ => K h2 hr2.2) (fun z => absurd rfl z)
set_option maxRecDepth 20000 in
set_option maxHeartbeats 2000000 in
theorem lc_16 (hC : Cx X G l9 RL code 4 11) (hX : SX X G L xs) (hL : L ≤ 2560) (hi : i + 5 ≤ L) (hI : Inv h) (K : ∀ h2, Inv h2 → V X G 4 1681 (loc i) [] h2) : V X G 4 706 (loc i) [] h := by
  obtain ⟨P, hA9, hB9⟩ := s_again l9 G (d := 10) (Nat.le_refl _) h hI (xs (i + 1))
  refine v_aload_n hC (pc := 706) (k := 1) 2 rfl dL_law_706 ?_
  refine v_sarg hC hX (pc := 707) (k := 1) (by decide) (by omega) hL dL_law_707 dL_law_708 dL_law_709 dL_law_710 dL_law_711 ?_
  refine v_callV hC (pc := 712) (As := [vi (xs (i + 1))]) (rest := []) dL_law_712 rfl hA9 cv_L_82 rfl (by decide) rfl rfl (Nat.le_of_ble_eq_true rfl) (by decide) (fun r h1 hr => ?_)
  obtain ⟨v, rfl, hv⟩ := hr
  refine v_aload_n hC (pc := 715) (k := 2) 1 rfl dL_law_715 ?_
  refine v_sarg hC hX (pc := 716) (k := 1) (by decide) (by omega) hL dL_law_716 dL_law_717 dL_law_718 dL_law_719 dL_law_720 ?_
  refine v_callV hC (pc := 721) (As := [vi (xs (i + 1))]) (rest := [vi v]) dL_law_721 rfl (hB9 v h1 hv) cv_L_85 rfl (by decide) rfl rfl (Nat.le_of_ble_eq_true rfl) (by decide) (fun r2 h2 hr2 => ?_)
  rw [hr2.1]
  exact v_icmp_eq hC (pc := 724) (tgt := 1681) dL_law_724 (by decide) (fun _ => K h2 hr2.2) (fun z => absurd rfl z)
set_option maxRecDepth 20000 in
set_option maxHeartbeats 2000000 in
theorem lc_17 (hC : Cx X G l9 RL code 4 11) (hX : SX X G L xs) (hL : L ≤ 2560) (hi : i + 5 ≤ L) (hI : Inv h) (K : ∀ h2, Inv h2 → V X G 4 1681 (loc i) [] h2) : V X G 4 729 (loc i) [] h := by
  obtain ⟨P, hA9, hB9⟩ := s_buy l9 G (d := 10) (Nat.le_refl _) h hI (xs (i + 1)) (xs (i + 2))
  refine v_aload_n hC (pc := 729) (k := 1) 2 rfl dL_law_729 ?_
  refine v_sarg hC hX (pc := 730) (k := 1) (by decide) (by omega) hL dL_law_730 dL_law_731 dL_law_732 dL_law_733 dL_law_734 ?_
  refine v_sarg hC hX (pc := 735) (k := 2) (by decide) (by omega) hL dL_law_735 dL_law_736 dL_law_737 dL_law_738 dL_law_739 ?_
  refine v_callV hC (pc := 740) (As := [vi (xs (i + 1)), vi (xs (i + 2))]) (rest := []) dL_law_740 rfl hA9 cv_L_86 rfl (by decide) rfl rfl (Nat.le_of_ble_eq_true rfl) (by decide) (fun r h1 hr => ?_)
  obtain ⟨v, rfl, hv⟩ := hr
  refine v_aload_n hC (pc := 743) (k := 2) 1 rfl dL_law_743 ?_
  refine v_sarg hC hX (pc := 744) (k := 1) (by decide) (by omega) hL dL_law_744 dL_law_745 dL_law_746 dL_law_747 dL_law_748 ?_
  refine v_sarg hC hX (pc := 749) (k := 2) (by decide) (by omega) hL dL_law_749 dL_law_750 dL_law_751 dL_law_752 dL_law_753 ?_
  refine v_callV hC (pc := 754) (As := [vi (xs (i + 1)), vi (xs (i + 2))]) (rest := [vi v]) dL_law_754 rfl (hB9 v h1 hv) cv_L_89 rfl (by decide) rfl rfl (Nat.le_of_ble_eq_true rfl) (by decide) (fun r2 h2 hr2 => ?_)
  rw [hr2.1]
  exact v_icmp_eq hC (pc := 757) (tgt := 1681) dL_law_757 (by decide) (fun _ => K h2 hr2.2) (fun z => absurd rfl z)
set_option maxRecDepth 20000 in
set_option maxHeartbeats 2000000 in
theorem lc_18 (hC : Cx X G l9 RL code 4 11) (hX : SX X G L xs) (hL : L ≤ 2560) (hi : i + 5 ≤ L) (hI : Inv h) (K : ∀ h2, Inv h2 → V X G 4 1681 (loc i) [] h2) : V X G 4 762 (loc i) [] h := by
  obtain ⟨P, hA9, hB9⟩ := s_go l9 G (d := 10) (Nat.le_refl _) h hI (xs (i + 1))
  refine v_aload_n hC (pc := 762) (k := 1) 2 rfl dL_law_762 ?_
  refine v_sarg hC hX (pc := 763) (k := 1) (by decide) (by omega) hL dL_law_763 dL_law_764 dL_law_765 dL_law_766 dL_law_767 ?_
  refine v_callV hC (pc := 768) (As := [vi (xs (i + 1))]) (rest := []) dL_law_768 rfl hA9 cv_L_90 rfl (by decide) rfl rfl (Nat.le_of_ble_eq_true rfl) (by decide) (fun r h1 hr => ?_)
  obtain ⟨v, rfl, hv⟩ := hr
  refine v_aload_n hC (pc := 771) (k := 2) 1 rfl dL_law_771 ?_
  refine v_sarg hC hX (pc := 772) (k := 1) (by decide) (by omega) hL dL_law_772 dL_law_773 dL_law_774 dL_law_775 dL_law_776 ?_
  refine v_callV hC (pc := 777) (As := [vi (xs (i + 1))]) (rest := [vi v]) dL_law_777 rfl (hB9 v h1 hv) cv_L_93 rfl (by decide) rfl rfl (Nat.le_of_ble_eq_true rfl) (by decide) (fun r2 h2 hr2 => ?_)
  rw [hr2.1]
  exact v_icmp_eq hC (pc := 780) (tgt := 1681) dL_law_780 (by decide) (fun _ => K h2 hr2.2) (fun z => absurd rfl z)
set_option maxRecDepth 20000 in
set_option maxHeartbeats 2000000 in
theorem lc_19 (hC : Cx X G l9 RL code 4 11) (hX : SX X G L xs) (hL : L ≤ 2560) (hi : i + 5 ≤ L) (hI : Inv h) (K : ∀ h2, Inv h2 → V X G 4 1681 (loc i) [] h2) : V X G 4 785 (loc i) [] h := by
  obtain ⟨P, hA9, hB9⟩ := s_ahead l9 G (d := 10) (Nat.le_refl _) h hI (xs (i + 1)) (xs (i + 2)) (xs (i + 3))
  refine v_aload_n hC (pc := 785) (k := 1) 2 rfl dL_law_785 ?_
  refine v_sarg hC hX (pc := 786) (k := 1) (by decide) (by omega) hL dL_law_786 dL_law_787 dL_law_788 dL_law_789 dL_law_790 ?_
  refine v_sarg hC hX (pc := 791) (k := 2) (by decide) (by omega) hL dL_law_791 dL_law_792 dL_law_793 dL_law_794 dL_law_795 ?_
  refine v_sarg hC hX (pc := 796) (k := 3) (by decide) (by omega) hL dL_law_796 dL_law_797 dL_law_798 dL_law_799 dL_law_800 ?_
  refine v_callV hC (pc := 801) (As := [vi (xs (i + 1)), vi (xs (i + 2)), vi (xs (i + 3))]) (rest := []) dL_law_801 rfl hA9 cv_L_94 rfl (by decide) rfl rfl (Nat.le_of_ble_eq_true rfl) (by decide) (fun r h1 hr => ?_)
  obtain ⟨v, rfl, hv⟩ := hr
  refine v_aload_n hC (pc := 804) (k := 2) 1 rfl dL_law_804 ?_
  refine v_sarg hC hX (pc := 805) (k := 1) (by decide) (by omega) hL dL_law_805 dL_law_806 dL_law_807 dL_law_808 dL_law_809 ?_
  refine v_sarg hC hX (pc := 810) (k := 2) (by decide) (by omega) hL dL_law_810 dL_law_811 dL_law_812 dL_law_813 dL_law_814 ?_
  refine v_sarg hC hX (pc := 815) (k := 3) (by decide) (by omega) hL dL_law_815 dL_law_816 dL_law_817 dL_law_818 dL_law_819 ?_
  refine v_callV hC (pc := 820) (As := [vi (xs (i + 1)), vi (xs (i + 2)), vi (xs (i + 3))]) (rest := [vi v]) dL_law_820 rfl (hB9 v h1 hv) cv_L_97 rfl (by decide) rfl rfl (Nat.le_of_ble_eq_true rfl) (by decide) (fun r2 h2 hr2 => ?_)
  rw [hr2.1]
  exact v_icmp_eq hC (pc := 823) (tgt := 1681) dL_law_823 (by decide) (fun _ => K h2 hr2.2) (fun z => absurd rfl z)
set_option maxRecDepth 20000 in
set_option maxHeartbeats 2000000 in
theorem lc_20 (hC : Cx X G l9 RL code 4 11) (hX : SX X G L xs) (hL : L ≤ 2560) (hi : i + 5 ≤ L) (hI : Inv h) (K : ∀ h2, Inv h2 → V X G 4 1681 (loc i) [] h2) : V X G 4 828 (loc i) [] h := by
  obtain ⟨P, hA9, hB9⟩ := s_clash l9 G (d := 10) (Nat.le_refl _) h hI (xs (i + 1)) (xs (i + 2))
  refine v_aload_n hC (pc := 828) (k := 1) 2 rfl dL_law_828 ?_
  refine v_sarg hC hX (pc := 829) (k := 1) (by decide) (by omega) hL dL_law_829 dL_law_830 dL_law_831 dL_law_832 dL_law_833 ?_
  refine v_sarg hC hX (pc := 834) (k := 2) (by decide) (by omega) hL dL_law_834 dL_law_835 dL_law_836 dL_law_837 dL_law_838 ?_
  refine v_callV hC (pc := 839) (As := [vi (xs (i + 1)), vi (xs (i + 2))]) (rest := []) dL_law_839 rfl hA9 cv_L_98 rfl (by decide) rfl rfl (Nat.le_of_ble_eq_true rfl) (by decide) (fun r h1 hr => ?_)
  obtain ⟨v, rfl, hv⟩ := hr
  refine v_aload_n hC (pc := 842) (k := 2) 1 rfl dL_law_842 ?_
  refine v_sarg hC hX (pc := 843) (k := 1) (by decide) (by omega) hL dL_law_843 dL_law_844 dL_law_845 dL_law_846 dL_law_847 ?_
  refine v_sarg hC hX (pc := 848) (k := 2) (by decide) (by omega) hL dL_law_848 dL_law_849 dL_law_850 dL_law_851 dL_law_852 ?_
  refine v_callV hC (pc := 853) (As := [vi (xs (i + 1)), vi (xs (i + 2))]) (rest := [vi v]) dL_law_853 rfl (hB9 v h1 hv) cv_L_101 rfl (by decide) rfl rfl (Nat.le_of_ble_eq_true rfl) (by decide) (fun r2 h2 hr2 => ?_)
  rw [hr2.1]
  exact v_icmp_eq hC (pc := 856) (tgt := 1681) dL_law_856 (by decide) (fun _ => K h2 hr2.2) (fun z => absurd rfl z)
set_option maxRecDepth 20000 in
set_option maxHeartbeats 2000000 in
theorem lc_21 (hC : Cx X G l9 RL code 4 11) (hX : SX X G L xs) (hL : L ≤ 2560) (hi : i + 5 ≤ L) (hI : Inv h) (K : ∀ h2, Inv h2 → V X G 4 1681 (loc i) [] h2) : V X G 4 861 (loc i) [] h := by
  obtain ⟨P, hA9, hB9⟩ := s_way l9 G (d := 10) (Nat.le_refl _) h hI (xs (i + 1)) (xs (i + 2)) (xs (i + 3)) (xs (i + 4))
  refine v_aload_n hC (pc := 861) (k := 1) 2 rfl dL_law_861 ?_
  refine v_sarg hC hX (pc := 862) (k := 1) (by decide) (by omega) hL dL_law_862 dL_law_863 dL_law_864 dL_law_865 dL_law_866 ?_
  refine v_sarg hC hX (pc := 867) (k := 2) (by decide) (by omega) hL dL_law_867 dL_law_868 dL_law_869 dL_law_870 dL_law_871 ?_
  refine v_sarg hC hX (pc := 872) (k := 3) (by decide) (by omega) hL dL_law_872 dL_law_873 dL_law_874 dL_law_875 dL_law_876 ?_
  refine v_sarg hC hX (pc := 877) (k := 4) (by decide) (by omega) hL dL_law_877 dL_law_878 dL_law_879 dL_law_880 dL_law_881 ?_
  refine v_callV hC (pc := 882) (As := [vi (xs (i + 1)), vi (xs (i + 2)), vi (xs (i + 3)), vi (xs (i + 4))]) (rest := []) dL_law_882 rfl hA9 cv_L_102 rfl (by decide) rfl rfl (Nat.le_of_ble_eq_true rfl) (by decide) (fun r h1 hr => ?_)
  obtain ⟨v, rfl, hv⟩ := hr
  refine v_aload_n hC (pc := 885) (k := 2) 1 rfl dL_law_885 ?_
  refine v_sarg hC hX (pc := 886) (k := 1) (by decide) (by omega) hL dL_law_886 dL_law_887 dL_law_888 dL_law_889 dL_law_890 ?_
  refine v_sarg hC hX (pc := 891) (k := 2) (by decide) (by omega) hL dL_law_891 dL_law_892 dL_law_893 dL_law_894 dL_law_895 ?_
  refine v_sarg hC hX (pc := 896) (k := 3) (by decide) (by omega) hL dL_law_896 dL_law_897 dL_law_898 dL_law_899 dL_law_900 ?_
  refine v_sarg hC hX (pc := 901) (k := 4) (by decide) (by omega) hL dL_law_901 dL_law_902 dL_law_903 dL_law_904 dL_law_905 ?_
  refine v_callV hC (pc := 906) (As := [vi (xs (i + 1)), vi (xs (i + 2)), vi (xs (i + 3)), vi (xs (i + 4))]) (rest := [vi v]) dL_law_906 rfl (hB9 v h1 hv) cv_L_106 rfl (by decide) rfl rfl (Nat.le_of_ble_eq_true rfl) (by decide) (fun r2 h2 hr2 => ?_)
  rw [hr2.1]
  exact v_icmp_eq hC (pc := 909) (tgt := 1681) dL_law_909 (by decide) (fun _ => K h2 hr2.2) (fun z => absurd rfl z)
set_option maxRecDepth 20000 in
set_option maxHeartbeats 2000000 in
theorem lc_22 (hC : Cx X G l9 RL code 4 11) (hX : SX X G L xs) (hL : L ≤ 2560) (hi : i + 5 ≤ L) (hI : Inv h) (K : ∀ h2, Inv h2 → V X G 4 1681 (loc i) [] h2) : V X G 4 914 (loc i) [] h := by
  obtain ⟨P, hA9, hB9⟩ := s_both l9 G (d := 10) (Nat.le_refl _) h hI (xs (i + 1)) (xs (i + 2)) (xs (i + 3)) (xs (i + 4))
  refine v_aload_n hC (pc := 914) (k := 1) 2 rfl dL_law_914 ?_
  refine v_sarg hC hX (pc := 915) (k := 1) (by decide) (by omega) hL dL_law_915 dL_law_916 dL_law_917 dL_law_918 dL_law_919 ?_
  refine v_sarg hC hX (pc := 920) (k := 2) (by decide) (by omega) hL dL_law_920 dL_law_921 dL_law_922 dL_law_923 dL_law_924 ?_
  refine v_sarg hC hX (pc := 925) (k := 3) (by decide) (by omega) hL dL_law_925 dL_law_926 dL_law_927 dL_law_928 dL_law_929 ?_
  refine v_sarg hC hX (pc := 930) (k := 4) (by decide) (by omega) hL dL_law_930 dL_law_931 dL_law_932 dL_law_933 dL_law_934 ?_
  refine v_callV hC (pc := 935) (As := [vi (xs (i + 1)), vi (xs (i + 2)), vi (xs (i + 3)), vi (xs (i + 4))]) (rest := []) dL_law_935 rfl hA9 cv_L_107 rfl (by decide) rfl rfl (Nat.le_of_ble_eq_true rfl) (by decide) (fun r h1 hr => ?_)
  obtain ⟨v, rfl, hv⟩ := hr
  refine v_aload_n hC (pc := 938) (k := 2) 1 rfl dL_law_938 ?_
  refine v_sarg hC hX (pc := 939) (k := 1) (by decide) (by omega) hL dL_law_939 dL_law_940 dL_law_941 dL_law_942 dL_law_943 ?_
  refine v_sarg hC hX (pc := 944) (k := 2) (by decide) (by omega) hL dL_law_944 dL_law_945 dL_law_946 dL_law_947 dL_law_948 ?_
  refine v_sarg hC hX (pc := 949) (k := 3) (by decide) (by omega) hL dL_law_949 dL_law_950 dL_law_951 dL_law_952 dL_law_953 ?_
  refine v_sarg hC hX (pc := 954) (k := 4) (by decide) (by omega) hL dL_law_954 dL_law_955 dL_law_956 dL_law_957 dL_law_958 ?_
  refine v_callV hC (pc := 959) (As := [vi (xs (i + 1)), vi (xs (i + 2)), vi (xs (i + 3)), vi (xs (i + 4))]) (rest := [vi v]) dL_law_959 rfl (hB9 v h1 hv) cv_L_110 rfl (by decide) rfl rfl (Nat.le_of_ble_eq_true rfl) (by decide) (fun r2 h2 hr2 => ?_)
  rw [hr2.1]
  exact v_icmp_eq hC (pc := 962) (tgt := 1681) dL_law_962 (by decide) (fun _ => K h2 hr2.2) (fun z => absurd rfl z)
set_option maxRecDepth 20000 in
set_option maxHeartbeats 2000000 in
theorem lc_23 (hC : Cx X G l9 RL code 4 11) (hX : SX X G L xs) (hL : L ≤ 2560) (hi : i + 5 ≤ L) (hI : Inv h) (K : ∀ h2, Inv h2 → V X G 4 1681 (loc i) [] h2) : V X G 4 967 (loc i) [] h := by
  obtain ⟨P, hA9, hB9⟩ := s_reach l9 G (d := 10) (Nat.le_refl _) h hI (xs (i + 1)) (xs (i + 2)) (xs (i + 3))
  refine v_aload_n hC (pc := 967) (k := 1) 2 rfl dL_law_967 ?_
  refine v_sarg hC hX (pc := 968) (k := 1) (by decide) (by omega) hL dL_law_968 dL_law_969 dL_law_970 dL_law_971 dL_law_972 ?_
  refine v_sarg hC hX (pc := 973) (k := 2) (by decide) (by omega) hL dL_law_973 dL_law_974 dL_law_975 dL_law_976 dL_law_977 ?_
  refine v_sarg hC hX (pc := 978) (k := 3) (by decide) (by omega) hL dL_law_978 dL_law_979 dL_law_980 dL_law_981 dL_law_982 ?_
  refine v_callV hC (pc := 983) (As := [vi (xs (i + 1)), vi (xs (i + 2)), vi (xs (i + 3))]) (rest := []) dL_law_983 rfl hA9 cv_L_111 rfl (by decide) rfl rfl (Nat.le_of_ble_eq_true rfl) (by decide) (fun r h1 hr => ?_)
  obtain ⟨v, rfl, hv⟩ := hr
  refine v_aload_n hC (pc := 986) (k := 2) 1 rfl dL_law_986 ?_
  refine v_sarg hC hX (pc := 987) (k := 1) (by decide) (by omega) hL dL_law_987 dL_law_988 dL_law_989 dL_law_990 dL_law_991 ?_
  refine v_sarg hC hX (pc := 992) (k := 2) (by decide) (by omega) hL dL_law_992 dL_law_993 dL_law_994 dL_law_995 dL_law_996 ?_
  refine v_sarg hC hX (pc := 997) (k := 3) (by decide) (by omega) hL dL_law_997 dL_law_998 dL_law_999 dL_law_1000 dL_law_1001 ?_
  refine v_callV hC (pc := 1002) (As := [vi (xs (i + 1)), vi (xs (i + 2)), vi (xs (i + 3))]) (rest := [vi v]) dL_law_1002 rfl (hB9 v h1 hv) cv_L_114 rfl (by decide) rfl rfl (Nat.le_of_ble_eq_true rfl) (by decide) (fun r2 h2 hr2 => ?_)
  rw [hr2.1]
  exact v_icmp_eq hC (pc := 1005) (tgt := 1681) dL_law_1005 (by decide) (fun _ => K h2 hr2.2) (fun z => absurd rfl z)
set_option maxRecDepth 20000 in
set_option maxHeartbeats 2000000 in
theorem lc_24 (hC : Cx X G l9 RL code 4 11) (hX : SX X G L xs) (hL : L ≤ 2560) (hi : i + 5 ≤ L) (hI : Inv h) (K : ∀ h2, Inv h2 → V X G 4 1681 (loc i) [] h2) : V X G 4 1010 (loc i) [] h := by
  obtain ⟨P, hA9, hB9⟩ := s_when l9 G (d := 10) (Nat.le_refl _) h hI (xs (i + 1)) (xs (i + 2)) (xs (i + 3))
  refine v_aload_n hC (pc := 1010) (k := 1) 2 rfl dL_law_1010 ?_
  refine v_sarg hC hX (pc := 1011) (k := 1) (by decide) (by omega) hL dL_law_1011 dL_law_1012 dL_law_1013 dL_law_1014 dL_law_1015 ?_
  refine v_sarg hC hX (pc := 1016) (k := 2) (by decide) (by omega) hL dL_law_1016 dL_law_1017 dL_law_1018 dL_law_1019 dL_law_1020 ?_
  refine v_sarg hC hX (pc := 1021) (k := 3) (by decide) (by omega) hL dL_law_1021 dL_law_1022 dL_law_1023 dL_law_1024 dL_law_1025 ?_
  refine v_callV hC (pc := 1026) (As := [vi (xs (i + 1)), vi (xs (i + 2)), vi (xs (i + 3))]) (rest := []) dL_law_1026 rfl hA9 cv_L_115 rfl (by decide) rfl rfl (Nat.le_of_ble_eq_true rfl) (by decide) (fun r h1 hr => ?_)
  obtain ⟨v, rfl, hv⟩ := hr
  refine v_aload_n hC (pc := 1029) (k := 2) 1 rfl dL_law_1029 ?_
  refine v_sarg hC hX (pc := 1030) (k := 1) (by decide) (by omega) hL dL_law_1030 dL_law_1031 dL_law_1032 dL_law_1033 dL_law_1034 ?_
  refine v_sarg hC hX (pc := 1035) (k := 2) (by decide) (by omega) hL dL_law_1035 dL_law_1036 dL_law_1037 dL_law_1038 dL_law_1039 ?_
  refine v_sarg hC hX (pc := 1040) (k := 3) (by decide) (by omega) hL dL_law_1040 dL_law_1041 dL_law_1042 dL_law_1043 dL_law_1044 ?_
  refine v_callV hC (pc := 1045) (As := [vi (xs (i + 1)), vi (xs (i + 2)), vi (xs (i + 3))]) (rest := [vi v]) dL_law_1045 rfl (hB9 v h1 hv) cv_L_118 rfl (by decide) rfl rfl (Nat.le_of_ble_eq_true rfl) (by decide) (fun r2 h2 hr2 => ?_)
  rw [hr2.1]
  exact v_icmp_eq hC (pc := 1048) (tgt := 1681) dL_law_1048 (by decide) (fun _ => K h2 hr2.2) (fun z => absurd rfl z)
set_option maxRecDepth 20000 in
set_option maxHeartbeats 2000000 in
theorem lc_25 (hC : Cx X G l9 RL code 4 11) (hX : SX X G L xs) (hL : L ≤ 2560) (hi : i + 5 ≤ L) (hI : Inv h) (K : ∀ h2, Inv h2 → V X G 4 1681 (loc i) [] h2) : V X G 4 1053 (loc i) [] h := by
  obtain ⟨P, hA9, hB9⟩ := s_signs l9 G (d := 10) (Nat.le_refl _) h hI (xs (i + 1)) (xs (i + 2)) (xs (i + 3))
  refine v_aload_n hC (pc := 1053) (k := 1) 2 rfl dL_law_1053 ?_
  refine v_sarg hC hX (pc := 1054) (k := 1) (by decide) (by omega) hL dL_law_1054 dL_law_1055 dL_law_1056 dL_law_1057 dL_law_1058 ?_
  refine v_sarg hC hX (pc := 1059) (k := 2) (by decide) (by omega) hL dL_law_1059 dL_law_1060 dL_law_1061 dL_law_1062 dL_law_1063 ?_
  refine v_sarg hC hX (pc := 1064) (k := 3) (by decide) (by omega) hL dL_law_1064 dL_law_1065 dL_law_1066 dL_law_1067 dL_law_1068 ?_
  refine v_callV hC (pc := 1069) (As := [vi (xs (i + 1)), vi (xs (i + 2)), vi (xs (i + 3))]) (rest := []) dL_law_1069 rfl hA9 cv_L_119 rfl (by decide) rfl rfl (Nat.le_of_ble_eq_true rfl) (by decide) (fun r h1 hr => ?_)
  obtain ⟨v, rfl, hv⟩ := hr
  refine v_aload_n hC (pc := 1072) (k := 2) 1 rfl dL_law_1072 ?_
  refine v_sarg hC hX (pc := 1073) (k := 1) (by decide) (by omega) hL dL_law_1073 dL_law_1074 dL_law_1075 dL_law_1076 dL_law_1077 ?_
  refine v_sarg hC hX (pc := 1078) (k := 2) (by decide) (by omega) hL dL_law_1078 dL_law_1079 dL_law_1080 dL_law_1081 dL_law_1082 ?_
  refine v_sarg hC hX (pc := 1083) (k := 3) (by decide) (by omega) hL dL_law_1083 dL_law_1084 dL_law_1085 dL_law_1086 dL_law_1087 ?_
  refine v_callV hC (pc := 1088) (As := [vi (xs (i + 1)), vi (xs (i + 2)), vi (xs (i + 3))]) (rest := [vi v]) dL_law_1088 rfl (hB9 v h1 hv) cv_L_122 rfl (by decide) rfl rfl (Nat.le_of_ble_eq_true rfl) (by decide) (fun r2 h2 hr2 => ?_)
  rw [hr2.1]
  exact v_icmp_eq hC (pc := 1091) (tgt := 1681) dL_law_1091 (by decide) (fun _ => K h2 hr2.2) (fun z => absurd rfl z)
set_option maxRecDepth 20000 in
set_option maxHeartbeats 2000000 in
theorem lc_26 (hC : Cx X G l9 RL code 4 11) (hX : SX X G L xs) (hL : L ≤ 2560) (hi : i + 5 ≤ L) (hI : Inv h) (K : ∀ h2, Inv h2 → V X G 4 1681 (loc i) [] h2) : V X G 4 1096 (loc i) [] h := by
  obtain ⟨P, hA9, hB9⟩ := s_meet l9 G (d := 10) (Nat.le_refl _) h hI (xs (i + 1)) (xs (i + 2)) (xs (i + 3))
  refine v_aload_n hC (pc := 1096) (k := 1) 2 rfl dL_law_1096 ?_
  refine v_sarg hC hX (pc := 1097) (k := 1) (by decide) (by omega) hL dL_law_1097 dL_law_1098 dL_law_1099 dL_law_1100 dL_law_1101 ?_
  refine v_sarg hC hX (pc := 1102) (k := 2) (by decide) (by omega) hL dL_law_1102 dL_law_1103 dL_law_1104 dL_law_1105 dL_law_1106 ?_
  refine v_sarg hC hX (pc := 1107) (k := 3) (by decide) (by omega) hL dL_law_1107 dL_law_1108 dL_law_1109 dL_law_1110 dL_law_1111 ?_
  refine v_callV hC (pc := 1112) (As := [vi (xs (i + 1)), vi (xs (i + 2)), vi (xs (i + 3))]) (rest := []) dL_law_1112 rfl hA9 cv_L_123 rfl (by decide) rfl rfl (Nat.le_of_ble_eq_true rfl) (by decide) (fun r h1 hr => ?_)
  obtain ⟨v, rfl, hv⟩ := hr
  refine v_aload_n hC (pc := 1115) (k := 2) 1 rfl dL_law_1115 ?_
  refine v_sarg hC hX (pc := 1116) (k := 1) (by decide) (by omega) hL dL_law_1116 dL_law_1117 dL_law_1118 dL_law_1119 dL_law_1120 ?_
  refine v_sarg hC hX (pc := 1121) (k := 2) (by decide) (by omega) hL dL_law_1121 dL_law_1122 dL_law_1123 dL_law_1124 dL_law_1125 ?_
  refine v_sarg hC hX (pc := 1126) (k := 3) (by decide) (by omega) hL dL_law_1126 dL_law_1127 dL_law_1128 dL_law_1129 dL_law_1130 ?_
  refine v_callV hC (pc := 1131) (As := [vi (xs (i + 1)), vi (xs (i + 2)), vi (xs (i + 3))]) (rest := [vi v]) dL_law_1131 rfl (hB9 v h1 hv) cv_L_126 rfl (by decide) rfl rfl (Nat.le_of_ble_eq_true rfl) (by decide) (fun r2 h2 hr2 => ?_)
  rw [hr2.1]
  exact v_icmp_eq hC (pc := 1134) (tgt := 1681) dL_law_1134 (by decide) (fun _ => K h2 hr2.2) (fun z => absurd rfl z)
set_option maxRecDepth 20000 in
set_option maxHeartbeats 2000000 in
theorem lc_27 (hC : Cx X G l9 RL code 4 11) (hX : SX X G L xs) (hL : L ≤ 2560) (hi : i + 5 ≤ L) (hI : Inv h) (K : ∀ h2, Inv h2 → V X G 4 1681 (loc i) [] h2) : V X G 4 1139 (loc i) [] h := by
  obtain ⟨P, hA9, hB9⟩ := s_shake l9 G (d := 10) (Nat.le_refl _) h hI (xs (i + 1)) (xs (i + 2))
  refine v_aload_n hC (pc := 1139) (k := 1) 2 rfl dL_law_1139 ?_
  refine v_sarg hC hX (pc := 1140) (k := 1) (by decide) (by omega) hL dL_law_1140 dL_law_1141 dL_law_1142 dL_law_1143 dL_law_1144 ?_
  refine v_sarg hC hX (pc := 1145) (k := 2) (by decide) (by omega) hL dL_law_1145 dL_law_1146 dL_law_1147 dL_law_1148 dL_law_1149 ?_
  refine v_callV hC (pc := 1150) (As := [vi (xs (i + 1)), vi (xs (i + 2))]) (rest := []) dL_law_1150 rfl hA9 cv_L_127 rfl (by decide) rfl rfl (Nat.le_of_ble_eq_true rfl) (by decide) (fun r h1 hr => ?_)
  obtain ⟨v, rfl, hv⟩ := hr
  refine v_aload_n hC (pc := 1153) (k := 2) 1 rfl dL_law_1153 ?_
  refine v_sarg hC hX (pc := 1154) (k := 1) (by decide) (by omega) hL dL_law_1154 dL_law_1155 dL_law_1156 dL_law_1157 dL_law_1158 ?_
  refine v_sarg hC hX (pc := 1159) (k := 2) (by decide) (by omega) hL dL_law_1159 dL_law_1160 dL_law_1161 dL_law_1162 dL_law_1163 ?_
  refine v_callV hC (pc := 1164) (As := [vi (xs (i + 1)), vi (xs (i + 2))]) (rest := [vi v]) dL_law_1164 rfl (hB9 v h1 hv) cv_L_130 rfl (by decide) rfl rfl (Nat.le_of_ble_eq_true rfl) (by decide) (fun r2 h2 hr2 => ?_)
  rw [hr2.1]
  exact v_icmp_eq hC (pc := 1167) (tgt := 1681) dL_law_1167 (by decide) (fun _ => K h2 hr2.2) (fun z => absurd rfl z)
set_option maxRecDepth 20000 in
set_option maxHeartbeats 2000000 in
theorem lc_28 (hC : Cx X G l9 RL code 4 11) (hX : SX X G L xs) (hL : L ≤ 2560) (hi : i + 5 ≤ L) (hI : Inv h) (K : ∀ h2, Inv h2 → V X G 4 1681 (loc i) [] h2) : V X G 4 1172 (loc i) [] h := by
  obtain ⟨P, hA9, hB9⟩ := s_pairs l9 G (d := 10) (Nat.le_refl _) h hI (xs (i + 1))
  refine v_aload_n hC (pc := 1172) (k := 1) 2 rfl dL_law_1172 ?_
  refine v_sarg hC hX (pc := 1173) (k := 1) (by decide) (by omega) hL dL_law_1173 dL_law_1174 dL_law_1175 dL_law_1176 dL_law_1177 ?_
  refine v_callV hC (pc := 1178) (As := [vi (xs (i + 1))]) (rest := []) dL_law_1178 rfl hA9 cv_L_131 rfl (by decide) rfl rfl (Nat.le_of_ble_eq_true rfl) (by decide) (fun r h1 hr => ?_)
  obtain ⟨v, rfl, hv⟩ := hr
  refine v_aload_n hC (pc := 1181) (k := 2) 1 rfl dL_law_1181 ?_
  refine v_sarg hC hX (pc := 1182) (k := 1) (by decide) (by omega) hL dL_law_1182 dL_law_1183 dL_law_1184 dL_law_1185 dL_law_1186 ?_
  refine v_callV hC (pc := 1187) (As := [vi (xs (i + 1))]) (rest := [vi v]) dL_law_1187 rfl (hB9 v h1 hv) cv_L_134 rfl (by decide) rfl rfl (Nat.le_of_ble_eq_true rfl) (by decide) (fun r2 h2 hr2 => ?_)
  rw [hr2.1]
  exact v_icmp_eq hC (pc := 1190) (tgt := 1681) dL_law_1190 (by decide) (fun _ => K h2 hr2.2) (fun z => absurd rfl z)
set_option maxRecDepth 20000 in
set_option maxHeartbeats 2000000 in
theorem lc_29 (hC : Cx X G l9 RL code 4 11) (hX : SX X G L xs) (hL : L ≤ 2560) (hi : i + 5 ≤ L) (hI : Inv h) (K : ∀ h2, Inv h2 → V X G 4 1681 (loc i) [] h2) : V X G 4 1195 (loc i) [] h := by
  obtain ⟨P, hA9, hB9⟩ := s_needs l9 G (d := 10) (Nat.le_refl _) h hI (xs (i + 1)) (xs (i + 2)) (xs (i + 3))
  refine v_aload_n hC (pc := 1195) (k := 1) 2 rfl dL_law_1195 ?_
  refine v_sarg hC hX (pc := 1196) (k := 1) (by decide) (by omega) hL dL_law_1196 dL_law_1197 dL_law_1198 dL_law_1199 dL_law_1200 ?_
  refine v_sarg hC hX (pc := 1201) (k := 2) (by decide) (by omega) hL dL_law_1201 dL_law_1202 dL_law_1203 dL_law_1204 dL_law_1205 ?_
  refine v_sarg hC hX (pc := 1206) (k := 3) (by decide) (by omega) hL dL_law_1206 dL_law_1207 dL_law_1208 dL_law_1209 dL_law_1210 ?_
  refine v_callV hC (pc := 1211) (As := [vi (xs (i + 1)), vi (xs (i + 2)), vi (xs (i + 3))]) (rest := []) dL_law_1211 rfl hA9 cv_L_135 rfl (by decide) rfl rfl (Nat.le_of_ble_eq_true rfl) (by decide) (fun r h1 hr => ?_)
  obtain ⟨v, rfl, hv⟩ := hr
  refine v_aload_n hC (pc := 1214) (k := 2) 1 rfl dL_law_1214 ?_
  refine v_sarg hC hX (pc := 1215) (k := 1) (by decide) (by omega) hL dL_law_1215 dL_law_1216 dL_law_1217 dL_law_1218 dL_law_1219 ?_
  refine v_sarg hC hX (pc := 1220) (k := 2) (by decide) (by omega) hL dL_law_1220 dL_law_1221 dL_law_1222 dL_law_1223 dL_law_1224 ?_
  refine v_sarg hC hX (pc := 1225) (k := 3) (by decide) (by omega) hL dL_law_1225 dL_law_1226 dL_law_1227 dL_law_1228 dL_law_1229 ?_
  refine v_callV hC (pc := 1230) (As := [vi (xs (i + 1)), vi (xs (i + 2)), vi (xs (i + 3))]) (rest := [vi v]) dL_law_1230 rfl (hB9 v h1 hv) cv_L_138 rfl (by decide) rfl rfl (Nat.le_of_ble_eq_true rfl) (by decide) (fun r2 h2 hr2 => ?_)
  rw [hr2.1]
  exact v_icmp_eq hC (pc := 1233) (tgt := 1681) dL_law_1233 (by decide) (fun _ => K h2 hr2.2) (fun z => absurd rfl z)
theorem cmp_self (v : Int64) : lg_cmp v v = 0 := by
  unfold lg_cmp
  simp
set_option maxRecDepth 20000 in
set_option maxHeartbeats 2000000 in
theorem lc_30 (hC : Cx X G l9 RL code 4 11) (hX : SX X G L xs) (hL : L ≤ 2560) (hi : i + 5 ≤ L) (hI : Inv h) (K : ∀ h2, Inv h2 → V X G 4 1681 (loc i) [] h2) : V X G 4 1238 (loc i) [] h := by
  obtain ⟨P, hA9, hB9⟩ := s_luck l9 G (d := 10) (Nat.le_refl _) h hI (xs (i + 1)) (xs (i + 2)) (xs (i + 3)) (xs (i + 4))
  refine v_aload_n hC (pc := 1238) (k := 1) 2 rfl dL_law_1238 ?_
  refine v_sarg hC hX (pc := 1239) (k := 1) (by decide) (by omega) hL dL_law_1239 dL_law_1240 dL_law_1241 dL_law_1242 dL_law_1243 ?_
  refine v_sarg hC hX (pc := 1244) (k := 2) (by decide) (by omega) hL dL_law_1244 dL_law_1245 dL_law_1246 dL_law_1247 dL_law_1248 ?_
  refine v_sarg hC hX (pc := 1249) (k := 3) (by decide) (by omega) hL dL_law_1249 dL_law_1250 dL_law_1251 dL_law_1252 dL_law_1253 ?_
  refine v_sarg hC hX (pc := 1254) (k := 4) (by decide) (by omega) hL dL_law_1254 dL_law_1255 dL_law_1256 dL_law_1257 dL_law_1258 ?_
  refine v_callV hC (pc := 1259) (As := [vi (xs (i + 1)), vi (xs (i + 2)), vi (xs (i + 3)), vi (xs (i + 4))]) (rest := []) dL_law_1259 rfl hA9 cv_L_139 rfl (by decide) rfl rfl (Nat.le_of_ble_eq_true rfl) (by decide) (fun r h1 hr => ?_)
  obtain ⟨v, rfl, hv⟩ := hr
  refine v_aload_n hC (pc := 1262) (k := 2) 1 rfl dL_law_1262 ?_
  refine v_sarg hC hX (pc := 1263) (k := 1) (by decide) (by omega) hL dL_law_1263 dL_law_1264 dL_law_1265 dL_law_1266 dL_law_1267 ?_
  refine v_sarg hC hX (pc := 1268) (k := 2) (by decide) (by omega) hL dL_law_1268 dL_law_1269 dL_law_1270 dL_law_1271 dL_law_1272 ?_
  refine v_sarg hC hX (pc := 1273) (k := 3) (by decide) (by omega) hL dL_law_1273 dL_law_1274 dL_law_1275 dL_law_1276 dL_law_1277 ?_
  refine v_sarg hC hX (pc := 1278) (k := 4) (by decide) (by omega) hL dL_law_1278 dL_law_1279 dL_law_1280 dL_law_1281 dL_law_1282 ?_
  refine v_callV hC (pc := 1283) (As := [vi (xs (i + 1)), vi (xs (i + 2)), vi (xs (i + 3)), vi (xs (i + 4))]) (rest := [vl v]) dL_law_1283 rfl (hB9 v h1 hv) cv_L_143 rfl (by decide) rfl rfl (Nat.le_of_ble_eq_true rfl) (by decide) (fun r2 h2 hr2 => ?_)
  rw [hr2.1]
  refine v_lcmp hC (pc := 1286) dL_law_1286 ?_
  exact v_if_eq hC (pc := 1287) (tgt := 1681) dL_law_1287 (by decide) (fun _ => K h2 hr2.2) (fun z => absurd (cmp_self v) z)
set_option maxRecDepth 20000 in
set_option maxHeartbeats 2000000 in
theorem lc_31 (hC : Cx X G l9 RL code 4 11) (hX : SX X G L xs) (hL : L ≤ 2560) (hi : i + 5 ≤ L) (hI : Inv h) (K : ∀ h2, Inv h2 → V X G 4 1681 (loc i) [] h2) : V X G 4 1292 (loc i) [] h := by
  obtain ⟨P, hA9, hB9⟩ := s_see l9 G (d := 10) (Nat.le_refl _) h hI (xs (i + 1)) (xs (i + 2)) (xs (i + 3)) (bI (¬ xs (i + 4) = 0))
  refine v_aload_n hC (pc := 1292) (k := 1) 2 rfl dL_law_1292 ?_
  refine v_sarg hC hX (pc := 1293) (k := 1) (by decide) (by omega) hL dL_law_1293 dL_law_1294 dL_law_1295 dL_law_1296 dL_law_1297 ?_
  refine v_sarg hC hX (pc := 1298) (k := 2) (by decide) (by omega) hL dL_law_1298 dL_law_1299 dL_law_1300 dL_law_1301 dL_law_1302 ?_
  refine v_sarg hC hX (pc := 1303) (k := 3) (by decide) (by omega) hL dL_law_1303 dL_law_1304 dL_law_1305 dL_law_1306 dL_law_1307 ?_
  refine v_sarg hC hX (pc := 1308) (k := 4) (by decide) (by omega) hL dL_law_1308 dL_law_1309 dL_law_1310 dL_law_1311 dL_law_1312 ?_
  refine v_bool hC (pc := 1313) dL_law_1313 dL_law_1316 dL_law_1317 dL_law_1320 ?_
  refine v_callV hC (pc := 1321) (As := [vi (xs (i + 1)), vi (xs (i + 2)), vi (xs (i + 3)), vi (bI (¬ xs (i + 4) = 0))]) (rest := []) dL_law_1321 rfl hA9 cv_L_144 rfl (by decide) rfl rfl (Nat.le_of_ble_eq_true rfl) (by decide) (fun r h1 hr => ?_)
  obtain ⟨v, rfl, hv⟩ := hr
  refine v_aload_n hC (pc := 1324) (k := 2) 1 rfl dL_law_1324 ?_
  refine v_sarg hC hX (pc := 1325) (k := 1) (by decide) (by omega) hL dL_law_1325 dL_law_1326 dL_law_1327 dL_law_1328 dL_law_1329 ?_
  refine v_sarg hC hX (pc := 1330) (k := 2) (by decide) (by omega) hL dL_law_1330 dL_law_1331 dL_law_1332 dL_law_1333 dL_law_1334 ?_
  refine v_sarg hC hX (pc := 1335) (k := 3) (by decide) (by omega) hL dL_law_1335 dL_law_1336 dL_law_1337 dL_law_1338 dL_law_1339 ?_
  refine v_sarg hC hX (pc := 1340) (k := 4) (by decide) (by omega) hL dL_law_1340 dL_law_1341 dL_law_1342 dL_law_1343 dL_law_1344 ?_
  refine v_bool hC (pc := 1345) dL_law_1345 dL_law_1348 dL_law_1349 dL_law_1352 ?_
  refine v_callV hC (pc := 1353) (As := [vi (xs (i + 1)), vi (xs (i + 2)), vi (xs (i + 3)), vi (bI (¬ xs (i + 4) = 0))]) (rest := [vi v]) dL_law_1353 rfl (hB9 v h1 hv) cv_L_148 rfl (by decide) rfl rfl (Nat.le_of_ble_eq_true rfl) (by decide) (fun r2 h2 hr2 => ?_)
  rw [hr2.1]
  exact v_icmp_eq hC (pc := 1356) (tgt := 1681) dL_law_1356 (by decide) (fun _ => K h2 hr2.2) (fun z => absurd rfl z)
set_option maxRecDepth 20000 in
set_option maxHeartbeats 2000000 in
theorem lc_32 (hC : Cx X G l9 RL code 4 11) (hX : SX X G L xs) (hL : L ≤ 2560) (hi : i + 5 ≤ L) (hI : Inv h) (K : ∀ h2, Inv h2 → V X G 4 1681 (loc i) [] h2) : V X G 4 1361 (loc i) [] h := by
  obtain ⟨P, hA9, hB9⟩ := s_forget l9 G (d := 10) (Nat.le_refl _) h hI (xs (i + 1))
  refine v_aload_n hC (pc := 1361) (k := 1) 2 rfl dL_law_1361 ?_
  refine v_sarg hC hX (pc := 1362) (k := 1) (by decide) (by omega) hL dL_law_1362 dL_law_1363 dL_law_1364 dL_law_1365 dL_law_1366 ?_
  refine v_callV hC (pc := 1367) (As := [vi (xs (i + 1))]) (rest := []) dL_law_1367 rfl hA9 cv_L_149 rfl (by decide) rfl rfl (Nat.le_of_ble_eq_true rfl) (by decide) (fun r h1 hr => ?_)
  obtain ⟨v, rfl, hv⟩ := hr
  refine v_aload_n hC (pc := 1370) (k := 2) 1 rfl dL_law_1370 ?_
  refine v_sarg hC hX (pc := 1371) (k := 1) (by decide) (by omega) hL dL_law_1371 dL_law_1372 dL_law_1373 dL_law_1374 dL_law_1375 ?_
  refine v_callV hC (pc := 1376) (As := [vi (xs (i + 1))]) (rest := [vi v]) dL_law_1376 rfl (hB9 v h1 hv) cv_L_152 rfl (by decide) rfl rfl (Nat.le_of_ble_eq_true rfl) (by decide) (fun r2 h2 hr2 => ?_)
  rw [hr2.1]
  exact v_icmp_eq hC (pc := 1379) (tgt := 1681) dL_law_1379 (by decide) (fun _ => K h2 hr2.2) (fun z => absurd rfl z)
set_option maxRecDepth 20000 in
set_option maxHeartbeats 2000000 in
theorem lc_33 (hC : Cx X G l9 RL code 4 11) (hX : SX X G L xs) (hL : L ≤ 2560) (hi : i + 5 ≤ L) (hI : Inv h) (K : ∀ h2, Inv h2 → V X G 4 1681 (loc i) [] h2) : V X G 4 1384 (loc i) [] h := by
  obtain ⟨P, hA9, hB9⟩ := s_fits l9 G (d := 10) (Nat.le_refl _) h hI (xs (i + 1)) (xs (i + 2))
  refine v_aload_n hC (pc := 1384) (k := 1) 2 rfl dL_law_1384 ?_
  refine v_sarg hC hX (pc := 1385) (k := 1) (by decide) (by omega) hL dL_law_1385 dL_law_1386 dL_law_1387 dL_law_1388 dL_law_1389 ?_
  refine v_sarg hC hX (pc := 1390) (k := 2) (by decide) (by omega) hL dL_law_1390 dL_law_1391 dL_law_1392 dL_law_1393 dL_law_1394 ?_
  refine v_callV hC (pc := 1395) (As := [vi (xs (i + 1)), vi (xs (i + 2))]) (rest := []) dL_law_1395 rfl hA9 cv_L_153 rfl (by decide) rfl rfl (Nat.le_of_ble_eq_true rfl) (by decide) (fun r h1 hr => ?_)
  obtain ⟨v, rfl, hv⟩ := hr
  refine v_aload_n hC (pc := 1398) (k := 2) 1 rfl dL_law_1398 ?_
  refine v_sarg hC hX (pc := 1399) (k := 1) (by decide) (by omega) hL dL_law_1399 dL_law_1400 dL_law_1401 dL_law_1402 dL_law_1403 ?_
  refine v_sarg hC hX (pc := 1404) (k := 2) (by decide) (by omega) hL dL_law_1404 dL_law_1405 dL_law_1406 dL_law_1407 dL_law_1408 ?_
  refine v_callV hC (pc := 1409) (As := [vi (xs (i + 1)), vi (xs (i + 2))]) (rest := [vi v]) dL_law_1409 rfl (hB9 v h1 hv) cv_L_156 rfl (by decide) rfl rfl (Nat.le_of_ble_eq_true rfl) (by decide) (fun r2 h2 hr2 => ?_)
  rw [hr2.1]
  exact v_icmp_eq hC (pc := 1412) (tgt := 1681) dL_law_1412 (by decide) (fun _ => K h2 hr2.2) (fun z => absurd rfl z)
set_option maxRecDepth 20000 in
set_option maxHeartbeats 2000000 in
theorem lc_34 (hC : Cx X G l9 RL code 4 11) (hX : SX X G L xs) (hL : L ≤ 2560) (hi : i + 5 ≤ L) (hI : Inv h) (K : ∀ h2, Inv h2 → V X G 4 1681 (loc i) [] h2) : V X G 4 1417 (loc i) [] h := by
  obtain ⟨P, hA9, hB9⟩ := s_drift l9 G (d := 10) (Nat.le_refl _) h hI (xs (i + 1)) (xs (i + 2)) (xs (i + 3))
  refine v_aload_n hC (pc := 1417) (k := 1) 2 rfl dL_law_1417 ?_
  refine v_sarg hC hX (pc := 1418) (k := 1) (by decide) (by omega) hL dL_law_1418 dL_law_1419 dL_law_1420 dL_law_1421 dL_law_1422 ?_
  refine v_sarg hC hX (pc := 1423) (k := 2) (by decide) (by omega) hL dL_law_1423 dL_law_1424 dL_law_1425 dL_law_1426 dL_law_1427 ?_
  refine v_sarg hC hX (pc := 1428) (k := 3) (by decide) (by omega) hL dL_law_1428 dL_law_1429 dL_law_1430 dL_law_1431 dL_law_1432 ?_
  refine v_callV hC (pc := 1433) (As := [vi (xs (i + 1)), vi (xs (i + 2)), vi (xs (i + 3))]) (rest := []) dL_law_1433 rfl hA9 cv_L_157 rfl (by decide) rfl rfl (Nat.le_of_ble_eq_true rfl) (by decide) (fun r h1 hr => ?_)
  obtain ⟨v, rfl, hv⟩ := hr
  refine v_aload_n hC (pc := 1436) (k := 2) 1 rfl dL_law_1436 ?_
  refine v_sarg hC hX (pc := 1437) (k := 1) (by decide) (by omega) hL dL_law_1437 dL_law_1438 dL_law_1439 dL_law_1440 dL_law_1441 ?_
  refine v_sarg hC hX (pc := 1442) (k := 2) (by decide) (by omega) hL dL_law_1442 dL_law_1443 dL_law_1444 dL_law_1445 dL_law_1446 ?_
  refine v_sarg hC hX (pc := 1447) (k := 3) (by decide) (by omega) hL dL_law_1447 dL_law_1448 dL_law_1449 dL_law_1450 dL_law_1451 ?_
  refine v_callV hC (pc := 1452) (As := [vi (xs (i + 1)), vi (xs (i + 2)), vi (xs (i + 3))]) (rest := [vi v]) dL_law_1452 rfl (hB9 v h1 hv) cv_L_160 rfl (by decide) rfl rfl (Nat.le_of_ble_eq_true rfl) (by decide) (fun r2 h2 hr2 => ?_)
  rw [hr2.1]
  exact v_icmp_eq hC (pc := 1455) (tgt := 1681) dL_law_1455 (by decide) (fun _ => K h2 hr2.2) (fun z => absurd rfl z)
set_option maxRecDepth 20000 in
set_option maxHeartbeats 2000000 in
theorem lc_35 (hC : Cx X G l9 RL code 4 11) (hX : SX X G L xs) (hL : L ≤ 2560) (hi : i + 5 ≤ L) (hI : Inv h) (K : ∀ h2, Inv h2 → V X G 4 1681 (loc i) [] h2) : V X G 4 1460 (loc i) [] h := by
  obtain ⟨P, hA9, hB9⟩ := s_keep l9 G (d := 10) (Nat.le_refl _) h hI (xs (i + 1))
  refine v_aload_n hC (pc := 1460) (k := 1) 2 rfl dL_law_1460 ?_
  refine v_sarg hC hX (pc := 1461) (k := 1) (by decide) (by omega) hL dL_law_1461 dL_law_1462 dL_law_1463 dL_law_1464 dL_law_1465 ?_
  refine v_callV hC (pc := 1466) (As := [vi (xs (i + 1))]) (rest := []) dL_law_1466 rfl hA9 cv_L_161 rfl (by decide) rfl rfl (Nat.le_of_ble_eq_true rfl) (by decide) (fun r h1 hr => ?_)
  obtain ⟨v, rfl, hv⟩ := hr
  refine v_aload_n hC (pc := 1469) (k := 2) 1 rfl dL_law_1469 ?_
  refine v_sarg hC hX (pc := 1470) (k := 1) (by decide) (by omega) hL dL_law_1470 dL_law_1471 dL_law_1472 dL_law_1473 dL_law_1474 ?_
  refine v_callV hC (pc := 1475) (As := [vi (xs (i + 1))]) (rest := [vi v]) dL_law_1475 rfl (hB9 v h1 hv) cv_L_164 rfl (by decide) rfl rfl (Nat.le_of_ble_eq_true rfl) (by decide) (fun r2 h2 hr2 => ?_)
  rw [hr2.1]
  exact v_icmp_eq hC (pc := 1478) (tgt := 1681) dL_law_1478 (by decide) (fun _ => K h2 hr2.2) (fun z => absurd rfl z)
set_option maxRecDepth 20000 in
set_option maxHeartbeats 2000000 in
theorem lc_36 (hC : Cx X G l9 RL code 4 11) (hX : SX X G L xs) (hL : L ≤ 2560) (hi : i + 5 ≤ L) (hI : Inv h) (K : ∀ h2, Inv h2 → V X G 4 1681 (loc i) [] h2) : V X G 4 1483 (loc i) [] h := by
  obtain ⟨P, hA9, hB9⟩ := s_back l9 G (d := 10) (Nat.le_refl _) h hI (xs (i + 1))
  refine v_aload_n hC (pc := 1483) (k := 1) 2 rfl dL_law_1483 ?_
  refine v_sarg hC hX (pc := 1484) (k := 1) (by decide) (by omega) hL dL_law_1484 dL_law_1485 dL_law_1486 dL_law_1487 dL_law_1488 ?_
  refine v_callV hC (pc := 1489) (As := [vi (xs (i + 1))]) (rest := []) dL_law_1489 rfl hA9 cv_L_165 rfl (by decide) rfl rfl (Nat.le_of_ble_eq_true rfl) (by decide) (fun r h1 hr => ?_)
  obtain ⟨v, rfl, hv⟩ := hr
  refine v_aload_n hC (pc := 1492) (k := 2) 1 rfl dL_law_1492 ?_
  refine v_sarg hC hX (pc := 1493) (k := 1) (by decide) (by omega) hL dL_law_1493 dL_law_1494 dL_law_1495 dL_law_1496 dL_law_1497 ?_
  refine v_callV hC (pc := 1498) (As := [vi (xs (i + 1))]) (rest := [vi v]) dL_law_1498 rfl (hB9 v h1 hv) cv_L_168 rfl (by decide) rfl rfl (Nat.le_of_ble_eq_true rfl) (by decide) (fun r2 h2 hr2 => ?_)
  rw [hr2.1]
  exact v_icmp_eq hC (pc := 1501) (tgt := 1681) dL_law_1501 (by decide) (fun _ => K h2 hr2.2) (fun z => absurd rfl z)
set_option maxRecDepth 20000 in
set_option maxHeartbeats 2000000 in
theorem lc_37 (hC : Cx X G l9 RL code 4 11) (hX : SX X G L xs) (hL : L ≤ 2560) (hi : i + 5 ≤ L) (hI : Inv h) (K : ∀ h2, Inv h2 → V X G 4 1681 (loc i) [] h2) : V X G 4 1506 (loc i) [] h := by
  obtain ⟨P, hA9, hB9⟩ := s_sheet l9 G (d := 10) (Nat.le_refl _) h hI (xs (i + 1)) (xs (i + 2)) (xs (i + 3))
  refine v_aload_n hC (pc := 1506) (k := 1) 2 rfl dL_law_1506 ?_
  refine v_sarg hC hX (pc := 1507) (k := 1) (by decide) (by omega) hL dL_law_1507 dL_law_1508 dL_law_1509 dL_law_1510 dL_law_1511 ?_
  refine v_sarg hC hX (pc := 1512) (k := 2) (by decide) (by omega) hL dL_law_1512 dL_law_1513 dL_law_1514 dL_law_1515 dL_law_1516 ?_
  refine v_sarg hC hX (pc := 1517) (k := 3) (by decide) (by omega) hL dL_law_1517 dL_law_1518 dL_law_1519 dL_law_1520 dL_law_1521 ?_
  refine v_callV hC (pc := 1522) (As := [vi (xs (i + 1)), vi (xs (i + 2)), vi (xs (i + 3))]) (rest := []) dL_law_1522 rfl hA9 cv_L_169 rfl (by decide) rfl rfl (Nat.le_of_ble_eq_true rfl) (by decide) (fun r h1 hr => ?_)
  obtain ⟨v, rfl, hv⟩ := hr
  refine v_aload_n hC (pc := 1525) (k := 2) 1 rfl dL_law_1525 ?_
  refine v_sarg hC hX (pc := 1526) (k := 1) (by decide) (by omega) hL dL_law_1526 dL_law_1527 dL_law_1528 dL_law_1529 dL_law_1530 ?_
  refine v_sarg hC hX (pc := 1531) (k := 2) (by decide) (by omega) hL dL_law_1531 dL_law_1532 dL_law_1533 dL_law_1534 dL_law_1535 ?_
  refine v_sarg hC hX (pc := 1536) (k := 3) (by decide) (by omega) hL dL_law_1536 dL_law_1537 dL_law_1538 dL_law_1539 dL_law_1540 ?_
  refine v_callV hC (pc := 1541) (As := [vi (xs (i + 1)), vi (xs (i + 2)), vi (xs (i + 3))]) (rest := [vi v]) dL_law_1541 rfl (hB9 v h1 hv) cv_L_172 rfl (by decide) rfl rfl (Nat.le_of_ble_eq_true rfl) (by decide) (fun r2 h2 hr2 => ?_)
  rw [hr2.1]
  exact v_icmp_eq hC (pc := 1544) (tgt := 1681) dL_law_1544 (by decide) (fun _ => K h2 hr2.2) (fun z => absurd rfl z)
set_option maxRecDepth 20000 in
set_option maxHeartbeats 2000000 in
theorem lc_38 (hC : Cx X G l9 RL code 4 11) (hX : SX X G L xs) (hL : L ≤ 2560) (hi : i + 5 ≤ L) (hI : Inv h) (K : ∀ h2, Inv h2 → V X G 4 1681 (loc i) [] h2) : V X G 4 1549 (loc i) [] h := by
  obtain ⟨P, hA9, hB9⟩ := s_lay l9 G (d := 10) (Nat.le_refl _) h hI (xs (i + 1)) (xs (i + 2)) (xs (i + 3))
  refine v_aload_n hC (pc := 1549) (k := 1) 2 rfl dL_law_1549 ?_
  refine v_sarg hC hX (pc := 1550) (k := 1) (by decide) (by omega) hL dL_law_1550 dL_law_1551 dL_law_1552 dL_law_1553 dL_law_1554 ?_
  refine v_sarg hC hX (pc := 1555) (k := 2) (by decide) (by omega) hL dL_law_1555 dL_law_1556 dL_law_1557 dL_law_1558 dL_law_1559 ?_
  refine v_sarg hC hX (pc := 1560) (k := 3) (by decide) (by omega) hL dL_law_1560 dL_law_1561 dL_law_1562 dL_law_1563 dL_law_1564 ?_
  refine v_callV hC (pc := 1565) (As := [vi (xs (i + 1)), vi (xs (i + 2)), vi (xs (i + 3))]) (rest := []) dL_law_1565 rfl hA9 cv_L_173 rfl (by decide) rfl rfl (Nat.le_of_ble_eq_true rfl) (by decide) (fun r h1 hr => ?_)
  obtain ⟨v, rfl, hv⟩ := hr
  refine v_aload_n hC (pc := 1568) (k := 2) 1 rfl dL_law_1568 ?_
  refine v_sarg hC hX (pc := 1569) (k := 1) (by decide) (by omega) hL dL_law_1569 dL_law_1570 dL_law_1571 dL_law_1572 dL_law_1573 ?_
  refine v_sarg hC hX (pc := 1574) (k := 2) (by decide) (by omega) hL dL_law_1574 dL_law_1575 dL_law_1576 dL_law_1577 dL_law_1578 ?_
  refine v_sarg hC hX (pc := 1579) (k := 3) (by decide) (by omega) hL dL_law_1579 dL_law_1580 dL_law_1581 dL_law_1582 dL_law_1583 ?_
  refine v_callV hC (pc := 1584) (As := [vi (xs (i + 1)), vi (xs (i + 2)), vi (xs (i + 3))]) (rest := [vi v]) dL_law_1584 rfl (hB9 v h1 hv) cv_L_176 rfl (by decide) rfl rfl (Nat.le_of_ble_eq_true rfl) (by decide) (fun r2 h2 hr2 => ?_)
  rw [hr2.1]
  exact v_icmp_eq hC (pc := 1587) (tgt := 1681) dL_law_1587 (by decide) (fun _ => K h2 hr2.2) (fun z => absurd rfl z)
set_option maxRecDepth 20000 in
set_option maxHeartbeats 2000000 in
theorem lc_39 (hC : Cx X G l9 RL code 4 11) (hX : SX X G L xs) (hL : L ≤ 2560) (hi : i + 5 ≤ L) (hI : Inv h) (K : ∀ h2, Inv h2 → V X G 4 1681 (loc i) [] h2) : V X G 4 1592 (loc i) [] h := by
  obtain ⟨P, hA9, hB9⟩ := s_read l9 G (d := 10) (Nat.le_refl _) h hI (xs (i + 1)) (xs (i + 2)) (xs (i + 3)) (xs (i + 4))
  refine v_aload_n hC (pc := 1592) (k := 1) 2 rfl dL_law_1592 ?_
  refine v_sarg hC hX (pc := 1593) (k := 1) (by decide) (by omega) hL dL_law_1593 dL_law_1594 dL_law_1595 dL_law_1596 dL_law_1597 ?_
  refine v_sarg hC hX (pc := 1598) (k := 2) (by decide) (by omega) hL dL_law_1598 dL_law_1599 dL_law_1600 dL_law_1601 dL_law_1602 ?_
  refine v_sarg hC hX (pc := 1603) (k := 3) (by decide) (by omega) hL dL_law_1603 dL_law_1604 dL_law_1605 dL_law_1606 dL_law_1607 ?_
  refine v_sarg hC hX (pc := 1608) (k := 4) (by decide) (by omega) hL dL_law_1608 dL_law_1609 dL_law_1610 dL_law_1611 dL_law_1612 ?_
  refine v_callV hC (pc := 1613) (As := [vi (xs (i + 1)), vi (xs (i + 2)), vi (xs (i + 3)), vi (xs (i + 4))]) (rest := []) dL_law_1613 rfl hA9 cv_L_177 rfl (by decide) rfl rfl (Nat.le_of_ble_eq_true rfl) (by decide) (fun r h1 hr => ?_)
  obtain ⟨v, rfl, hv⟩ := hr
  refine v_aload_n hC (pc := 1616) (k := 2) 1 rfl dL_law_1616 ?_
  refine v_sarg hC hX (pc := 1617) (k := 1) (by decide) (by omega) hL dL_law_1617 dL_law_1618 dL_law_1619 dL_law_1620 dL_law_1621 ?_
  refine v_sarg hC hX (pc := 1622) (k := 2) (by decide) (by omega) hL dL_law_1622 dL_law_1623 dL_law_1624 dL_law_1625 dL_law_1626 ?_
  refine v_sarg hC hX (pc := 1627) (k := 3) (by decide) (by omega) hL dL_law_1627 dL_law_1628 dL_law_1629 dL_law_1630 dL_law_1631 ?_
  refine v_sarg hC hX (pc := 1632) (k := 4) (by decide) (by omega) hL dL_law_1632 dL_law_1633 dL_law_1634 dL_law_1635 dL_law_1636 ?_
  refine v_callV hC (pc := 1637) (As := [vi (xs (i + 1)), vi (xs (i + 2)), vi (xs (i + 3)), vi (xs (i + 4))]) (rest := [vi v]) dL_law_1637 rfl (hB9 v h1 hv) cv_L_180 rfl (by decide) rfl rfl (Nat.le_of_ble_eq_true rfl) (by decide) (fun r2 h2 hr2 => ?_)
  rw [hr2.1]
  exact v_icmp_eq hC (pc := 1640) (tgt := 1681) dL_law_1640 (by decide) (fun _ => K h2 hr2.2) (fun z => absurd rfl z)
set_option maxRecDepth 20000 in
set_option maxHeartbeats 2000000 in
theorem lc_40 (hC : Cx X G l9 RL code 4 11) (hX : SX X G L xs) (hL : L ≤ 2560) (hi : i + 5 ≤ L) (hI : Inv h) (K : ∀ h2, Inv h2 → V X G 4 1681 (loc i) [] h2) : V X G 4 1645 (loc i) [] h := by
  obtain ⟨P, hA9, hB9⟩ := s_torn l9 G (d := 10) (Nat.le_refl _) h hI 
  refine v_aload_n hC (pc := 1645) (k := 1) 2 rfl dL_law_1645 ?_
  refine v_callV hC (pc := 1646) (As := []) (rest := []) dL_law_1646 rfl hA9 cv_L_181 rfl (by decide) rfl rfl (Nat.le_of_ble_eq_true rfl) (by decide) (fun r h1 hr => ?_)
  obtain ⟨v, rfl, hv⟩ := hr
  refine v_aload_n hC (pc := 1649) (k := 2) 1 rfl dL_law_1649 ?_
  refine v_callV hC (pc := 1650) (As := []) (rest := [vi v]) dL_law_1650 rfl (hB9 v h1 hv) cv_L_184 rfl (by decide) rfl rfl (Nat.le_of_ble_eq_true rfl) (by decide) (fun r2 h2 hr2 => ?_)
  rw [hr2.1]
  exact v_icmp_eq hC (pc := 1653) (tgt := 1681) dL_law_1653 (by decide) (fun _ => K h2 hr2.2) (fun z => absurd rfl z)
set_option maxRecDepth 20000 in
set_option maxHeartbeats 2000000 in
theorem lc_41 (hC : Cx X G l9 RL code 4 11) (hX : SX X G L xs) (hL : L ≤ 2560) (hi : i + 5 ≤ L) (hI : Inv h) (K : ∀ h2, Inv h2 → V X G 4 1681 (loc i) [] h2) : V X G 4 1658 (loc i) [] h := by
  obtain ⟨P, hA9, hB9⟩ := s_count l9 G (d := 10) (Nat.le_refl _) h hI (xs (i + 1))
  refine v_aload_n hC (pc := 1658) (k := 1) 2 rfl dL_law_1658 ?_
  refine v_sarg hC hX (pc := 1659) (k := 1) (by decide) (by omega) hL dL_law_1659 dL_law_1660 dL_law_1661 dL_law_1662 dL_law_1663 ?_
  refine v_callV hC (pc := 1664) (As := [vi (xs (i + 1))]) (rest := []) dL_law_1664 rfl hA9 cv_L_185 rfl (by decide) rfl rfl (Nat.le_of_ble_eq_true rfl) (by decide) (fun r h1 hr => ?_)
  obtain ⟨v, rfl, hv⟩ := hr
  refine v_aload_n hC (pc := 1667) (k := 2) 1 rfl dL_law_1667 ?_
  refine v_sarg hC hX (pc := 1668) (k := 1) (by decide) (by omega) hL dL_law_1668 dL_law_1669 dL_law_1670 dL_law_1671 dL_law_1672 ?_
  refine v_callV hC (pc := 1673) (As := [vi (xs (i + 1))]) (rest := [vi v]) dL_law_1673 rfl (hB9 v h1 hv) cv_L_188 rfl (by decide) rfl rfl (Nat.le_of_ble_eq_true rfl) (by decide) (fun r2 h2 hr2 => ?_)
  rw [hr2.1]
  exact v_icmp_eq hC (pc := 1676) (tgt := 1681) dL_law_1676 (by decide) (fun _ => K h2 hr2.2) (fun z => absurd rfl z)
set_option maxRecDepth 20000 in
set_option maxHeartbeats 4000000 in
theorem law_loop (hC : Cx X G l9 RL code 4 11) (hX : SX X G L xs) (hL : L ≤ 2560) (K1 : ∀ l h, V X G 4 1688 l [vi 1] h) : ∀ (n i : Nat) (h : HP), i ≤ L → L + 1 ≤ i + n → Inv h → V X G 4 18 (loc i) [] h := by
  intro n
  induction n with
  | zero => intro i h h1 h2 _; exact absurd h2 (by omega)
  | succ n ih =>
    intro i h h1 h2 hI
    refine v_iload_n hC (pc := 18) (k := 3) 0 rfl dL_law_18 ?_
    refine v_aload_n hC (pc := 19) (k := 0) 3 rfl dL_law_19 ?_
    refine v_slen hC hX (pc := 20) dL_law_20 ?_
    refine v_iconst hC (pc := 21) (v := 5) (by decide) dL_law_21 ?_
    refine v_isub hC (pc := 22) dL_law_22 ?_
    refine v_icmp_gt hC (pc := 23) (tgt := 1687) dL_law_23 (by decide) (fun c => ?_) (fun c => ?_)
    · refine v_iconst hC (pc := 1687) (v := 1) (by decide) dL_law_1687 ?_
      exact K1 _ _
    · have hi := lw_le hL h1 c
      have K : ∀ h2, Inv h2 → V X G 4 1681 (loc i) [] h2 := by
        intro h2 hI2
        refine v_iinc hC (pc := 1681) (l' := loc (i + 5)) 0 (v := nI (i + 5)) dL_law_1681 rfl (nI_add i 5) (by decide) rfl ?_
        refine v_goto hC (pc := 1684) (tgt := 18) dL_law_1684 (by decide) ?_
        exact ih (i + 5) h2 (by omega) (by omega) hI2
      refine v_aload_n hC (pc := 26) (k := 0) 3 rfl dL_law_26 ?_
      refine v_iload_n hC (pc := 27) (k := 3) 0 rfl dL_law_27 ?_
      refine v_sld hC hX (pc := 28) (k := i) (by omega) hL dL_law_28 ?_
      refine v_bipush hC (pc := 29) (v := 63) (by decide +kernel) dL_law_29 ?_
      refine v_iand hC (pc := 31) dL_law_31 ?_
      obtain ⟨k, hk, e⟩ := and63 (xs i)
      rw [e]
      match k, hk with
      | 0, _ => exact v_tabIn hC (pc := 32) (off := 184) (tgt := 216) dL_law_32 (by decide +kernel) (by decide +kernel) (by decide +kernel) (by decide) (lc_0 hC hX hL hi hI K)
      | 1, _ => exact v_tabIn hC (pc := 32) (off := 207) (tgt := 239) dL_law_32 (by decide +kernel) (by decide +kernel) (by decide +kernel) (by decide) (lc_1 hC hX hL hi hI K)
      | 2, _ => exact v_tabIn hC (pc := 32) (off := 230) (tgt := 262) dL_law_32 (by decide +kernel) (by decide +kernel) (by decide +kernel) (by decide) (lc_2 hC hX hL hi hI K)
      | 3, _ => exact v_tabIn hC (pc := 32) (off := 243) (tgt := 275) dL_law_32 (by decide +kernel) (by decide +kernel) (by decide +kernel) (by decide) (lc_3 hC hX hL hi hI K)
      | 4, _ => exact v_tabIn hC (pc := 32) (off := 256) (tgt := 288) dL_law_32 (by decide +kernel) (by decide +kernel) (by decide +kernel) (by decide) (lc_4 hC hX hL hi hI K)
      | 5, _ => exact v_tabIn hC (pc := 32) (off := 279) (tgt := 311) dL_law_32 (by decide +kernel) (by decide +kernel) (by decide +kernel) (by decide) (lc_5 hC hX hL hi hI K)
      | 6, _ => exact v_tabIn hC (pc := 32) (off := 312) (tgt := 344) dL_law_32 (by decide +kernel) (by decide +kernel) (by decide +kernel) (by decide) (lc_6 hC hX hL hi hI K)
      | 7, _ => exact v_tabIn hC (pc := 32) (off := 345) (tgt := 377) dL_law_32 (by decide +kernel) (by decide +kernel) (by decide +kernel) (by decide) (lc_7 hC hX hL hi hI K)
      | 8, _ => exact v_tabIn hC (pc := 32) (off := 378) (tgt := 410) dL_law_32 (by decide +kernel) (by decide +kernel) (by decide +kernel) (by decide) (lc_8 hC hX hL hi hI K)
      | 9, _ => exact v_tabIn hC (pc := 32) (off := 401) (tgt := 433) dL_law_32 (by decide +kernel) (by decide +kernel) (by decide +kernel) (by decide) (lc_9 hC hX hL hi hI K)
      | 10, _ => exact v_tabIn hC (pc := 32) (off := 444) (tgt := 476) dL_law_32 (by decide +kernel) (by decide +kernel) (by decide +kernel) (by decide) (lc_10 hC hX hL hi hI K)
      | 11, _ => exact v_tabIn hC (pc := 32) (off := 487) (tgt := 519) dL_law_32 (by decide +kernel) (by decide +kernel) (by decide +kernel) (by decide) (lc_11 hC hX hL hi hI K)
      | 12, _ => exact v_tabIn hC (pc := 32) (off := 536) (tgt := 568) dL_law_32 (by decide +kernel) (by decide +kernel) (by decide +kernel) (by decide) (lc_12 hC hX hL hi hI K)
      | 13, _ => exact v_tabIn hC (pc := 32) (off := 559) (tgt := 591) dL_law_32 (by decide +kernel) (by decide +kernel) (by decide +kernel) (by decide) (lc_13 hC hX hL hi hI K)
      | 14, _ => exact v_tabIn hC (pc := 32) (off := 592) (tgt := 624) dL_law_32 (by decide +kernel) (by decide +kernel) (by decide +kernel) (by decide) (lc_14 hC hX hL hi hI K)
      | 15, _ => exact v_tabIn hC (pc := 32) (off := 641) (tgt := 673) dL_law_32 (by decide +kernel) (by decide +kernel) (by decide +kernel) (by decide) (lc_15 hC hX hL hi hI K)
      | 16, _ => exact v_tabIn hC (pc := 32) (off := 674) (tgt := 706) dL_law_32 (by decide +kernel) (by decide +kernel) (by decide +kernel) (by decide) (lc_16 hC hX hL hi hI K)
      | 17, _ => exact v_tabIn hC (pc := 32) (off := 697) (tgt := 729) dL_law_32 (by decide +kernel) (by decide +kernel) (by decide +kernel) (by decide) (lc_17 hC hX hL hi hI K)
      | 18, _ => exact v_tabIn hC (pc := 32) (off := 730) (tgt := 762) dL_law_32 (by decide +kernel) (by decide +kernel) (by decide +kernel) (by decide) (lc_18 hC hX hL hi hI K)
      | 19, _ => exact v_tabIn hC (pc := 32) (off := 753) (tgt := 785) dL_law_32 (by decide +kernel) (by decide +kernel) (by decide +kernel) (by decide) (lc_19 hC hX hL hi hI K)
      | 20, _ => exact v_tabIn hC (pc := 32) (off := 796) (tgt := 828) dL_law_32 (by decide +kernel) (by decide +kernel) (by decide +kernel) (by decide) (lc_20 hC hX hL hi hI K)
      | 21, _ => exact v_tabIn hC (pc := 32) (off := 829) (tgt := 861) dL_law_32 (by decide +kernel) (by decide +kernel) (by decide +kernel) (by decide) (lc_21 hC hX hL hi hI K)
      | 22, _ => exact v_tabIn hC (pc := 32) (off := 882) (tgt := 914) dL_law_32 (by decide +kernel) (by decide +kernel) (by decide +kernel) (by decide) (lc_22 hC hX hL hi hI K)
      | 23, _ => exact v_tabIn hC (pc := 32) (off := 935) (tgt := 967) dL_law_32 (by decide +kernel) (by decide +kernel) (by decide +kernel) (by decide) (lc_23 hC hX hL hi hI K)
      | 24, _ => exact v_tabIn hC (pc := 32) (off := 978) (tgt := 1010) dL_law_32 (by decide +kernel) (by decide +kernel) (by decide +kernel) (by decide) (lc_24 hC hX hL hi hI K)
      | 25, _ => exact v_tabIn hC (pc := 32) (off := 1021) (tgt := 1053) dL_law_32 (by decide +kernel) (by decide +kernel) (by decide +kernel) (by decide) (lc_25 hC hX hL hi hI K)
      | 26, _ => exact v_tabIn hC (pc := 32) (off := 1064) (tgt := 1096) dL_law_32 (by decide +kernel) (by decide +kernel) (by decide +kernel) (by decide) (lc_26 hC hX hL hi hI K)
      | 27, _ => exact v_tabIn hC (pc := 32) (off := 1107) (tgt := 1139) dL_law_32 (by decide +kernel) (by decide +kernel) (by decide +kernel) (by decide) (lc_27 hC hX hL hi hI K)
      | 28, _ => exact v_tabIn hC (pc := 32) (off := 1140) (tgt := 1172) dL_law_32 (by decide +kernel) (by decide +kernel) (by decide +kernel) (by decide) (lc_28 hC hX hL hi hI K)
      | 29, _ => exact v_tabIn hC (pc := 32) (off := 1163) (tgt := 1195) dL_law_32 (by decide +kernel) (by decide +kernel) (by decide +kernel) (by decide) (lc_29 hC hX hL hi hI K)
      | 30, _ => exact v_tabIn hC (pc := 32) (off := 1206) (tgt := 1238) dL_law_32 (by decide +kernel) (by decide +kernel) (by decide +kernel) (by decide) (lc_30 hC hX hL hi hI K)
      | 31, _ => exact v_tabIn hC (pc := 32) (off := 1260) (tgt := 1292) dL_law_32 (by decide +kernel) (by decide +kernel) (by decide +kernel) (by decide) (lc_31 hC hX hL hi hI K)
      | 32, _ => exact v_tabIn hC (pc := 32) (off := 1329) (tgt := 1361) dL_law_32 (by decide +kernel) (by decide +kernel) (by decide +kernel) (by decide) (lc_32 hC hX hL hi hI K)
      | 33, _ => exact v_tabIn hC (pc := 32) (off := 1352) (tgt := 1384) dL_law_32 (by decide +kernel) (by decide +kernel) (by decide +kernel) (by decide) (lc_33 hC hX hL hi hI K)
      | 34, _ => exact v_tabIn hC (pc := 32) (off := 1385) (tgt := 1417) dL_law_32 (by decide +kernel) (by decide +kernel) (by decide +kernel) (by decide) (lc_34 hC hX hL hi hI K)
      | 35, _ => exact v_tabIn hC (pc := 32) (off := 1428) (tgt := 1460) dL_law_32 (by decide +kernel) (by decide +kernel) (by decide +kernel) (by decide) (lc_35 hC hX hL hi hI K)
      | 36, _ => exact v_tabIn hC (pc := 32) (off := 1451) (tgt := 1483) dL_law_32 (by decide +kernel) (by decide +kernel) (by decide +kernel) (by decide) (lc_36 hC hX hL hi hI K)
      | 37, _ => exact v_tabIn hC (pc := 32) (off := 1474) (tgt := 1506) dL_law_32 (by decide +kernel) (by decide +kernel) (by decide +kernel) (by decide) (lc_37 hC hX hL hi hI K)
      | 38, _ => exact v_tabIn hC (pc := 32) (off := 1517) (tgt := 1549) dL_law_32 (by decide +kernel) (by decide +kernel) (by decide +kernel) (by decide) (lc_38 hC hX hL hi hI K)
      | 39, _ => exact v_tabIn hC (pc := 32) (off := 1560) (tgt := 1592) dL_law_32 (by decide +kernel) (by decide +kernel) (by decide +kernel) (by decide) (lc_39 hC hX hL hi hI K)
      | 40, _ => exact v_tabIn hC (pc := 32) (off := 1613) (tgt := 1645) dL_law_32 (by decide +kernel) (by decide +kernel) (by decide +kernel) (by decide) (lc_40 hC hX hL hi hI K)
      | 41, _ => exact v_tabIn hC (pc := 32) (off := 1626) (tgt := 1658) dL_law_32 (by decide +kernel) (by decide +kernel) (by decide +kernel) (by decide) (lc_41 hC hX hL hi hI K)
      | k + 42, hk => exact v_tabOut hC (pc := 32) (tgt := 1681) dL_law_32 (Or.inr (by rw [nI_toInt (by omega)]; omega)) (by decide) (K h hI)
end LAW
