/-! THE READER OF THE CLASS: gloves, streets, signs -/
section TX
variable {T : Nat → Int32} {t : Nat}
theorem numS_D {lo hi : Int32} {e : Nat} {D D' : Nat → Int32} {x : PE} (h : numS T t lo hi (e, D) = .inl x) : numS T t lo hi (e, D') = .inl x := by
  rcases Classical.em (tB T t e) with hb | hb
  · rw [rsp_num T t lo hi (e, D) hb] at h; rw [rsp_num T t lo hi (e, D') hb]; exact h
  · by_cases hk : tK T t e = 2
    · by_cases hv : ¬ tV T t e < lo ∧ ¬ hi < tV T t e
      · rw [numS_o (a := (e, D)) hb hk hv] at h; cases h
      · rw [numS_r (a := (e, D)) hb hk hv] at h; rw [numS_r (a := (e, D')) hb hk hv]; exact h
    · rw [numS_s (a := (e, D)) hb hk] at h; rw [numS_s (a := (e, D')) hb hk]; exact h
theorem numS_E {lo hi : Int32} {e : Nat} {D : Nat → Int32} {b : PA} (D' : Nat → Int32) (h : numS T t lo hi (e, D) = .inr b) : numS T t lo hi (e, D') = .inr (tE T t e, D') := by
  obtain ⟨hb, hv, -⟩ := numS_i h
  by_cases hk : tK T t e = 2
  · exact numS_o (a := (e, D')) hb hk hv
  · rw [numS_s (a := (e, D)) hb hk] at h; cases h
theorem num_8 {e : Nat} {D : Nat → Int32} {b : PA} (h : numS T t 0 7 (e, D) = .inr b) : ∃ c, c < 8 ∧ tV T t e = nI c := by
  obtain ⟨-, hv, -⟩ := numS_i h
  obtain ⟨c, hc7, hcv⟩ := nI_of2 (x := tV T t e) (M := 7) (n := 7) (by decide) hv.1 (Int32.not_lt.mp hv.2)
  exact ⟨c, by omega, hcv⟩
theorem cor_1 {s : Int32} {e : Nat} {D : Nat → Int32} {x : PE} (h : numS T t 0 7 (e, D) = .inl x) : corS T t s (e, D) = .inl x := by
  unfold corS; rw [h]; rfl
theorem cor_2 {s : Int32} {e c : Nat} {D : Nat → Int32} {b : PA} (h : numS T t 0 7 (e, D) = .inr b) (hc : tV T t e = nI c) (hq : ¬ (s >>> (nI c &&& 31)) &&& 1 = 0) : corS T t s (e, D) = .inl (4, tF T t e) := by
  unfold corS
  rw [h, bdE_r]
  show iteP ((s >>> (tV T t e &&& 31)) &&& 1 = 0) _ _ = _
  rw [hc, iteP_f hq]
theorem cor_3 {s : Int32} {e c : Nat} {D : Nat → Int32} {b : PA} (h : numS T t 0 7 (e, D) = .inr b) (hc : tV T t e = nI c) (hq : (s >>> (nI c &&& 31)) &&& 1 = 0) : corS T t s (e, D) = .inr (tE T t e, upd D 85 (mxF (D 85) (nI c))) := by
  unfold corS
  rw [numS_E D h, bdE_r]
  show iteP ((s >>> (tV T t e &&& 31)) &&& 1 = 0) _ _ = _
  rw [hc, iteP_t hq]
theorem zero_tst (c : Nat) : ((0 : Int32) >>> (nI c &&& 31)) &&& 1 = 0 := by rw [Int32.zero_shiftRight]; rfl
theorem mpE_l (x : PE) (f : (Nat → Int32) → (Nat → Int32)) : mpE (.inl x) f = .inl x := rfl
theorem mpE_r (a : PA) (f : (Nat → Int32) → (Nat → Int32)) : mpE (.inr a) f = .inr (a.1, f a.2) := rfl
theorem str_1 {s : Nat} {e : Nat} {D : Nat → Int32} {x : PE} (h : numS T t 0 7 (e, D) = .inl x) : strS T t s (e, D) = .inl x := by
  unfold strS; rw [cor_1 h]; rfl
theorem str_2 {s : Nat} {e c : Nat} {D : Nat → Int32} {b : PA} (h : numS T t 0 7 (e, D) = .inr b) (hc : tV T t e = nI c) (hq : ¬ (D (83 + s) >>> (nI c &&& 31)) &&& 1 = 0) : strS T t s (e, D) = .inl (4, tF T t e) := by
  unfold strS; rw [cor_2 h hc hq]; rfl
theorem str_3 {s : Nat} {e c : Nat} {D D' : Nat → Int32} {b : PA} {x : PE} (h : numS T t 0 7 (e, D) = .inr b) (hc : tV T t e = nI c) (hq : (D (83 + s) >>> (nI c &&& 31)) &&& 1 = 0) (h2 : numS T t 0 7 (tE T t e, D') = .inl x) : strS T t s (e, D) = .inl x := by
  unfold strS; rw [cor_3 h hc hq, mpE_r, bdE_r, cor_1 (numS_D h2)]; rfl
theorem str_4 {s : Nat} (hs : s < 2) {e c g : Nat} {D D' : Nat → Int32} {b b2 : PA} (h : numS T t 0 7 (e, D) = .inr b) (hc : tV T t e = nI c) (hc8 : c < 8) (hq : (D (83 + s) >>> (nI c &&& 31)) &&& 1 = 0) (h2 : numS T t 0 7 (tE T t e, D') = .inr b2) (hg : tV T t (tE T t e) = nI g) : ∃ E : Nat → Int32, strS T t s (e, D) = .inr (tE T t (tE T t e), upd E (8 * s + c) (nI g)) ∧ E (83 + s) = upd D 85 (mxF (D 85) (nI c)) (83 + s) ||| (1 <<< (nI c &&& 31)) ∧ ∀ k, k ≠ 85 → k ≠ 83 + s → E k = D k := by
  unfold strS
  rw [cor_3 h hc hq, mpE_r, bdE_r, cor_3 (numS_E _ h2) hg (zero_tst g), mpE_r]
  have e1 : tV T t (e, D).1 = nI c := hc
  rw [e1, hg, nI_clamp (show c < 2 ^ 31 by omega)]
  exact ⟨_, rfl, by dsimp only; rw [updo (by omega), updi], fun k h1 h2 => by dsimp only; rw [updo h1, updo h2, updo h1]⟩
theorem sgn_1 {e : Nat} {D : Nat → Int32} {x : PE} (h : numS T t 0 7 (e, D) = .inl x) : sgnS T t (e, D) = .inl x := by
  unfold sgnS; rw [cor_1 h]; rfl
theorem sgn_2 {e c : Nat} {D : Nat → Int32} {b : PA} (h : numS T t 0 7 (e, D) = .inr b) (hc : tV T t e = nI c) (hq : ¬ (D 16 >>> (nI c &&& 31)) &&& 1 = 0) : sgnS T t (e, D) = .inl (4, tF T t e) := by
  unfold sgnS; rw [cor_2 h hc hq]; rfl
theorem sgn_3 {e c : Nat} {D : Nat → Int32} {b : PA} (h : numS T t 0 7 (e, D) = .inr b) (hc : tV T t e = nI c) (hq : (D 16 >>> (nI c &&& 31)) &&& 1 = 0) : sgnS T t (e, D) = .inr (tE T t e, upd (upd D 85 (mxF (D 85) (nI c))) 16 (D 16 ||| (1 <<< (nI c &&& 31)))) := by
  unfold sgnS
  rw [cor_3 h hc hq, mpE_r]
  have e1 : tV T t (e, D).1 = nI c := hc
  rw [e1]
theorem gl_l {a : PA} {g : Nat} {x : PE} (h : glN T t g a = .inl x) : ∀ k, glN T t (g + k) a = .inl x
  | 0 => h
  | k + 1 => by
    show glN T t (g + k + 1) a = _
    rw [glN_s, gl_l h k]; rfl
theorem gl_n {a b : PA} {g : Nat} {x : PE} (h : glN T t g a = .inr b) (hn : numS T t 0 9 b = .inl x) : glN T t (g + 1) a = .inl x := by
  rw [glN_s, h, bdE_r, hn]; rfl
theorem gl_g {a b c : PA} {g : Nat} (h : glN T t g a = .inr b) (hn : numS T t 0 9 b = .inr c) : glN T t (g + 1) a = .inr (c.1, upd c.2 (43 + g) (tV T t b.1)) := by
  rw [glN_s, h, bdE_r, hn]; rfl
end TX
theorem DCd_gl {h : HP} {D : Nat → Int32} {g0 : Nat} (hg0 : g0 < 4) (v : Int32) (hd : DCd h D) : DCd (upI h (0, 4, 8) g0 v) (upd D (43 + g0) v) := by
  obtain ⟨⟨a0, a1, a2, a3, a4, a5⟩, a6, a7, a8⟩ := hd
  unfold DCd
  rw [upI_ne _ _ _ (show ((0, 4, 0) : PId) ≠ (0, 4, 8) by decide), upI_ne _ _ _ (show ((0, 4, 6) : PId) ≠ (0, 4, 8) by decide)]
  refine ⟨⟨by rw [updo (by omega)]; exact a0, by rw [updo (by omega)]; exact a1, by rw [updo (by omega)]; exact a2, a3, by rw [updo (by omega)]; exact a4, a5⟩, fun c s hc hs => by rw [updo (by omega)]; exact a6 c s hc hs, fun g hg => ?_, fun n hn en w hw => ?_⟩
  · exact up_rj (j := 43) (a7 g hg)
  · rw [updo (by omega)] at en
    have z := a8 n hn en w hw
    unfold WC at z ⊢
    rw [upI_ne _ _ _ (ne_1 (by decide)), updo (by omega), updo (by omega), updo (by omega), updo (by omega), updo (by omega), updo (by omega)]
    exact z
theorem DCd_st {h : HP} {D : Nat → Int32} {c0 s0 : Nat} (hc0 : c0 < 8) (hs0 : s0 < 2) (v : Int32) (hd : DCd h D) : DCd (upI h (0, 4, 6) (2 * c0 + s0) v) (upd D (8 * s0 + c0) v) := by
  obtain ⟨⟨a0, a1, a2, a3, a4, a5⟩, a6, a7, a8⟩ := hd
  unfold DCd
  rw [upI_ne _ _ _ (show ((0, 4, 0) : PId) ≠ (0, 4, 6) by decide), upI_ne _ _ _ (show ((0, 4, 8) : PId) ≠ (0, 4, 6) by decide)]
  refine ⟨⟨by rw [updo (by omega)]; exact a0, by rw [updo (by omega)]; exact a1, by rw [updo (by omega)]; exact a2, a3, by rw [updo (by omega)]; exact a4, a5⟩, fun c s hc hs => ?_, fun g hg => by rw [updo (by omega)]; exact a7 g hg, fun n hn en w hw => ?_⟩
  · by_cases q : 2 * c + s = 2 * c0 + s0
    · rw [q, upI_i, show 8 * s + c = 8 * s0 + c0 by omega, updi]
    · rw [upI_k _ _ _ _ _ q, updo (by omega)]; exact a6 c s hc hs
  · rw [updo (by omega)] at en
    have z := a8 n hn en w hw
    unfold WC at z ⊢
    rw [upI_ne _ _ _ (ne_1 (by decide)), updo (by omega), updo (by omega), updo (by omega), updo (by omega), updo (by omega), updo (by omega)]
    exact z
theorem DCt_83 {h : HP} {D E : Nat → Int32} {s : Nat} (hs : s < 2) (x : Int32) (hd : DCt h D) (h1 : E (83 + s) = D (83 + s) ||| x) (h2 : ∀ k, k = 16 ∨ (82 ≤ k ∧ k ≤ 84) → k ≠ 83 + s → E k = D k) : DCt (upI h (1, 0, 4) (1 + s) (h.1 (1, 0, 4) (1 + s) ||| x)) E := by
  obtain ⟨a0, a1, a2, a3, a4, a7⟩ := hd
  unfold DCt
  rw [upI_k _ _ _ 0 _ (by omega), upI_k _ _ _ 3 _ (by omega), upI_k _ _ _ 4 _ (by omega), upI_k _ _ _ 7 _ (by omega), h2 82 (by omega) (by omega), h2 16 (by omega) (by omega)]
  rcases (show s = 0 ∨ s = 1 by omega) with e | e <;> subst e
  · refine ⟨a0, ?_, ?_, a3, a4, a7⟩
    · show (upI h (1, 0, 4) 1 (h.1 (1, 0, 4) 1 ||| x)).1 (1, 0, 4) 1 = E 83
      rw [upI_i, a1]; exact h1.symm
    · rw [upI_k _ _ _ _ _ (by decide), h2 84 (by omega) (by omega)]; exact a2
  · refine ⟨a0, ?_, ?_, a3, a4, a7⟩
    · rw [upI_k _ _ _ _ _ (by decide), h2 83 (by omega) (by omega)]; exact a1
    · show (upI h (1, 0, 4) 2 (h.1 (1, 0, 4) 2 ||| x)).1 (1, 0, 4) 2 = E 84
      rw [upI_i, a2]; exact h1.symm
theorem DCt_16 {h : HP} {D E : Nat → Int32} (x : Int32) (hd : DCt h D) (h1 : E 16 = D 16 ||| x) (h2 : ∀ k, 82 ≤ k ∧ k ≤ 84 → E k = D k) : DCt (upI h (1, 0, 4) 3 (h.1 (1, 0, 4) 3 ||| x)) E := by
  obtain ⟨a0, a1, a2, a3, a4, a7⟩ := hd
  unfold DCt
  rw [upI_k _ _ _ 0 _ (by omega), upI_k _ _ _ 1 _ (by omega), upI_k _ _ _ 2 _ (by omega), upI_k _ _ _ 4 _ (by omega), upI_k _ _ _ 7 _ (by omega), upI_i, h2 82 (by omega), h2 83 (by omega), h2 84 (by omega), h1, a3]
  exact ⟨a0, a1, a2, rfl, a4, a7⟩
set_option maxRecDepth 20000 in
set_option maxHeartbeats 2000000 in
theorem t_takeGloves (l9 : Launch) (G : WT) {d : Nat} (hd : 4 ≤ d) {T : Nat → Int32} {t : Nat} {h0 : HP} (ht : t ≤ 160) (htp : h0.1 (1, 0, 2) 1 = nI t) (hT : h0.1 (1, 0, 3) = T) (hT0 : ∀ j, j < t → ¬ T j < 0) (h : HP) {e f : Nat} {D : Nat → Int32} (hS : CSt t h0 h (e, D)) (hq7 : h.1 (1, 0, 2) 7 = nI f) (hm : ∃ m, m < 32 ∧ D 82 = nI m) : MS l9 G yX2_takeGloves cX2_takeGloves 3 (some .boolean) d [vr (1, 0, 2)] h (fun r h1 => TKP t h0 h1 (iteP ((D 82 >>> (nI 4 &&& 31)) &&& 1 = 0) (linK T t 4 (e, (upd D 82 (D 82 ||| (1 <<< (nI 4 &&& 31)))))) (.inl (4, f))) r) := by
  refine MS_of (by decide +kernel) (Nat.le_of_ble_eq_true rfl) (fun X hC hX => ?_)
  show V X G 3 0 _ [] _
  obtain ⟨hE, he, hDd, hDt, hz, hp⟩ := id hS
  have hld : h.1 (1, 0, 4) 7 = (D 82 >>> (nI 4 &&& 31)) &&& 1 := hDt.2.2.2.2.2
  have hE1 : CE h0 (upI h (1, 0, 4) 7 (h.1 (1, 0, 4) 7 ||| (1 <<< (nI 0 &&& 31)))) := CE_t hE
  have hDd1 : DCd (upI h (1, 0, 4) 7 (h.1 (1, 0, 4) 7 ||| (1 <<< (nI 0 &&& 31)))) (upd D 82 (D 82 ||| (1 <<< (nI 4 &&& 31)))) := DCd_c (DCd_t hDd) (fun k hk => updo (by omega))
  have hDt1 : DCt (upI h (1, 0, 4) 7 (h.1 (1, 0, 4) 7 ||| (1 <<< (nI 0 &&& 31)))) (upd D 82 (D 82 ||| (1 <<< (nI 4 &&& 31)))) := DCt_4 hDt hm
  by_cases hq : (D 82 >>> (nI 4 &&& 31)) &&& 1 = 0
  · skip
    have LP : ∀ (n i : Nat) (u : HP) (b : PA), i ≤ 4 → 5 ≤ i + n → glN T t i (e, (upd D 82 (D 82 ||| (1 <<< (nI 4 &&& 31))))) = .inr b → CSt t h0 u b → V X G 3 14 [(1, vi (nI i)), (0, vr (1, 0, 2))] [] u := by
      intro n
      induction n with
      | zero => intro i u b h1 h2; exact absurd h2 (by omega)
      | succ n ih =>
        intro i u b h1 h2 hg hu
        by_cases hi9 : i < 4
        · cases hn : numS T t 0 9 b with
          | inl x9 =>
            refine v_iload_n hC (pc := 14) (k := 1) 0 rfl dX2_takeGloves_14 ?_
            refine v_aload_n hC (pc := 15) (k := 0) 1 rfl dX2_takeGloves_15 ?_
            refine v_getR hC (pc := 16) dX2_takeGloves_16 fl_X2_12 rfl (by first | rfl | exact ok_c hq rfl | exact ok_w hq hw | exact ok_w (by omega) (by omega) | exact ok_s (by omega) (by omega) | exact ok_c (by omega) rfl | assumption) rfl (by decide) (by decide) rfl ?_
            refine v_getR hC (pc := 19) dX2_takeGloves_19 fl_X2_155 rfl (by first | rfl | exact ok_c hq rfl | exact ok_w hq hw | exact ok_w (by omega) (by omega) | exact ok_s (by omega) (by omega) | exact ok_c (by omega) rfl | assumption) rfl (by decide) (by decide) rfl ?_
            refine v_alen hC (pc := 22) 0 dX2_takeGloves_22 rfl (fun _ => rfl) (by first | exact Or.inl rfl | exact Or.inr rfl) (by first | rfl | exact ok_c hq rfl | exact ok_w hq hw | exact ok_w (by omega) (by omega) | exact ok_s (by omega) (by omega) | exact ok_c (by omega) rfl | assumption) (v := nI 4) (by decide +kernel) ?_
            refine v_icmp_ge hC (pc := 23) (tgt := 56) dX2_takeGloves_23 (by decide) (fun c_23 => ?_) (fun c_23 => ?_)
            · exact absurd c_23 (nI_ge hi9 (by decide))
            · skip
              refine v_aload_n hC (pc := 26) (k := 0) 1 rfl dX2_takeGloves_26 ?_
              refine v_iconst hC (pc := 27) (v := 0) (by decide) dX2_takeGloves_27 ?_
              refine v_bipush hC (pc := 28) (v := 9) (by decide +kernel) dX2_takeGloves_28 ?_
              refine v_callV hC (pc := 30) (As := [_, _]) dX2_takeGloves_30 rfl (t_num_f _ _ (d := d - 1) (by omega) _ (a := b) ht ((hu.1).2.2 1 (by decide) |>.trans htp) (((hu.1).1 (1, 0, 3) (by decide) (by decide) nC3).trans hT) hT0 hu.2.2.2.2.2 hu.2.1 0 9 hn) cv_X2_139 rfl (by decide) rfl (by first | rfl | exact ok_c hq rfl | exact ok_w hq hw | exact ok_w (by omega) (by omega) | exact ok_s (by omega) (by omega) | exact ok_c (by omega) rfl | assumption) (Nat.le_of_ble_eq_true rfl) (by omega) (fun r h' hr => ?_)
              obtain ⟨rfl, hF⟩ := hr
              generalize h' = u9 at hF ⊢
              show V _ _ _ (30 + 3) _ (_ :: _) _
              refine v_istore_n hC (pc := 33) (l' := [(2, _), (1, _), (0, _)]) dX2_takeGloves_33 (by decide) rfl ?_
              refine v_iload_n hC (pc := 34) (k := 2) 0 rfl dX2_takeGloves_34 ?_
              refine v_if_ge hC (pc := 35) (tgt := 40) dX2_takeGloves_35 (by decide) (fun c_35 => ?_) (fun c_35 => ?_)
              · exact absurd (show (-1 : Int32) < 0 by decide) (Int32.not_lt.mpr c_35)
              · skip
                refine v_iconst hC (pc := 38) (v := 0) (by decide) dX2_takeGloves_38 ?_
                refine v_zret hC hX (pc := 39) dX2_takeGloves_39 (nar_b (by first | exact Or.inl rfl | exact Or.inr rfl | exact bI_01 _)) ?_
                rw [iteP_t hq, linK_4, (show glN T t 4 (e, (upd D 82 (D 82 ||| (1 <<< (nI 4 &&& 31))))) = .inl x9 from by have q := gl_l (gl_n hg hn) (4 - (i + 1)); rw [show i + 1 + (4 - (i + 1)) = 4 by omega] at q; exact q)]
                exact ⟨rfl, CFl_rf hu.1 hF⟩
          | inr b2 =>
            refine v_iload_n hC (pc := 14) (k := 1) 0 rfl dX2_takeGloves_14 ?_
            refine v_aload_n hC (pc := 15) (k := 0) 1 rfl dX2_takeGloves_15 ?_
            refine v_getR hC (pc := 16) dX2_takeGloves_16 fl_X2_12 rfl (by first | rfl | exact ok_c hq rfl | exact ok_w hq hw | exact ok_w (by omega) (by omega) | exact ok_s (by omega) (by omega) | exact ok_c (by omega) rfl | assumption) rfl (by decide) (by decide) rfl ?_
            refine v_getR hC (pc := 19) dX2_takeGloves_19 fl_X2_155 rfl (by first | rfl | exact ok_c hq rfl | exact ok_w hq hw | exact ok_w (by omega) (by omega) | exact ok_s (by omega) (by omega) | exact ok_c (by omega) rfl | assumption) rfl (by decide) (by decide) rfl ?_
            refine v_alen hC (pc := 22) 0 dX2_takeGloves_22 rfl (fun _ => rfl) (by first | exact Or.inl rfl | exact Or.inr rfl) (by first | rfl | exact ok_c hq rfl | exact ok_w hq hw | exact ok_w (by omega) (by omega) | exact ok_s (by omega) (by omega) | exact ok_c (by omega) rfl | assumption) (v := nI 4) (by decide +kernel) ?_
            refine v_icmp_ge hC (pc := 23) (tgt := 56) dX2_takeGloves_23 (by decide) (fun c_23 => ?_) (fun c_23 => ?_)
            · exact absurd c_23 (nI_ge hi9 (by decide))
            · skip
              refine v_aload_n hC (pc := 26) (k := 0) 1 rfl dX2_takeGloves_26 ?_
              refine v_iconst hC (pc := 27) (v := 0) (by decide) dX2_takeGloves_27 ?_
              refine v_bipush hC (pc := 28) (v := 9) (by decide +kernel) dX2_takeGloves_28 ?_
              refine v_callV hC (pc := 30) (As := [_, _]) dX2_takeGloves_30 rfl (t_num_g _ _ (d := d - 1) (by omega) _ (a := b) ht ((hu.1).2.2 1 (by decide) |>.trans htp) (((hu.1).1 (1, 0, 3) (by decide) (by decide) nC3).trans hT) hT0 hu.2.2.2.2.2 hu.2.1 0 9 hn) cv_X2_139 rfl (by decide) rfl (by first | rfl | exact ok_c hq rfl | exact ok_w hq hw | exact ok_w (by omega) (by omega) | exact ok_s (by omega) (by omega) | exact ok_c (by omega) rfl | assumption) (Nat.le_of_ble_eq_true rfl) (by omega) (fun r h' hr => ?_)
              obtain ⟨rfl, hF⟩ := hr
              generalize h' = u9 at hF ⊢
              show V _ _ _ (30 + 3) _ (_ :: _) _
              refine v_istore_n hC (pc := 33) (l' := [(2, _), (1, _), (0, _)]) dX2_takeGloves_33 (by decide) rfl ?_
              refine v_iload_n hC (pc := 34) (k := 2) 0 rfl dX2_takeGloves_34 ?_
              refine v_if_ge hC (pc := 35) (tgt := 40) dX2_takeGloves_35 (by decide) (fun c_35 => ?_) (fun c_35 => ?_)
              · skip
                refine v_aload_n hC (pc := 40) (k := 0) 2 rfl dX2_takeGloves_40 ?_
                refine v_getR hC (pc := 41) dX2_takeGloves_41 fl_X2_12 rfl (by first | rfl | exact ok_c hq rfl | exact ok_w hq hw | exact ok_w (by omega) (by omega) | exact ok_s (by omega) (by omega) | exact ok_c (by omega) rfl | assumption) rfl (by decide) (by decide) rfl ?_
                refine v_getR hC (pc := 44) dX2_takeGloves_44 fl_X2_155 rfl (by first | rfl | exact ok_c hq rfl | exact ok_w hq hw | exact ok_w (by omega) (by omega) | exact ok_s (by omega) (by omega) | exact ok_c (by omega) rfl | assumption) rfl (by decide) (by decide) rfl ?_
                refine v_iload_n hC (pc := 47) (k := 1) 1 rfl dX2_takeGloves_47 ?_
                refine v_iload_n hC (pc := 48) (k := 2) 0 rfl dX2_takeGloves_48 ?_
                refine v_iast hC (pc := 49) dX2_takeGloves_49 rfl (by first | rfl | exact ok_c hq rfl | exact ok_w hq hw | exact ok_w (by omega) (by omega) | exact ok_s (by omega) (by omega) | exact ok_c (by omega) rfl | assumption) (vp_nat (n := i) (by omega) (by decide)) ?_
                refine v_iinc hC (pc := 50) (l' := [(1, _), (2, _), (0, _)]) 1 (v := nI (i + 1)) dX2_takeGloves_50 rfl (nI_inc i) (by decide) rfl ?_
                refine v_goto hC (pc := 53) (tgt := 14) dX2_takeGloves_53 (by decide) ?_
                refine v_loc (l' := [(1, _), (0, _)]) [0, 2] rfl ?_
                obtain ⟨hF1, hF2, hF3, hF5, hF7⟩ := hF
                have hb9 := (numS_i hn).2.2
                rw [nI_clamp (show i < 2 ^ 31 by omega)]
                refine ih (i + 1) _ (b2.1, upd b2.2 (43 + i) (tV T t b.1)) (by omega) (by omega) (gl_g hg hn) ?_
                rw [hb9]
                exact ⟨CE_c (i := (0, 4, 8)) ⟨Or.inl rfl, rfl⟩ (CE_F hu.1 hF1), (tE_m hu.2.1).2, DCd_gl hi9 _ (DCd_F hu.2.2.1 hF1), DCt_p (by decide) (DCt_c (DCt_F hu.2.2.2.1 hF1) (fun k hk => updo (by omega))), by rw [upI_ne _ _ _ (by decide), hF2]; exact hu.2.2.2.2.1, by rw [upI_ne _ _ _ (by decide)]; exact hF5⟩
              · exact absurd (Int32.not_lt.mp (numS_i hn).2.1.1) c_35
        · skip
          refine v_iload_n hC (pc := 14) (k := 1) 0 rfl dX2_takeGloves_14 ?_
          refine v_aload_n hC (pc := 15) (k := 0) 1 rfl dX2_takeGloves_15 ?_
          refine v_getR hC (pc := 16) dX2_takeGloves_16 fl_X2_12 rfl (by first | rfl | exact ok_c hq rfl | exact ok_w hq hw | exact ok_w (by omega) (by omega) | exact ok_s (by omega) (by omega) | exact ok_c (by omega) rfl | assumption) rfl (by decide) (by decide) rfl ?_
          refine v_getR hC (pc := 19) dX2_takeGloves_19 fl_X2_155 rfl (by first | rfl | exact ok_c hq rfl | exact ok_w hq hw | exact ok_w (by omega) (by omega) | exact ok_s (by omega) (by omega) | exact ok_c (by omega) rfl | assumption) rfl (by decide) (by decide) rfl ?_
          refine v_alen hC (pc := 22) 0 dX2_takeGloves_22 rfl (fun _ => rfl) (by first | exact Or.inl rfl | exact Or.inr rfl) (by first | rfl | exact ok_c hq rfl | exact ok_w hq hw | exact ok_w (by omega) (by omega) | exact ok_s (by omega) (by omega) | exact ok_c (by omega) rfl | assumption) (v := nI 4) (by decide +kernel) ?_
          refine v_icmp_ge hC (pc := 23) (tgt := 56) dX2_takeGloves_23 (by decide) (fun c_23 => ?_) (fun c_23 => ?_)
          · skip
            refine v_iconst hC (pc := 56) (v := 1) (by decide) dX2_takeGloves_56 ?_
            refine v_zret hC hX (pc := 57) dX2_takeGloves_57 (nar_b (by first | exact Or.inl rfl | exact Or.inr rfl | exact bI_01 _)) ?_
            have hi4 : i = 4 := by omega
            subst hi4
            rw [iteP_t hq, linK_4, hg]
            exact ⟨rfl, hu⟩
          · exact absurd (nI_le (show 4 ≤ i by omega) (by omega)) c_23
    refine v_aload_n hC (pc := 0) (k := 0) 0 rfl dX2_takeGloves_0 ?_
    refine v_bipush hC (pc := 1) (v := 7) (by decide +kernel) dX2_takeGloves_1 ?_
    refine v_iconst hC (pc := 3) (v := 0) (by decide) dX2_takeGloves_3 ?_
    refine v_callV hC (pc := 4) (As := [_, _]) dX2_takeGloves_4 rfl (t_tell_g _ _ (d := d - 1) (by omega) _ (l := 7) (c := 0) (by decide) (by rw [hld]; exact b01_2 hq)) cv_X2_136 rfl (by decide) rfl (by first | rfl | exact ok_c hq rfl | exact ok_w hq hw | exact ok_w (by omega) (by omega) | exact ok_s (by omega) (by omega) | exact ok_c (by omega) rfl | assumption) (Nat.le_of_ble_eq_true rfl) (by omega) (fun r h' hr => ?_)
    obtain ⟨he9, rfl⟩ := hr
    rw [he9]
    clear he9 h'
    show V _ _ _ (4 + 3) _ (_ :: _) _
    refine v_if_ne hC (pc := 7) (tgt := 12) dX2_takeGloves_7 (by decide) (fun c_7 => ?_) (fun c_7 => ?_)
    · skip
      refine v_iconst hC (pc := 12) (v := 0) (by decide) dX2_takeGloves_12 ?_
      refine v_istore_n hC (pc := 13) (l' := [(1, _), (0, _)]) dX2_takeGloves_13 (by decide) rfl ?_
      exact LP 5 0 _ (e, (upd D 82 (D 82 ||| (1 <<< (nI 4 &&& 31))))) (by omega) (by omega) rfl ⟨hE1, he, hDd1, hDt1, (by rw [upI_ne _ _ _ (by decide)]; exact hz), (by rw [upI_ne _ _ _ (by decide)]; exact hp)⟩
    · exact absurd c_7 (by decide)
  · skip
    refine v_aload_n hC (pc := 0) (k := 0) 0 rfl dX2_takeGloves_0 ?_
    refine v_bipush hC (pc := 1) (v := 7) (by decide +kernel) dX2_takeGloves_1 ?_
    refine v_iconst hC (pc := 3) (v := 0) (by decide) dX2_takeGloves_3 ?_
    refine v_callV hC (pc := 4) (As := [_, _]) dX2_takeGloves_4 rfl (t_tell_n _ _ (d := d - 1) (by omega) _ (l := 7) (c := 0) (by decide) (by rw [hld]; exact b01_1 hq)) cv_X2_136 rfl (by decide) rfl (by first | rfl | exact ok_c hq rfl | exact ok_w hq hw | exact ok_w (by omega) (by omega) | exact ok_s (by omega) (by omega) | exact ok_c (by omega) rfl | assumption) (Nat.le_of_ble_eq_true rfl) (by omega) (fun r h' hr => ?_)
    obtain ⟨he9, rfl⟩ := hr
    rw [he9]
    clear he9 h'
    show V _ _ _ (4 + 3) _ (_ :: _) _
    refine v_if_ne hC (pc := 7) (tgt := 12) dX2_takeGloves_7 (by decide) (fun c_7 => ?_) (fun c_7 => ?_)
    · exact absurd c_7 (by decide)
    · skip
      refine v_iconst hC (pc := 10) (v := 0) (by decide) dX2_takeGloves_10 ?_
      refine v_zret hC hX (pc := 11) dX2_takeGloves_11 (nar_b (by first | exact Or.inl rfl | exact Or.inr rfl | exact bI_01 _)) ?_
      rw [iteP_f hq]
      exact ⟨rfl, CE_F hE (FrR_rf (FrR_r h)), rfH_2 _ _ _, (rfH_3 _ _ _).trans hq7⟩

set_option maxRecDepth 20000 in
set_option maxHeartbeats 2000000 in
theorem t_takeSign (l9 : Launch) (G : WT) {d : Nat} (hd : 4 ≤ d) {T : Nat → Int32} {t : Nat} {h0 : HP} (ht : t ≤ 160) (htp : h0.1 (1, 0, 2) 1 = nI t) (hT : h0.1 (1, 0, 3) = T) (hT0 : ∀ j, j < t → ¬ T j < 0) (h : HP) {e f : Nat} {D : Nat → Int32} (hS : CSt t h0 h (e, D)) (hq7 : h.1 (1, 0, 2) 7 = nI f) : MS l9 G yX2_takeSign cX2_takeSign 2 (some .boolean) d [vr (1, 0, 2)] h (fun r h1 => TKP t h0 h1 (sgnS T t (e, D)) r) := by
  refine MS_of (by decide +kernel) (Nat.le_of_ble_eq_true rfl) (fun X hC hX => ?_)
  show V X G 2 0 _ [] _
  obtain ⟨hE, he, hDd, hDt, hz, hp⟩ := id hS
  cases hn : numS T t 0 7 (e, D) with
  | inl x9 =>
    refine v_aload_n hC (pc := 0) (k := 0) 0 rfl dX2_takeSign_0 ?_
    refine v_iconst hC (pc := 1) (v := 0) (by decide) dX2_takeSign_1 ?_
    refine v_bipush hC (pc := 2) (v := 7) (by decide +kernel) dX2_takeSign_2 ?_
    refine v_callV hC (pc := 4) (As := [_, _]) dX2_takeSign_4 rfl (t_num_f _ _ (d := d - 1) (by omega) _ (a := ((e, D) : PA)) ht ((hE).2.2 1 (by decide) |>.trans htp) (((hE).1 (1, 0, 3) (by decide) (by decide) nC3).trans hT) hT0 hp he 0 7 hn) cv_X2_139 rfl (by decide) rfl (by first | rfl | exact ok_c hq rfl | exact ok_w hq hw | exact ok_w (by omega) (by omega) | exact ok_s (by omega) (by omega) | exact ok_c (by omega) rfl | assumption) (Nat.le_of_ble_eq_true rfl) (by omega) (fun r h' hr => ?_)
    obtain ⟨rfl, hF⟩ := hr
    generalize h' = u9 at hF ⊢
    show V _ _ _ (4 + 3) _ (_ :: _) _
    refine v_istore_n hC (pc := 7) (l' := [(1, _), (0, _)]) dX2_takeSign_7 (by decide) rfl ?_
    refine v_iload_n hC (pc := 8) (k := 1) 0 rfl dX2_takeSign_8 ?_
    refine v_if_lt hC (pc := 9) (tgt := 21) dX2_takeSign_9 (by decide) (fun c_9 => ?_) (fun c_9 => ?_)
    · skip
      refine v_iconst hC (pc := 21) (v := 0) (by decide) dX2_takeSign_21 ?_
      refine v_zret hC hX (pc := 22) dX2_takeSign_22 (nar_b (by first | exact Or.inl rfl | exact Or.inr rfl | exact bI_01 _)) ?_
      rw [sgn_1 hn]
      exact ⟨rfl, CFl_rf hE hF⟩
    · exact absurd (show (-1 : Int32) < 0 by decide) c_9
  | inr b9 =>
    obtain ⟨c, hc8, hcv⟩ := num_8 hn
    by_cases hq : (D 16 >>> (nI c &&& 31)) &&& 1 = 0
    · skip
      refine v_aload_n hC (pc := 0) (k := 0) 0 rfl dX2_takeSign_0 ?_
      refine v_iconst hC (pc := 1) (v := 0) (by decide) dX2_takeSign_1 ?_
      refine v_bipush hC (pc := 2) (v := 7) (by decide +kernel) dX2_takeSign_2 ?_
      refine v_callV hC (pc := 4) (As := [_, _]) dX2_takeSign_4 rfl (t_num_g _ _ (d := d - 1) (by omega) _ (a := ((e, D) : PA)) ht ((hE).2.2 1 (by decide) |>.trans htp) (((hE).1 (1, 0, 3) (by decide) (by decide) nC3).trans hT) hT0 hp he 0 7 hn) cv_X2_139 rfl (by decide) rfl (by first | rfl | exact ok_c hq rfl | exact ok_w hq hw | exact ok_w (by omega) (by omega) | exact ok_s (by omega) (by omega) | exact ok_c (by omega) rfl | assumption) (Nat.le_of_ble_eq_true rfl) (by omega) (fun r h' hr => ?_)
      obtain ⟨rfl, hF⟩ := hr
      obtain ⟨hF1, hF2, hF3, hF5, hF7⟩ := hF
      rw [show tV T t (e, D).1 = nI c from hcv]
      generalize h' = u9 at hF1 hF2 hF3 hF5 hF7 ⊢
      have hDd2 := DCd_F hDd hF1
      have hDt2 := DCt_F hDt hF1
      have hE2 := CE_F hE hF1
      show V _ _ _ (4 + 3) _ (_ :: _) _
      refine v_istore_n hC (pc := 7) (l' := [(1, _), (0, _)]) dX2_takeSign_7 (by decide) rfl ?_
      refine v_iload_n hC (pc := 8) (k := 1) 0 rfl dX2_takeSign_8 ?_
      refine v_if_lt hC (pc := 9) (tgt := 21) dX2_takeSign_9 (by decide) (fun c_9 => ?_) (fun c_9 => ?_)
      · exact absurd c_9 (nI_pos (by omega))
      · skip
        refine v_aload_n hC (pc := 12) (k := 0) 1 rfl dX2_takeSign_12 ?_
        refine v_iconst hC (pc := 13) (v := 3) (by decide) dX2_takeSign_13 ?_
        refine v_iload_n hC (pc := 14) (k := 1) 0 rfl dX2_takeSign_14 ?_
        refine v_callV hC (pc := 15) (As := [_, _]) dX2_takeSign_15 rfl (t_tell_g _ _ (d := d - 1) (by omega) _ (l := 3) (c := c) (by omega) (by rw [hDt2.2.2.2.1, hq]; decide)) cv_X2_136 rfl (by decide) rfl (by first | rfl | exact ok_c hq rfl | exact ok_w hq hw | exact ok_w (by omega) (by omega) | exact ok_s (by omega) (by omega) | exact ok_c (by omega) rfl | assumption) (Nat.le_of_ble_eq_true rfl) (by omega) (fun r h' hr => ?_)
        obtain ⟨he9, rfl⟩ := hr
        rw [he9]
        clear he9 h'
        show V _ _ _ (15 + 3) _ (_ :: _) _
        refine v_if_ne hC (pc := 18) (tgt := 23) dX2_takeSign_18 (by decide) (fun c_18 => ?_) (fun c_18 => ?_)
        · skip
          refine v_aload_n hC (pc := 23) (k := 0) 1 rfl dX2_takeSign_23 ?_
          refine v_getR hC (pc := 24) dX2_takeSign_24 fl_X2_12 rfl (by first | rfl | exact ok_c hq rfl | exact ok_w hq hw | exact ok_w (by omega) (by omega) | exact ok_s (by omega) (by omega) | exact ok_c (by omega) rfl | assumption) rfl (by decide) (by decide) rfl ?_
          refine v_dup hC (pc := 27) rfl dX2_takeSign_27 ?_
          refine v_getI hC (pc := 28) dX2_takeSign_28 fl_X2_150 rfl (by first | rfl | exact ok_c hq rfl | exact ok_w hq hw | exact ok_w (by omega) (by omega) | exact ok_s (by omega) (by omega) | exact ok_c (by omega) rfl | assumption) rfl (by decide) (by decide) ?_
          skip
          refine v_iconst hC (pc := 31) (v := 1) (by decide) dX2_takeSign_31 ?_
          refine v_iload_n hC (pc := 32) (k := 1) 0 rfl dX2_takeSign_32 ?_
          refine v_ishl hC (pc := 33) dX2_takeSign_33 ?_
          refine v_ior hC (pc := 34) dX2_takeSign_34 ?_
          refine v_putI hC (pc := 35) dX2_takeSign_35 fs_X2_150 rfl (by first | rfl | exact ok_c hq rfl | exact ok_w hq hw | exact ok_w (by omega) (by omega) | exact ok_s (by omega) (by omega) | exact ok_c (by omega) rfl | assumption) rfl (by decide) (by decide) ?_
          refine v_iconst hC (pc := 38) (v := 1) (by decide) dX2_takeSign_38 ?_
          refine v_zret hC hX (pc := 39) dX2_takeSign_39 (nar_b (by first | exact Or.inl rfl | exact Or.inr rfl | exact bI_01 _)) ?_
          rw [sgn_3 hn hcv hq]
          refine ⟨rfl, CE_c (i := (0, 4, 0)) ⟨Or.inl rfl, rfl⟩ (CE_t hE2), (tE_m he).2, ?_, ?_, ?_, ?_⟩
          · rw [upI_ne _ _ _ (show ((0, 4, 0) : PId) ≠ (1, 0, 4) by decide), hDd2.1.2.1]
            exact DCd_16 _ (DCd_c (DCd_t hDd2) (fun k hk => updo (by omega)))
          · exact DCt_p (by decide) (DCt_16 (D := D) (E := upd (upd D 85 (mxF (D 85) (nI c))) 16 (D 16 ||| (1 <<< (nI c &&& 31)))) _ hDt2 (updi _ _ _) (fun k hk => by rw [updo (by omega), updo (by omega)]))
          · rw [upI_ne _ _ _ (by decide), upI_ne _ _ _ (by decide), hF2]; exact hz
          · rw [upI_ne _ _ _ (by decide), upI_ne _ _ _ (by decide)]; exact hF5
        · exact absurd c_18 (by decide)
    · skip
      refine v_aload_n hC (pc := 0) (k := 0) 0 rfl dX2_takeSign_0 ?_
      refine v_iconst hC (pc := 1) (v := 0) (by decide) dX2_takeSign_1 ?_
      refine v_bipush hC (pc := 2) (v := 7) (by decide +kernel) dX2_takeSign_2 ?_
      refine v_callV hC (pc := 4) (As := [_, _]) dX2_takeSign_4 rfl (t_num_g _ _ (d := d - 1) (by omega) _ (a := ((e, D) : PA)) ht ((hE).2.2 1 (by decide) |>.trans htp) (((hE).1 (1, 0, 3) (by decide) (by decide) nC3).trans hT) hT0 hp he 0 7 hn) cv_X2_139 rfl (by decide) rfl (by first | rfl | exact ok_c hq rfl | exact ok_w hq hw | exact ok_w (by omega) (by omega) | exact ok_s (by omega) (by omega) | exact ok_c (by omega) rfl | assumption) (Nat.le_of_ble_eq_true rfl) (by omega) (fun r h' hr => ?_)
      obtain ⟨rfl, hF⟩ := hr
      obtain ⟨hF1, hF2, hF3, hF5, hF7⟩ := hF
      rw [show tV T t (e, D).1 = nI c from hcv]
      generalize h' = u9 at hF1 hF2 hF3 hF5 hF7 ⊢
      have hDd2 := DCd_F hDd hF1
      have hDt2 := DCt_F hDt hF1
      have hE2 := CE_F hE hF1
      show V _ _ _ (4 + 3) _ (_ :: _) _
      refine v_istore_n hC (pc := 7) (l' := [(1, _), (0, _)]) dX2_takeSign_7 (by decide) rfl ?_
      refine v_iload_n hC (pc := 8) (k := 1) 0 rfl dX2_takeSign_8 ?_
      refine v_if_lt hC (pc := 9) (tgt := 21) dX2_takeSign_9 (by decide) (fun c_9 => ?_) (fun c_9 => ?_)
      · exact absurd c_9 (nI_pos (by omega))
      · skip
        refine v_aload_n hC (pc := 12) (k := 0) 1 rfl dX2_takeSign_12 ?_
        refine v_iconst hC (pc := 13) (v := 3) (by decide) dX2_takeSign_13 ?_
        refine v_iload_n hC (pc := 14) (k := 1) 0 rfl dX2_takeSign_14 ?_
        refine v_callV hC (pc := 15) (As := [_, _]) dX2_takeSign_15 rfl (t_tell_n _ _ (d := d - 1) (by omega) _ (l := 3) (c := c) (by omega) (by rw [hDt2.2.2.2.1]; exact Classical.not_not.mp (fun z => hq (and1_ne.mp z)))) cv_X2_136 rfl (by decide) rfl (by first | rfl | exact ok_c hq rfl | exact ok_w hq hw | exact ok_w (by omega) (by omega) | exact ok_s (by omega) (by omega) | exact ok_c (by omega) rfl | assumption) (Nat.le_of_ble_eq_true rfl) (by omega) (fun r h' hr => ?_)
        obtain ⟨he9, rfl⟩ := hr
        rw [he9]
        clear he9 h'
        show V _ _ _ (15 + 3) _ (_ :: _) _
        refine v_if_ne hC (pc := 18) (tgt := 23) dX2_takeSign_18 (by decide) (fun c_18 => ?_) (fun c_18 => ?_)
        · exact absurd c_18 (by decide)
        · skip
          refine v_iconst hC (pc := 21) (v := 0) (by decide) dX2_takeSign_21 ?_
          refine v_zret hC hX (pc := 22) dX2_takeSign_22 (nar_b (by first | exact Or.inl rfl | exact Or.inr rfl | exact bI_01 _)) ?_
          rw [sgn_2 hn hcv hq]
          exact ⟨rfl, CE_F hE2 (FrR_rf (FrR_r _)), rfH_2 _ _ _, (rfH_3 _ _ _).trans hF7⟩

theorem DCt_s {h : HP} {D : Nat → Int32} (hd : DCt h D) {s : Nat} (hs : s < 2) : h.1 (1, 0, 4) (1 + s) = D (83 + s) := by
  rcases (show s = 0 ∨ s = 1 by omega) with e | e <;> subst e
  · exact hd.2.1
  · exact hd.2.2.1
set_option maxRecDepth 20000 in
set_option maxHeartbeats 2000000 in
theorem t_takeStreet (l9 : Launch) (G : WT) {d : Nat} (hd : 4 ≤ d) {T : Nat → Int32} {t : Nat} {h0 : HP} (ht : t ≤ 160) (htp : h0.1 (1, 0, 2) 1 = nI t) (hT : h0.1 (1, 0, 3) = T) (hT0 : ∀ j, j < t → ¬ T j < 0) (h : HP) {e f : Nat} {D : Nat → Int32} (hS : CSt t h0 h (e, D)) (hq7 : h.1 (1, 0, 2) 7 = nI f) {s : Nat} (hs : s < 2) : MS l9 G yX2_takeStreet cX2_takeStreet 5 (some .boolean) d [vr (1, 0, 2), vi (nI (1 + s)), vi (nI s)] h (fun r h1 => TKP t h0 h1 (strS T t s (e, D)) r) := by
  refine MS_of (by decide +kernel) (Nat.le_of_ble_eq_true rfl) (fun X hC hX => ?_)
  show V X G 5 0 _ [] _
  obtain ⟨hE, he, hDd, hDt, hz, hp⟩ := id hS
  cases hn : numS T t 0 7 (e, D) with
  | inl x9 =>
    refine v_aload_n hC (pc := 0) (k := 0) 0 rfl dX2_takeStreet_0 ?_
    refine v_iconst hC (pc := 1) (v := 0) (by decide) dX2_takeStreet_1 ?_
    refine v_bipush hC (pc := 2) (v := 7) (by decide +kernel) dX2_takeStreet_2 ?_
    refine v_callV hC (pc := 4) (As := [_, _]) dX2_takeStreet_4 rfl (t_num_f _ _ (d := d - 1) (by omega) _ (a := ((e, D) : PA)) ht ((hE).2.2 1 (by decide) |>.trans htp) (((hE).1 (1, 0, 3) (by decide) (by decide) nC3).trans hT) hT0 hp he 0 7 hn) cv_X2_139 rfl (by decide) rfl (by first | rfl | exact ok_c hq rfl | exact ok_w hq hw | exact ok_w (by omega) (by omega) | exact ok_s (by omega) (by omega) | exact ok_c (by omega) rfl | assumption) (Nat.le_of_ble_eq_true rfl) (by omega) (fun r h' hr => ?_)
    obtain ⟨rfl, hF⟩ := hr
    generalize h' = u9 at hF ⊢
    show V _ _ _ (4 + 3) _ (_ :: _) _
    refine v_istore_n hC (pc := 7) (l' := [(3, _), (0, _), (1, _), (2, _)]) dX2_takeStreet_7 (by decide) rfl ?_
    refine v_iload_n hC (pc := 8) (k := 3) 0 rfl dX2_takeStreet_8 ?_
    refine v_if_lt hC (pc := 9) (tgt := 21) dX2_takeStreet_9 (by decide) (fun c_9 => ?_) (fun c_9 => ?_)
    · skip
      refine v_iconst hC (pc := 21) (v := 0) (by decide) dX2_takeStreet_21 ?_
      refine v_zret hC hX (pc := 22) dX2_takeStreet_22 (nar_b (by first | exact Or.inl rfl | exact Or.inr rfl | exact bI_01 _)) ?_
      rw [str_1 hn]
      exact ⟨rfl, CFl_rf hE hF⟩
    · exact absurd (show (-1 : Int32) < 0 by decide) c_9
  | inr b9 =>
    obtain ⟨c, hc8, hcv⟩ := num_8 hn
    by_cases hq : (D (83 + s) >>> (nI c &&& 31)) &&& 1 = 0
    · cases hn2 : numS T t 0 7 (tE T t e, D) with
      | inl x8 =>
        refine v_aload_n hC (pc := 0) (k := 0) 0 rfl dX2_takeStreet_0 ?_
        refine v_iconst hC (pc := 1) (v := 0) (by decide) dX2_takeStreet_1 ?_
        refine v_bipush hC (pc := 2) (v := 7) (by decide +kernel) dX2_takeStreet_2 ?_
        refine v_callV hC (pc := 4) (As := [_, _]) dX2_takeStreet_4 rfl (t_num_g _ _ (d := d - 1) (by omega) _ (a := ((e, D) : PA)) ht ((hE).2.2 1 (by decide) |>.trans htp) (((hE).1 (1, 0, 3) (by decide) (by decide) nC3).trans hT) hT0 hp he 0 7 hn) cv_X2_139 rfl (by decide) rfl (by first | rfl | exact ok_c hq rfl | exact ok_w hq hw | exact ok_w (by omega) (by omega) | exact ok_s (by omega) (by omega) | exact ok_c (by omega) rfl | assumption) (Nat.le_of_ble_eq_true rfl) (by omega) (fun r h' hr => ?_)
        obtain ⟨rfl, hF⟩ := hr
        obtain ⟨hF1, hF2, hF3, hF5, hF7⟩ := hF
        rw [show tV T t (e, D).1 = nI c from hcv]
        generalize h' = u9 at hF1 hF2 hF3 hF5 hF7 ⊢
        have hDd2 := DCd_F hDd hF1
        have hDt2 := DCt_F hDt hF1
        have hE2 := CE_F hE hF1
        show V _ _ _ (4 + 3) _ (_ :: _) _
        refine v_istore_n hC (pc := 7) (l' := [(3, _), (0, _), (1, _), (2, _)]) dX2_takeStreet_7 (by decide) rfl ?_
        refine v_iload_n hC (pc := 8) (k := 3) 0 rfl dX2_takeStreet_8 ?_
        refine v_if_lt hC (pc := 9) (tgt := 21) dX2_takeStreet_9 (by decide) (fun c_9 => ?_) (fun c_9 => ?_)
        · exact absurd c_9 (nI_pos (by omega))
        · skip
          refine v_aload_n hC (pc := 12) (k := 0) 1 rfl dX2_takeStreet_12 ?_
          refine v_iload_n hC (pc := 13) (k := 1) 2 rfl dX2_takeStreet_13 ?_
          refine v_iload_n hC (pc := 14) (k := 3) 0 rfl dX2_takeStreet_14 ?_
          refine v_callV hC (pc := 15) (As := [_, _]) dX2_takeStreet_15 rfl (t_tell_g _ _ (d := d - 1) (by omega) _ (l := 1 + s) (c := c) (by omega) (by rw [(show u9.1 (1, 0, 4) (1 + s) = D (83 + s) from DCt_s hDt2 hs), hq]; decide)) cv_X2_136 rfl (by decide) rfl (by first | rfl | exact ok_c hq rfl | exact ok_w hq hw | exact ok_w (by omega) (by omega) | exact ok_s (by omega) (by omega) | exact ok_c (by omega) rfl | assumption) (Nat.le_of_ble_eq_true rfl) (by omega) (fun r h' hr => ?_)
          obtain ⟨he9, rfl⟩ := hr
          rw [he9]
          clear he9 h'
          show V _ _ _ (15 + 3) _ (_ :: _) _
          refine v_if_ne hC (pc := 18) (tgt := 23) dX2_takeStreet_18 (by decide) (fun c_18 => ?_) (fun c_18 => ?_)
          · skip
            refine v_aload_n hC (pc := 23) (k := 0) 1 rfl dX2_takeStreet_23 ?_
            refine v_iconst hC (pc := 24) (v := 0) (by decide) dX2_takeStreet_24 ?_
            refine v_bipush hC (pc := 25) (v := 7) (by decide +kernel) dX2_takeStreet_25 ?_
            refine v_callV hC (pc := 27) (As := [_, _]) dX2_takeStreet_27 rfl (t_num_f _ _ (d := d - 1) (by omega) _ (a := ((tE T t e, D) : PA)) ht (((CE_t hE2)).2.2 1 (by decide) |>.trans htp) ((((CE_t hE2)).1 (1, 0, 3) (by decide) (by decide) nC3).trans hT) hT0 (by rw [upI_ne _ _ _ (by decide)]; exact hF5) (tE_m he).2 0 7 hn2) cv_X2_139 rfl (by decide) rfl (by first | rfl | exact ok_c hq rfl | exact ok_w hq hw | exact ok_w (by omega) (by omega) | exact ok_s (by omega) (by omega) | exact ok_c (by omega) rfl | assumption) (Nat.le_of_ble_eq_true rfl) (by omega) (fun r h' hr => ?_)
            obtain ⟨rfl, hF⟩ := hr
            generalize h' = u9 at hF ⊢
            show V _ _ _ (27 + 3) _ (_ :: _) _
            refine v_istore hC (pc := 30) (l' := [(4, _), (3, _), (0, _), (1, _), (2, _)]) dX2_takeStreet_30 (by decide) rfl ?_
            refine v_iload hC (pc := 32) 0 rfl dX2_takeStreet_32 ?_
            refine v_if_ge hC (pc := 34) (tgt := 39) dX2_takeStreet_34 (by decide) (fun c_34 => ?_) (fun c_34 => ?_)
            · exact absurd (show (-1 : Int32) < 0 by decide) (Int32.not_lt.mpr c_34)
            · skip
              refine v_iconst hC (pc := 37) (v := 0) (by decide) dX2_takeStreet_37 ?_
              refine v_zret hC hX (pc := 38) dX2_takeStreet_38 (nar_b (by first | exact Or.inl rfl | exact Or.inr rfl | exact bI_01 _)) ?_
              rw [str_3 hn hcv hq hn2]
              exact ⟨rfl, CFl_rf (CE_t hE2) hF⟩
          · exact absurd c_18 (by decide)
      | inr b8 =>
        obtain ⟨g, hg8, hgv⟩ := num_8 hn2
        refine v_aload_n hC (pc := 0) (k := 0) 0 rfl dX2_takeStreet_0 ?_
        refine v_iconst hC (pc := 1) (v := 0) (by decide) dX2_takeStreet_1 ?_
        refine v_bipush hC (pc := 2) (v := 7) (by decide +kernel) dX2_takeStreet_2 ?_
        refine v_callV hC (pc := 4) (As := [_, _]) dX2_takeStreet_4 rfl (t_num_g _ _ (d := d - 1) (by omega) _ (a := ((e, D) : PA)) ht ((hE).2.2 1 (by decide) |>.trans htp) (((hE).1 (1, 0, 3) (by decide) (by decide) nC3).trans hT) hT0 hp he 0 7 hn) cv_X2_139 rfl (by decide) rfl (by first | rfl | exact ok_c hq rfl | exact ok_w hq hw | exact ok_w (by omega) (by omega) | exact ok_s (by omega) (by omega) | exact ok_c (by omega) rfl | assumption) (Nat.le_of_ble_eq_true rfl) (by omega) (fun r h' hr => ?_)
        obtain ⟨rfl, hF⟩ := hr
        obtain ⟨hF1, hF2, hF3, hF5, hF7⟩ := hF
        rw [show tV T t (e, D).1 = nI c from hcv]
        generalize h' = u9 at hF1 hF2 hF3 hF5 hF7 ⊢
        have hDd2 := DCd_F hDd hF1
        have hDt2 := DCt_F hDt hF1
        have hE2 := CE_F hE hF1
        show V _ _ _ (4 + 3) _ (_ :: _) _
        refine v_istore_n hC (pc := 7) (l' := [(3, _), (0, _), (1, _), (2, _)]) dX2_takeStreet_7 (by decide) rfl ?_
        refine v_iload_n hC (pc := 8) (k := 3) 0 rfl dX2_takeStreet_8 ?_
        refine v_if_lt hC (pc := 9) (tgt := 21) dX2_takeStreet_9 (by decide) (fun c_9 => ?_) (fun c_9 => ?_)
        · exact absurd c_9 (nI_pos (by omega))
        · skip
          refine v_aload_n hC (pc := 12) (k := 0) 1 rfl dX2_takeStreet_12 ?_
          refine v_iload_n hC (pc := 13) (k := 1) 2 rfl dX2_takeStreet_13 ?_
          refine v_iload_n hC (pc := 14) (k := 3) 0 rfl dX2_takeStreet_14 ?_
          refine v_callV hC (pc := 15) (As := [_, _]) dX2_takeStreet_15 rfl (t_tell_g _ _ (d := d - 1) (by omega) _ (l := 1 + s) (c := c) (by omega) (by rw [(show u9.1 (1, 0, 4) (1 + s) = D (83 + s) from DCt_s hDt2 hs), hq]; decide)) cv_X2_136 rfl (by decide) rfl (by first | rfl | exact ok_c hq rfl | exact ok_w hq hw | exact ok_w (by omega) (by omega) | exact ok_s (by omega) (by omega) | exact ok_c (by omega) rfl | assumption) (Nat.le_of_ble_eq_true rfl) (by omega) (fun r h' hr => ?_)
          obtain ⟨he9, rfl⟩ := hr
          rw [he9]
          clear he9 h'
          show V _ _ _ (15 + 3) _ (_ :: _) _
          refine v_if_ne hC (pc := 18) (tgt := 23) dX2_takeStreet_18 (by decide) (fun c_18 => ?_) (fun c_18 => ?_)
          · skip
            refine v_aload_n hC (pc := 23) (k := 0) 1 rfl dX2_takeStreet_23 ?_
            refine v_iconst hC (pc := 24) (v := 0) (by decide) dX2_takeStreet_24 ?_
            refine v_bipush hC (pc := 25) (v := 7) (by decide +kernel) dX2_takeStreet_25 ?_
            refine v_callV hC (pc := 27) (As := [_, _]) dX2_takeStreet_27 rfl (t_num_g _ _ (d := d - 1) (by omega) _ (a := ((tE T t e, D) : PA)) ht (((CE_t hE2)).2.2 1 (by decide) |>.trans htp) ((((CE_t hE2)).1 (1, 0, 3) (by decide) (by decide) nC3).trans hT) hT0 (by rw [upI_ne _ _ _ (by decide)]; exact hF5) (tE_m he).2 0 7 hn2) cv_X2_139 rfl (by decide) rfl (by first | rfl | exact ok_c hq rfl | exact ok_w hq hw | exact ok_w (by omega) (by omega) | exact ok_s (by omega) (by omega) | exact ok_c (by omega) rfl | assumption) (Nat.le_of_ble_eq_true rfl) (by omega) (fun r h' hr => ?_)
            obtain ⟨rfl, hG⟩ := hr
            obtain ⟨hG1, hG2, hG3, hG5, hG7⟩ := hG
            rw [show tV T t (tE T t e, D).1 = nI g from hgv]
            generalize h' = u8 at hG1 hG2 hG3 hG5 hG7 ⊢
            show V _ _ _ (27 + 3) _ (_ :: _) _
            refine v_istore hC (pc := 30) (l' := [(4, _), (3, _), (0, _), (1, _), (2, _)]) dX2_takeStreet_30 (by decide) rfl ?_
            refine v_iload hC (pc := 32) 0 rfl dX2_takeStreet_32 ?_
            refine v_if_ge hC (pc := 34) (tgt := 39) dX2_takeStreet_34 (by decide) (fun c_34 => ?_) (fun c_34 => ?_)
            · skip
              refine v_aload_n hC (pc := 39) (k := 0) 2 rfl dX2_takeStreet_39 ?_
              refine v_getR hC (pc := 40) dX2_takeStreet_40 fl_X2_12 rfl (by first | rfl | exact ok_c hq rfl | exact ok_w hq hw | exact ok_w (by omega) (by omega) | exact ok_s (by omega) (by omega) | exact ok_c (by omega) rfl | assumption) rfl (by decide) (by decide) rfl ?_
              refine v_iload_n hC (pc := 43) (k := 3) 1 rfl dX2_takeStreet_43 ?_
              refine v_iload_n hC (pc := 44) (k := 2) 4 rfl dX2_takeStreet_44 ?_
              refine v_iload hC (pc := 45) 0 rfl dX2_takeStreet_45 ?_
              refine v_callV hC (pc := 47) (As := [_, _, _]) dX2_takeStreet_47 rfl (t_setStreet _ _ (d := d - 1) (by omega) (q := 4) (by decide) _ (nI c) (nI s) (nI g)) cv_X2_146 rfl (by decide) rfl (by first | rfl | exact ok_c hq rfl | exact ok_w hq hw | exact ok_w (by omega) (by omega) | exact ok_s (by omega) (by omega) | exact ok_c (by omega) rfl | assumption) (Nat.le_of_ble_eq_true rfl) (by omega) (fun r h' hr => ?_)
              obtain ⟨rfl, he9⟩ := hr
              rw [he9]
              clear he9 h'
              show V _ _ _ (47 + 3) _ _ _
              refine v_iconst hC (pc := 50) (v := 1) (by decide) dX2_takeStreet_50 ?_
              refine v_zret hC hX (pc := 51) dX2_takeStreet_51 (nar_b (by first | exact Or.inl rfl | exact Or.inr rfl | exact bI_01 _)) ?_
              obtain ⟨E, hE1, hE83, hEk⟩ := str_4 hs hn hcv hc8 hq hn2 hgv
              rw [hE1, show (2 : Int32) * nI c + nI s = nI (2 * c + s) from by rw [show (2 : Int32) = nI 2 from rfl, pk_mul, nI_add], if_pos ⟨nI_pos (by omega), nI_ge (show 2 * c + s < 16 by omega) (by decide)⟩, nI_clamp (show 2 * c + s < 2 ^ 31 by omega)]
              have hDtE : DCt (upI u9 (1, 0, 4) (1 + s) (u9.1 (1, 0, 4) (1 + s) ||| (1 <<< (nI c &&& 31)))) E := DCt_83 hs _ hDt2 (by rw [hE83, updo (by omega)]) (fun k hk hne => hEk k (by omega) hne)
              have hDdE : DCd (upI u9 (1, 0, 4) (1 + s) (u9.1 (1, 0, 4) (1 + s) ||| (1 <<< (nI c &&& 31)))) E := DCd_c (DCd_t hDd2) (fun k hk => hEk k (by omega) (by omega))
              refine ⟨rfl, CE_c (i := (0, 4, 6)) ⟨Or.inl rfl, rfl⟩ (CE_F (CE_t hE2) hG1), (tE_m (tE_m he).2).2, DCd_st hc8 hs _ (DCd_F hDdE hG1), DCt_p (by decide) (DCt_c (DCt_F hDtE hG1) (fun k hk => updo (by omega))), ?_, ?_⟩
              · rw [upI_ne _ _ _ (by decide), hG2, upI_ne _ _ _ (by decide), hF2]; exact hz
              · rw [upI_ne _ _ _ (by decide)]; exact hG5
            · exact absurd (nI_pos' (by omega)) c_34
          · exact absurd c_18 (by decide)
    · skip
      refine v_aload_n hC (pc := 0) (k := 0) 0 rfl dX2_takeStreet_0 ?_
      refine v_iconst hC (pc := 1) (v := 0) (by decide) dX2_takeStreet_1 ?_
      refine v_bipush hC (pc := 2) (v := 7) (by decide +kernel) dX2_takeStreet_2 ?_
      refine v_callV hC (pc := 4) (As := [_, _]) dX2_takeStreet_4 rfl (t_num_g _ _ (d := d - 1) (by omega) _ (a := ((e, D) : PA)) ht ((hE).2.2 1 (by decide) |>.trans htp) (((hE).1 (1, 0, 3) (by decide) (by decide) nC3).trans hT) hT0 hp he 0 7 hn) cv_X2_139 rfl (by decide) rfl (by first | rfl | exact ok_c hq rfl | exact ok_w hq hw | exact ok_w (by omega) (by omega) | exact ok_s (by omega) (by omega) | exact ok_c (by omega) rfl | assumption) (Nat.le_of_ble_eq_true rfl) (by omega) (fun r h' hr => ?_)
      obtain ⟨rfl, hF⟩ := hr
      obtain ⟨hF1, hF2, hF3, hF5, hF7⟩ := hF
      rw [show tV T t (e, D).1 = nI c from hcv]
      generalize h' = u9 at hF1 hF2 hF3 hF5 hF7 ⊢
      have hDd2 := DCd_F hDd hF1
      have hDt2 := DCt_F hDt hF1
      have hE2 := CE_F hE hF1
      show V _ _ _ (4 + 3) _ (_ :: _) _
      refine v_istore_n hC (pc := 7) (l' := [(3, _), (0, _), (1, _), (2, _)]) dX2_takeStreet_7 (by decide) rfl ?_
      refine v_iload_n hC (pc := 8) (k := 3) 0 rfl dX2_takeStreet_8 ?_
      refine v_if_lt hC (pc := 9) (tgt := 21) dX2_takeStreet_9 (by decide) (fun c_9 => ?_) (fun c_9 => ?_)
      · exact absurd c_9 (nI_pos (by omega))
      · skip
        refine v_aload_n hC (pc := 12) (k := 0) 1 rfl dX2_takeStreet_12 ?_
        refine v_iload_n hC (pc := 13) (k := 1) 2 rfl dX2_takeStreet_13 ?_
        refine v_iload_n hC (pc := 14) (k := 3) 0 rfl dX2_takeStreet_14 ?_
        refine v_callV hC (pc := 15) (As := [_, _]) dX2_takeStreet_15 rfl (t_tell_n _ _ (d := d - 1) (by omega) _ (l := 1 + s) (c := c) (by omega) (by rw [(show u9.1 (1, 0, 4) (1 + s) = D (83 + s) from DCt_s hDt2 hs)]; exact Classical.not_not.mp (fun z => hq (and1_ne.mp z)))) cv_X2_136 rfl (by decide) rfl (by first | rfl | exact ok_c hq rfl | exact ok_w hq hw | exact ok_w (by omega) (by omega) | exact ok_s (by omega) (by omega) | exact ok_c (by omega) rfl | assumption) (Nat.le_of_ble_eq_true rfl) (by omega) (fun r h' hr => ?_)
        obtain ⟨he9, rfl⟩ := hr
        rw [he9]
        clear he9 h'
        show V _ _ _ (15 + 3) _ (_ :: _) _
        refine v_if_ne hC (pc := 18) (tgt := 23) dX2_takeStreet_18 (by decide) (fun c_18 => ?_) (fun c_18 => ?_)
        · exact absurd c_18 (by decide)
        · skip
          refine v_iconst hC (pc := 21) (v := 0) (by decide) dX2_takeStreet_21 ?_
          refine v_zret hC hX (pc := 22) dX2_takeStreet_22 (nar_b (by first | exact Or.inl rfl | exact Or.inr rfl | exact bI_01 _)) ?_
          rw [str_2 hn hcv hq]
          exact ⟨rfl, CE_F hE2 (FrR_rf (FrR_r _)), rfH_2 _ _ _, (rfH_3 _ _ _).trans hF7⟩

