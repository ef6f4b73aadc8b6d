/-! THE READER OF THE CLASS: a walker, a line -/
/-- the class's draft with a walker half read -/
def PW (h : HP) (D : Nat → Int32) (n : Nat) (v : Nat → Int32) : Prop := (h.1 (0, 4, 0) 0 = D 80 ∧ h.1 (0, 4, 0) 1 = D 16 ∧ h.1 (0, 4, 0) 2 = D 17 ∧ h.1 (0, 4, 0) 3 = 0 ∧ h.1 (0, 4, 0) 4 = nI (n + 1) ∧ h.1 (0, 4, 0) 5 = 0) ∧ (∀ c s, c < 8 → s < 2 → h.1 (0, 4, 6) (2 * c + s) = D (8 * s + c)) ∧ (∀ g, g < 4 → h.1 (0, 4, 8) g = D (43 + g)) ∧ (∀ w, w < n → WC h 4 D w) ∧ (∀ k, k < 6 → h.1 (6, 4, n) k = v k) ∧ DCt h D
theorem ne_w {q w n : Nat} (h : w ≠ n) : ((6, q, w) : PId) ≠ (6, q, n) := fun z => h (congrArg (fun y : PId => y.2.2) z)
theorem PW_F {h u : HP} {D : Nat → Int32} {n : Nat} {v : Nat → Int32} (hp : PW h D n v) (hF : FrR h u) : PW u D n v := by
  obtain ⟨a1, a2, a3, a4, a5, a6⟩ := hp
  unfold PW
  rw [hF.1 (0, 4, 0) (by decide), hF.1 (0, 4, 6) (by decide), hF.1 (0, 4, 8) (by decide), hF.1 (6, 4, n) (ne_1 (by decide))]
  refine ⟨a1, a2, a3, fun w hw => ?_, a5, DCt_F a6 hF⟩
  unfold WC
  rw [hF.1 (6, 4, w) (ne_1 (by decide))]
  exact a4 w hw
theorem PW_w {h : HP} {D : Nat → Int32} {n k : Nat} {x : Int32} {v : Nat → Int32} (hp : PW h D n v) : PW (upI h (6, 4, n) k x) D n (upd v k x) := by
  obtain ⟨a1, a2, a3, a4, a5, a6⟩ := hp
  unfold PW
  rw [upI_ne _ _ _ (show ((0, 4, 0) : PId) ≠ (6, 4, n) from ne_1 (by decide)), upI_ne _ _ _ (show ((0, 4, 6) : PId) ≠ (6, 4, n) from ne_1 (by decide)), upI_ne _ _ _ (show ((0, 4, 8) : PId) ≠ (6, 4, n) from ne_1 (by decide))]
  refine ⟨a1, a2, a3, fun w hw => ?_, fun m hm => up_r0 (a5 m hm), DCt_p (ne_1 (by decide)) a6⟩
  unfold WC
  rw [upI_ne _ _ _ (ne_w (by omega))]
  exact a4 w hw
/-- begun -/
def bgH (h : HP) (n : Nat) (c kp : Int32) : HP := upI (upI (upI (upI (upI (upI (upI h (6, 4, n) 0 c) (6, 4, n) 1 0) (6, 4, n) 2 kp) (6, 4, n) 3 0) (6, 4, n) 4 0) (6, 4, n) 5 0) (0, 4, 0) 4 (nI (n + 1))
def bgV (c kp : Int32) : Nat → Int32 := fun k => if k = 0 then c else if k = 2 then kp else 0
theorem PW_b {h : HP} {D : Nat → Int32} {n : Nat} {c kp : Int32} (hn4 : n ≤ 4) (hd : DCd h D) (ht : DCt h D) (hn : D 81 = nI n) : PW (bgH h n c kp) D n (bgV c kp) := by
  obtain ⟨⟨a0, a1, a2, a3, a4, a5⟩, a6, a7, a8⟩ := hd
  refine ⟨⟨?_, ?_, ?_, ?_, ?_, ?_⟩, fun c9 s hc hs => ?_, fun g hg => ?_, fun w hw => ?_, fun k hk => ?_, ?_⟩
  · simp [bgH, upI]; exact a0
  · simp [bgH, upI]; exact a1
  · simp [bgH, upI]; exact a2
  · simp [bgH, upI]; exact a3
  · simp [bgH, upI]
  · simp [bgH, upI]; exact a5
  · rw [← a6 c9 s hc hs]; simp [bgH, upI]
  · rw [← a7 g hg]; simp [bgH, upI]
  · have z := a8 n hn4 hn w hw
    unfold WC at z ⊢
    have e : (bgH h n c kp).1 (6, 4, w) = h.1 (6, 4, w) := by
      funext k
      simp [bgH, upI, show ¬ w = n by omega]
    rw [e]
    exact z
  · rcases (show k = 0 ∨ k = 1 ∨ k = 2 ∨ k = 3 ∨ k = 4 ∨ k = 5 by omega) with e | e | e | e | e | e <;> subst e <;> simp [bgH, upI, bgV]
  · unfold DCt at ht ⊢
    have e : (bgH h n c kp).1 (1, 0, 4) = h.1 (1, 0, 4) := by
      funext k
      simp [bgH, upI]
    rw [e]
    exact ht
theorem PW_R {h : HP} {k : Nat} (h9 : HP) (n : Nat) (c kp : Int32) (e : h = bgH h9 n c kp) : h.1 (1, 0, 2) k = h9.1 (1, 0, 2) k := by
  rw [e]; simp [bgH, upI]
theorem bgH_CE {h0 h : HP} {n : Nat} {c kp : Int32} (hkp : kp = 0 ∨ kp = 1) (hE : CE h0 h) : CE h0 (bgH h n c kp) := by
  unfold bgH
  exact CE_c ⟨Or.inl rfl, rfl⟩ (CE_c ⟨Or.inr rfl, rfl⟩ (CE_c ⟨Or.inr rfl, rfl⟩ (CE_c ⟨Or.inr rfl, rfl⟩ (CE_c ⟨Or.inr rfl, rfl⟩ (CE_c ⟨Or.inr rfl, rfl⟩ (CE_c ⟨Or.inr rfl, rfl⟩ hE)) (fun _ _ => hkp)))))
theorem rtH_CE {h0 h : HP} {n : Nat} {T : Nat → Int32} {f k : Nat} (hE : CE h0 h) : CE h0 (rtH h n T f k) := by
  unfold rtH
  exact CE_c ⟨Or.inr rfl, rfl⟩ (CE_c ⟨Or.inr rfl, rfl⟩ hE)
theorem rtH_R (h : HP) (n : Nat) (T : Nat → Int32) (f k m : Nat) : (rtH h n T f k).1 (1, 0, 2) m = h.1 (1, 0, 2) m := by
  unfold rtH; rw [upI_ne _ _ _ (ne_1 (by decide)), upI_ne _ _ _ (ne_1 (by decide))]
/-- the walker read: the draft is what the text says -/
theorem PW_end {h : HP} {D E : Nat → Int32} {n : Nat} {v : Nat → Int32} (hn : n < 4) (hp : PW h D n v) (e0 : E (18 + 6 * n + 0) = v 0) (e1 : E (18 + 6 * n + 1) = v 1) (e2 : E (18 + 6 * n + 2) = v 2) (e3 : E (18 + 6 * n + 4) = v 3) (e4 : E (18 + 6 * n + 3) = v 4) (e5 : E (18 + 6 * n + 5) = v 5) (e81 : E 81 = nI (n + 1)) (eO : ∀ k, ¬ (18 + 6 * n ≤ k ∧ k < 24 + 6 * n) → k ≠ 81 → k ≠ 85 → E k = D k) : DCd h E ∧ DCt h E := by
  obtain ⟨⟨a0, a1, a2, a3, a4, a5⟩, a6, a7, a8, a9, a10⟩ := hp
  refine ⟨⟨⟨by rw [eO 80 (by omega) (by omega) (by omega)]; exact a0, by rw [eO 16 (by omega) (by omega) (by omega)]; exact a1, by rw [eO 17 (by omega) (by omega) (by omega)]; exact a2, a3, by rw [e81]; exact a4, a5⟩, fun c s hc hs => by rw [eO _ (by omega) (by omega) (by omega)]; exact a6 c s hc hs, fun g hg => by rw [eO _ (by omega) (by omega) (by omega)]; exact a7 g hg, fun m hm em w hw => ?_⟩, DCt_c a10 (fun k hk => eO k (by omega) (by omega) (by omega))⟩
  have hmn : m = n + 1 := (nI_eq (by omega) (by omega)).mp (em.symm.trans e81)
  subst hmn
  rcases (show w < n ∨ w = n by omega) with q | q
  · have z := a8 w q
    unfold WC at z ⊢
    rw [eO (18 + 6 * w + 0) (by omega) (by omega) (by omega), eO (18 + 6 * w + 1) (by omega) (by omega) (by omega), eO (18 + 6 * w + 2) (by omega) (by omega) (by omega), eO (18 + 6 * w + 3) (by omega) (by omega) (by omega), eO (18 + 6 * w + 4) (by omega) (by omega) (by omega), eO (18 + 6 * w + 5) (by omega) (by omega) (by omega)]
    exact z
  · subst q
    exact ⟨(a9 0 (by decide)).trans e0.symm, (a9 1 (by decide)).trans e1.symm, (a9 2 (by decide)).trans e2.symm, (a9 3 (by decide)).trans e3.symm, (a9 4 (by decide)).trans e4.symm, (a9 5 (by decide)).trans e5.symm⟩
section TX
variable {T : Nat → Int32} {t : Nat}
theorem kndS_D {K e : Nat} {D D' : Nat → Int32} {x : PE} (h : kndS T t K (e, D) = .inl x) : kndS T t K (e, D') = .inl x := by
  rcases Classical.em (tB T t e) with hb | hb
  · rw [kndS_b (a := (e, D)) hb] at h; rw [kndS_b (a := (e, D')) hb]; exact h
  · by_cases hk : tK T t e = K
    · rw [kndS_g (a := (e, D)) hb hk] at h; cases h
    · rw [kndS_n (a := (e, D)) hb hk] at h; rw [kndS_n (a := (e, D')) hb hk]; exact h
theorem kndS_i {K : Nat} {a b : PA} (h : kndS T t K a = .inr b) : ¬ tB T t a.1 ∧ tK T t a.1 = K ∧ b = (tE T t a.1, a.2) := by
  rcases Classical.em (tB T t a.1) with hb | hb
  · rw [kndS_b hb] at h; cases h
  · by_cases hk : tK T t a.1 = K
    · rw [kndS_g hb hk] at h; cases h; exact ⟨hb, hk, rfl⟩
    · rw [kndS_n hb hk] at h; cases h
/-- the side's word, as looked at and then taken -/
theorem wlk_c {n e c : Nat} {D : Nat → Int32} {b : PA} (h : numS T t 0 7 (e, D) = .inr b) (hc : tV T t e = nI c) : wg1 T t n (e, D) = .inr (tE T t e, upd (upd D 85 (mxF (D 85) (nI c))) (18 + 6 * n + 0) (nI c)) := by
  unfold wg1
  rw [cor_3 h hc (zero_tst c), mpE_r]
  have e1 : tV T t (e, D).1 = nI c := hc
  rw [e1]
theorem wlk_1 {n e : Nat} {kp : Int32} {D : Nat → Int32} {x : PE} (h : numS T t 0 7 (e, D) = .inl x) : wlkS T t n kp (e, D) = .inl x := by
  unfold wlkS wg9 wg8 wg7 wg6 wg5 wg4 wg3 wg2 wg1
  rw [cor_1 h]; rfl
theorem wlk_l {n : Nat} {kp : Int32} {a : PA} {x : PE} (h : wg3 T t n a = .inl x) : wlkS T t n kp a = .inl x := by
  unfold wlkS wg9 wg8 wg7 wg6 wg5 wg4
  rw [h]; rfl
theorem wlk_2 {n e c : Nat} {kp : Int32} {D D' : Nat → Int32} {b : PA} {x : PE} (h : numS T t 0 7 (e, D) = .inr b) (hc : tV T t e = nI c) (hk : kndS T t 1 (tE T t e, D') = .inl x) : wlkS T t n kp (e, D) = .inl x := by
  refine wlk_l ?_
  unfold wg3 wg2
  rw [wlk_c h hc, bdE_r]
  unfold chkS
  rcases Classical.em (tB T t (tE T t e)) with hb | hb
  · rw [kndS_b (a := (tE T t e, D')) hb] at hk
    rw [iteP_t hb, bdE_l]; exact hk
  · by_cases hk1 : tK T t (tE T t e) = 1
    · rw [kndS_g (a := (tE T t e, D')) hb hk1] at hk; cases hk
    · rw [kndS_n (a := (tE T t e, D')) hb hk1] at hk
      rw [iteP_f hb, iteP_f (fun z => hk1 z.1), bdE_l]; exact hk
theorem wlk_3 {n e c : Nat} {kp : Int32} {D D' : Nat → Int32} {b b2 : PA} (h : numS T t 0 7 (e, D) = .inr b) (hc : tV T t e = nI c) (hk : kndS T t 1 (tE T t e, D') = .inr b2) (hs : sdN2 T t (tE T t e) = 8) : wlkS T t n kp (e, D) = .inl (2, tF T t (tE T t e)) := by
  refine wlk_l ?_
  unfold wg3 wg2
  rw [wlk_c h hc, bdE_r]
  unfold chkS
  obtain ⟨hb, -, -⟩ := kndS_i hk
  rw [iteP_f hb, iteP_f (fun z => z.2 hs), bdE_l]
theorem wlk_g {n e c : Nat} {kp : Int32} {D D' : Nat → Int32} {b b2 : PA} (h : numS T t 0 7 (e, D) = .inr b) (hc : tV T t e = nI c) (hk : kndS T t 1 (tE T t e, D') = .inr b2) (hs : ¬ sdN2 T t (tE T t e) = 8) : ∃ D6, wg7 T t n kp (e, D) = rouS T t (tE T t (tE T t e), D6) := by
  obtain ⟨hb, hk1, -⟩ := kndS_i hk
  unfold wg7 wg6 wg5 wg4 wg3 wg2
  rw [wlk_c h hc, bdE_r]
  unfold chkS
  rw [iteP_f hb, iteP_t ⟨hk1, hs⟩, bdE_r]
  unfold advS
  rw [iteP_f hb, mpE_r, mpE_r, mpE_r, bdE_r]
  exact ⟨_, rfl⟩
theorem wlk_l7 {n : Nat} {kp : Int32} {a : PA} {x : PE} (h : wg7 T t n kp a = .inl x) : wlkS T t n kp a = .inl x := by
  unfold wlkS wg9 wg8
  rw [h]; rfl
theorem wlk_r7 {n : Nat} {kp : Int32} {a b : PA} (h : wg7 T t n kp a = .inr b) : ∃ c, wlkS T t n kp a = .inr c := by
  unfold wlkS wg9 wg8
  rw [h]; exact ⟨_, rfl⟩
theorem rou_1 {e : Nat} {D D' : Nat → Int32} {x : PE} (hk : kndS T t 1 (e, D') = .inl x) : rouS T t (e, D) = .inl x := by
  unfold rouS
  rcases Classical.em (tB T t e) with hb | hb
  · rw [kndS_b (a := (e, D')) hb] at hk; rw [iteP_t hb]; exact hk
  · by_cases hk1 : tK T t e = 1
    · rw [kndS_g (a := (e, D')) hb hk1] at hk; cases hk
    · rw [kndS_n (a := (e, D')) hb hk1] at hk; rw [iteP_f hb, iteP_f hk1]; exact hk
theorem rou_2 {e : Nat} {D D' : Nat → Int32} {b : PA} (hk : kndS T t 1 (e, D') = .inr b) (hn : ¬ tE T t e - tF T t e ≤ 10) : rouS T t (e, D) = .inl (3, tF T t e) := by
  obtain ⟨hb, hk1, -⟩ := kndS_i hk
  unfold rouS
  rw [iteP_f hb, iteP_t hk1, iteP_f hn]
theorem rou_3 {e : Nat} {D D' : Nat → Int32} {b : PA} (hk : kndS T t 1 (e, D') = .inr b) (hn : tE T t e - tF T t e ≤ 10) (hl : ¬ lrP T t (e, fun _ => 0)) : rouS T t (e, D) = .inl (3, tF T t e) := by
  obtain ⟨hb, hk1, -⟩ := kndS_i hk
  unfold rouS
  rw [iteP_f hb, iteP_t hk1, iteP_t hn, iteP_f (p := lrP T t (e, D)) hl]
theorem rou_4 {e : Nat} {D D' : Nat → Int32} {b : PA} (hk : kndS T t 1 (e, D') = .inr b) (hn : tE T t e - tF T t e ≤ 10) (hl : lrP T t (e, fun _ => 0)) : rouS T t (e, D) = .inr (tE T t e, D) := by
  obtain ⟨hb, hk1, -⟩ := kndS_i hk
  unfold rouS
  rw [iteP_f hb, iteP_t hk1, iteP_t hn, iteP_t (p := lrP T t (e, D)) hl]
end TX
set_option maxRecDepth 20000 in
set_option maxHeartbeats 2000000 in
theorem t_takeWalker (l9 : Launch) (G : WT) {d : Nat} (hd : 7 ≤ d) {T : Nat → Int32} {t : Nat} {h0 : HP} (ht : t ≤ 160) (htp : h0.1 (1, 0, 2) 1 = nI t) (hT : h0.1 (1, 0, 3) = T) (hT0 : ∀ j, j < t → ¬ T j < 0) (h : HP) {e f : Nat} {D : Nat → Int32} (hS : CSt t h0 h (e, D)) (hq7 : h.1 (1, 0, 2) 7 = nI f) {n : Nat} (hnle : n ≤ 4) (hn81 : D 81 = nI n) {kp : Int32} (hkp : kp = 0 ∨ kp = 1) : MS l9 G yX2_takeWalker cX2_takeWalker 4 (some .boolean) d [vr (1, 0, 2), vi kp] h (fun r h1 => TKP t h0 h1 (iteP (D 81 < 4) (wlkS T t n kp (e, D)) (.inl (5, f))) r) := by
  refine MS_of (by decide +kernel) (Nat.le_of_ble_eq_true rfl) (fun X hC hX => ?_)
  show V X G 4 0 _ [] _
  obtain ⟨hE, he, hDd, hDt, hz, hp⟩ := id hS
  have hw4 : h.1 (0, 4, 0) 4 = nI n := hDd.1.2.2.2.2.1.trans hn81
  by_cases hn4 : n < 4
  · cases hn : numS T t 0 7 (e, D) with
    | inl x9 =>
      refine v_aload_n hC (pc := 0) (k := 0) 0 rfl dX2_takeWalker_0 ?_
      refine v_getR hC (pc := 1) dX2_takeWalker_1 fl_X2_12 rfl (by first | rfl | exact ok_c hq rfl | exact ok_w hq hw | exact ok_w (by omega) (by omega) | exact ok_s (by omega) (by omega) | exact ok_c (by omega) rfl | assumption) rfl (by decide) (by decide) rfl ?_
      refine v_getI hC (pc := 4) dX2_takeWalker_4 fl_X2_158 rfl (by first | rfl | exact ok_c hq rfl | exact ok_w hq hw | exact ok_w (by omega) (by omega) | exact ok_s (by omega) (by omega) | exact ok_c (by omega) rfl | assumption) rfl (by decide) (by decide) ?_
      rw [hw4]
      refine v_iconst hC (pc := 7) (v := 4) (by decide) dX2_takeWalker_7 ?_
      refine v_icmp_lt hC (pc := 8) (tgt := 21) dX2_takeWalker_8 (by decide) (fun c_8 => ?_) (fun c_8 => ?_)
      · skip
        refine v_aload_n hC (pc := 21) (k := 0) 0 rfl dX2_takeWalker_21 ?_
        refine v_iconst hC (pc := 22) (v := 0) (by decide) dX2_takeWalker_22 ?_
        refine v_bipush hC (pc := 23) (v := 7) (by decide +kernel) dX2_takeWalker_23 ?_
        refine v_callV hC (pc := 25) (As := [_, _]) dX2_takeWalker_25 rfl (t_num_f _ _ (d := d - 1) (by omega) _ (a := ((e, D) : PA)) ht ((hE).2.2 1 (by decide) |>.trans htp) (((hE).1 (1, 0, 3) (by decide) (by decide) nC3).trans hT) hT0 hp he 0 7 hn) cv_X2_139 rfl (by decide) rfl (by first | rfl | exact ok_c hq rfl | exact ok_w hq hw | exact ok_w (by omega) (by omega) | exact ok_s (by omega) (by omega) | exact ok_c (by omega) rfl | assumption) (Nat.le_of_ble_eq_true rfl) (by omega) (fun r h' hr => ?_)
        obtain ⟨rfl, hF⟩ := hr
        generalize h' = u9 at hF ⊢
        show V _ _ _ (25 + 3) _ (_ :: _) _
        refine v_istore_n hC (pc := 28) (l' := [(2, _), (0, _), (1, _)]) dX2_takeWalker_28 (by decide) rfl ?_
        refine v_iload_n hC (pc := 29) (k := 2) 0 rfl dX2_takeWalker_29 ?_
        refine v_if_ge hC (pc := 30) (tgt := 35) dX2_takeWalker_30 (by decide) (fun c_30 => ?_) (fun c_30 => ?_)
        · exact absurd (show (-1 : Int32) < 0 by decide) (Int32.not_lt.mpr c_30)
        · skip
          refine v_iconst hC (pc := 33) (v := 0) (by decide) dX2_takeWalker_33 ?_
          refine v_zret hC hX (pc := 34) dX2_takeWalker_34 (nar_b (by first | exact Or.inl rfl | exact Or.inr rfl | exact bI_01 _)) ?_
          rw [iteP_t (show D 81 < 4 by rw [hn81]; exact nI_lt hn4 (by decide))]
          rw [wlk_1 hn]
          exact ⟨rfl, CFl_rf hE hF⟩
      · exact absurd (nI_lt hn4 (by decide)) c_8
    | inr b9 =>
      obtain ⟨c, hc8, hcv⟩ := num_8 hn
      have he1 : tE T t e ≤ t := (tE_m he).2
      have he2 : tE T t (tE T t e) ≤ t := (tE_m he1).2
      have P70 : ∀ u9 : HP, CE h0 (bgH u9 n (nI c) kp) → PW (bgH u9 n (nI c) kp) D n (bgV (nI c) kp) → (∀ m, (bgH u9 n (nI c) kp).1 (1, 0, 2) m = u9.1 (1, 0, 2) m) → u9.1 (1, 0, 2) 2 = h.1 (1, 0, 2) 2 → u9.1 (1, 0, 2) 5 = nI (tE T t e) → V X G 4 70 [(3, vr (6, 4, n)), (2, vi (nI c)), (0, vr (1, 0, 2)), (1, vi kp)] [] (bgH u9 n (nI c) kp) := by
        intro u9 hE3 hPW hR3 hF2 hF5
        cases hk : kndS T t 1 (tE T t e, D) with
        | inl x8 =>
          refine v_aload_n hC (pc := 70) (k := 0) 2 rfl dX2_takeWalker_70 ?_
          refine v_iconst hC (pc := 71) (v := 1) (by decide) dX2_takeWalker_71 ?_
          refine v_callV hC (pc := 72) (As := [_]) dX2_takeWalker_72 rfl (t_of_f _ _ (d := d - 1) (by omega) _ (a := ((tE T t e, D) : PA)) ht ((hE3).2.2 1 (by decide) |>.trans htp) (((hE3).1 (1, 0, 3) (by decide) (by decide) nC3).trans hT) hT0 ((hR3 5).trans hF5) he1 (K := 1) (by decide) (by decide) hk) cv_X2_54 rfl (by decide) rfl (by first | rfl | exact ok_c hq rfl | exact ok_w hq hw | exact ok_w (by omega) (by omega) | exact ok_s (by omega) (by omega) | exact ok_c (by omega) rfl | assumption) (Nat.le_of_ble_eq_true rfl) (by omega) (fun r h' hr => ?_)
          obtain ⟨rfl, hF⟩ := hr
          generalize h' = u8 at hF ⊢
          show V _ _ _ (72 + 3) _ (_ :: _) _
          refine v_if_eq hC (pc := 75) (tgt := 106) dX2_takeWalker_75 (by decide) (fun c_75 => ?_) (fun c_75 => ?_)
          · skip
            refine v_iconst hC (pc := 106) (v := 0) (by decide) dX2_takeWalker_106 ?_
            refine v_zret hC hX (pc := 107) dX2_takeWalker_107 (nar_b (by first | exact Or.inl rfl | exact Or.inr rfl | exact bI_01 _)) ?_
            rw [iteP_t (show D 81 < 4 by rw [hn81]; exact nI_lt hn4 (by decide))]
            rw [wlk_2 hn hcv hk]
            exact ⟨rfl, CFl_rf hE3 hF⟩
          · exact absurd c_75 (by decide)
        | inr b8 =>
          by_cases hs : sdN2 T t (tE T t e) = 8
          · skip
            refine v_aload_n hC (pc := 70) (k := 0) 2 rfl dX2_takeWalker_70 ?_
            refine v_iconst hC (pc := 71) (v := 1) (by decide) dX2_takeWalker_71 ?_
            refine v_callV hC (pc := 72) (As := [_]) dX2_takeWalker_72 rfl (t_of_g _ _ (d := d - 1) (by omega) _ (a := ((tE T t e, D) : PA)) ht ((hE3).2.2 1 (by decide) |>.trans htp) (((hE3).1 (1, 0, 3) (by decide) (by decide) nC3).trans hT) hT0 ((hR3 5).trans hF5) he1 (K := 1) (by decide) (by decide) hk) cv_X2_54 rfl (by decide) rfl (by first | rfl | exact ok_c hq rfl | exact ok_w hq hw | exact ok_w (by omega) (by omega) | exact ok_s (by omega) (by omega) | exact ok_c (by omega) rfl | assumption) (Nat.le_of_ble_eq_true rfl) (by omega) (fun r h' hr => ?_)
            obtain ⟨rfl, hG⟩ := hr
            obtain ⟨hG1, hG2, hG3, hG5, hG7⟩ := hG
            generalize h' = u8 at hG1 hG2 hG3 hG5 hG7 ⊢
            have hE4 := CE_F hE3 hG1
            have hPW2 := PW_F hPW hG1
            show V _ _ _ (72 + 3) _ (_ :: _) _
            refine v_if_eq hC (pc := 75) (tgt := 106) dX2_takeWalker_75 (by decide) (fun c_75 => ?_) (fun c_75 => ?_)
            · exact absurd c_75 (by decide)
            · skip
              refine v_aload_n hC (pc := 78) (k := 0) 2 rfl dX2_takeWalker_78 ?_
              refine v_aload_n hC (pc := 79) (k := 3) 0 rfl dX2_takeWalker_79 ?_
              refine v_callV hC (pc := 80) (As := [_]) dX2_takeWalker_80 rfl (t_hand_n _ _ (d := d - 1) (by omega) _ (T := T) (t := t) (e := tE T t e) ht (hE4.2.2 1 (by decide) |>.trans htp) ((hE4.1 (1, 0, 3) (by decide) (by decide) nC3).trans hT) hG5 hG7 he1 hn4 hs) cv_X2_171 rfl (by decide) rfl (by first | rfl | exact ok_c hq rfl | exact ok_w hq hw | exact ok_w (by omega) (by omega) | exact ok_s (by omega) (by omega) | exact ok_c (by omega) rfl | assumption) (Nat.le_of_ble_eq_true rfl) (by omega) (fun r h' hr => ?_)
              obtain ⟨he9, rfl⟩ := hr
              rw [he9]
              clear he9 h'
              show V _ _ _ (80 + 3) _ (_ :: _) _
              refine v_if_eq hC (pc := 83) (tgt := 106) dX2_takeWalker_83 (by decide) (fun c_83 => ?_) (fun c_83 => ?_)
              · skip
                refine v_iconst hC (pc := 106) (v := 0) (by decide) dX2_takeWalker_106 ?_
                refine v_zret hC hX (pc := 107) dX2_takeWalker_107 (nar_b (by first | exact Or.inl rfl | exact Or.inr rfl | exact bI_01 _)) ?_
                rw [iteP_t (show D 81 < 4 by rw [hn81]; exact nI_lt hn4 (by decide))]
                rw [wlk_3 hn hcv hk hs]
                exact ⟨rfl, CE_F (CE_c (i := (6, 4, n)) ⟨Or.inr rfl, rfl⟩ hE4) (FrR_rf (FrR_r _)), rfH_2 _ _ _, (rfH_3 _ _ _).trans hG7⟩
              · exact absurd c_83 (by decide)
          · obtain ⟨sd, hs, hs2⟩ : ∃ sd, sdN2 T t (tE T t e) = sd ∧ sd < 2 := ⟨_, rfl, by have := sd_le T t (tE T t e); omega⟩
            cases hk2 : kndS T t 1 (tE T t (tE T t e), D) with
            | inl x7 =>
              refine v_aload_n hC (pc := 70) (k := 0) 2 rfl dX2_takeWalker_70 ?_
              refine v_iconst hC (pc := 71) (v := 1) (by decide) dX2_takeWalker_71 ?_
              refine v_callV hC (pc := 72) (As := [_]) dX2_takeWalker_72 rfl (t_of_g _ _ (d := d - 1) (by omega) _ (a := ((tE T t e, D) : PA)) ht ((hE3).2.2 1 (by decide) |>.trans htp) (((hE3).1 (1, 0, 3) (by decide) (by decide) nC3).trans hT) hT0 ((hR3 5).trans hF5) he1 (K := 1) (by decide) (by decide) hk) cv_X2_54 rfl (by decide) rfl (by first | rfl | exact ok_c hq rfl | exact ok_w hq hw | exact ok_w (by omega) (by omega) | exact ok_s (by omega) (by omega) | exact ok_c (by omega) rfl | assumption) (Nat.le_of_ble_eq_true rfl) (by omega) (fun r h' hr => ?_)
              obtain ⟨rfl, hG⟩ := hr
              obtain ⟨hG1, hG2, hG3, hG5, hG7⟩ := hG
              generalize h' = u8 at hG1 hG2 hG3 hG5 hG7 ⊢
              have hE4 := CE_F hE3 hG1
              have hPW2 := PW_F hPW hG1
              show V _ _ _ (72 + 3) _ (_ :: _) _
              refine v_if_eq hC (pc := 75) (tgt := 106) dX2_takeWalker_75 (by decide) (fun c_75 => ?_) (fun c_75 => ?_)
              · exact absurd c_75 (by decide)
              · skip
                refine v_aload_n hC (pc := 78) (k := 0) 2 rfl dX2_takeWalker_78 ?_
                refine v_aload_n hC (pc := 79) (k := 3) 0 rfl dX2_takeWalker_79 ?_
                refine v_callV hC (pc := 80) (As := [_]) dX2_takeWalker_80 rfl (t_hand_g _ _ (d := d - 1) (by omega) _ (T := T) (t := t) (e := tE T t e) ht (hE4.2.2 1 (by decide) |>.trans htp) ((hE4.1 (1, 0, 3) (by decide) (by decide) nC3).trans hT) hG5 hG7 he1 hn4 hs2 hs) cv_X2_171 rfl (by decide) rfl (by first | rfl | exact ok_c hq rfl | exact ok_w hq hw | exact ok_w (by omega) (by omega) | exact ok_s (by omega) (by omega) | exact ok_c (by omega) rfl | assumption) (Nat.le_of_ble_eq_true rfl) (by omega) (fun r h' hr => ?_)
                obtain ⟨he9, rfl⟩ := hr
                rw [he9]
                clear he9 h'
                show V _ _ _ (80 + 3) _ (_ :: _) _
                refine v_if_eq hC (pc := 83) (tgt := 106) dX2_takeWalker_83 (by decide) (fun c_83 => ?_) (fun c_83 => ?_)
                · exact absurd c_83 (by decide)
                · skip
                  refine v_aload_n hC (pc := 86) (k := 0) 2 rfl dX2_takeWalker_86 ?_
                  refine v_iconst hC (pc := 87) (v := 1) (by decide) dX2_takeWalker_87 ?_
                  refine v_callV hC (pc := 88) (As := [_]) dX2_takeWalker_88 rfl (t_of_f _ _ (d := d - 1) (by omega) _ (a := ((tE T t (tE T t e), D) : PA)) ht (((CE_c (i := (6, 4, n)) ⟨Or.inr rfl, rfl⟩ hE4 : CE h0 (upI u8 (6, 4, n) 1 (nI sd)))).2.2 1 (by decide) |>.trans htp) ((((CE_c (i := (6, 4, n)) ⟨Or.inr rfl, rfl⟩ hE4 : CE h0 (upI u8 (6, 4, n) 1 (nI sd)))).1 (1, 0, 3) (by decide) (by decide) nC3).trans hT) hT0 (by rw [upI_ne _ _ _ (ne_1 (by decide))]; exact hG5) he2 (K := 1) (by decide) (by decide) hk2) cv_X2_54 rfl (by decide) rfl (by first | rfl | exact ok_c hq rfl | exact ok_w hq hw | exact ok_w (by omega) (by omega) | exact ok_s (by omega) (by omega) | exact ok_c (by omega) rfl | assumption) (Nat.le_of_ble_eq_true rfl) (by omega) (fun r h' hr => ?_)
                  obtain ⟨rfl, hF⟩ := hr
                  generalize h' = u7 at hF ⊢
                  show V _ _ _ (88 + 3) _ (_ :: _) _
                  refine v_if_eq hC (pc := 91) (tgt := 106) dX2_takeWalker_91 (by decide) (fun c_91 => ?_) (fun c_91 => ?_)
                  · skip
                    refine v_iconst hC (pc := 106) (v := 0) (by decide) dX2_takeWalker_106 ?_
                    refine v_zret hC hX (pc := 107) dX2_takeWalker_107 (nar_b (by first | exact Or.inl rfl | exact Or.inr rfl | exact bI_01 _)) ?_
                    rw [iteP_t (show D 81 < 4 by rw [hn81]; exact nI_lt hn4 (by decide))]
                    obtain ⟨D6, hD6⟩ := wlk_g (n := n) (kp := kp) hn hcv hk (by omega)
                    rw [wlk_l7 (hD6.trans (rou_1 hk2))]
                    exact ⟨rfl, CFl_rf (CE_c (i := (6, 4, n)) ⟨Or.inr rfl, rfl⟩ hE4) hF⟩
                  · exact absurd c_91 (by decide)
            | inr b7 =>
              by_cases hl10 : tE T t (tE T t (tE T t e)) - tF T t (tE T t (tE T t e)) ≤ 10
              · rcases Classical.em (lrP T t (tE T t (tE T t e), fun _ => 0)) with hlr | hlr
                · skip
                  refine v_aload_n hC (pc := 70) (k := 0) 2 rfl dX2_takeWalker_70 ?_
                  refine v_iconst hC (pc := 71) (v := 1) (by decide) dX2_takeWalker_71 ?_
                  refine v_callV hC (pc := 72) (As := [_]) dX2_takeWalker_72 rfl (t_of_g _ _ (d := d - 1) (by omega) _ (a := ((tE T t e, D) : PA)) ht ((hE3).2.2 1 (by decide) |>.trans htp) (((hE3).1 (1, 0, 3) (by decide) (by decide) nC3).trans hT) hT0 ((hR3 5).trans hF5) he1 (K := 1) (by decide) (by decide) hk) cv_X2_54 rfl (by decide) rfl (by first | rfl | exact ok_c hq rfl | exact ok_w hq hw | exact ok_w (by omega) (by omega) | exact ok_s (by omega) (by omega) | exact ok_c (by omega) rfl | assumption) (Nat.le_of_ble_eq_true rfl) (by omega) (fun r h' hr => ?_)
                  obtain ⟨rfl, hG⟩ := hr
                  obtain ⟨hG1, hG2, hG3, hG5, hG7⟩ := hG
                  generalize h' = u8 at hG1 hG2 hG3 hG5 hG7 ⊢
                  have hE4 := CE_F hE3 hG1
                  have hPW2 := PW_F hPW hG1
                  show V _ _ _ (72 + 3) _ (_ :: _) _
                  refine v_if_eq hC (pc := 75) (tgt := 106) dX2_takeWalker_75 (by decide) (fun c_75 => ?_) (fun c_75 => ?_)
                  · exact absurd c_75 (by decide)
                  · skip
                    refine v_aload_n hC (pc := 78) (k := 0) 2 rfl dX2_takeWalker_78 ?_
                    refine v_aload_n hC (pc := 79) (k := 3) 0 rfl dX2_takeWalker_79 ?_
                    refine v_callV hC (pc := 80) (As := [_]) dX2_takeWalker_80 rfl (t_hand_g _ _ (d := d - 1) (by omega) _ (T := T) (t := t) (e := tE T t e) ht (hE4.2.2 1 (by decide) |>.trans htp) ((hE4.1 (1, 0, 3) (by decide) (by decide) nC3).trans hT) hG5 hG7 he1 hn4 hs2 hs) cv_X2_171 rfl (by decide) rfl (by first | rfl | exact ok_c hq rfl | exact ok_w hq hw | exact ok_w (by omega) (by omega) | exact ok_s (by omega) (by omega) | exact ok_c (by omega) rfl | assumption) (Nat.le_of_ble_eq_true rfl) (by omega) (fun r h' hr => ?_)
                    obtain ⟨he9, rfl⟩ := hr
                    rw [he9]
                    clear he9 h'
                    show V _ _ _ (80 + 3) _ (_ :: _) _
                    refine v_if_eq hC (pc := 83) (tgt := 106) dX2_takeWalker_83 (by decide) (fun c_83 => ?_) (fun c_83 => ?_)
                    · exact absurd c_83 (by decide)
                    · skip
                      refine v_aload_n hC (pc := 86) (k := 0) 2 rfl dX2_takeWalker_86 ?_
                      refine v_iconst hC (pc := 87) (v := 1) (by decide) dX2_takeWalker_87 ?_
                      refine v_callV hC (pc := 88) (As := [_]) dX2_takeWalker_88 rfl (t_of_g _ _ (d := d - 1) (by omega) _ (a := ((tE T t (tE T t e), D) : PA)) ht (((CE_c (i := (6, 4, n)) ⟨Or.inr rfl, rfl⟩ hE4 : CE h0 (upI u8 (6, 4, n) 1 (nI sd)))).2.2 1 (by decide) |>.trans htp) ((((CE_c (i := (6, 4, n)) ⟨Or.inr rfl, rfl⟩ hE4 : CE h0 (upI u8 (6, 4, n) 1 (nI sd)))).1 (1, 0, 3) (by decide) (by decide) nC3).trans hT) hT0 (by rw [upI_ne _ _ _ (ne_1 (by decide))]; exact hG5) he2 (K := 1) (by decide) (by decide) hk2) cv_X2_54 rfl (by decide) rfl (by first | rfl | exact ok_c hq rfl | exact ok_w hq hw | exact ok_w (by omega) (by omega) | exact ok_s (by omega) (by omega) | exact ok_c (by omega) rfl | assumption) (Nat.le_of_ble_eq_true rfl) (by omega) (fun r h' hr => ?_)
                      obtain ⟨rfl, hI⟩ := hr
                      obtain ⟨hI1, hI2, hI3, hI5, hI7⟩ := hI
                      generalize h' = u7 at hI1 hI2 hI3 hI5 hI7 ⊢
                      have hE6 := CE_F (CE_c (i := (6, 4, n)) (k := 1) (x := nI sd) ⟨Or.inr rfl, rfl⟩ hE4) hI1
                      have hPW3 := PW_F (PW_w (k := 1) (x := nI sd) hPW2) hI1
                      show V _ _ _ (88 + 3) _ (_ :: _) _
                      refine v_if_eq hC (pc := 91) (tgt := 106) dX2_takeWalker_91 (by decide) (fun c_91 => ?_) (fun c_91 => ?_)
                      · exact absurd c_91 (by decide)
                      · skip
                        refine v_aload_n hC (pc := 94) (k := 0) 2 rfl dX2_takeWalker_94 ?_
                        refine v_aload_n hC (pc := 95) (k := 3) 0 rfl dX2_takeWalker_95 ?_
                        refine v_callV hC (pc := 96) (As := [_]) dX2_takeWalker_96 rfl (MS.mono (t_route _ _ (d := d - 1) (by omega) _ (T := T) (t := t) (e := tE T t (tE T t e)) ht (hE6.2.2 1 (by decide) |>.trans htp) ((hE6.1 (1, 0, 3) (by decide) (by decide) nC3).trans hT) hI5 hI7 he2 hn4 hl10 ((hPW3.2.2.2.2.1 3 (by decide)).trans (by unfold bgV; rw [updo (by decide)]; rfl)) ((hPW3.2.2.2.2.1 4 (by decide)).trans (by unfold bgV; rw [updo (by decide)]; rfl))) (R' := fun r h1 => h1 = rtH u7 n T (tF T t (tE T t (tE T t e))) (tE T t (tE T t (tE T t e)) - tF T t (tE T t (tE T t e))) ∧ r = some (vi 1)) (fun r h1 z => z.elim (fun y => y.2) (fun y => absurd hlr y.1))) cv_X2_175 rfl (by decide) rfl (by first | rfl | exact ok_c hq rfl | exact ok_w hq hw | exact ok_w (by omega) (by omega) | exact ok_s (by omega) (by omega) | exact ok_c (by omega) rfl | assumption) (Nat.le_of_ble_eq_true rfl) (by omega) (fun r h' hr => ?_)
                        obtain ⟨he9, rfl⟩ := hr
                        rw [he9]
                        clear he9 h'
                        show V _ _ _ (96 + 3) _ (_ :: _) _
                        refine v_if_eq hC (pc := 99) (tgt := 106) dX2_takeWalker_99 (by decide) (fun c_99 => ?_) (fun c_99 => ?_)
                        · exact absurd c_99 (by decide)
                        · skip
                          refine v_iconst hC (pc := 102) (v := 1) (by decide) dX2_takeWalker_102 ?_
                          refine v_goto hC (pc := 103) (tgt := 107) dX2_takeWalker_103 (by decide) ?_
                          refine v_zret hC hX (pc := 107) dX2_takeWalker_107 (nar_b (by first | exact Or.inl rfl | exact Or.inr rfl | exact bI_01 _)) ?_
                          rw [iteP_t (show D 81 < 4 by rw [hn81]; exact nI_lt hn4 (by decide))]
                          obtain ⟨D6, hD6⟩ := wlk_g (n := n) (kp := kp) hn hcv hk (by omega)
                          obtain ⟨b9, hb9⟩ := wlk_r7 (hD6.trans (rou_4 hk2 hl10 hlr))
                          rw [hb9]
                          obtain ⟨c9, sd9, l9', q1, q2, q3, q4, q5, q6, q7, q8⟩ := wlkS_i hb9
                          have ec : nI c9 = nI c := q7.symm.trans hcv
                          have es : sd9 = sd := q6.symm.trans hs
                          have hPW4 := PW_w (k := 4) (x := nI (tE T t (tE T t (tE T t e)) - tF T t (tE T t (tE T t e)))) (PW_w (k := 3) (x := rtN T (tF T t (tE T t (tE T t e))) (tE T t (tE T t (tE T t e)) - tF T t (tE T t (tE T t e)))) hPW3)
                          replace q5 : l9' = tE T t (tE T t (tE T t e)) - tF T t (tE T t (tE T t e)) := q5
                          replace q4 : b9.1 = tE T t (tE T t (tE T t e)) := q4
                          replace q8 : b9.2 = _ := q8
                          rw [ec, es, q5] at q8
                          generalize hbits : rtN T (tF T t (tE T t (tE T t e))) (tE T t (tE T t (tE T t e)) - tF T t (tE T t (tE T t e))) = bits at q8 hPW4
                          have hfin := PW_end (E := b9.2) hn4 hPW4 (by rw [q8]; repeat (first | (unfold bgV; rfl) | rw [updi] | rw [updo (by omega)])) (by rw [q8]; repeat (first | (unfold bgV; rfl) | rw [updi] | rw [updo (by omega)])) (by rw [q8]; repeat (first | (unfold bgV; rfl) | rw [updi] | rw [updo (by omega)])) (by rw [q8]; repeat (first | (unfold bgV; rfl) | rw [updi] | rw [updo (by omega)])) (by rw [q8]; repeat (first | (unfold bgV; rfl) | rw [updi] | rw [updo (by omega)])) (by rw [q8]; repeat (first | (unfold bgV; rfl) | rw [updi] | rw [updo (by omega)])) (by rw [q8, updi]; repeat (first | (rw [show (e, D).2 81 = nI n from hn81]; exact nI_1 n) | rw [updo (by omega)])) (fun k z1 z2 z3 => by rw [q8, updo z2, updo (by omega), updo (by omega), updo (by omega), updo (by omega), updo (by omega), updo (by omega), updo z3])
                          refine ⟨rfl, rtH_CE hE6, by rw [q4]; exact (tE_m he2).2, ?_, ?_, ?_, ?_⟩
                          · unfold rtH; rw [hbits]; exact hfin.1
                          · unfold rtH; rw [hbits]; exact hfin.2
                          · rw [rtH_R, hI2, upI_ne _ _ _ (ne_1 (by decide)), hG2, hR3, hF2]; exact hz
                          · rw [rtH_R, hI5, q4]
                · skip
                  refine v_aload_n hC (pc := 70) (k := 0) 2 rfl dX2_takeWalker_70 ?_
                  refine v_iconst hC (pc := 71) (v := 1) (by decide) dX2_takeWalker_71 ?_
                  refine v_callV hC (pc := 72) (As := [_]) dX2_takeWalker_72 rfl (t_of_g _ _ (d := d - 1) (by omega) _ (a := ((tE T t e, D) : PA)) ht ((hE3).2.2 1 (by decide) |>.trans htp) (((hE3).1 (1, 0, 3) (by decide) (by decide) nC3).trans hT) hT0 ((hR3 5).trans hF5) he1 (K := 1) (by decide) (by decide) hk) cv_X2_54 rfl (by decide) rfl (by first | rfl | exact ok_c hq rfl | exact ok_w hq hw | exact ok_w (by omega) (by omega) | exact ok_s (by omega) (by omega) | exact ok_c (by omega) rfl | assumption) (Nat.le_of_ble_eq_true rfl) (by omega) (fun r h' hr => ?_)
                  obtain ⟨rfl, hG⟩ := hr
                  obtain ⟨hG1, hG2, hG3, hG5, hG7⟩ := hG
                  generalize h' = u8 at hG1 hG2 hG3 hG5 hG7 ⊢
                  have hE4 := CE_F hE3 hG1
                  have hPW2 := PW_F hPW hG1
                  show V _ _ _ (72 + 3) _ (_ :: _) _
                  refine v_if_eq hC (pc := 75) (tgt := 106) dX2_takeWalker_75 (by decide) (fun c_75 => ?_) (fun c_75 => ?_)
                  · exact absurd c_75 (by decide)
                  · skip
                    refine v_aload_n hC (pc := 78) (k := 0) 2 rfl dX2_takeWalker_78 ?_
                    refine v_aload_n hC (pc := 79) (k := 3) 0 rfl dX2_takeWalker_79 ?_
                    refine v_callV hC (pc := 80) (As := [_]) dX2_takeWalker_80 rfl (t_hand_g _ _ (d := d - 1) (by omega) _ (T := T) (t := t) (e := tE T t e) ht (hE4.2.2 1 (by decide) |>.trans htp) ((hE4.1 (1, 0, 3) (by decide) (by decide) nC3).trans hT) hG5 hG7 he1 hn4 hs2 hs) cv_X2_171 rfl (by decide) rfl (by first | rfl | exact ok_c hq rfl | exact ok_w hq hw | exact ok_w (by omega) (by omega) | exact ok_s (by omega) (by omega) | exact ok_c (by omega) rfl | assumption) (Nat.le_of_ble_eq_true rfl) (by omega) (fun r h' hr => ?_)
                    obtain ⟨he9, rfl⟩ := hr
                    rw [he9]
                    clear he9 h'
                    show V _ _ _ (80 + 3) _ (_ :: _) _
                    refine v_if_eq hC (pc := 83) (tgt := 106) dX2_takeWalker_83 (by decide) (fun c_83 => ?_) (fun c_83 => ?_)
                    · exact absurd c_83 (by decide)
                    · skip
                      refine v_aload_n hC (pc := 86) (k := 0) 2 rfl dX2_takeWalker_86 ?_
                      refine v_iconst hC (pc := 87) (v := 1) (by decide) dX2_takeWalker_87 ?_
                      refine v_callV hC (pc := 88) (As := [_]) dX2_takeWalker_88 rfl (t_of_g _ _ (d := d - 1) (by omega) _ (a := ((tE T t (tE T t e), D) : PA)) ht (((CE_c (i := (6, 4, n)) ⟨Or.inr rfl, rfl⟩ hE4 : CE h0 (upI u8 (6, 4, n) 1 (nI sd)))).2.2 1 (by decide) |>.trans htp) ((((CE_c (i := (6, 4, n)) ⟨Or.inr rfl, rfl⟩ hE4 : CE h0 (upI u8 (6, 4, n) 1 (nI sd)))).1 (1, 0, 3) (by decide) (by decide) nC3).trans hT) hT0 (by rw [upI_ne _ _ _ (ne_1 (by decide))]; exact hG5) he2 (K := 1) (by decide) (by decide) hk2) cv_X2_54 rfl (by decide) rfl (by first | rfl | exact ok_c hq rfl | exact ok_w hq hw | exact ok_w (by omega) (by omega) | exact ok_s (by omega) (by omega) | exact ok_c (by omega) rfl | assumption) (Nat.le_of_ble_eq_true rfl) (by omega) (fun r h' hr => ?_)
                      obtain ⟨rfl, hI⟩ := hr
                      obtain ⟨hI1, hI2, hI3, hI5, hI7⟩ := hI
                      generalize h' = u7 at hI1 hI2 hI3 hI5 hI7 ⊢
                      have hE6 := CE_F (CE_c (i := (6, 4, n)) (k := 1) (x := nI sd) ⟨Or.inr rfl, rfl⟩ hE4) hI1
                      have hPW3 := PW_F (PW_w (k := 1) (x := nI sd) hPW2) hI1
                      show V _ _ _ (88 + 3) _ (_ :: _) _
                      refine v_if_eq hC (pc := 91) (tgt := 106) dX2_takeWalker_91 (by decide) (fun c_91 => ?_) (fun c_91 => ?_)
                      · exact absurd c_91 (by decide)
                      · skip
                        refine v_aload_n hC (pc := 94) (k := 0) 2 rfl dX2_takeWalker_94 ?_
                        refine v_aload_n hC (pc := 95) (k := 3) 0 rfl dX2_takeWalker_95 ?_
                        refine v_callV hC (pc := 96) (As := [_]) dX2_takeWalker_96 rfl (MS.mono (t_route _ _ (d := d - 1) (by omega) _ (T := T) (t := t) (e := tE T t (tE T t e)) ht (hE6.2.2 1 (by decide) |>.trans htp) ((hE6.1 (1, 0, 3) (by decide) (by decide) nC3).trans hT) hI5 hI7 he2 hn4 hl10 ((hPW3.2.2.2.2.1 3 (by decide)).trans (by unfold bgV; rw [updo (by decide)]; rfl)) ((hPW3.2.2.2.2.1 4 (by decide)).trans (by unfold bgV; rw [updo (by decide)]; rfl))) (R' := fun r h1 => r = some (vi 0) ∧ ∃ k, h1 = rfH (rtH u7 n T (tF T t (tE T t (tE T t e))) k) 3 (u7.1 (1, 0, 2) 7)) (fun r h1 z => z.elim (fun y => absurd y.1 hlr) (fun y => y.2))) cv_X2_175 rfl (by decide) rfl (by first | rfl | exact ok_c hq rfl | exact ok_w hq hw | exact ok_w (by omega) (by omega) | exact ok_s (by omega) (by omega) | exact ok_c (by omega) rfl | assumption) (Nat.le_of_ble_eq_true rfl) (by omega) (fun r h' hr => ?_)
                        obtain ⟨rfl, k9, he9⟩ := hr
                        rw [he9]
                        clear he9 h'
                        show V _ _ _ (96 + 3) _ (_ :: _) _
                        refine v_if_eq hC (pc := 99) (tgt := 106) dX2_takeWalker_99 (by decide) (fun c_99 => ?_) (fun c_99 => ?_)
                        · skip
                          refine v_iconst hC (pc := 106) (v := 0) (by decide) dX2_takeWalker_106 ?_
                          refine v_zret hC hX (pc := 107) dX2_takeWalker_107 (nar_b (by first | exact Or.inl rfl | exact Or.inr rfl | exact bI_01 _)) ?_
                          rw [iteP_t (show D 81 < 4 by rw [hn81]; exact nI_lt hn4 (by decide))]
                          obtain ⟨D6, hD6⟩ := wlk_g (n := n) (kp := kp) hn hcv hk (by omega)
                          rw [wlk_l7 (hD6.trans (rou_3 hk2 hl10 hlr))]
                          exact ⟨rfl, CE_F (rtH_CE hE6) (FrR_rf (FrR_r _)), rfH_2 _ _ _, (rfH_3 _ _ _).trans hI7⟩
                        · exact absurd c_99 (by decide)
              · skip
                refine v_aload_n hC (pc := 70) (k := 0) 2 rfl dX2_takeWalker_70 ?_
                refine v_iconst hC (pc := 71) (v := 1) (by decide) dX2_takeWalker_71 ?_
                refine v_callV hC (pc := 72) (As := [_]) dX2_takeWalker_72 rfl (t_of_g _ _ (d := d - 1) (by omega) _ (a := ((tE T t e, D) : PA)) ht ((hE3).2.2 1 (by decide) |>.trans htp) (((hE3).1 (1, 0, 3) (by decide) (by decide) nC3).trans hT) hT0 ((hR3 5).trans hF5) he1 (K := 1) (by decide) (by decide) hk) cv_X2_54 rfl (by decide) rfl (by first | rfl | exact ok_c hq rfl | exact ok_w hq hw | exact ok_w (by omega) (by omega) | exact ok_s (by omega) (by omega) | exact ok_c (by omega) rfl | assumption) (Nat.le_of_ble_eq_true rfl) (by omega) (fun r h' hr => ?_)
                obtain ⟨rfl, hG⟩ := hr
                obtain ⟨hG1, hG2, hG3, hG5, hG7⟩ := hG
                generalize h' = u8 at hG1 hG2 hG3 hG5 hG7 ⊢
                have hE4 := CE_F hE3 hG1
                have hPW2 := PW_F hPW hG1
                show V _ _ _ (72 + 3) _ (_ :: _) _
                refine v_if_eq hC (pc := 75) (tgt := 106) dX2_takeWalker_75 (by decide) (fun c_75 => ?_) (fun c_75 => ?_)
                · exact absurd c_75 (by decide)
                · skip
                  refine v_aload_n hC (pc := 78) (k := 0) 2 rfl dX2_takeWalker_78 ?_
                  refine v_aload_n hC (pc := 79) (k := 3) 0 rfl dX2_takeWalker_79 ?_
                  refine v_callV hC (pc := 80) (As := [_]) dX2_takeWalker_80 rfl (t_hand_g _ _ (d := d - 1) (by omega) _ (T := T) (t := t) (e := tE T t e) ht (hE4.2.2 1 (by decide) |>.trans htp) ((hE4.1 (1, 0, 3) (by decide) (by decide) nC3).trans hT) hG5 hG7 he1 hn4 hs2 hs) cv_X2_171 rfl (by decide) rfl (by first | rfl | exact ok_c hq rfl | exact ok_w hq hw | exact ok_w (by omega) (by omega) | exact ok_s (by omega) (by omega) | exact ok_c (by omega) rfl | assumption) (Nat.le_of_ble_eq_true rfl) (by omega) (fun r h' hr => ?_)
                  obtain ⟨he9, rfl⟩ := hr
                  rw [he9]
                  clear he9 h'
                  show V _ _ _ (80 + 3) _ (_ :: _) _
                  refine v_if_eq hC (pc := 83) (tgt := 106) dX2_takeWalker_83 (by decide) (fun c_83 => ?_) (fun c_83 => ?_)
                  · exact absurd c_83 (by decide)
                  · skip
                    refine v_aload_n hC (pc := 86) (k := 0) 2 rfl dX2_takeWalker_86 ?_
                    refine v_iconst hC (pc := 87) (v := 1) (by decide) dX2_takeWalker_87 ?_
                    refine v_callV hC (pc := 88) (As := [_]) dX2_takeWalker_88 rfl (t_of_g _ _ (d := d - 1) (by omega) _ (a := ((tE T t (tE T t e), D) : PA)) ht (((CE_c (i := (6, 4, n)) ⟨Or.inr rfl, rfl⟩ hE4 : CE h0 (upI u8 (6, 4, n) 1 (nI sd)))).2.2 1 (by decide) |>.trans htp) ((((CE_c (i := (6, 4, n)) ⟨Or.inr rfl, rfl⟩ hE4 : CE h0 (upI u8 (6, 4, n) 1 (nI sd)))).1 (1, 0, 3) (by decide) (by decide) nC3).trans hT) hT0 (by rw [upI_ne _ _ _ (ne_1 (by decide))]; exact hG5) he2 (K := 1) (by decide) (by decide) hk2) cv_X2_54 rfl (by decide) rfl (by first | rfl | exact ok_c hq rfl | exact ok_w hq hw | exact ok_w (by omega) (by omega) | exact ok_s (by omega) (by omega) | exact ok_c (by omega) rfl | assumption) (Nat.le_of_ble_eq_true rfl) (by omega) (fun r h' hr => ?_)
                    obtain ⟨rfl, hI⟩ := hr
                    obtain ⟨hI1, hI2, hI3, hI5, hI7⟩ := hI
                    generalize h' = u7 at hI1 hI2 hI3 hI5 hI7 ⊢
                    have hE6 := CE_F (CE_c (i := (6, 4, n)) (k := 1) (x := nI sd) ⟨Or.inr rfl, rfl⟩ hE4) hI1
                    have hPW3 := PW_F (PW_w (k := 1) (x := nI sd) hPW2) hI1
                    show V _ _ _ (88 + 3) _ (_ :: _) _
                    refine v_if_eq hC (pc := 91) (tgt := 106) dX2_takeWalker_91 (by decide) (fun c_91 => ?_) (fun c_91 => ?_)
                    · exact absurd c_91 (by decide)
                    · skip
                      refine v_aload_n hC (pc := 94) (k := 0) 2 rfl dX2_takeWalker_94 ?_
                      refine v_aload_n hC (pc := 95) (k := 3) 0 rfl dX2_takeWalker_95 ?_
                      refine v_callV hC (pc := 96) (As := [_]) dX2_takeWalker_96 rfl (t_route_l _ _ (d := d - 1) (by omega) _ (T := T) (t := t) (e := tE T t (tE T t e)) ht (hE6.2.2 1 (by decide) |>.trans htp) ((hE6.1 (1, 0, 3) (by decide) (by decide) nC3).trans hT) hI5 hI7 he2 hn4 hl10) cv_X2_175 rfl (by decide) rfl (by first | rfl | exact ok_c hq rfl | exact ok_w hq hw | exact ok_w (by omega) (by omega) | exact ok_s (by omega) (by omega) | exact ok_c (by omega) rfl | assumption) (Nat.le_of_ble_eq_true rfl) (by omega) (fun r h' hr => ?_)
                      obtain ⟨he9, rfl⟩ := hr
                      rw [he9]
                      clear he9 h'
                      show V _ _ _ (96 + 3) _ (_ :: _) _
                      refine v_if_eq hC (pc := 99) (tgt := 106) dX2_takeWalker_99 (by decide) (fun c_99 => ?_) (fun c_99 => ?_)
                      · skip
                        refine v_iconst hC (pc := 106) (v := 0) (by decide) dX2_takeWalker_106 ?_
                        refine v_zret hC hX (pc := 107) dX2_takeWalker_107 (nar_b (by first | exact Or.inl rfl | exact Or.inr rfl | exact bI_01 _)) ?_
                        rw [iteP_t (show D 81 < 4 by rw [hn81]; exact nI_lt hn4 (by decide))]
                        obtain ⟨D6, hD6⟩ := wlk_g (n := n) (kp := kp) hn hcv hk (by omega)
                        rw [wlk_l7 (hD6.trans (rou_2 hk2 hl10))]
                        exact ⟨rfl, CE_F hE6 (FrR_rf (FrR_r _)), rfH_2 _ _ _, (rfH_3 _ _ _).trans hI7⟩
                      · exact absurd c_99 (by decide)
      refine v_aload_n hC (pc := 0) (k := 0) 0 rfl dX2_takeWalker_0 ?_
      refine v_getR hC (pc := 1) dX2_takeWalker_1 fl_X2_12 rfl (by first | rfl | exact ok_c hq rfl | exact ok_w hq hw | exact ok_w (by omega) (by omega) | exact ok_s (by omega) (by omega) | exact ok_c (by omega) rfl | assumption) rfl (by decide) (by decide) rfl ?_
      refine v_getI hC (pc := 4) dX2_takeWalker_4 fl_X2_158 rfl (by first | rfl | exact ok_c hq rfl | exact ok_w hq hw | exact ok_w (by omega) (by omega) | exact ok_s (by omega) (by omega) | exact ok_c (by omega) rfl | assumption) rfl (by decide) (by decide) ?_
      rw [hw4]
      refine v_iconst hC (pc := 7) (v := 4) (by decide) dX2_takeWalker_7 ?_
      refine v_icmp_lt hC (pc := 8) (tgt := 21) dX2_takeWalker_8 (by decide) (fun c_8 => ?_) (fun c_8 => ?_)
      · skip
        refine v_aload_n hC (pc := 21) (k := 0) 0 rfl dX2_takeWalker_21 ?_
        refine v_iconst hC (pc := 22) (v := 0) (by decide) dX2_takeWalker_22 ?_
        refine v_bipush hC (pc := 23) (v := 7) (by decide +kernel) dX2_takeWalker_23 ?_
        refine v_callV hC (pc := 25) (As := [_, _]) dX2_takeWalker_25 rfl (t_num_g _ _ (d := d - 1) (by omega) _ (a := ((e, D) : PA)) ht ((hE).2.2 1 (by decide) |>.trans htp) (((hE).1 (1, 0, 3) (by decide) (by decide) nC3).trans hT) hT0 hp he 0 7 hn) cv_X2_139 rfl (by decide) rfl (by first | rfl | exact ok_c hq rfl | exact ok_w hq hw | exact ok_w (by omega) (by omega) | exact ok_s (by omega) (by omega) | exact ok_c (by omega) rfl | assumption) (Nat.le_of_ble_eq_true rfl) (by omega) (fun r h' hr => ?_)
        obtain ⟨rfl, hF⟩ := hr
        obtain ⟨hF1, hF2, hF3, hF5, hF7⟩ := hF
        rw [show tV T t (e, D).1 = nI c from hcv]
        generalize h' = u9 at hF1 hF2 hF3 hF5 hF7 ⊢
        have hE2 := CE_F hE hF1
        have hu4 : u9.1 (0, 4, 0) 4 = nI n := by rw [hF1.1 (0, 4, 0) (by decide)]; exact hw4
        have hPW := PW_b (c := nI c) (kp := kp) (by omega) (DCd_F hDd hF1) (DCt_F hDt hF1) hn81
        have hE3 : CE h0 (bgH u9 n (nI c) kp) := bgH_CE hkp hE2
        have hR3 : ∀ m, (bgH u9 n (nI c) kp).1 (1, 0, 2) m = u9.1 (1, 0, 2) m := fun m => PW_R u9 n (nI c) kp rfl
        show V _ _ _ (25 + 3) _ (_ :: _) _
        refine v_istore_n hC (pc := 28) (l' := [(2, _), (0, _), (1, _)]) dX2_takeWalker_28 (by decide) rfl ?_
        refine v_iload_n hC (pc := 29) (k := 2) 0 rfl dX2_takeWalker_29 ?_
        refine v_if_ge hC (pc := 30) (tgt := 35) dX2_takeWalker_30 (by decide) (fun c_30 => ?_) (fun c_30 => ?_)
        · skip
          refine v_aload_n hC (pc := 35) (k := 0) 1 rfl dX2_takeWalker_35 ?_
          refine v_getR hC (pc := 36) dX2_takeWalker_36 fl_X2_12 rfl (by first | rfl | exact ok_c hq rfl | exact ok_w hq hw | exact ok_w (by omega) (by omega) | exact ok_s (by omega) (by omega) | exact ok_c (by omega) rfl | assumption) rfl (by decide) (by decide) rfl ?_
          refine v_getR hC (pc := 39) dX2_takeWalker_39 fl_X2_161 rfl (by first | rfl | exact ok_c hq rfl | exact ok_w hq hw | exact ok_w (by omega) (by omega) | exact ok_s (by omega) (by omega) | exact ok_c (by omega) rfl | assumption) rfl (by decide) (by decide) rfl ?_
          refine v_aload_n hC (pc := 42) (k := 0) 1 rfl dX2_takeWalker_42 ?_
          refine v_getR hC (pc := 43) dX2_takeWalker_43 fl_X2_12 rfl (by first | rfl | exact ok_c hq rfl | exact ok_w hq hw | exact ok_w (by omega) (by omega) | exact ok_s (by omega) (by omega) | exact ok_c (by omega) rfl | assumption) rfl (by decide) (by decide) rfl ?_
          refine v_getI hC (pc := 46) dX2_takeWalker_46 fl_X2_158 rfl (by first | rfl | exact ok_c hq rfl | exact ok_w hq hw | exact ok_w (by omega) (by omega) | exact ok_s (by omega) (by omega) | exact ok_c (by omega) rfl | assumption) rfl (by decide) (by decide) ?_
          rw [hu4]
          refine v_aald hC (pc := 49) 5 dX2_takeWalker_49 rfl (by decide) (fun _ => rfl) (by first | rfl | exact ok_c hq rfl | exact ok_w hq hw | exact ok_w (by omega) (by omega) | exact ok_s (by omega) (by omega) | exact ok_c (by omega) rfl | assumption) (vp_nat (n := n) hn4 (by decide)) (by rw [nI_clamp (show n < 2 ^ 31 by omega)]; rfl) ?_
          refine v_astore_n hC (pc := 50) (l' := [(3, _), (2, _), (0, _), (1, _)]) dX2_takeWalker_50 (by decide) rfl ?_
          refine v_aload_n hC (pc := 51) (k := 3) 0 rfl dX2_takeWalker_51 ?_
          refine v_iload_n hC (pc := 52) (k := 2) 1 rfl dX2_takeWalker_52 ?_
          refine v_iload_n hC (pc := 53) (k := 1) 3 rfl dX2_takeWalker_53 ?_
          refine v_callV hC (pc := 54) (As := [_, _]) dX2_takeWalker_54 rfl (t_begin _ _ (d := d - 1) (by omega) (q := 4) (w := n) (by decide) hn4 _ _ _ hkp) cv_X2_165 rfl (by decide) rfl (ok_w (by decide) (by omega)) (Nat.le_of_ble_eq_true rfl) (by omega) (fun r h' hr => ?_)
          obtain ⟨rfl, he9⟩ := hr
          rw [he9]
          clear he9 h'
          show V _ _ _ (54 + 3) _ _ _
          refine v_aload_n hC (pc := 57) (k := 0) 2 rfl dX2_takeWalker_57 ?_
          refine v_getR hC (pc := 58) dX2_takeWalker_58 fl_X2_12 rfl (by first | rfl | exact ok_c hq rfl | exact ok_w hq hw | exact ok_w (by omega) (by omega) | exact ok_s (by omega) (by omega) | exact ok_c (by omega) rfl | assumption) rfl (by decide) (by decide) rfl ?_
          refine v_dup hC (pc := 61) rfl dX2_takeWalker_61 ?_
          refine v_getI hC (pc := 62) dX2_takeWalker_62 fl_X2_158 rfl (by first | rfl | exact ok_c hq rfl | exact ok_w hq hw | exact ok_w (by omega) (by omega) | exact ok_s (by omega) (by omega) | exact ok_c (by omega) rfl | assumption) rfl (by decide) (by decide) ?_
          refine v_iconst hC (pc := 65) (v := 1) (by decide) dX2_takeWalker_65 ?_
          refine v_iadd hC (pc := 66) dX2_takeWalker_66 ?_
          have hsum : ∀ H : HP, H = upI (upI (upI (upI (upI (upI u9 (6, 4, n) 0 (nI c)) (6, 4, n) 1 0) (6, 4, n) 2 kp) (6, 4, n) 3 0) (6, 4, n) 4 0) (6, 4, n) 5 0 → H.1 (0, 4, 0) 4 = nI n := by
            intro H q
            rw [q]
            simp [upI]
            exact hu4
          rw [hsum _ rfl, nI_1]
          refine v_putI hC (pc := 67) dX2_takeWalker_67 fs_X2_158 rfl (by first | rfl | exact ok_c hq rfl | exact ok_w hq hw | exact ok_w (by omega) (by omega) | exact ok_s (by omega) (by omega) | exact ok_c (by omega) rfl | assumption) rfl (by decide) (by decide) ?_
          exact P70 u9 hE3 hPW hR3 hF2 hF5
        · exact absurd (nI_pos' (by omega)) c_30
      · exact absurd (nI_lt hn4 (by decide)) c_8
  · skip
    refine v_aload_n hC (pc := 0) (k := 0) 0 rfl dX2_takeWalker_0 ?_
    refine v_getR hC (pc := 1) dX2_takeWalker_1 fl_X2_12 rfl (by first | rfl | exact ok_c hq rfl | exact ok_w hq hw | exact ok_w (by omega) (by omega) | exact ok_s (by omega) (by omega) | exact ok_c (by omega) rfl | assumption) rfl (by decide) (by decide) rfl ?_
    refine v_getI hC (pc := 4) dX2_takeWalker_4 fl_X2_158 rfl (by first | rfl | exact ok_c hq rfl | exact ok_w hq hw | exact ok_w (by omega) (by omega) | exact ok_s (by omega) (by omega) | exact ok_c (by omega) rfl | assumption) rfl (by decide) (by decide) ?_
    rw [hw4]
    refine v_iconst hC (pc := 7) (v := 4) (by decide) dX2_takeWalker_7 ?_
    refine v_icmp_lt hC (pc := 8) (tgt := 21) dX2_takeWalker_8 (by decide) (fun c_8 => ?_) (fun c_8 => ?_)
    · exact absurd (nI_ltI (by omega) (by decide) |>.mp c_8) (by omega)
    · skip
      refine v_aload_n hC (pc := 11) (k := 0) 0 rfl dX2_takeWalker_11 ?_
      refine v_iconst hC (pc := 12) (v := 5) (by decide) dX2_takeWalker_12 ?_
      refine v_aload_n hC (pc := 13) (k := 0) 0 rfl dX2_takeWalker_13 ?_
      refine v_getI hC (pc := 14) dX2_takeWalker_14 fl_X2_72 rfl (by first | rfl | exact ok_c hq rfl | exact ok_w hq hw | exact ok_w (by omega) (by omega) | exact ok_s (by omega) (by omega) | exact ok_c (by omega) rfl | assumption) rfl (by decide) (by decide) ?_
      refine v_callV hC (pc := 17) (As := [_, _]) dX2_takeWalker_17 rfl (t_refuse _ _ (d := d - 1) (by omega) _ _ _) cv_X2_64 rfl (by decide) rfl (by first | rfl | exact ok_c hq rfl | exact ok_w hq hw | exact ok_w (by omega) (by omega) | exact ok_s (by omega) (by omega) | exact ok_c (by omega) rfl | assumption) (Nat.le_of_ble_eq_true rfl) (by omega) (fun r h' hr => ?_)
      obtain ⟨he9, rfl⟩ := hr
      rw [he9]
      clear he9 h'
      show V _ _ _ (17 + 3) _ (_ :: _) _
      refine v_zret hC hX (pc := 20) dX2_takeWalker_20 (nar_b (by first | exact Or.inl rfl | exact Or.inr rfl | exact bI_01 _)) ?_
      rw [iteP_f (p := D 81 < 4) (fun z => absurd (show nI n < nI 4 by rw [← hn81]; exact z) (nI_nlt (by omega) (by omega)))]
      exact ⟨rfl, CE_F hE (FrR_rf (FrR_r h)), rfH_2 _ _ _, (rfH_3 _ _ _).trans hq7⟩

