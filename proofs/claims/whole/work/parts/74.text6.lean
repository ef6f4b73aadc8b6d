/-! THE TEXT: lines, and all of it, as the reference reads them -/
section TX
variable (T : Nat → Int32) (t : Nat)
noncomputable def glN : Nat → PA → Sum PE PA
  | 0, a => .inr a
  | g + 1, a => bdE (glN g a) (fun b => mpE (numS T t 0 9 b) (fun D => upd D (43 + g) (tV T t b.1)))
noncomputable def sgnS (a : PA) : Sum PE PA := mpE (corS T t (a.2 16) a) (fun D => upd D 16 (a.2 16 ||| (1 <<< (tV T t a.1 &&& 31))))
noncomputable def linK (k : Nat) (a : PA) : Sum PE PA := match k with
  | 0 => strS T t 0 a
  | 1 => strS T t 1 a
  | 2 => mpE (numS T t 2 8 a) (fun D => upd D 80 (tV T t a.1))
  | 3 => mpE (numS T t 0 23 a) (fun D => upd D 17 (tV T t a.1))
  | 4 => glN T t 4 a
  | 5 => sgnS T t a
  | 6 => wlkS T t (a.2 81).toNatClampNeg 0 a
  | _ => wlkS T t (a.2 81).toNatClampNeg 1 a
noncomputable def kkN (e : Nat) : Nat := iteP (tK T t e = 1) (lrN T t e) 8
/-- behind a line's word -/
noncomputable def tlS (k : Nat) (b : PA) : Sum PE PA := bdE (bdE (linK T t k b) (fun c => chkS T t (tK T t c.1 = 3) 2 c)) (advS T t)
noncomputable def linS (a : PA) : Sum PE PA := iteP (kkN T t a.1 = 8) (.inl (2, tF T t a.1)) (iteP (6 ≤ kkN T t a.1 ∧ ¬ a.2 81 < 4) (.inl (5, tF T t a.1)) (iteP (2 ≤ kkN T t a.1 ∧ kkN T t a.1 ≤ 4) (iteP ((a.2 82 >>> (nI (kkN T t a.1) &&& 31)) &&& 1 = 0) (tlS T t (kkN T t a.1) (tE T t a.1, upd a.2 82 (a.2 82 ||| (1 <<< (nI (kkN T t a.1) &&& 31))))) (.inl (4, tF T t a.1))) (tlS T t (kkN T t a.1) (tE T t a.1, a.2))))
end TX
theorem rsp_wlk (T : Nat → Int32) (t n : Nat) (kp : Int32) (a : PA) (h : tB T t a.1) : wlkS T t n kp a = .inl (1, tF T t a.1) := by
  unfold wlkS wg9 wg8 wg7 wg6 wg5 wg4 wg3 wg2 wg1
  rw [rsp_cor T t 0 a h]; rfl
theorem linK_2 (T : Nat → Int32) (t : Nat) (a : PA) : linK T t 2 a = mpE (numS T t 2 8 a) (fun D => upd D 80 (tV T t a.1)) := rfl
theorem linK_3 (T : Nat → Int32) (t : Nat) (a : PA) : linK T t 3 a = mpE (numS T t 0 23 a) (fun D => upd D 17 (tV T t a.1)) := rfl
theorem linK_4 (T : Nat → Int32) (t : Nat) : linK T t 4 = glN T t 4 := rfl
theorem linK_5 (T : Nat → Int32) (t : Nat) (a : PA) : linK T t 5 a = mpE (corS T t (a.2 16) a) (fun D => upd D 16 (a.2 16 ||| (1 <<< (tV T t a.1 &&& 31)))) := rfl
theorem glN_1 (T : Nat → Int32) (t : Nat) (a : PA) : glN T t 1 a = mpE (numS T t 0 9 a) (fun D => upd D 43 (tV T t a.1)) := rfl
theorem glN_s (T : Nat → Int32) (t g : Nat) (a : PA) : glN T t (g + 1) a = bdE (glN T t g a) (fun b => mpE (numS T t 0 9 b) (fun D => upd D (43 + g) (tV T t b.1))) := rfl
theorem rsp_gl (T : Nat → Int32) (t : Nat) (a : PA) (h : tB T t a.1) : ∀ g, glN T t (g + 1) a = .inl (1, tF T t a.1)
  | 0 => by
    rw [glN_1, rsp_num T t 0 9 a h]; rfl
  | g + 1 => by
    rw [glN_s, rsp_gl T t a h g]; rfl
theorem rsp_linK (T : Nat → Int32) (t k : Nat) : rspE T t (linK T t k) := fun a h => by
  match k with
  | 0 => exact rsp_str T t 0 a h
  | 1 => exact rsp_str T t 1 a h
  | 2 => rw [linK_2, rsp_num T t 2 8 a h]; rfl
  | 3 => rw [linK_3, rsp_num T t 0 23 a h]; rfl
  | 4 => rw [linK_4]; exact rsp_gl T t a h 3
  | 5 => rw [linK_5, rsp_cor T t _ a h]; rfl
  | 6 => exact rsp_wlk T t _ 0 a h
  | (k + 7) => exact rsp_wlk T t _ 1 a h
theorem rsp_tl (T : Nat → Int32) (t k : Nat) : rspE T t (tlS T t k) := fun a h => by
  unfold tlS
  rw [rsp_linK T t k a h]; rfl
theorem lrN_le (T : Nat → Int32) (t e : Nat) : lrN T t e ≤ 8 := by
  unfold lrN iteP
  repeat' split
  all_goals omega
theorem kkN_le (T : Nat → Int32) (t e : Nat) : kkN T t e ≤ 8 := by
  unfold kkN
  rcases Classical.em (tK T t e = 1) with q | q
  · rw [iteP_t q]; exact lrN_le T t e
  · rw [iteP_f q]; exact Nat.le_refl _
section TX
variable {T : Nat → Int32} {t : Nat} {h0 h u : HP} {x : Sum PE PA}
theorem GoS_n {a : PA} (hG : GoS T t h0 h a) {n : Nat} (hn : n < 1000) (h7 : h.1 (3, 0, 0) 7 = nI n) : (a.2 81).toNatClampNeg = n := by
  rw [← hG.2.2.2.1.2.2.1, h7, nI_clamp (by omega)]
theorem wlk_x {n : Nat} {kp : Int32} (hn : n < 1000) (h7 : h.1 (3, 0, 0) 7 = nI n) (hx : RS T t h0 h x) (h1 : RS T t h0 u (bdE x (wlkS T t n kp))) : RS T t h0 u (bdE x (fun a => wlkS T t (a.2 81).toNatClampNeg kp a)) := by
  cases x with
  | inl e => rw [bdE_l] at h1 ⊢; exact h1
  | inr a =>
    rw [bdE_r] at h1 ⊢
    have e : wlkS T t n kp a = wlkS T t (a.2 81).toNatClampNeg kp a := by
      have hx2 : (tB T t a.1 ∧ FlS h0 h 1 (tF T t a.1)) ∨ GoS T t h0 h a := hx
      cases hx2 with
      | inl z => exact Eq.trans (rsp_wlk T t n kp a z.1) (Eq.symm (rsp_wlk T t _ kp a z.1))
      | inr z => rw [GoS_n z hn h7]
    rw [e] at h1
    exact h1
end TX
set_option maxRecDepth 20000 in
set_option maxHeartbeats 2000000 in
theorem m_line0 (l9 : Launch) (G : WT) {d : Nat} (hd : 5 ≤ d) {T : Nat → Int32} {t : Nat} {h0 : HP} (ht : t ≤ 160) (htp : h0.1 (3, 0, 0) 12 = nI t) (hT : h0.1 (3, 0, 12) = T) (hT0 : ∀ j, j < t → ¬ T j < 0) (h : HP) (x : Sum PE PA) (hx : RS T t h0 h x) : MS l9 G yX7_readLineOf cX7_readLineOf 3 none d [vr (3, 0, 0), vi (nI 0)] h (fun r h1 => r = none ∧ RS T t h0 h1 (bdE x (linK T t 0))) := by
  refine MS_of (by decide +kernel) (Nat.le_of_ble_eq_true rfl) (fun X hC hX => ?_)
  show V X G 3 0 _ [] _
  refine v_iload_n hC (pc := 0) (k := 1) 1 rfl dX7_readLineOf_0 ?_
  refine v_tabIn hC (pc := 1) (tgt := 40) dX7_readLineOf_1 (by decide) (by decide) (off := 39) (by decide) (by decide) ?_
  refine v_aload_n hC (pc := 40) (k := 0) 0 rfl dX7_readLineOf_40 ?_
  refine v_iload_n hC (pc := 41) (k := 1) 1 rfl dX7_readLineOf_41 ?_
  refine v_callV hC (pc := 42) (As := [_]) dX7_readLineOf_42 rfl (m_readStreet _ _ (d := d - 1) (by omega) ht htp hT hT0 _ (x := x) hx (s := 0) (by decide)) cv_X7_154 rfl (by decide) rfl (by first | rfl | exact ok_c hq rfl | exact ok_w hq hw | exact ok_w (by omega) (by omega) | exact ok_s (by omega) (by omega) | exact ok_c (by omega) rfl | assumption) (Nat.le_of_ble_eq_true rfl) (by omega) (fun r h' hr => ?_)
  obtain ⟨rfl, hx1⟩ := hr
  show V _ _ _ (42 + 3) _ _ _
  refine v_goto hC (pc := 45) (tgt := 155) dX7_readLineOf_45 (by decide) ?_
  refine v_vret hC hX (pc := 155) dX7_readLineOf_155 ?_
  exact ⟨rfl, hx1⟩

set_option maxRecDepth 20000 in
set_option maxHeartbeats 2000000 in
theorem m_line1 (l9 : Launch) (G : WT) {d : Nat} (hd : 5 ≤ d) {T : Nat → Int32} {t : Nat} {h0 : HP} (ht : t ≤ 160) (htp : h0.1 (3, 0, 0) 12 = nI t) (hT : h0.1 (3, 0, 12) = T) (hT0 : ∀ j, j < t → ¬ T j < 0) (h : HP) (x : Sum PE PA) (hx : RS T t h0 h x) : MS l9 G yX7_readLineOf cX7_readLineOf 3 none d [vr (3, 0, 0), vi (nI 1)] h (fun r h1 => r = none ∧ RS T t h0 h1 (bdE x (linK T t 1))) := by
  refine MS_of (by decide +kernel) (Nat.le_of_ble_eq_true rfl) (fun X hC hX => ?_)
  show V X G 3 0 _ [] _
  refine v_iload_n hC (pc := 0) (k := 1) 1 rfl dX7_readLineOf_0 ?_
  refine v_tabIn hC (pc := 1) (tgt := 40) dX7_readLineOf_1 (by decide) (by decide) (off := 39) (by decide) (by decide) ?_
  refine v_aload_n hC (pc := 40) (k := 0) 0 rfl dX7_readLineOf_40 ?_
  refine v_iload_n hC (pc := 41) (k := 1) 1 rfl dX7_readLineOf_41 ?_
  refine v_callV hC (pc := 42) (As := [_]) dX7_readLineOf_42 rfl (m_readStreet _ _ (d := d - 1) (by omega) ht htp hT hT0 _ (x := x) hx (s := 1) (by decide)) cv_X7_154 rfl (by decide) rfl (by first | rfl | exact ok_c hq rfl | exact ok_w hq hw | exact ok_w (by omega) (by omega) | exact ok_s (by omega) (by omega) | exact ok_c (by omega) rfl | assumption) (Nat.le_of_ble_eq_true rfl) (by omega) (fun r h' hr => ?_)
  obtain ⟨rfl, hx1⟩ := hr
  show V _ _ _ (42 + 3) _ _ _
  refine v_goto hC (pc := 45) (tgt := 155) dX7_readLineOf_45 (by decide) ?_
  refine v_vret hC hX (pc := 155) dX7_readLineOf_155 ?_
  exact ⟨rfl, hx1⟩

set_option maxRecDepth 20000 in
set_option maxHeartbeats 2000000 in
theorem m_line2 (l9 : Launch) (G : WT) {d : Nat} (hd : 5 ≤ d) {T : Nat → Int32} {t : Nat} {h0 : HP} (ht : t ≤ 160) (htp : h0.1 (3, 0, 0) 12 = nI t) (hT : h0.1 (3, 0, 12) = T) (hT0 : ∀ j, j < t → ¬ T j < 0) (h : HP) (x : Sum PE PA) (hx : RS T t h0 h x) : MS l9 G yX7_readLineOf cX7_readLineOf 3 none d [vr (3, 0, 0), vi (nI 2)] h (fun r h1 => r = none ∧ RS T t h0 h1 (bdE x (linK T t 2))) := by
  refine MS_of (by decide +kernel) (Nat.le_of_ble_eq_true rfl) (fun X hC hX => ?_)
  show V X G 3 0 _ [] _
  refine v_iload_n hC (pc := 0) (k := 1) 1 rfl dX7_readLineOf_0 ?_
  refine v_tabIn hC (pc := 1) (tgt := 48) dX7_readLineOf_1 (by decide) (by decide) (off := 47) (by decide) (by decide) ?_
  refine v_aload_n hC (pc := 48) (k := 0) 0 rfl dX7_readLineOf_48 ?_
  refine v_aload_n hC (pc := 49) (k := 0) 0 rfl dX7_readLineOf_49 ?_
  refine v_iconst hC (pc := 50) (v := 2) (by decide) dX7_readLineOf_50 ?_
  refine v_bipush hC (pc := 51) (v := 8) (by decide +kernel) dX7_readLineOf_51 ?_
  refine v_callV hC (pc := 53) (As := [_, _]) dX7_readLineOf_53 rfl (m_numX _ _ (d := d - 1) (by omega) ht htp hT hT0 _ x hx 2 8) cv_X7_158 rfl (by decide) rfl (by first | rfl | exact ok_c hq rfl | exact ok_w hq hw | exact ok_w (by omega) (by omega) | exact ok_s (by omega) (by omega) | exact ok_c (by omega) rfl | assumption) (Nat.le_of_ble_eq_true rfl) (by omega) (fun r h' hr => ?_)
  obtain ⟨v, rfl, hx1, hv1⟩ := hr
  generalize h' = u1 at hx1 ⊢
  show V _ _ _ (53 + 3) _ (_ :: _) _
  refine v_putI hC (pc := 56) dX7_readLineOf_56 fs_X7_63 rfl (by first | rfl | exact ok_c hq rfl | exact ok_w hq hw | exact ok_w (by omega) (by omega) | exact ok_s (by omega) (by omega) | exact ok_c (by omega) rfl | assumption) rfl (by decide) (by decide) ?_
  refine v_goto hC (pc := 59) (tgt := 155) dX7_readLineOf_59 (by decide) ?_
  refine v_vret hC hX (pc := 155) dX7_readLineOf_155 ?_
  exact ⟨rfl, Wr_f6 (g := numS T t 2 8) (f := fun a D => upd D 80 (tV T t a.1)) _ hx1 (fun a b e1 e2 _ => by rw [hv1 a e1 b e2])⟩

set_option maxRecDepth 20000 in
set_option maxHeartbeats 2000000 in
theorem m_line3 (l9 : Launch) (G : WT) {d : Nat} (hd : 5 ≤ d) {T : Nat → Int32} {t : Nat} {h0 : HP} (ht : t ≤ 160) (htp : h0.1 (3, 0, 0) 12 = nI t) (hT : h0.1 (3, 0, 12) = T) (hT0 : ∀ j, j < t → ¬ T j < 0) (h : HP) (x : Sum PE PA) (hx : RS T t h0 h x) : MS l9 G yX7_readLineOf cX7_readLineOf 3 none d [vr (3, 0, 0), vi (nI 3)] h (fun r h1 => r = none ∧ RS T t h0 h1 (bdE x (linK T t 3))) := by
  refine MS_of (by decide +kernel) (Nat.le_of_ble_eq_true rfl) (fun X hC hX => ?_)
  show V X G 3 0 _ [] _
  refine v_iload_n hC (pc := 0) (k := 1) 1 rfl dX7_readLineOf_0 ?_
  refine v_tabIn hC (pc := 1) (tgt := 62) dX7_readLineOf_1 (by decide) (by decide) (off := 61) (by decide) (by decide) ?_
  refine v_aload_n hC (pc := 62) (k := 0) 0 rfl dX7_readLineOf_62 ?_
  refine v_getR hC (pc := 63) dX7_readLineOf_63 fl_X7_20 rfl (by first | rfl | exact ok_c hq rfl | exact ok_w hq hw | exact ok_w (by omega) (by omega) | exact ok_s (by omega) (by omega) | exact ok_c (by omega) rfl | assumption) rfl (by decide) (by decide) rfl ?_
  refine v_bipush hC (pc := 66) (v := 17) (by decide +kernel) dX7_readLineOf_66 ?_
  refine v_aload_n hC (pc := 68) (k := 0) 0 rfl dX7_readLineOf_68 ?_
  refine v_iconst hC (pc := 69) (v := 0) (by decide) dX7_readLineOf_69 ?_
  refine v_bipush hC (pc := 70) (v := 23) (by decide +kernel) dX7_readLineOf_70 ?_
  refine v_callV hC (pc := 72) (As := [_, _]) dX7_readLineOf_72 rfl (m_numX _ _ (d := d - 1) (by omega) ht htp hT hT0 _ x hx 0 23) cv_X7_158 rfl (by decide) rfl (by first | rfl | exact ok_c hq rfl | exact ok_w hq hw | exact ok_w (by omega) (by omega) | exact ok_s (by omega) (by omega) | exact ok_c (by omega) rfl | assumption) (Nat.le_of_ble_eq_true rfl) (by omega) (fun r h' hr => ?_)
  obtain ⟨v, rfl, hx1, hv1⟩ := hr
  generalize h' = u1 at hx1 ⊢
  show V _ _ _ (72 + 3) _ (_ :: _) _
  try simp only [nL_0, nL_1, nL_2, nL_3, nL_4, nL_5, nL_6, nL_8, nL_16, nL_17, nL_18, nL_40, nL_42, nL_43, nL_47, nL_48, nL_64, nL_80, pk_mul, nI_add]
  refine v_iast hC (pc := 75) dX7_readLineOf_75 rfl (by first | rfl | exact ok_c hq rfl | exact ok_w hq hw | exact ok_w (by omega) (by omega) | exact ok_s (by omega) (by omega) | exact ok_c (by omega) rfl | assumption) (vp_nat (by omega) (by decide)) ?_
  refine v_goto hC (pc := 76) (tgt := 155) dX7_readLineOf_76 (by decide) ?_
  refine v_vret hC hX (pc := 155) dX7_readLineOf_155 ?_
  exact ⟨rfl, Wr_dr (k := 17) (g := numS T t 0 23) (f := fun a D => upd D 17 (tV T t a.1)) (by decide) _ hx1 (fun a b e1 e2 _ => by rw [hv1 a e1 b e2])⟩

set_option maxRecDepth 20000 in
set_option maxHeartbeats 2000000 in
theorem m_line4 (l9 : Launch) (G : WT) {d : Nat} (hd : 5 ≤ d) {T : Nat → Int32} {t : Nat} {h0 : HP} (ht : t ≤ 160) (htp : h0.1 (3, 0, 0) 12 = nI t) (hT : h0.1 (3, 0, 12) = T) (hT0 : ∀ j, j < t → ¬ T j < 0) (h : HP) (x : Sum PE PA) (hx : RS T t h0 h x) : MS l9 G yX7_readLineOf cX7_readLineOf 3 none d [vr (3, 0, 0), vi (nI 4)] h (fun r h1 => r = none ∧ RS T t h0 h1 (bdE x (linK T t 4))) := by
  refine MS_of (by decide +kernel) (Nat.le_of_ble_eq_true rfl) (fun X hC hX => ?_)
  show V X G 3 0 _ [] _
  have lp : ∀ (n g : Nat) (u : HP), g ≤ 4 → 4 + 1 ≤ g + n → RS T t h0 u (bdE x (glN T t g)) → V X G 3 81 [(2, vi (nI g)), (0, vr (3, 0, 0)), (1, vi (nI 4))] [] (u) := by
    intro n
    induction n with
    | zero => intro g u h1 h2; exact absurd h2 (by omega)
    | succ n ih =>
      intro g u h1 h2 ha
      refine v_iload_n hC (pc := 81) (k := 2) 0 rfl dX7_readLineOf_81 ?_
      refine v_iconst hC (pc := 82) (v := 4) (by decide) dX7_readLineOf_82 ?_
      refine v_icmp_ge hC (pc := 83) (tgt := 108) dX7_readLineOf_83 (by decide) (fun c_83 => ?_) (fun c_83 => ?_)
      · skip
        have hi : g = 4 := lp_ex (c_83) h1 (by decide)
        refine v_goto hC (pc := 108) (tgt := 155) dX7_readLineOf_108 (by decide) ?_
        refine v_vret hC hX (pc := 155) dX7_readLineOf_155 ?_
        subst hi
        rw [← linK_4] at ha
        exact ⟨rfl, ha⟩
      · skip
        have hi : g < 4 := lp_in (c_83) h1 (by decide)
        refine v_aload_n hC (pc := 86) (k := 0) 1 rfl dX7_readLineOf_86 ?_
        refine v_getR hC (pc := 87) dX7_readLineOf_87 fl_X7_20 rfl (by first | rfl | exact ok_c hq rfl | exact ok_w hq hw | exact ok_w (by omega) (by omega) | exact ok_s (by omega) (by omega) | exact ok_c (by omega) rfl | assumption) rfl (by decide) (by decide) rfl ?_
        refine v_bipush hC (pc := 90) (v := 43) (by decide +kernel) dX7_readLineOf_90 ?_
        refine v_iload_n hC (pc := 92) (k := 2) 0 rfl dX7_readLineOf_92 ?_
        refine v_iadd hC (pc := 93) dX7_readLineOf_93 ?_
        refine v_aload_n hC (pc := 94) (k := 0) 1 rfl dX7_readLineOf_94 ?_
        refine v_iconst hC (pc := 95) (v := 0) (by decide) dX7_readLineOf_95 ?_
        refine v_bipush hC (pc := 96) (v := 9) (by decide +kernel) dX7_readLineOf_96 ?_
        refine v_callV hC (pc := 98) (As := [_, _]) dX7_readLineOf_98 rfl (m_numX _ _ (d := d - 1) (by omega) ht htp hT hT0 _ _ ha 0 9) cv_X7_158 rfl (by decide) rfl (by first | rfl | exact ok_c hq rfl | exact ok_w hq hw | exact ok_w (by omega) (by omega) | exact ok_s (by omega) (by omega) | exact ok_c (by omega) rfl | assumption) (Nat.le_of_ble_eq_true rfl) (by omega) (fun r h' hr => ?_)
        obtain ⟨v, rfl, hx1, hv1⟩ := hr
        generalize h' = u1 at hx1 ⊢
        show V _ _ _ (98 + 3) _ (_ :: _) _
        try simp only [nL_0, nL_1, nL_2, nL_3, nL_4, nL_5, nL_6, nL_8, nL_16, nL_17, nL_18, nL_40, nL_42, nL_43, nL_47, nL_48, nL_64, nL_80, pk_mul, nI_add]
        refine v_iast hC (pc := 101) dX7_readLineOf_101 rfl (by first | rfl | exact ok_c hq rfl | exact ok_w hq hw | exact ok_w (by omega) (by omega) | exact ok_s (by omega) (by omega) | exact ok_c (by omega) rfl | assumption) (vp_nat (by omega) (by decide)) ?_
        refine v_iinc hC (pc := 102) (l' := [(2, _), (0, _), (1, _)]) 0 (v := nI (g + 1)) dX7_readLineOf_102 rfl (nI_inc g) (by decide) rfl ?_
        refine v_goto hC (pc := 105) (tgt := 81) dX7_readLineOf_105 (by decide) ?_
        refine ih (g + 1) _ (by omega) (by omega) ?_
        have q := Wr_dr (k := 43 + g) (x := bdE x (glN T t g)) (g := numS T t 0 9) (f := fun b D => upd D (43 + g) (tV T t b.1)) (by omega) v hx1 (fun a b e1 e2 _ => by rw [hv1 a e1 b e2])
        rw [bd_as] at q
        rw [nI_clamp (show 43 + g < 2 ^ 31 by omega)]
        exact q
  refine v_iload_n hC (pc := 0) (k := 1) 1 rfl dX7_readLineOf_0 ?_
  refine v_tabIn hC (pc := 1) (tgt := 79) dX7_readLineOf_1 (by decide) (by decide) (off := 78) (by decide) (by decide) ?_
  refine v_iconst hC (pc := 79) (v := 0) (by decide) dX7_readLineOf_79 ?_
  refine v_istore_n hC (pc := 80) (l' := [(2, _), (0, _), (1, _)]) dX7_readLineOf_80 (by decide) rfl ?_
  exact lp 5 0 h (by omega) (by omega) (by rcases x with e | a <;> exact hx)

set_option maxRecDepth 20000 in
set_option maxHeartbeats 2000000 in
theorem m_line5 (l9 : Launch) (G : WT) {d : Nat} (hd : 5 ≤ d) {T : Nat → Int32} {t : Nat} {h0 : HP} (ht : t ≤ 160) (htp : h0.1 (3, 0, 0) 12 = nI t) (hT : h0.1 (3, 0, 12) = T) (hT0 : ∀ j, j < t → ¬ T j < 0) (h : HP) (x : Sum PE PA) (hx : RS T t h0 h x) : MS l9 G yX7_readLineOf cX7_readLineOf 3 none d [vr (3, 0, 0), vi (nI 5)] h (fun r h1 => r = none ∧ RS T t h0 h1 (bdE x (linK T t 5))) := by
  refine MS_of (by decide +kernel) (Nat.le_of_ble_eq_true rfl) (fun X hC hX => ?_)
  show V X G 3 0 _ [] _
  refine v_iload_n hC (pc := 0) (k := 1) 1 rfl dX7_readLineOf_0 ?_
  refine v_tabIn hC (pc := 1) (tgt := 111) dX7_readLineOf_1 (by decide) (by decide) (off := 110) (by decide) (by decide) ?_
  refine v_aload_n hC (pc := 111) (k := 0) 0 rfl dX7_readLineOf_111 ?_
  refine v_getR hC (pc := 112) dX7_readLineOf_112 fl_X7_20 rfl (by first | rfl | exact ok_c hq rfl | exact ok_w hq hw | exact ok_w (by omega) (by omega) | exact ok_s (by omega) (by omega) | exact ok_c (by omega) rfl | assumption) rfl (by decide) (by decide) rfl ?_
  refine v_bipush hC (pc := 115) (v := 16) (by decide +kernel) dX7_readLineOf_115 ?_
  refine v_dup2 hC (pc := 117) dX7_readLineOf_117 ?_
  try simp only [nL_0, nL_1, nL_2, nL_3, nL_4, nL_5, nL_6, nL_8, nL_16, nL_17, nL_18, nL_40, nL_42, nL_43, nL_47, nL_48, nL_64, nL_80, pk_mul, nI_add]
  refine v_iald hC (pc := 118) dX7_readLineOf_118 rfl (by first | rfl | exact ok_c hq rfl | exact ok_w hq hw | exact ok_w (by omega) (by omega) | exact ok_s (by omega) (by omega) | exact ok_c (by omega) rfl | assumption) (vp_nat (by omega) (by decide)) ?_
  refine v_iconst hC (pc := 119) (v := 1) (by decide) dX7_readLineOf_119 ?_
  refine v_aload_n hC (pc := 120) (k := 0) 0 rfl dX7_readLineOf_120 ?_
  refine v_aload_n hC (pc := 121) (k := 0) 0 rfl dX7_readLineOf_121 ?_
  refine v_getR hC (pc := 122) dX7_readLineOf_122 fl_X7_20 rfl (by first | rfl | exact ok_c hq rfl | exact ok_w hq hw | exact ok_w (by omega) (by omega) | exact ok_s (by omega) (by omega) | exact ok_c (by omega) rfl | assumption) rfl (by decide) (by decide) rfl ?_
  refine v_bipush hC (pc := 125) (v := 16) (by decide +kernel) dX7_readLineOf_125 ?_
  try simp only [nL_0, nL_1, nL_2, nL_3, nL_4, nL_5, nL_6, nL_8, nL_16, nL_17, nL_18, nL_40, nL_42, nL_43, nL_47, nL_48, nL_64, nL_80, pk_mul, nI_add]
  refine v_iald hC (pc := 127) dX7_readLineOf_127 rfl (by first | rfl | exact ok_c hq rfl | exact ok_w hq hw | exact ok_w (by omega) (by omega) | exact ok_s (by omega) (by omega) | exact ok_c (by omega) rfl | assumption) (vp_nat (by omega) (by decide)) ?_
  refine v_callV hC (pc := 128) (As := [_]) dX7_readLineOf_128 rfl (m_corX _ _ (d := d - 1) (by omega) ht htp hT hT0 _ x hx _) cv_X7_144 rfl (by decide) rfl (by first | rfl | exact ok_c hq rfl | exact ok_w hq hw | exact ok_w (by omega) (by omega) | exact ok_s (by omega) (by omega) | exact ok_c (by omega) rfl | assumption) (Nat.le_of_ble_eq_true rfl) (by omega) (fun r h' hr => ?_)
  obtain ⟨c, hc8, rfl, hx1, hv1⟩ := hr
  generalize h' = u1 at hx1 ⊢
  show V _ _ _ (128 + 3) _ (_ :: _) _
  refine v_ishl hC (pc := 131) dX7_readLineOf_131 ?_
  refine v_ior hC (pc := 132) dX7_readLineOf_132 ?_
  try simp only [nL_0, nL_1, nL_2, nL_3, nL_4, nL_5, nL_6, nL_8, nL_16, nL_17, nL_18, nL_40, nL_42, nL_43, nL_47, nL_48, nL_64, nL_80, pk_mul, nI_add]
  refine v_iast hC (pc := 133) dX7_readLineOf_133 rfl (by first | rfl | exact ok_c hq rfl | exact ok_w hq hw | exact ok_w (by omega) (by omega) | exact ok_s (by omega) (by omega) | exact ok_c (by omega) rfl | assumption) (vp_nat (by omega) (by decide)) ?_
  refine v_goto hC (pc := 134) (tgt := 155) dX7_readLineOf_134 (by decide) ?_
  refine v_vret hC hX (pc := 155) dX7_readLineOf_155 ?_
  refine ⟨rfl, ?_⟩
  refine Wr_dr (k := 16) (g := fun a => corS T t (a.2 16) a) (f := fun a D => upd D 16 (a.2 16 ||| (1 <<< (tV T t a.1 &&& 31)))) (by decide) _ (cor_x (s' := fun a => a.2 16) hx hx1 (fun a _ hG => hG.2.2.2.1.1 16 (by decide))) (fun a b e1 e2 hG => ?_)
  have hb : ¬ tB T t a.1 := (cor_pos e2).2
  subst e1
  have hG0 : GoS T t h0 h a := hx.elim (fun z => absurd z.1 hb) id
  have e16 : h.1 (3, 0, 6) 16 = a.2 16 := hG0.2.2.2.1.1 16 (by decide)
  have ec : nI c = tV T t a.1 := hv1 a rfl b (by rw [show h.1 (3, 0, 6) (nI 16).toNatClampNeg = a.2 16 from e16]; exact e2)
  rw [← ec, ← e16]
  rfl

set_option maxRecDepth 20000 in
set_option maxHeartbeats 2000000 in
theorem m_line6 (l9 : Launch) (G : WT) {d : Nat} (hd : 5 ≤ d) {T : Nat → Int32} {t : Nat} {h0 : HP} (ht : t ≤ 160) (htp : h0.1 (3, 0, 0) 12 = nI t) (hT : h0.1 (3, 0, 12) = T) (hT0 : ∀ j, j < t → ¬ T j < 0) (h : HP) (x : Sum PE PA) (hx : RS T t h0 h x) {n : Nat} (hn : n < 4) (hn7 : h.1 (3, 0, 0) 7 = nI n) : MS l9 G yX7_readLineOf cX7_readLineOf 3 none d [vr (3, 0, 0), vi (nI 6)] h (fun r h1 => r = none ∧ RS T t h0 h1 (bdE x (linK T t 6))) := by
  refine MS_of (by decide +kernel) (Nat.le_of_ble_eq_true rfl) (fun X hC hX => ?_)
  show V X G 3 0 _ [] _
  refine v_iload_n hC (pc := 0) (k := 1) 1 rfl dX7_readLineOf_0 ?_
  refine v_tabOut hC (pc := 1) (tgt := 137) dX7_readLineOf_1 (by decide +kernel) (by decide) ?_
  refine v_aload_n hC (pc := 137) (k := 0) 0 rfl dX7_readLineOf_137 ?_
  refine v_iload_n hC (pc := 138) (k := 1) 1 rfl dX7_readLineOf_138 ?_
  refine v_bipush hC (pc := 139) (v := 7) (by decide +kernel) dX7_readLineOf_139 ?_
  refine v_icmp_ne hC (pc := 141) (tgt := 148) dX7_readLineOf_141 (by decide) (fun c_141 => ?_) (fun c_141 => ?_)
  · skip
    refine v_iconst hC (pc := 148) (v := 0) (by decide) dX7_readLineOf_148 ?_
    refine v_callS hC (pc := 149) (As := [_]) dX7_readLineOf_149 rfl (m_flag _ _ (d := d - 1) (by omega) _ _) cs_X7_147 (Nat.le_of_ble_eq_true rfl) (by omega) (fun r h' hr => ?_)
    obtain ⟨he9, rfl⟩ := hr
    rw [he9]
    clear he9 h'
    show V _ _ _ (149 + 3) _ (_ :: _) _
    refine v_callV hC (pc := 152) (As := [_]) dX7_readLineOf_152 rfl (m_readWalker _ _ (d := d - 1) (by omega) ht htp hT hT0 _ x hx 0 hn hn7) cv_X7_161 rfl (by decide) rfl (by first | rfl | exact ok_c hq rfl | exact ok_w hq hw | exact ok_w (by omega) (by omega) | exact ok_s (by omega) (by omega) | exact ok_c (by omega) rfl | assumption) (Nat.le_of_ble_eq_true rfl) (by omega) (fun r h' hr => ?_)
    obtain ⟨rfl, hx1⟩ := hr
    show V _ _ _ (152 + 3) _ _ _
    refine v_vret hC hX (pc := 155) dX7_readLineOf_155 ?_
    exact ⟨rfl, wlk_x (by omega) hn7 hx hx1⟩
  · exact absurd c_141 (by decide)

set_option maxRecDepth 20000 in
set_option maxHeartbeats 2000000 in
theorem m_line7 (l9 : Launch) (G : WT) {d : Nat} (hd : 5 ≤ d) {T : Nat → Int32} {t : Nat} {h0 : HP} (ht : t ≤ 160) (htp : h0.1 (3, 0, 0) 12 = nI t) (hT : h0.1 (3, 0, 12) = T) (hT0 : ∀ j, j < t → ¬ T j < 0) (h : HP) (x : Sum PE PA) (hx : RS T t h0 h x) {n : Nat} (hn : n < 4) (hn7 : h.1 (3, 0, 0) 7 = nI n) : MS l9 G yX7_readLineOf cX7_readLineOf 3 none d [vr (3, 0, 0), vi (nI 7)] h (fun r h1 => r = none ∧ RS T t h0 h1 (bdE x (linK T t 7))) := by
  refine MS_of (by decide +kernel) (Nat.le_of_ble_eq_true rfl) (fun X hC hX => ?_)
  show V X G 3 0 _ [] _
  refine v_iload_n hC (pc := 0) (k := 1) 1 rfl dX7_readLineOf_0 ?_
  refine v_tabOut hC (pc := 1) (tgt := 137) dX7_readLineOf_1 (by decide +kernel) (by decide) ?_
  refine v_aload_n hC (pc := 137) (k := 0) 0 rfl dX7_readLineOf_137 ?_
  refine v_iload_n hC (pc := 138) (k := 1) 1 rfl dX7_readLineOf_138 ?_
  refine v_bipush hC (pc := 139) (v := 7) (by decide +kernel) dX7_readLineOf_139 ?_
  refine v_icmp_ne hC (pc := 141) (tgt := 148) dX7_readLineOf_141 (by decide) (fun c_141 => ?_) (fun c_141 => ?_)
  · exact absurd rfl c_141
  · skip
    refine v_iconst hC (pc := 144) (v := 1) (by decide) dX7_readLineOf_144 ?_
    refine v_goto hC (pc := 145) (tgt := 149) dX7_readLineOf_145 (by decide) ?_
    refine v_callS hC (pc := 149) (As := [_]) dX7_readLineOf_149 rfl (m_flag _ _ (d := d - 1) (by omega) _ _) cs_X7_147 (Nat.le_of_ble_eq_true rfl) (by omega) (fun r h' hr => ?_)
    obtain ⟨he9, rfl⟩ := hr
    rw [he9]
    clear he9 h'
    show V _ _ _ (149 + 3) _ (_ :: _) _
    refine v_callV hC (pc := 152) (As := [_]) dX7_readLineOf_152 rfl (m_readWalker _ _ (d := d - 1) (by omega) ht htp hT hT0 _ x hx 1 hn hn7) cv_X7_161 rfl (by decide) rfl (by first | rfl | exact ok_c hq rfl | exact ok_w hq hw | exact ok_w (by omega) (by omega) | exact ok_s (by omega) (by omega) | exact ok_c (by omega) rfl | assumption) (Nat.le_of_ble_eq_true rfl) (by omega) (fun r h' hr => ?_)
    obtain ⟨rfl, hx1⟩ := hr
    show V _ _ _ (152 + 3) _ _ _
    refine v_vret hC hX (pc := 155) dX7_readLineOf_155 ?_
    exact ⟨rfl, wlk_x (by omega) hn7 hx hx1⟩

