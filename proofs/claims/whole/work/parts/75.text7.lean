/-! THE TEXT: a line, as the reference reads it -/
theorem m_lineOf (l9 : Launch) (G : WT) {d : Nat} (hd : 5 ≤ d) {T : Nat → Int32} {t : Nat} {h0 : HP} (ht : t ≤ 160) (htp : h0.1 (3, 0, 0) 12 = nI t) (hT : h0.1 (3, 0, 12) = T) (hT0 : ∀ j, j < t → ¬ T j < 0) (h : HP) (x : Sum PE PA) (hx : RS T t h0 h x) {k : Nat} (hk : k < 8) (hn : 6 ≤ k → ∃ n, n < 4 ∧ h.1 (3, 0, 0) 7 = nI n) : MS l9 G yX7_readLineOf cX7_readLineOf 3 none d [vr (3, 0, 0), vi (nI k)] h (fun r h1 => r = none ∧ RS T t h0 h1 (bdE x (linK T t k))) := by
  rcases (show k = 0 ∨ k = 1 ∨ k = 2 ∨ k = 3 ∨ k = 4 ∨ k = 5 ∨ k = 6 ∨ k = 7 by omega) with e | e | e | e | e | e | e | e
  · subst e; exact m_line0 l9 G hd ht htp hT hT0 h x hx
  · subst e; exact m_line1 l9 G hd ht htp hT hT0 h x hx
  · subst e; exact m_line2 l9 G hd ht htp hT hT0 h x hx
  · subst e; exact m_line3 l9 G hd ht htp hT hT0 h x hx
  · subst e; exact m_line4 l9 G hd ht htp hT hT0 h x hx
  · subst e; exact m_line5 l9 G hd ht htp hT hT0 h x hx
  · subst e; obtain ⟨n, h1, h2⟩ := hn (by decide); exact m_line6 l9 G hd ht htp hT hT0 h x hx h1 h2
  · subst e; obtain ⟨n, h1, h2⟩ := hn (by decide); exact m_line7 l9 G hd ht htp hT hT0 h x hx h1 h2
section TX
variable {T : Nat → Int32} {t : Nat}
theorem linS_8 {a : PA} (h : kkN T t a.1 = 8) : linS T t a = .inl (2, tF T t a.1) := by unfold linS; rw [iteP_t h]
theorem linS_5 {a : PA} (h8 : ¬ kkN T t a.1 = 8) (h : 6 ≤ kkN T t a.1 ∧ ¬ a.2 81 < 4) : linS T t a = .inl (5, tF T t a.1) := by unfold linS; rw [iteP_f h8, iteP_t h]
theorem linS_4 {a : PA} (h8 : ¬ kkN T t a.1 = 8) (h5 : ¬ (6 ≤ kkN T t a.1 ∧ ¬ a.2 81 < 4)) (h : 2 ≤ kkN T t a.1 ∧ kkN T t a.1 ≤ 4) (hq : ¬ (a.2 82 >>> (nI (kkN T t a.1) &&& 31)) &&& 1 = 0) : linS T t a = .inl (4, tF T t a.1) := by unfold linS; rw [iteP_f h8, iteP_f h5, iteP_t h, iteP_f hq]
theorem linS_t {a : PA} (h8 : ¬ kkN T t a.1 = 8) (h5 : ¬ (6 ≤ kkN T t a.1 ∧ ¬ a.2 81 < 4)) (h : 2 ≤ kkN T t a.1 ∧ kkN T t a.1 ≤ 4) (hq : (a.2 82 >>> (nI (kkN T t a.1) &&& 31)) &&& 1 = 0) : linS T t a = tlS T t (kkN T t a.1) (tE T t a.1, upd a.2 82 (a.2 82 ||| (1 <<< (nI (kkN T t a.1) &&& 31)))) := by unfold linS; rw [iteP_f h8, iteP_f h5, iteP_t h, iteP_t hq]
theorem linS_p {a : PA} (h8 : ¬ kkN T t a.1 = 8) (h5 : ¬ (6 ≤ kkN T t a.1 ∧ ¬ a.2 81 < 4)) (h : ¬ (2 ≤ kkN T t a.1 ∧ kkN T t a.1 ≤ 4)) : linS T t a = tlS T t (kkN T t a.1) (tE T t a.1, a.2) := by unfold linS; rw [iteP_f h8, iteP_f h5, iteP_f h]
end TX
set_option maxRecDepth 20000 in
set_option maxHeartbeats 2000000 in
theorem m_readLine (l9 : Launch) (G : WT) {d : Nat} (hd : 6 ≤ d) {T : Nat → Int32} {t : Nat} {h0 : HP} (ht : t ≤ 160) (htp : h0.1 (3, 0, 0) 12 = nI t) (hT : h0.1 (3, 0, 12) = T) (hT0 : ∀ j, j < t → ¬ T j < 0) (h : HP) {a : PA} (hG : GoS T t h0 h a) (hw : ∃ n, n ≤ 4 ∧ a.2 81 = nI n) : MS l9 G yX7_readLine cX7_readLine 2 none d [vr (3, 0, 0)] h (fun r h1 => r = none ∧ RS T t h0 h1 (linS T t a)) := by
  refine MS_of (by decide +kernel) (Nat.le_of_ble_eq_true rfl) (fun X hC hX => ?_)
  show V X G 2 0 _ [] _
  obtain ⟨g1, g2, g3, g4, hz, g6, g7, g8, g9⟩ := id hG
  obtain ⟨n, hn, hn81⟩ := hw
  have hn7 : h.1 (3, 0, 0) 7 = nI n := g4.2.2.1.trans hn81
  have TAIL : ∀ (k : Nat) (u : HP) (D : Nat → Int32), k < 8 → GoS T t h0 u (a.1, D) → (6 ≤ k → ∃ n, n < 4 ∧ u.1 (3, 0, 0) 7 = nI n) → linS T t a = tlS T t k (tE T t a.1, D) → V X G 2 112 [(1, vi (nI k)), (0, vr (3, 0, 0))] [] u := by
    intro k u D hk hG1 hn heq
    have P154 : ∀ u : HP, RS T t h0 u (bdE (linK T t k (tE T t a.1, D)) (fun c => chkS T t (tK T t c.1 = 3) 2 c)) → V X G 2 154 [(1, vi (nI k)), (0, vr (3, 0, 0))] [] u := by
      intro u hx1
      refine v_aload_n hC (pc := 154) (k := 0) 1 rfl dX7_readLine_154 ?_
      refine v_callV hC (pc := 155) (As := []) dX7_readLine_155 rfl (m_ntX _ _ (d := d - 1) (by omega) ht htp hT hT0 _ _ hx1) cv_X7_141 rfl (by decide) rfl (by first | rfl | exact ok_c hq rfl | exact ok_w hq hw | exact ok_w (by omega) (by omega) | exact ok_s (by omega) (by omega) | exact ok_c (by omega) rfl | assumption) (Nat.le_of_ble_eq_true rfl) (by omega) (fun r h' hr => ?_)
      obtain ⟨rfl, hx2⟩ := hr
      show V _ _ _ (155 + 3) _ _ _
      refine v_vret hC hX (pc := 158) dX7_readLine_158 ?_
      rw [heq]
      exact ⟨rfl, hx2⟩
    have Q1 : ∀ u : HP, RS T t h0 u (linK T t k (tE T t a.1, D)) → u.1 (3, 0, 0) 17 = 0 → (∀ b, linK T t k (tE T t a.1, D) = .inr b → GoS T t h0 u b → tK T t b.1 = 3) → V X G 2 150 [(1, vi (nI k)), (0, vr (3, 0, 0))] [vi 1, vr (3, 0, 0)] u := by
      intro u hx3 hz hb
      refine v_iconst hC (pc := 150) (v := 2) (by decide) dX7_readLine_150 ?_
      refine v_callV hC (pc := 151) (As := [_, _]) dX7_readLine_151 rfl (nd_1 _ _ (d := d - 1) (by omega) _ _) cv_X7_133 rfl (by decide) rfl (by first | rfl | exact ok_c hq rfl | exact ok_w hq hw | exact ok_w (by omega) (by omega) | exact ok_s (by omega) (by omega) | exact ok_c (by omega) rfl | assumption) (Nat.le_of_ble_eq_true rfl) (by omega) (fun r h' hr => ?_)
      obtain ⟨he9, rfl⟩ := hr
      rw [he9]
      clear he9 h'
      show V _ _ _ (151 + 3) _ _ _
      exact P154 u (Wr_ck (x := .inr (tE T t a.1, D)) (g := linK T t k) (P := fun c => tK T t c.1 = 3) (by decide) hx3 (fun a9 b e1 e2 hG3 => hb b (by cases e1; exact e2) hG3))
    have Q0 : ∀ u : HP, RS T t h0 u (linK T t k (tE T t a.1, D)) → u.1 (3, 0, 0) 17 = 0 → (∀ b, linK T t k (tE T t a.1, D) = .inr b → GoS T t h0 u b → ¬ tK T t b.1 = 3) → V X G 2 150 [(1, vi (nI k)), (0, vr (3, 0, 0))] [vi 0, vr (3, 0, 0)] u := by
      intro u hx3 hz hb
      refine v_iconst hC (pc := 150) (v := 2) (by decide) dX7_readLine_150 ?_
      refine v_callV hC (pc := 151) (As := [_, _]) dX7_readLine_151 rfl (nd_0 _ _ (d := d - 1) (by omega) _ _ hz) cv_X7_133 rfl (by decide) rfl (by first | rfl | exact ok_c hq rfl | exact ok_w hq hw | exact ok_w (by omega) (by omega) | exact ok_s (by omega) (by omega) | exact ok_c (by omega) rfl | assumption) (Nat.le_of_ble_eq_true rfl) (by omega) (fun r h' hr => ?_)
      obtain ⟨he9, rfl⟩ := hr
      rw [he9]
      clear he9 h'
      show V _ _ _ (151 + 3) _ _ _
      exact P154 _ (Wr_cn (x := .inr (tE T t a.1, D)) (g := linK T t k) (P := fun c => tK T t c.1 = 3) (by decide) hz hx3 (fun a9 b e1 e2 hG3 => hb b (by cases e1; exact e2) hG3))
    refine v_aload_n hC (pc := 112) (k := 0) 1 rfl dX7_readLine_112 ?_
    refine v_callV hC (pc := 113) (As := []) dX7_readLine_113 rfl (m_ntX _ _ (d := d - 1) (by omega) ht htp hT hT0 _ (.inr (a.1, D)) (Or.inr hG1)) cv_X7_141 rfl (by decide) rfl (by first | rfl | exact ok_c hq rfl | exact ok_w hq hw | exact ok_w (by omega) (by omega) | exact ok_s (by omega) (by omega) | exact ok_c (by omega) rfl | assumption) (Nat.le_of_ble_eq_true rfl) (by omega) (fun r h' hr => ?_)
    obtain ⟨rfl, hx1⟩ := hr
    rw [bdE_r] at hx1
    unfold advS at hx1
    rw [iteP_f hG1.2.1] at hx1
    generalize h' = u1 at hx1 ⊢
    show V _ _ _ (113 + 3) _ _ _
    refine v_aload_n hC (pc := 116) (k := 0) 1 rfl dX7_readLine_116 ?_
    refine v_getI hC (pc := 117) dX7_readLine_117 fl_X7_91 rfl (by first | rfl | exact ok_c hq rfl | exact ok_w hq hw | exact ok_w (by omega) (by omega) | exact ok_s (by omega) (by omega) | exact ok_c (by omega) rfl | assumption) rfl (by decide) (by decide) ?_
    refine v_if_le hC (pc := 120) (tgt := 124) dX7_readLine_120 (by decide) (fun c_120 => ?_) (fun c_120 => ?_)
    · skip
      have hz1 : u1.1 (3, 0, 0) 17 = 0 := Classical.not_not.mp (fun z => absurd (RS_fp hx1 z) (Int32.not_lt.mpr c_120))
      have hn1 : 6 ≤ k → ∃ n, n < 4 ∧ u1.1 (3, 0, 0) 7 = nI n := by
        intro z
        obtain ⟨n, h1, h2⟩ := hn z
        obtain ⟨b, e1, e2⟩ := RS_g hx1 hz1
        cases e1
        exact ⟨n, h1, (e2.2.2.2.1.2.2.1.trans hG1.2.2.2.1.2.2.1.symm).trans h2⟩
      refine v_aload_n hC (pc := 124) (k := 0) 1 rfl dX7_readLine_124 ?_
      refine v_iload_n hC (pc := 125) (k := 1) 0 rfl dX7_readLine_125 ?_
      refine v_callV hC (pc := 126) (As := [_]) dX7_readLine_126 rfl (m_lineOf _ _ (d := d - 1) (by omega) ht htp hT hT0 _ _ hx1 hk hn1) cv_X7_171 rfl (by decide) rfl (by first | rfl | exact ok_c hq rfl | exact ok_w hq hw | exact ok_w (by omega) (by omega) | exact ok_s (by omega) (by omega) | exact ok_c (by omega) rfl | assumption) (Nat.le_of_ble_eq_true rfl) (by omega) (fun r h' hr => ?_)
      obtain ⟨rfl, hx3⟩ := hr
      rw [bdE_r] at hx3
      generalize h' = u2 at hx3 ⊢
      show V _ _ _ (126 + 3) _ _ _
      refine v_aload_n hC (pc := 129) (k := 0) 1 rfl dX7_readLine_129 ?_
      refine v_getI hC (pc := 130) dX7_readLine_130 fl_X7_91 rfl (by first | rfl | exact ok_c hq rfl | exact ok_w hq hw | exact ok_w (by omega) (by omega) | exact ok_s (by omega) (by omega) | exact ok_c (by omega) rfl | assumption) rfl (by decide) (by decide) ?_
      refine v_if_ne hC (pc := 133) (tgt := 154) dX7_readLine_133 (by decide) (fun c_133 => ?_) (fun c_133 => ?_)
      · skip
        skip
        exact P154 u2 (Wr_cx (x := .inr (tE T t a.1, D)) (g := linK T t k) (P := fun c => tK T t c.1 = 3) c_133 hx3)
      · skip
        obtain ⟨c, e9, hG2⟩ := RS_g hx3 c_133
        refine v_aload_n hC (pc := 136) (k := 0) 1 rfl dX7_readLine_136 ?_
        refine v_aload_n hC (pc := 137) (k := 0) 1 rfl dX7_readLine_137 ?_
        refine v_getI hC (pc := 138) dX7_readLine_138 fl_X7_119 rfl (by first | rfl | exact ok_c hq rfl | exact ok_w hq hw | exact ok_w (by omega) (by omega) | exact ok_s (by omega) (by omega) | exact ok_c (by omega) rfl | assumption) rfl (by decide) (by decide) ?_
        refine v_iconst hC (pc := 141) (v := 3) (by decide) dX7_readLine_141 ?_
        refine v_icmp_ne hC (pc := 142) (tgt := 149) dX7_readLine_142 (by decide) (fun c_142 => ?_) (fun c_142 => ?_)
        · skip
          refine v_iconst hC (pc := 149) (v := 0) (by decide) dX7_readLine_149 ?_
          exact Q0 u2 hx3 c_133 (fun b e1 hG3 z => c_142 (hG3.2.2.2.2.2.2.2.1.trans (congrArg nI z)))
        · skip
          refine v_iconst hC (pc := 145) (v := 1) (by decide) dX7_readLine_145 ?_
          refine v_goto hC (pc := 146) (tgt := 150) dX7_readLine_146 (by decide) ?_
          exact Q1 u2 hx3 c_133 (fun b e1 hG3 => (nI_eq (by have := tK_le T t b.1; omega) (by decide)).mp (hG3.2.2.2.2.2.2.2.1.symm.trans c_142))
    · skip
      refine v_vret hC hX (pc := 123) dX7_readLine_123 ?_
      rw [heq]
      have y := RS_f (x := .inr (tE T t a.1, D)) (g := tlS T t k) hx1 (rsp_tl T t k) (fun z => c_120 (by rw [z]; exact Int32.le_refl _)) (RS_RE hx1) rfl rfl
      rw [bdE_r] at y
      exact ⟨rfl, y⟩
  have P17 : V X G 2 17 [(0, vr (3, 0, 0))] [vi (oV (kkN T t a.1))] h := by
    have hk8 : kkN T t a.1 ≤ 8 := kkN_le T t a.1
    generalize hkk : kkN T t a.1 = k at hk8 ⊢
    by_cases hke : k = 8
    · subst hke
      show V X G 2 17 _ [vi (-4)] _
      refine v_istore_n hC (pc := 17) (l' := [(1, _), (0, _)]) dX7_readLine_17 (by decide) rfl ?_
      refine v_aload_n hC (pc := 18) (k := 0) 1 rfl dX7_readLine_18 ?_
      refine v_iload_n hC (pc := 19) (k := 1) 0 rfl dX7_readLine_19 ?_
      refine v_bipush hC (pc := 20) (v := (-4)) (by decide +kernel) dX7_readLine_20 ?_
      refine v_icmp_eq hC (pc := 22) (tgt := 29) dX7_readLine_22 (by decide) (fun c_22 => ?_) (fun c_22 => ?_)
      · skip
        refine v_iconst hC (pc := 29) (v := 0) (by decide) dX7_readLine_29 ?_
        refine v_iconst hC (pc := 30) (v := 2) (by decide) dX7_readLine_30 ?_
        refine v_callV hC (pc := 31) (As := [_, _]) dX7_readLine_31 rfl (nd_0 _ _ (d := d - 1) (by omega) _ _ hz) cv_X7_133 rfl (by decide) rfl (by first | rfl | exact ok_c hq rfl | exact ok_w hq hw | exact ok_w (by omega) (by omega) | exact ok_s (by omega) (by omega) | exact ok_c (by omega) rfl | assumption) (Nat.le_of_ble_eq_true rfl) (by omega) (fun r h' hr => ?_)
        obtain ⟨he9, rfl⟩ := hr
        rw [he9]
        clear he9 h'
        show V _ _ _ (31 + 3) _ _ _
        refine v_aload_n hC (pc := 34) (k := 0) 1 rfl dX7_readLine_34 ?_
        refine v_iload_n hC (pc := 35) (k := 1) 0 rfl dX7_readLine_35 ?_
        refine v_bipush hC (pc := 36) (v := 6) (by decide +kernel) dX7_readLine_36 ?_
        refine v_icmp_lt hC (pc := 38) (tgt := 49) dX7_readLine_38 (by decide) (fun c_38 => ?_) (fun c_38 => ?_)
        · skip
          refine v_iconst hC (pc := 49) (v := 1) (by decide) dX7_readLine_49 ?_
          refine v_goto hC (pc := 50) (tgt := 54) dX7_readLine_50 (by decide) ?_
          refine v_iconst hC (pc := 54) (v := 5) (by decide) dX7_readLine_54 ?_
          refine v_callV hC (pc := 55) (As := [_, _]) dX7_readLine_55 rfl (nd_1 _ _ (d := d - 1) (by omega) _ _) cv_X7_133 rfl (by decide) rfl (by first | rfl | exact ok_c hq rfl | exact ok_w hq hw | exact ok_w (by omega) (by omega) | exact ok_s (by omega) (by omega) | exact ok_c (by omega) rfl | assumption) (Nat.le_of_ble_eq_true rfl) (by omega) (fun r h' hr => ?_)
          obtain ⟨he9, rfl⟩ := hr
          rw [he9]
          clear he9 h'
          show V _ _ _ (55 + 3) _ _ _
          refine v_aload_n hC (pc := 58) (k := 0) 1 rfl dX7_readLine_58 ?_
          refine v_getI hC (pc := 59) dX7_readLine_59 fl_X7_91 rfl (by first | rfl | exact ok_c hq rfl | exact ok_w hq hw | exact ok_w (by omega) (by omega) | exact ok_s (by omega) (by omega) | exact ok_c (by omega) rfl | assumption) rfl (by decide) (by decide) ?_
          rw [nfH_17]
          refine v_if_ne hC (pc := 62) (tgt := 112) dX7_readLine_62 (by decide) (fun c_62 => ?_) (fun c_62 => ?_)
          · skip
            refine v_aload_n hC (pc := 112) (k := 0) 1 rfl dX7_readLine_112 ?_
            refine v_callV hC (pc := 113) (As := []) dX7_readLine_113 rfl (m_nextToken_f _ _ (d := d - 1) (by omega) _ (by rw [nfH_17]; decide)) cv_X7_141 rfl (by decide) rfl (by first | rfl | exact ok_c hq rfl | exact ok_w hq hw | exact ok_w (by omega) (by omega) | exact ok_s (by omega) (by omega) | exact ok_c (by omega) rfl | assumption) (Nat.le_of_ble_eq_true rfl) (by omega) (fun r h' hr => ?_)
            obtain ⟨he9, rfl⟩ := hr
            rw [he9]
            clear he9 h'
            show V _ _ _ (113 + 3) _ _ _
            refine v_aload_n hC (pc := 116) (k := 0) 1 rfl dX7_readLine_116 ?_
            refine v_getI hC (pc := 117) dX7_readLine_117 fl_X7_91 rfl (by first | rfl | exact ok_c hq rfl | exact ok_w hq hw | exact ok_w (by omega) (by omega) | exact ok_s (by omega) (by omega) | exact ok_c (by omega) rfl | assumption) rfl (by decide) (by decide) ?_
            rw [nfH_17]
            refine v_if_le hC (pc := 120) (tgt := 124) dX7_readLine_120 (by decide) (fun c_120 => ?_) (fun c_120 => ?_)
            · exact absurd c_120 (by decide)
            · skip
              refine v_vret hC hX (pc := 123) dX7_readLine_123 ?_
              refine ⟨rfl, ?_⟩
              rw [linS_8 hkk]
              exact GoS_nf hG (by decide)
          · exact absurd c_62 (by decide)
        · exact absurd (by decide) c_38
      · exact absurd rfl c_22
    · rw [show oV k = nI k from if_neg hke]
      have P54f : 6 ≤ k → ¬ a.2 81 < 4 → V X G 2 54 [(1, vi (nI k)), (0, vr (3, 0, 0))] [vi 0, vr (3, 0, 0)] h := by
        intro hk6 hn4
        refine v_iconst hC (pc := 54) (v := 5) (by decide) dX7_readLine_54 ?_
        refine v_callV hC (pc := 55) (As := [_, _]) dX7_readLine_55 rfl (nd_0 _ _ (d := d - 1) (by omega) _ _ hz) cv_X7_133 rfl (by decide) rfl (by first | rfl | exact ok_c hq rfl | exact ok_w hq hw | exact ok_w (by omega) (by omega) | exact ok_s (by omega) (by omega) | exact ok_c (by omega) rfl | assumption) (Nat.le_of_ble_eq_true rfl) (by omega) (fun r h' hr => ?_)
        obtain ⟨he9, rfl⟩ := hr
        rw [he9]
        clear he9 h'
        show V _ _ _ (55 + 3) _ _ _
        refine v_aload_n hC (pc := 58) (k := 0) 1 rfl dX7_readLine_58 ?_
        refine v_getI hC (pc := 59) dX7_readLine_59 fl_X7_91 rfl (by first | rfl | exact ok_c hq rfl | exact ok_w hq hw | exact ok_w (by omega) (by omega) | exact ok_s (by omega) (by omega) | exact ok_c (by omega) rfl | assumption) rfl (by decide) (by decide) ?_
        rw [nfH_17]
        refine v_if_ne hC (pc := 62) (tgt := 112) dX7_readLine_62 (by decide) (fun c_62 => ?_) (fun c_62 => ?_)
        · skip
          refine v_aload_n hC (pc := 112) (k := 0) 1 rfl dX7_readLine_112 ?_
          refine v_callV hC (pc := 113) (As := []) dX7_readLine_113 rfl (m_nextToken_f _ _ (d := d - 1) (by omega) _ (by rw [nfH_17]; decide)) cv_X7_141 rfl (by decide) rfl (by first | rfl | exact ok_c hq rfl | exact ok_w hq hw | exact ok_w (by omega) (by omega) | exact ok_s (by omega) (by omega) | exact ok_c (by omega) rfl | assumption) (Nat.le_of_ble_eq_true rfl) (by omega) (fun r h' hr => ?_)
          obtain ⟨he9, rfl⟩ := hr
          rw [he9]
          clear he9 h'
          show V _ _ _ (113 + 3) _ _ _
          refine v_aload_n hC (pc := 116) (k := 0) 1 rfl dX7_readLine_116 ?_
          refine v_getI hC (pc := 117) dX7_readLine_117 fl_X7_91 rfl (by first | rfl | exact ok_c hq rfl | exact ok_w hq hw | exact ok_w (by omega) (by omega) | exact ok_s (by omega) (by omega) | exact ok_c (by omega) rfl | assumption) rfl (by decide) (by decide) ?_
          rw [nfH_17]
          refine v_if_le hC (pc := 120) (tgt := 124) dX7_readLine_120 (by decide) (fun c_120 => ?_) (fun c_120 => ?_)
          · exact absurd c_120 (by decide)
          · skip
            refine v_vret hC hX (pc := 123) dX7_readLine_123 ?_
            refine ⟨rfl, ?_⟩
            rw [linS_5 (by rw [hkk]; omega) ⟨by rw [hkk]; exact hk6, hn4⟩]
            exact GoS_nf hG (by decide)
        · exact absurd c_62 (by decide)
      have P54t : ¬ (6 ≤ k ∧ ¬ a.2 81 < 4) → V X G 2 54 [(1, vi (nI k)), (0, vr (3, 0, 0))] [vi 1, vr (3, 0, 0)] h := by
        intro h5
        have P96f : 2 ≤ k ∧ k ≤ 4 → ¬ (a.2 82 >>> (nI k &&& 31)) &&& 1 = 0 → V X G 2 96 [(1, vi (nI k)), (0, vr (3, 0, 0))] [vi 0, vr (3, 0, 0)] h := by
          intro h24 hq
          refine v_iconst hC (pc := 96) (v := 4) (by decide) dX7_readLine_96 ?_
          refine v_callV hC (pc := 97) (As := [_, _]) dX7_readLine_97 rfl (nd_0 _ _ (d := d - 1) (by omega) _ _ hz) cv_X7_133 rfl (by decide) rfl (by first | rfl | exact ok_c hq rfl | exact ok_w hq hw | exact ok_w (by omega) (by omega) | exact ok_s (by omega) (by omega) | exact ok_c (by omega) rfl | assumption) (Nat.le_of_ble_eq_true rfl) (by omega) (fun r h' hr => ?_)
          obtain ⟨he9, rfl⟩ := hr
          rw [he9]
          clear he9 h'
          show V _ _ _ (97 + 3) _ _ _
          refine v_aload_n hC (pc := 100) (k := 0) 1 rfl dX7_readLine_100 ?_
          refine v_dup hC (pc := 101) rfl dX7_readLine_101 ?_
          refine v_getI hC (pc := 102) dX7_readLine_102 fl_X7_70 rfl (by first | rfl | exact ok_c hq rfl | exact ok_w hq hw | exact ok_w (by omega) (by omega) | exact ok_s (by omega) (by omega) | exact ok_c (by omega) rfl | assumption) rfl (by decide) (by decide) ?_
          refine v_iconst hC (pc := 105) (v := 1) (by decide) dX7_readLine_105 ?_
          refine v_iload_n hC (pc := 106) (k := 1) 0 rfl dX7_readLine_106 ?_
          refine v_ishl hC (pc := 107) dX7_readLine_107 ?_
          refine v_ior hC (pc := 108) dX7_readLine_108 ?_
          refine v_putI hC (pc := 109) dX7_readLine_109 fs_X7_70 rfl (by first | rfl | exact ok_c hq rfl | exact ok_w hq hw | exact ok_w (by omega) (by omega) | exact ok_s (by omega) (by omega) | exact ok_c (by omega) rfl | assumption) rfl (by decide) (by decide) ?_
          refine v_aload_n hC (pc := 112) (k := 0) 1 rfl dX7_readLine_112 ?_
          refine v_callV hC (pc := 113) (As := []) dX7_readLine_113 rfl (m_nextToken_f _ _ (d := d - 1) (by omega) _ (by rw [upI_k _ _ _ _ _ (by decide), nfH_17]; decide)) cv_X7_141 rfl (by decide) rfl (by first | rfl | exact ok_c hq rfl | exact ok_w hq hw | exact ok_w (by omega) (by omega) | exact ok_s (by omega) (by omega) | exact ok_c (by omega) rfl | assumption) (Nat.le_of_ble_eq_true rfl) (by omega) (fun r h' hr => ?_)
          obtain ⟨he9, rfl⟩ := hr
          rw [he9]
          clear he9 h'
          show V _ _ _ (113 + 3) _ _ _
          refine v_aload_n hC (pc := 116) (k := 0) 1 rfl dX7_readLine_116 ?_
          refine v_getI hC (pc := 117) dX7_readLine_117 fl_X7_91 rfl (by first | rfl | exact ok_c hq rfl | exact ok_w hq hw | exact ok_w (by omega) (by omega) | exact ok_s (by omega) (by omega) | exact ok_c (by omega) rfl | assumption) rfl (by decide) (by decide) ?_
          rw [upI_k _ _ _ _ _ (by decide), nfH_17]
          refine v_if_le hC (pc := 120) (tgt := 124) dX7_readLine_120 (by decide) (fun c_120 => ?_) (fun c_120 => ?_)
          · exact absurd c_120 (by decide)
          · skip
            refine v_vret hC hX (pc := 123) dX7_readLine_123 ?_
            refine ⟨rfl, ?_⟩
            rw [linS_4 (by rw [hkk]; omega) (by rw [hkk]; exact h5) (by rw [hkk]; exact h24) (by rw [hkk]; exact hq)]
            have y := GoS_nf (c := 4) hG (by decide)
            exact ⟨RE_f y.1 (by decide), by rw [upI_k _ _ _ _ _ (by decide)]; exact y.2.1, (show (0 : Int32) < 4 by decide), by rw [upI_k _ _ _ _ _ (by decide)]; exact y.2.2.2⟩
        have P96t : 2 ≤ k ∧ k ≤ 4 → (a.2 82 >>> (nI k &&& 31)) &&& 1 = 0 → V X G 2 96 [(1, vi (nI k)), (0, vr (3, 0, 0))] [vi 1, vr (3, 0, 0)] h := by
          intro h24 hq
          refine v_iconst hC (pc := 96) (v := 4) (by decide) dX7_readLine_96 ?_
          refine v_callV hC (pc := 97) (As := [_, _]) dX7_readLine_97 rfl (nd_1 _ _ (d := d - 1) (by omega) _ _) cv_X7_133 rfl (by decide) rfl (by first | rfl | exact ok_c hq rfl | exact ok_w hq hw | exact ok_w (by omega) (by omega) | exact ok_s (by omega) (by omega) | exact ok_c (by omega) rfl | assumption) (Nat.le_of_ble_eq_true rfl) (by omega) (fun r h' hr => ?_)
          obtain ⟨he9, rfl⟩ := hr
          rw [he9]
          clear he9 h'
          show V _ _ _ (97 + 3) _ _ _
          refine v_aload_n hC (pc := 100) (k := 0) 1 rfl dX7_readLine_100 ?_
          refine v_dup hC (pc := 101) rfl dX7_readLine_101 ?_
          refine v_getI hC (pc := 102) dX7_readLine_102 fl_X7_70 rfl (by first | rfl | exact ok_c hq rfl | exact ok_w hq hw | exact ok_w (by omega) (by omega) | exact ok_s (by omega) (by omega) | exact ok_c (by omega) rfl | assumption) rfl (by decide) (by decide) ?_
          refine v_iconst hC (pc := 105) (v := 1) (by decide) dX7_readLine_105 ?_
          refine v_iload_n hC (pc := 106) (k := 1) 0 rfl dX7_readLine_106 ?_
          refine v_ishl hC (pc := 107) dX7_readLine_107 ?_
          refine v_ior hC (pc := 108) dX7_readLine_108 ?_
          refine v_putI hC (pc := 109) dX7_readLine_109 fs_X7_70 rfl (by first | rfl | exact ok_c hq rfl | exact ok_w hq hw | exact ok_w (by omega) (by omega) | exact ok_s (by omega) (by omega) | exact ok_c (by omega) rfl | assumption) rfl (by decide) (by decide) ?_
          refine TAIL k _ (upd a.2 82 (a.2 82 ||| (1 <<< (nI k &&& 31)))) (by omega) ?_ (fun z => ?_) ?_
          · rw [g4.2.2.2.1]
            exact (RS_f8 _ (x := .inr a) (Or.inr hG)).elim (fun z => absurd z.1 g2) id
          · exact absurd z (by omega)
          · have y := linS_t (T := T) (t := t) (a := a) (by rw [hkk]; omega) (by rw [hkk]; exact h5) (by rw [hkk]; exact h24) (by rw [hkk]; exact hq)
            rw [hkk] at y
            exact y
        refine v_iconst hC (pc := 54) (v := 5) (by decide) dX7_readLine_54 ?_
        refine v_callV hC (pc := 55) (As := [_, _]) dX7_readLine_55 rfl (nd_1 _ _ (d := d - 1) (by omega) _ _) cv_X7_133 rfl (by decide) rfl (by first | rfl | exact ok_c hq rfl | exact ok_w hq hw | exact ok_w (by omega) (by omega) | exact ok_s (by omega) (by omega) | exact ok_c (by omega) rfl | assumption) (Nat.le_of_ble_eq_true rfl) (by omega) (fun r h' hr => ?_)
        obtain ⟨he9, rfl⟩ := hr
        rw [he9]
        clear he9 h'
        show V _ _ _ (55 + 3) _ _ _
        refine v_aload_n hC (pc := 58) (k := 0) 1 rfl dX7_readLine_58 ?_
        refine v_getI hC (pc := 59) dX7_readLine_59 fl_X7_91 rfl (by first | rfl | exact ok_c hq rfl | exact ok_w hq hw | exact ok_w (by omega) (by omega) | exact ok_s (by omega) (by omega) | exact ok_c (by omega) rfl | assumption) rfl (by decide) (by decide) ?_
        refine v_if_ne hC (pc := 62) (tgt := 112) dX7_readLine_62 (by decide) (fun c_62 => ?_) (fun c_62 => ?_)
        · exact absurd hz c_62
        · skip
          refine v_iload_n hC (pc := 65) (k := 1) 0 rfl dX7_readLine_65 ?_
          refine v_i2l hC (pc := 66) dX7_readLine_66 ?_
          refine v_ldc2 hC (pc := 67) k_X7_167 dX7_readLine_67 ?_
          refine v_ldc2 hC (pc := 70) k_X7_169 dX7_readLine_70 ?_
          refine v_callS hC (pc := 73) (As := [_, _, _]) dX7_readLine_73 rfl (m_in _ _ (d := d - 1) (by omega) _ (nI k) 2 4) cs_X7_84 (Nat.le_of_ble_eq_true rfl) (by omega) (fun r h' hr => ?_)
          obtain ⟨he9, rfl⟩ := hr
          rw [he9]
          clear he9 h'
          show V _ _ _ (73 + 3) _ (_ :: _) _
          refine v_ifb_eq hC (pc := 76) (tgt := 112) dX7_readLine_76 (by decide) (fun c_76 => ?_) (fun c_76 => ?_)
          · skip
            have h24 : ¬ (2 ≤ k ∧ k ≤ 4) := fun z => c_76 ⟨nI_nlt z.1 (by omega), nI_nlt z.2 (by decide)⟩
            refine TAIL k h a.2 (by omega) hG (fun z => ?_) ?_
            · exact ⟨n, Nat.lt_of_not_le (fun q => h5 ⟨z, fun y => absurd (show nI n < nI 4 by rw [← hn81]; exact y) (nI_nlt q (by omega))⟩), hn7⟩
            · have y := linS_p (T := T) (t := t) (a := a) (by rw [hkk]; omega) (by rw [hkk]; exact h5) (by rw [hkk]; exact h24)
              rw [hkk] at y
              exact y
          · skip
            have h24 : 2 ≤ k ∧ k ≤ 4 := ⟨(nI_leI (by decide) (by omega)).mp (Int32.not_lt.mp c_76.1), (nI_leI (by omega) (by decide)).mp (Int32.not_lt.mp c_76.2)⟩
            refine v_aload_n hC (pc := 79) (k := 0) 1 rfl dX7_readLine_79 ?_
            refine v_aload_n hC (pc := 80) (k := 0) 1 rfl dX7_readLine_80 ?_
            refine v_getI hC (pc := 81) dX7_readLine_81 fl_X7_70 rfl (by first | rfl | exact ok_c hq rfl | exact ok_w hq hw | exact ok_w (by omega) (by omega) | exact ok_s (by omega) (by omega) | exact ok_c (by omega) rfl | assumption) rfl (by decide) (by decide) ?_
            rw [g4.2.2.2.1]
            refine v_iload_n hC (pc := 84) (k := 1) 0 rfl dX7_readLine_84 ?_
            refine v_ishr hC (pc := 85) dX7_readLine_85 ?_
            refine v_iconst hC (pc := 86) (v := 1) (by decide) dX7_readLine_86 ?_
            refine v_iand hC (pc := 87) dX7_readLine_87 ?_
            refine v_if_ne hC (pc := 88) (tgt := 95) dX7_readLine_88 (by decide) (fun c_88 => ?_) (fun c_88 => ?_)
            · skip
              refine v_iconst hC (pc := 95) (v := 0) (by decide) dX7_readLine_95 ?_
              exact P96f h24 c_88
            · skip
              refine v_iconst hC (pc := 91) (v := 1) (by decide) dX7_readLine_91 ?_
              refine v_goto hC (pc := 92) (tgt := 96) dX7_readLine_92 (by decide) ?_
              exact P96t h24 c_88
      refine v_istore_n hC (pc := 17) (l' := [(1, _), (0, _)]) dX7_readLine_17 (by decide) rfl ?_
      refine v_aload_n hC (pc := 18) (k := 0) 1 rfl dX7_readLine_18 ?_
      refine v_iload_n hC (pc := 19) (k := 1) 0 rfl dX7_readLine_19 ?_
      refine v_bipush hC (pc := 20) (v := (-4)) (by decide +kernel) dX7_readLine_20 ?_
      refine v_icmp_eq hC (pc := 22) (tgt := 29) dX7_readLine_22 (by decide) (fun c_22 => ?_) (fun c_22 => ?_)
      · exact absurd c_22 (nI_n4 (by omega))
      · skip
        refine v_iconst hC (pc := 25) (v := 1) (by decide) dX7_readLine_25 ?_
        refine v_goto hC (pc := 26) (tgt := 30) dX7_readLine_26 (by decide) ?_
        refine v_iconst hC (pc := 30) (v := 2) (by decide) dX7_readLine_30 ?_
        refine v_callV hC (pc := 31) (As := [_, _]) dX7_readLine_31 rfl (nd_1 _ _ (d := d - 1) (by omega) _ _) cv_X7_133 rfl (by decide) rfl (by first | rfl | exact ok_c hq rfl | exact ok_w hq hw | exact ok_w (by omega) (by omega) | exact ok_s (by omega) (by omega) | exact ok_c (by omega) rfl | assumption) (Nat.le_of_ble_eq_true rfl) (by omega) (fun r h' hr => ?_)
        obtain ⟨he9, rfl⟩ := hr
        rw [he9]
        clear he9 h'
        show V _ _ _ (31 + 3) _ _ _
        refine v_aload_n hC (pc := 34) (k := 0) 1 rfl dX7_readLine_34 ?_
        refine v_iload_n hC (pc := 35) (k := 1) 0 rfl dX7_readLine_35 ?_
        refine v_bipush hC (pc := 36) (v := 6) (by decide +kernel) dX7_readLine_36 ?_
        refine v_icmp_lt hC (pc := 38) (tgt := 49) dX7_readLine_38 (by decide) (fun c_38 => ?_) (fun c_38 => ?_)
        · skip
          have hk6 : k < 6 := Nat.lt_of_not_le (fun q => absurd c_38 (nI_nlt q (by omega)))
          refine v_iconst hC (pc := 49) (v := 1) (by decide) dX7_readLine_49 ?_
          refine v_goto hC (pc := 50) (tgt := 54) dX7_readLine_50 (by decide) ?_
          first
            | exact P54t (fun z => absurd z.1 (by omega))
            | exact P54t (fun z => z.2 (show a.2 81 < 4 by rw [hn81]; exact nI_lt (Nat.lt_of_not_le (fun q => c_46 (nI_le q (by omega)))) (by decide)))
        · skip
          have hk6 : 6 ≤ k := Nat.le_of_not_lt (fun q => c_38 (nI_lt q (by decide)))
          refine v_aload_n hC (pc := 41) (k := 0) 1 rfl dX7_readLine_41 ?_
          refine v_getI hC (pc := 42) dX7_readLine_42 fl_X7_67 rfl (by first | rfl | exact ok_c hq rfl | exact ok_w hq hw | exact ok_w (by omega) (by omega) | exact ok_s (by omega) (by omega) | exact ok_c (by omega) rfl | assumption) rfl (by decide) (by decide) ?_
          rw [hn7]
          refine v_iconst hC (pc := 45) (v := 4) (by decide) dX7_readLine_45 ?_
          refine v_icmp_ge hC (pc := 46) (tgt := 53) dX7_readLine_46 (by decide) (fun c_46 => ?_) (fun c_46 => ?_)
          · skip
            refine v_iconst hC (pc := 53) (v := 0) (by decide) dX7_readLine_53 ?_
            exact P54f hk6 (fun z => absurd c_46 (by rw [hn81] at z; exact Int32.not_le.mpr z))
          · skip
            refine v_iconst hC (pc := 49) (v := 1) (by decide) dX7_readLine_49 ?_
            refine v_goto hC (pc := 50) (tgt := 54) dX7_readLine_50 (by decide) ?_
            first
              | exact P54t (fun z => absurd z.1 (by omega))
              | exact P54t (fun z => z.2 (show a.2 81 < 4 by rw [hn81]; exact nI_lt (Nat.lt_of_not_le (fun q => c_46 (nI_le q (by omega)))) (by decide)))
  refine v_aload_n hC (pc := 0) (k := 0) 0 rfl dX7_readLine_0 ?_
  refine v_getI hC (pc := 1) dX7_readLine_1 fl_X7_119 rfl (by first | rfl | exact ok_c hq rfl | exact ok_w hq hw | exact ok_w (by omega) (by omega) | exact ok_s (by omega) (by omega) | exact ok_c (by omega) rfl | assumption) rfl (by decide) (by decide) ?_
  rw [g8]
  refine v_iconst hC (pc := 4) (v := 1) (by decide) dX7_readLine_4 ?_
  refine v_icmp_ne hC (pc := 5) (tgt := 15) dX7_readLine_5 (by decide) (fun c_5 => ?_) (fun c_5 => ?_)
  · skip
    have hk1 : ¬ tK T t a.1 = 1 := fun z => c_5 (congrArg nI z)
    have e9 : oV (kkN T t a.1) = -4 := by unfold kkN; rw [iteP_f hk1]; rfl
    rw [e9] at P17
    refine v_bipush hC (pc := 15) (v := (-4)) (by decide +kernel) dX7_readLine_15 ?_
    exact P17
  · skip
    have hk1 : tK T t a.1 = 1 := (nI_eq (by have := tK_le T t a.1; omega) (by decide)).mp c_5
    have e9 : oV (kkN T t a.1) = oV (lrN T t a.1) := by unfold kkN; rw [iteP_t hk1]
    rw [e9] at P17
    refine v_aload_n hC (pc := 8) (k := 0) 0 rfl dX7_readLine_8 ?_
    refine v_callV hC (pc := 9) (As := []) dX7_readLine_9 rfl (m_lineNow _ _ (d := d - 1) (by omega) _ ht ((g1.2.2 12 (by decide)).trans htp) ((g1.1 (3, 0, 12) (by decide) (by decide) (by decide)).trans hT) g6 g7 g3) cv_X7_164 rfl (by decide) rfl (by first | rfl | exact ok_c hq rfl | exact ok_w hq hw | exact ok_w (by omega) (by omega) | exact ok_s (by omega) (by omega) | exact ok_c (by omega) rfl | assumption) (Nat.le_of_ble_eq_true rfl) (by omega) (fun r h' hr => ?_)
    obtain ⟨he9, rfl⟩ := hr
    rw [he9]
    clear he9 h'
    show V _ _ _ (9 + 3) _ (_ :: _) _
    refine v_goto hC (pc := 12) (tgt := 17) dX7_readLine_12 (by decide) ?_
    exact P17

