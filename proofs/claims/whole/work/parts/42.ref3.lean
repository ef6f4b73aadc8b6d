/-! THE REFERENCE: an hour -/
def lefA (A : Nat → Int32) (w : Nat) : Int32 := A (18 + 6 * w + 3) - A (18 + 6 * w + 5)
def sidA (A : Nat → Int32) (w : Nat) : Int32 := (A (18 + 6 * w + 4) >>> (A (18 + 6 * w + 5) &&& 31)) &&& 1
def wenF (A : Nat → Int32) (w : Nat) : Int32 := if lefA A w ≤ 0 then 0 else 1
def kpA (A : Nat → Int32) (w : Nat) : Int32 := if A (18 + 6 * w + 2) = 1 then 1 else 0
def toM (A : Nat → Int32) (w : Nat) : Int32 := if lefA A w ≤ 0 then A (18 + 6 * w + 0) else goM A (A (18 + 6 * w + 0)).toNatClampNeg (sidA A w).toNatClampNeg (A 17) (kpA A w)
def setM (h : HP) (n : Nat) : HP := (fun i k => if i = (3, 0, 21) ∧ k < n then wenF (h.1 (3, 0, 2)) k else if i = (3, 0, 20) ∧ k < n then toM (h.1 (3, 0, 2)) k else h.1 i k, h.2)
theorem setM_0 (h : HP) : setM h 0 = h := by
  unfold setM
  simp
theorem setM_s (h : HP) (n : Nat) : upI (upI (setM h n) (3, 0, 21) n (wenF (h.1 (3, 0, 2)) n)) (3, 0, 20) n (toM (h.1 (3, 0, 2)) n) = setM h (n + 1) := by
  unfold setM upI
  refine Prod.ext (funext fun i => funext fun k => ?_) rfl
  by_cases e1 : i = (3, 0, 21)
  · subst e1
    by_cases e2 : k = n
    · subst e2; simp
    · have e5 : k < n + 1 ↔ k < n := by omega
      simp [e2, e5]
  · by_cases e3 : i = (3, 0, 20)
    · subst e3
      by_cases e2 : k = n
      · subst e2; simp
      · have e5 : k < n + 1 ↔ k < n := by omega
        simp [e2, e5]
    · simp [e1, e3]
theorem setM_o (h : HP) (n : Nat) {i : PId} (h1 : i ≠ (3, 0, 21)) (h2 : i ≠ (3, 0, 20)) : (setM h n).1 i = h.1 i := by
  funext k
  simp [setM, h1, h2]
theorem setM_g (h : HP) {n k : Nat} (hk : k < n) : (setM h n).1 (3, 0, 21) k = wenF (h.1 (3, 0, 2)) k := by
  simp [setM, hk]
theorem setM_t (h : HP) {n k : Nat} (hk : k < n) : (setM h n).1 (3, 0, 20) k = toM (h.1 (3, 0, 2)) k := by
  simp [setM, hk]
set_option maxRecDepth 20000 in
set_option maxHeartbeats 2000000 in
theorem m_setsOut (l9 : Launch) (G : WT) {d : Nat} (hd : 4 ≤ d) (h : HP) {nW : Nat} (hn4 : nW ≤ 4) (hnw : h.1 (3, 0, 0) 4 = nI nW) (hpl : ∀ w, w < nW → ∃ p, p < 8 ∧ h.1 (3, 0, 2) (18 + 6 * w + 0) = nI p) : MS l9 G yX7_setsOut cX7_setsOut 3 none d [vr (3, 0, 0)] h (fun r h1 => r = none ∧ h1 = setM h nW) := by
  refine MS_of (by decide +kernel) (Nat.le_of_ble_eq_true rfl) (fun X hC hX => ?_)
  show V X G 3 0 _ [] _
  have loop : ∀ (n w : Nat), w ≤ nW → nW + 1 ≤ w + n → V X G 3 2 [(1, vi (nI w)), (0, vr (3, 0, 0))] [] (setM h w) := by
    intro n
    induction n with
    | zero => intro w h1 h2; exact absurd h2 (by omega)
    | succ n ih =>
      intro w h1 h2
      refine v_iload_n hC (pc := 2) (k := 1) 0 rfl dX7_setsOut_2 ?_
      refine v_aload_n hC (pc := 3) (k := 0) 1 rfl dX7_setsOut_3 ?_
      refine v_getI hC (pc := 4) dX7_setsOut_4 fl_X7_79 rfl (by first | rfl | exact ok_c hq rfl | exact ok_w hq hw | exact ok_w (by omega) (by omega) | exact ok_s (by omega) (by omega) | exact ok_c (by omega) rfl | assumption) rfl (by decide) (by decide) ?_
      refine v_icmp_ge hC (pc := 7) (tgt := 108) dX7_setsOut_7 (by decide) (fun c_7 => ?_) (fun c_7 => ?_)
      · skip
        have hi : w = nW := lp_ex (by rw [setM_o h w (by decide) (by decide), hnw] at c_7; exact c_7) h1 (by omega)
        refine v_vret hC hX (pc := 108) dX7_setsOut_108 ?_
        subst hi
        exact ⟨rfl, rfl⟩
      · skip
        have hi : w < nW := lp_in (by rw [setM_o h w (by decide) (by decide), hnw] at c_7; exact c_7) h1 (by omega)
        obtain ⟨p, hp8, hp0⟩ := hpl w hi
        obtain ⟨s, hs2, es⟩ : ∃ s, s < 2 ∧ sidA (h.1 (3, 0, 2)) w = nI s := and1_nat _
        refine v_aload_n hC (pc := 10) (k := 0) 1 rfl dX7_setsOut_10 ?_
        refine v_getR hC (pc := 11) dX7_setsOut_11 fl_X7_32 rfl (by first | rfl | exact ok_c hq rfl | exact ok_w hq hw | exact ok_w (by omega) (by omega) | exact ok_s (by omega) (by omega) | exact ok_c (by omega) rfl | assumption) rfl (by decide) (by decide) rfl ?_
        refine v_iload_n hC (pc := 14) (k := 1) 0 rfl dX7_setsOut_14 ?_
        refine v_aload_n hC (pc := 15) (k := 0) 1 rfl dX7_setsOut_15 ?_
        refine v_iload_n hC (pc := 16) (k := 1) 0 rfl dX7_setsOut_16 ?_
        refine v_callV hC (pc := 17) (As := [_]) dX7_setsOut_17 rfl (m_leftOf _ _ (d := d - 1) (by omega) _ (w := w) (by omega)) cv_X7_197 rfl (by decide) rfl (by first | rfl | exact ok_c hq rfl | exact ok_w hq hw | exact ok_w (by omega) (by omega) | exact ok_s (by omega) (by omega) | exact ok_c (by omega) rfl | assumption) (Nat.le_of_ble_eq_true rfl) (by omega) (fun r h' hr => ?_)
        obtain ⟨he9, rfl⟩ := hr
        rw [he9]
        clear he9 h'
        show V _ _ _ (17 + 3) _ (_ :: _) _
        show V X G 3 20 _ (vi ((setM h w).1 (3, 0, 2) (18 + 6 * w + 3) - (setM h w).1 (3, 0, 2) (18 + 6 * w + 5)) :: _) _
        rw [setM_o h w (i := (3, 0, 2)) (by decide) (by decide)]
        show V X G 3 20 _ (vi (lefA (h.1 (3, 0, 2)) w) :: _) _
        refine v_if_le hC (pc := 20) (tgt := 27) dX7_setsOut_20 (by decide) (fun c_20 => ?_) (fun c_20 => ?_)
        · skip
          refine v_iconst hC (pc := 27) (v := 0) (by decide) dX7_setsOut_27 ?_
          refine v_zast hC (pc := 28) dX7_setsOut_28 rfl (by first | rfl | exact ok_c hq rfl | exact ok_w hq hw | exact ok_w (by omega) (by omega) | exact ok_s (by omega) (by omega) | exact ok_c (by omega) rfl | assumption) (vp_nat (by omega) (by decide)) ?_
          refine v_aload_n hC (pc := 29) (k := 0) 1 rfl dX7_setsOut_29 ?_
          refine v_iload_n hC (pc := 30) (k := 1) 0 rfl dX7_setsOut_30 ?_
          refine v_iconst hC (pc := 31) (v := 4) (by decide) dX7_setsOut_31 ?_
          refine v_callV hC (pc := 32) (As := [_, _]) dX7_setsOut_32 rfl (m_of _ _ (d := d - 1) (by omega) _ (w := w) (by omega) (k := 4) (by decide)) cv_X7_187 rfl (by decide) rfl (by first | rfl | exact ok_c hq rfl | exact ok_w hq hw | exact ok_w (by omega) (by omega) | exact ok_s (by omega) (by omega) | exact ok_c (by omega) rfl | assumption) (Nat.le_of_ble_eq_true rfl) (by omega) (fun r h' hr => ?_)
          obtain ⟨he9, rfl⟩ := hr
          rw [he9]
          clear he9 h'
          show V _ _ _ (32 + 3) _ (_ :: _) _
          refine v_aload_n hC (pc := 35) (k := 0) 1 rfl dX7_setsOut_35 ?_
          refine v_iload_n hC (pc := 36) (k := 1) 0 rfl dX7_setsOut_36 ?_
          refine v_iconst hC (pc := 37) (v := 5) (by decide) dX7_setsOut_37 ?_
          refine v_callV hC (pc := 38) (As := [_, _]) dX7_setsOut_38 rfl (m_of _ _ (d := d - 1) (by omega) _ (w := w) (by omega) (k := 5) (by decide)) cv_X7_187 rfl (by decide) rfl (by first | rfl | exact ok_c hq rfl | exact ok_w hq hw | exact ok_w (by omega) (by omega) | exact ok_s (by omega) (by omega) | exact ok_c (by omega) rfl | assumption) (Nat.le_of_ble_eq_true rfl) (by omega) (fun r h' hr => ?_)
          obtain ⟨he9, rfl⟩ := hr
          rw [he9]
          clear he9 h'
          show V _ _ _ (38 + 3) _ (_ :: _) _
          refine v_ishr hC (pc := 41) dX7_setsOut_41 ?_
          refine v_iconst hC (pc := 42) (v := 1) (by decide) dX7_setsOut_42 ?_
          refine v_iand hC (pc := 43) dX7_setsOut_43 ?_
          simp only [upI_ne (i := (3, 0, 21)) (j := (3, 0, 2)) _ _ _ (by decide), setM_o h w (i := (3, 0, 2)) (by decide) (by decide)]
          show V X G 3 44 _ (vi (sidA (h.1 (3, 0, 2)) w) :: _) _
          rw [es]
          refine v_istore_n hC (pc := 44) (l' := [(2, _), (1, _), (0, _)]) dX7_setsOut_44 (by decide) rfl ?_
          refine v_aload_n hC (pc := 45) (k := 0) 2 rfl dX7_setsOut_45 ?_
          refine v_getR hC (pc := 46) dX7_setsOut_46 fl_X7_29 rfl (by first | rfl | exact ok_c hq rfl | exact ok_w hq hw | exact ok_w (by omega) (by omega) | exact ok_s (by omega) (by omega) | exact ok_c (by omega) rfl | assumption) rfl (by decide) (by decide) rfl ?_
          refine v_iload_n hC (pc := 49) (k := 1) 1 rfl dX7_setsOut_49 ?_
          refine v_aload_n hC (pc := 50) (k := 0) 2 rfl dX7_setsOut_50 ?_
          refine v_getR hC (pc := 51) dX7_setsOut_51 fl_X7_32 rfl (by first | rfl | exact ok_c hq rfl | exact ok_w hq hw | exact ok_w (by omega) (by omega) | exact ok_s (by omega) (by omega) | exact ok_c (by omega) rfl | assumption) rfl (by decide) (by decide) rfl ?_
          refine v_iload_n hC (pc := 54) (k := 1) 1 rfl dX7_setsOut_54 ?_
          refine v_zald hC (pc := 55) dX7_setsOut_55 rfl (by first | rfl | exact ok_c hq rfl | exact ok_w hq hw | exact ok_w (by omega) (by omega) | exact ok_s (by omega) (by omega) | exact ok_c (by omega) rfl | assumption) (vp_nat (by omega) (by decide)) ?_
          rw [upI_same, nI_clamp (show w < 2 ^ 31 by omega)]
          show V X G 3 56 _ (vi (upd _ w _ w) :: _) _
          rw [show ∀ (f : Nat → Int32) (x : Int32), upd f w x w = x from fun f x => if_pos rfl]
          refine v_if_eq hC (pc := 56) (tgt := 95) dX7_setsOut_56 (by decide) (fun c_56 => ?_) (fun c_56 => ?_)
          · skip
            skip
            refine v_aload_n hC (pc := 95) (k := 0) 2 rfl dX7_setsOut_95 ?_
            refine v_iload_n hC (pc := 96) (k := 1) 1 rfl dX7_setsOut_96 ?_
            refine v_iconst hC (pc := 97) (v := 0) (by decide) dX7_setsOut_97 ?_
            refine v_callV hC (pc := 98) (As := [_, _]) dX7_setsOut_98 rfl (m_of _ _ (d := d - 1) (by omega) _ (w := w) (by omega) (k := 0) (by decide)) cv_X7_187 rfl (by decide) rfl (by first | rfl | exact ok_c hq rfl | exact ok_w hq hw | exact ok_w (by omega) (by omega) | exact ok_s (by omega) (by omega) | exact ok_c (by omega) rfl | assumption) (Nat.le_of_ble_eq_true rfl) (by omega) (fun r h' hr => ?_)
            obtain ⟨he9, rfl⟩ := hr
            rw [he9]
            clear he9 h'
            show V _ _ _ (98 + 3) _ (_ :: _) _
            skip
            refine v_iast hC (pc := 101) dX7_setsOut_101 rfl (by first | rfl | exact ok_c hq rfl | exact ok_w hq hw | exact ok_w (by omega) (by omega) | exact ok_s (by omega) (by omega) | exact ok_c (by omega) rfl | assumption) (vp_nat (by omega) (by decide)) ?_
            refine v_heap (show _ = setM h (w + 1) from ?_) ?_
            · rw [← setM_s, nI_clamp (show w < 2 ^ 31 by omega)]
              simp only [upI_ne (i := (3, 0, 21)) (j := (3, 0, 2)) _ _ _ (by decide), setM_o h w (i := (3, 0, 2)) (by decide) (by decide)]
              unfold wenF toM
              first
                | (rw [if_pos c_20, if_pos c_20]; rfl)
                | (rw [if_neg c_20, if_neg c_20, hp0, nI_clamp (show p < 2 ^ 31 by omega), es, nI_clamp (show s < 2 ^ 31 by omega), kpA]
                   first | (rw [if_pos c_81]; rfl) | (rw [if_neg c_81]; rfl))
            refine v_iinc hC (pc := 102) (l' := [(1, _), (2, _), (0, _)]) 1 (v := nI (w + 1)) dX7_setsOut_102 rfl (nI_inc w) (by decide) rfl ?_
            refine v_goto hC (pc := 105) (tgt := 2) dX7_setsOut_105 (by decide) ?_
            refine v_loc (l' := [(1, _), (0, _)]) [0, 2] rfl ?_
            exact ih (w + 1) (by omega) (by omega)
          · exact absurd (show vp_nar .boolean 0 = 0 from rfl) c_56
        · skip
          refine v_iconst hC (pc := 23) (v := 1) (by decide) dX7_setsOut_23 ?_
          refine v_goto hC (pc := 24) (tgt := 28) dX7_setsOut_24 (by decide) ?_
          refine v_zast hC (pc := 28) dX7_setsOut_28 rfl (by first | rfl | exact ok_c hq rfl | exact ok_w hq hw | exact ok_w (by omega) (by omega) | exact ok_s (by omega) (by omega) | exact ok_c (by omega) rfl | assumption) (vp_nat (by omega) (by decide)) ?_
          refine v_aload_n hC (pc := 29) (k := 0) 1 rfl dX7_setsOut_29 ?_
          refine v_iload_n hC (pc := 30) (k := 1) 0 rfl dX7_setsOut_30 ?_
          refine v_iconst hC (pc := 31) (v := 4) (by decide) dX7_setsOut_31 ?_
          refine v_callV hC (pc := 32) (As := [_, _]) dX7_setsOut_32 rfl (m_of _ _ (d := d - 1) (by omega) _ (w := w) (by omega) (k := 4) (by decide)) cv_X7_187 rfl (by decide) rfl (by first | rfl | exact ok_c hq rfl | exact ok_w hq hw | exact ok_w (by omega) (by omega) | exact ok_s (by omega) (by omega) | exact ok_c (by omega) rfl | assumption) (Nat.le_of_ble_eq_true rfl) (by omega) (fun r h' hr => ?_)
          obtain ⟨he9, rfl⟩ := hr
          rw [he9]
          clear he9 h'
          show V _ _ _ (32 + 3) _ (_ :: _) _
          refine v_aload_n hC (pc := 35) (k := 0) 1 rfl dX7_setsOut_35 ?_
          refine v_iload_n hC (pc := 36) (k := 1) 0 rfl dX7_setsOut_36 ?_
          refine v_iconst hC (pc := 37) (v := 5) (by decide) dX7_setsOut_37 ?_
          refine v_callV hC (pc := 38) (As := [_, _]) dX7_setsOut_38 rfl (m_of _ _ (d := d - 1) (by omega) _ (w := w) (by omega) (k := 5) (by decide)) cv_X7_187 rfl (by decide) rfl (by first | rfl | exact ok_c hq rfl | exact ok_w hq hw | exact ok_w (by omega) (by omega) | exact ok_s (by omega) (by omega) | exact ok_c (by omega) rfl | assumption) (Nat.le_of_ble_eq_true rfl) (by omega) (fun r h' hr => ?_)
          obtain ⟨he9, rfl⟩ := hr
          rw [he9]
          clear he9 h'
          show V _ _ _ (38 + 3) _ (_ :: _) _
          refine v_ishr hC (pc := 41) dX7_setsOut_41 ?_
          refine v_iconst hC (pc := 42) (v := 1) (by decide) dX7_setsOut_42 ?_
          refine v_iand hC (pc := 43) dX7_setsOut_43 ?_
          simp only [upI_ne (i := (3, 0, 21)) (j := (3, 0, 2)) _ _ _ (by decide), setM_o h w (i := (3, 0, 2)) (by decide) (by decide)]
          show V X G 3 44 _ (vi (sidA (h.1 (3, 0, 2)) w) :: _) _
          rw [es]
          refine v_istore_n hC (pc := 44) (l' := [(2, _), (1, _), (0, _)]) dX7_setsOut_44 (by decide) rfl ?_
          refine v_aload_n hC (pc := 45) (k := 0) 2 rfl dX7_setsOut_45 ?_
          refine v_getR hC (pc := 46) dX7_setsOut_46 fl_X7_29 rfl (by first | rfl | exact ok_c hq rfl | exact ok_w hq hw | exact ok_w (by omega) (by omega) | exact ok_s (by omega) (by omega) | exact ok_c (by omega) rfl | assumption) rfl (by decide) (by decide) rfl ?_
          refine v_iload_n hC (pc := 49) (k := 1) 1 rfl dX7_setsOut_49 ?_
          refine v_aload_n hC (pc := 50) (k := 0) 2 rfl dX7_setsOut_50 ?_
          refine v_getR hC (pc := 51) dX7_setsOut_51 fl_X7_32 rfl (by first | rfl | exact ok_c hq rfl | exact ok_w hq hw | exact ok_w (by omega) (by omega) | exact ok_s (by omega) (by omega) | exact ok_c (by omega) rfl | assumption) rfl (by decide) (by decide) rfl ?_
          refine v_iload_n hC (pc := 54) (k := 1) 1 rfl dX7_setsOut_54 ?_
          refine v_zald hC (pc := 55) dX7_setsOut_55 rfl (by first | rfl | exact ok_c hq rfl | exact ok_w hq hw | exact ok_w (by omega) (by omega) | exact ok_s (by omega) (by omega) | exact ok_c (by omega) rfl | assumption) (vp_nat (by omega) (by decide)) ?_
          rw [upI_same, nI_clamp (show w < 2 ^ 31 by omega)]
          show V X G 3 56 _ (vi (upd _ w _ w) :: _) _
          rw [show ∀ (f : Nat → Int32) (x : Int32), upd f w x w = x from fun f x => if_pos rfl]
          refine v_if_eq hC (pc := 56) (tgt := 95) dX7_setsOut_56 (by decide) (fun c_56 => ?_) (fun c_56 => ?_)
          · exact absurd c_56 (by decide)
          · skip
            skip
            refine v_aload_n hC (pc := 59) (k := 0) 2 rfl dX7_setsOut_59 ?_
            refine v_aload_n hC (pc := 60) (k := 0) 2 rfl dX7_setsOut_60 ?_
            refine v_iload_n hC (pc := 61) (k := 1) 1 rfl dX7_setsOut_61 ?_
            refine v_iconst hC (pc := 62) (v := 0) (by decide) dX7_setsOut_62 ?_
            refine v_callV hC (pc := 63) (As := [_, _]) dX7_setsOut_63 rfl (m_of _ _ (d := d - 1) (by omega) _ (w := w) (by omega) (k := 0) (by decide)) cv_X7_187 rfl (by decide) rfl (by first | rfl | exact ok_c hq rfl | exact ok_w hq hw | exact ok_w (by omega) (by omega) | exact ok_s (by omega) (by omega) | exact ok_c (by omega) rfl | assumption) (Nat.le_of_ble_eq_true rfl) (by omega) (fun r h' hr => ?_)
            obtain ⟨he9, rfl⟩ := hr
            rw [he9]
            clear he9 h'
            show V _ _ _ (63 + 3) _ (_ :: _) _
            simp only [upI_ne (i := (3, 0, 21)) (j := (3, 0, 2)) _ _ _ (by decide), setM_o h w (i := (3, 0, 2)) (by decide) (by decide)]
            rw [hp0]
            refine v_iload_n hC (pc := 66) (k := 2) 0 rfl dX7_setsOut_66 ?_
            refine v_aload_n hC (pc := 67) (k := 0) 2 rfl dX7_setsOut_67 ?_
            refine v_getR hC (pc := 68) dX7_setsOut_68 fl_X7_13 rfl (by first | rfl | exact ok_c hq rfl | exact ok_w hq hw | exact ok_w (by omega) (by omega) | exact ok_s (by omega) (by omega) | exact ok_c (by omega) rfl | assumption) rfl (by decide) (by decide) rfl ?_
            refine v_bipush hC (pc := 71) (v := 17) (by decide +kernel) dX7_setsOut_71 ?_
            refine v_iald hC (pc := 73) dX7_setsOut_73 rfl (by first | rfl | exact ok_c hq rfl | exact ok_w hq hw | exact ok_w (by omega) (by omega) | exact ok_s (by omega) (by omega) | exact ok_c (by omega) rfl | assumption) (vp_nat (n := 17) (by omega) (by decide)) ?_
            refine v_aload_n hC (pc := 74) (k := 0) 2 rfl dX7_setsOut_74 ?_
            refine v_iload_n hC (pc := 75) (k := 1) 1 rfl dX7_setsOut_75 ?_
            refine v_iconst hC (pc := 76) (v := 2) (by decide) dX7_setsOut_76 ?_
            refine v_callV hC (pc := 77) (As := [_, _]) dX7_setsOut_77 rfl (m_of _ _ (d := d - 1) (by omega) _ (w := w) (by omega) (k := 2) (by decide)) cv_X7_187 rfl (by decide) rfl (by first | rfl | exact ok_c hq rfl | exact ok_w hq hw | exact ok_w (by omega) (by omega) | exact ok_s (by omega) (by omega) | exact ok_c (by omega) rfl | assumption) (Nat.le_of_ble_eq_true rfl) (by omega) (fun r h' hr => ?_)
            obtain ⟨he9, rfl⟩ := hr
            rw [he9]
            clear he9 h'
            show V _ _ _ (77 + 3) _ (_ :: _) _
            refine v_iconst hC (pc := 80) (v := 1) (by decide) dX7_setsOut_80 ?_
            simp only [upI_ne (i := (3, 0, 21)) (j := (3, 0, 2)) _ _ _ (by decide), setM_o h w (i := (3, 0, 2)) (by decide) (by decide)]
            refine v_icmp_ne hC (pc := 81) (tgt := 88) dX7_setsOut_81 (by decide) (fun c_81 => ?_) (fun c_81 => ?_)
            · skip
              refine v_iconst hC (pc := 88) (v := 0) (by decide) dX7_setsOut_88 ?_
              refine v_callV hC (pc := 89) (As := [_, _, _, _]) dX7_setsOut_89 rfl (m_goesFrom _ _ (d := d - 1) (by omega) _ hp8 hs2 _ _) cv_X7_200 rfl (by decide) rfl (by first | rfl | exact ok_c hq rfl | exact ok_w hq hw | exact ok_w (by omega) (by omega) | exact ok_s (by omega) (by omega) | exact ok_c (by omega) rfl | assumption) (Nat.le_of_ble_eq_true rfl) (by omega) (fun r h' hr => ?_)
              obtain ⟨he9, rfl⟩ := hr
              rw [he9]
              clear he9 h'
              show V _ _ _ (89 + 3) _ (_ :: _) _
              refine v_goto hC (pc := 92) (tgt := 101) dX7_setsOut_92 (by decide) ?_
              skip
              refine v_iast hC (pc := 101) dX7_setsOut_101 rfl (by first | rfl | exact ok_c hq rfl | exact ok_w hq hw | exact ok_w (by omega) (by omega) | exact ok_s (by omega) (by omega) | exact ok_c (by omega) rfl | assumption) (vp_nat (by omega) (by decide)) ?_
              refine v_heap (show _ = setM h (w + 1) from ?_) ?_
              · rw [← setM_s, nI_clamp (show w < 2 ^ 31 by omega)]
                simp only [upI_ne (i := (3, 0, 21)) (j := (3, 0, 2)) _ _ _ (by decide), setM_o h w (i := (3, 0, 2)) (by decide) (by decide)]
                unfold wenF toM
                first
                  | (rw [if_pos c_20, if_pos c_20]; rfl)
                  | (rw [if_neg c_20, if_neg c_20, hp0, nI_clamp (show p < 2 ^ 31 by omega), es, nI_clamp (show s < 2 ^ 31 by omega), kpA]
                     first | (rw [if_pos c_81]; rfl) | (rw [if_neg c_81]; rfl))
              refine v_iinc hC (pc := 102) (l' := [(1, _), (2, _), (0, _)]) 1 (v := nI (w + 1)) dX7_setsOut_102 rfl (nI_inc w) (by decide) rfl ?_
              refine v_goto hC (pc := 105) (tgt := 2) dX7_setsOut_105 (by decide) ?_
              refine v_loc (l' := [(1, _), (0, _)]) [0, 2] rfl ?_
              exact ih (w + 1) (by omega) (by omega)
            · skip
              refine v_iconst hC (pc := 84) (v := 1) (by decide) dX7_setsOut_84 ?_
              refine v_goto hC (pc := 85) (tgt := 89) dX7_setsOut_85 (by decide) ?_
              refine v_callV hC (pc := 89) (As := [_, _, _, _]) dX7_setsOut_89 rfl (m_goesFrom _ _ (d := d - 1) (by omega) _ hp8 hs2 _ _) cv_X7_200 rfl (by decide) rfl (by first | rfl | exact ok_c hq rfl | exact ok_w hq hw | exact ok_w (by omega) (by omega) | exact ok_s (by omega) (by omega) | exact ok_c (by omega) rfl | assumption) (Nat.le_of_ble_eq_true rfl) (by omega) (fun r h' hr => ?_)
              obtain ⟨he9, rfl⟩ := hr
              rw [he9]
              clear he9 h'
              show V _ _ _ (89 + 3) _ (_ :: _) _
              refine v_goto hC (pc := 92) (tgt := 101) dX7_setsOut_92 (by decide) ?_
              skip
              refine v_iast hC (pc := 101) dX7_setsOut_101 rfl (by first | rfl | exact ok_c hq rfl | exact ok_w hq hw | exact ok_w (by omega) (by omega) | exact ok_s (by omega) (by omega) | exact ok_c (by omega) rfl | assumption) (vp_nat (by omega) (by decide)) ?_
              refine v_heap (show _ = setM h (w + 1) from ?_) ?_
              · rw [← setM_s, nI_clamp (show w < 2 ^ 31 by omega)]
                simp only [upI_ne (i := (3, 0, 21)) (j := (3, 0, 2)) _ _ _ (by decide), setM_o h w (i := (3, 0, 2)) (by decide) (by decide)]
                unfold wenF toM
                first
                  | (rw [if_pos c_20, if_pos c_20]; rfl)
                  | (rw [if_neg c_20, if_neg c_20, hp0, nI_clamp (show p < 2 ^ 31 by omega), es, nI_clamp (show s < 2 ^ 31 by omega), kpA]
                     first | (rw [if_pos c_81]; rfl) | (rw [if_neg c_81]; rfl))
              refine v_iinc hC (pc := 102) (l' := [(1, _), (2, _), (0, _)]) 1 (v := nI (w + 1)) dX7_setsOut_102 rfl (nI_inc w) (by decide) rfl ?_
              refine v_goto hC (pc := 105) (tgt := 2) dX7_setsOut_105 (by decide) ?_
              refine v_loc (l' := [(1, _), (0, _)]) [0, 2] rfl ?_
              exact ih (w + 1) (by omega) (by omega)
  refine v_iconst hC (pc := 0) (v := 0) (by decide) dX7_setsOut_0 ?_
  refine v_istore_n hC (pc := 1) (l' := [(1, _), (0, _)]) dX7_setsOut_1 (by decide) rfl ?_
  refine v_heap (setM_0 h).symm ?_
  exact loop (nW + 1) 0 (Nat.zero_le _) (by omega)

