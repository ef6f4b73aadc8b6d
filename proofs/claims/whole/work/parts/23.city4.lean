/-! CITY: more loops; WALKER: writes; rows filled and copied -/
/-- what the seed becomes -/
def sdF (s : Int32) : Int32 := s * 1103515245 + 12345
def sdG (s : Int32) : Int32 := ((s.toUInt32 >>> ((16 : Int32).toUInt32 &&& Int32.toUInt32 31)).toInt32 &&& 32767) - ((s.toUInt32 >>> ((16 : Int32).toUInt32 &&& Int32.toUInt32 31)).toInt32 &&& 32767) / 3 * 3
def sdN : Nat → Int32 → Int32
  | 0, s => s
  | n + 1, s => sdF (sdN n s)
def drG (h : HP) (q w : Nat) (g : Int32) : Int32 := if g = 2 then h.1 (6, q, w) 0 else comF (h.1 (0, q, 6)) (h.1 (0, q, 0) 1) (h.1 (6, q, w) 0) g (h.1 (0, q, 0) 2) (h.1 (6, q, w) 2)
def drgH (h : HP) (q n : Nat) (s : Int32) : HP := (fun i k => if i = (0, q, 13) ∧ k < n then drG h q k (sdG (sdN (k + 1) s)) else h.1 i k, h.2)
theorem drgH_0 (h : HP) (q : Nat) (s : Int32) : drgH h q 0 s = h := by
  unfold drgH
  simp
theorem drgH_s (h : HP) (q n : Nat) (s : Int32) : upI (drgH h q n s) (0, q, 13) n (drG h q n (sdG (sdN (n + 1) s))) = drgH h q (n + 1) s := by
  unfold drgH upI
  refine Prod.ext (funext fun i => funext fun k => ?_) rfl
  by_cases e2 : i = (0, q, 13)
  · subst e2
    by_cases e3 : k = n
    · subst e3; simp
    · have e5 : k < n + 1 ↔ k < n := by omega
      simp [e3, e5]
  · simp [e2]
theorem drgH_f (h : HP) (q n : Nat) (s : Int32) {i : PId} (hi : i ≠ (0, q, 13)) : (drgH h q n s).1 i = h.1 i := by
  funext k
  simp [drgH, hi]
theorem drgH_g (h : HP) (q n k : Nat) (s : Int32) (hk : k < n) : (drgH h q n s).1 (0, q, 13) k = drG h q k (sdG (sdN (k + 1) s)) := by
  simp [drgH, hk]
/-- n hours by a seed: the heap, the clashes, the seed -/
def drS (q nW : Nat) (u : HP × Int32 × Int32) : HP × Int32 × Int32 :=
  (endH (drgH u.1 q nW u.2.2) q nW (ccF (fun w => u.1.1 (6, q, w) 0) (fun k => drG u.1 q k (sdG (sdN (k + 1) u.2.2))) nW), u.2.1 + ccF (fun w => u.1.1 (6, q, w) 0) (fun k => drG u.1 q k (sdG (sdN (k + 1) u.2.2))) nW, sdN nW u.2.2)
def drF (q nW n : Nat) (u : HP × Int32 × Int32) : HP × Int32 × Int32 := itN (fun _ => drS q nW) n u
theorem endH_f (h : HP) (q n : Nat) (c : Int32) {k : Nat} (h2 : k ≠ 2) (h3 : k ≠ 3) : (endH h q n c).1 (0, q, 0) k = h.1 (0, q, 0) k := by
  simp [endH, upI, plcH, h2, h3]
theorem drF_w (q nW : Nat) (u : HP × Int32 × Int32) : ∀ n, (drF q nW n u).1.1 (0, q, 0) 4 = u.1.1 (0, q, 0) 4
  | 0 => rfl
  | n + 1 => by
    show (endH _ q nW _).1 (0, q, 0) 4 = _
    rw [endH_f _ _ _ _ (by decide) (by decide), drgH_f _ _ _ _ (by simp)]
    exact drF_w q nW u n
set_option maxRecDepth 20000 in
set_option maxHeartbeats 2000000 in
theorem t_driftBy (l9 : Launch) (G : WT) {d : Nat} (hd : 5 ≤ d) {q : Nat} (hq : q < 5) (h : HP) {nW : Nat} (hn4 : nW ≤ 4) (hnw : h.1 (0, q, 0) 4 = nI nW) (sd : Int32) {N : Nat} (hN : N < 1000) : MS l9 G yX0_driftBy cX0_driftBy 9 (some .int) d [vr (0, q, 0), vi sd, vi (nI N)] h (fun r h1 => r = some (vi (drF q nW N (h, 0, sd)).2.1) ∧ h1 = (drF q nW N (h, 0, sd)).1) := by
  refine MS_of (by decide +kernel) (Nat.le_of_ble_eq_true rfl) (fun X hC hX => ?_)
  show V X G 9 0 _ [] _
  have inner : ∀ (u : HP) (s0 s1 t5 t4 t2 : Int32), u.1 (0, q, 0) 4 = nI nW → V X G 9 103 [(6, vi (nI nW)), (3, vi (sdN nW s0)), (5, vi t5), (4, vi t4), (0, vr (0, q, 0)), (1, vi s1), (2, vi t2)] [] (drgH u q nW s0) → ∀ (n w : Nat), w ≤ nW → nW + 1 ≤ w + n → V X G 9 17 [(6, vi (nI w)), (3, vi (sdN w s0)), (5, vi t5), (4, vi t4), (0, vr (0, q, 0)), (1, vi s1), (2, vi t2)] [] (drgH u q w s0) := by
    intro u s0 s1 t5 t4 t2 hu k9 n
    induction n with
    | zero => intro w  h1 h2; exact absurd h2 (by omega)
    | succ n ih =>
      intro w  h1 h2
      refine v_iload hC (pc := 17) 0 rfl dX0_driftBy_17 ?_
      refine v_aload_n hC (pc := 19) (k := 0) 4 rfl dX0_driftBy_19 ?_
      refine v_getI hC (pc := 20) dX0_driftBy_20 fl_X0_59 rfl (by first | rfl | exact ok_c hq rfl | exact ok_w hq hw | exact ok_w (by omega) (by omega) | exact ok_s (by omega) (by omega) | exact ok_c (by omega) rfl | assumption) rfl (by decide) (by decide) ?_
      refine v_icmp_ge hC (pc := 23) (tgt := 103) dX0_driftBy_23 (by decide) (fun c_23 => ?_) (fun c_23 => ?_)
      · skip
        have hi : w = nW := lp_ex (by rw [drgH_f _ _ _ _ (by simp)] at c_23; rw [← hu]; exact c_23) h1 (by omega)
        subst hi
        exact k9
      · skip
        have hi : w < nW := lp_in (by rw [drgH_f _ _ _ _ (by simp)] at c_23; rw [← hu]; exact c_23) h1 (by omega)
        refine v_iload_n hC (pc := 26) (k := 3) 1 rfl dX0_driftBy_26 ?_
        refine v_ldc hC (pc := 27) k_X0_126 dX0_driftBy_27 ?_
        refine v_imul hC (pc := 29) dX0_driftBy_29 ?_
        refine v_sipush hC (pc := 30) (v := 12345) (by decide +kernel) dX0_driftBy_30 ?_
        refine v_iadd hC (pc := 33) dX0_driftBy_33 ?_
        show V X G 9 34 _ (vi (sdN (w + 1) s0) :: _) _
        refine v_istore_n hC (pc := 34) (l' := [(3, _), (6, _), (5, _), (4, _), (0, _), (1, _), (2, _)]) dX0_driftBy_34 (by decide) rfl ?_
        refine v_iload_n hC (pc := 35) (k := 3) 0 rfl dX0_driftBy_35 ?_
        refine v_bipush hC (pc := 36) (v := 16) (by decide +kernel) dX0_driftBy_36 ?_
        refine v_iushr hC (pc := 38) dX0_driftBy_38 ?_
        refine v_sipush hC (pc := 39) (v := 32767) (by decide +kernel) dX0_driftBy_39 ?_
        refine v_iand hC (pc := 42) dX0_driftBy_42 ?_
        refine v_iconst hC (pc := 43) (v := 3) (by decide) dX0_driftBy_43 ?_
        refine v_irem hC (pc := 44) (by decide) dX0_driftBy_44 ?_
        show V X G 9 45 _ (vi (sdG (sdN (w + 1) s0)) :: _) _
        refine v_istore hC (pc := 45) (l' := [(7, _), (3, _), (6, _), (5, _), (4, _), (0, _), (1, _), (2, _)]) dX0_driftBy_45 (by decide) rfl ?_
        refine v_aload_n hC (pc := 47) (k := 0) 5 rfl dX0_driftBy_47 ?_
        refine v_getR hC (pc := 48) dX0_driftBy_48 fl_X0_17 rfl (by first | rfl | exact ok_c hq rfl | exact ok_w hq hw | exact ok_w (by omega) (by omega) | exact ok_s (by omega) (by omega) | exact ok_c (by omega) rfl | assumption) rfl (by decide) (by decide) rfl ?_
        refine v_iload hC (pc := 51) 2 rfl dX0_driftBy_51 ?_
        refine v_aald hC (pc := 53) 5 dX0_driftBy_53 rfl (by decide) (fun _ => rfl) (by first | rfl | exact ok_c hq rfl | exact ok_w hq hw | exact ok_w (by omega) (by omega) | exact ok_s (by omega) (by omega) | exact ok_c (by omega) rfl | assumption) (vp_nat (by omega) (by decide)) (by rw [nI_clamp (by omega)]; rfl) ?_
        refine v_astore hC (pc := 54) (l' := [(8, _), (7, _), (3, _), (6, _), (5, _), (4, _), (0, _), (1, _), (2, _)]) dX0_driftBy_54 (by decide) rfl ?_
        refine v_aload_n hC (pc := 56) (k := 0) 6 rfl dX0_driftBy_56 ?_
        refine v_getR hC (pc := 57) dX0_driftBy_57 fl_X0_37 rfl (by first | rfl | exact ok_c hq rfl | exact ok_w hq hw | exact ok_w (by omega) (by omega) | exact ok_s (by omega) (by omega) | exact ok_c (by omega) rfl | assumption) rfl (by decide) (by decide) rfl ?_
        refine v_iload hC (pc := 60) 3 rfl dX0_driftBy_60 ?_
        refine v_iload hC (pc := 62) 1 rfl dX0_driftBy_62 ?_
        refine v_iconst hC (pc := 64) (v := 2) (by decide) dX0_driftBy_64 ?_
        refine v_icmp_ne hC (pc := 65) (tgt := 76) dX0_driftBy_65 (by decide) (fun c_65 => ?_) (fun c_65 => ?_)
        · skip
          refine v_aload_n hC (pc := 76) (k := 0) 6 rfl dX0_driftBy_76 ?_
          refine v_aload hC (pc := 77) 0 rfl dX0_driftBy_77 ?_
          refine v_getI hC (pc := 79) dX0_driftBy_79 fl_X0_75 rfl (by first | rfl | exact ok_c hq rfl | exact ok_w hq hw | exact ok_w (by omega) (by omega) | exact ok_s (by omega) (by omega) | exact ok_c (by omega) rfl | assumption) rfl (by decide) (by decide) ?_
          refine v_iload hC (pc := 82) 1 rfl dX0_driftBy_82 ?_
          refine v_aload_n hC (pc := 84) (k := 0) 6 rfl dX0_driftBy_84 ?_
          refine v_getI hC (pc := 85) dX0_driftBy_85 fl_X0_53 rfl (by first | rfl | exact ok_c hq rfl | exact ok_w hq hw | exact ok_w (by omega) (by omega) | exact ok_s (by omega) (by omega) | exact ok_c (by omega) rfl | assumption) rfl (by decide) (by decide) ?_
          refine v_aload hC (pc := 88) 0 rfl dX0_driftBy_88 ?_
          refine v_getZ hC (pc := 90) dX0_driftBy_90 fl_X0_111 rfl (by first | rfl | exact ok_c hq rfl | exact ok_w hq hw | exact ok_w (by omega) (by omega) | exact ok_s (by omega) (by omega) | exact ok_c (by omega) rfl | assumption) rfl (by decide) (by decide) ?_
          refine v_callV hC (pc := 93) (As := [_, _, _, _]) dX0_driftBy_93 rfl (t_comesTo _ _ (d := d - 1) (by omega) hq _ _ _ _ _) cv_X0_104 rfl (by decide) rfl (by first | rfl | exact ok_c hq rfl | exact ok_w hq hw | exact ok_w (by omega) (by omega) | exact ok_s (by omega) (by omega) | exact ok_c (by omega) rfl | assumption) (Nat.le_of_ble_eq_true rfl) (by omega) (fun r h' hr => ?_)
          obtain ⟨rfl, rfl⟩ := hr
          show V _ _ _ (93 + 3) _ (_ :: _) _
          refine v_iast hC (pc := 96) dX0_driftBy_96 rfl (by first | rfl | exact ok_c hq rfl | exact ok_w hq hw | exact ok_w (by omega) (by omega) | exact ok_s (by omega) (by omega) | exact ok_c (by omega) rfl | assumption) (vp_nat (by omega) (by decide)) ?_
          refine v_heap (show _ = drgH u q (w + 1) s0 from ?_) ?_
          · rw [← drgH_s]
            rw [nI_clamp (show w < 2 ^ 31 by omega)]
            congr 1
            generalize sdG (sdN (w + 1) s0) = g at *
            unfold drG
            rw [drgH_f u q w s0 (i := (6, q, w)) (by simp)]
            first | (rw [if_pos (by first | exact c_65 | exact Classical.not_not.mp c_65)]; done) | (rw [if_neg (by first | exact c_65), drgH_f u q w s0 (i := (0, q, 6)) (by simp), drgH_f u q w s0 (i := (0, q, 0)) (by simp)])
          refine v_iinc hC (pc := 97) (l' := [(6, _), (8, _), (7, _), (3, _), (5, _), (4, _), (0, _), (1, _), (2, _)]) 3 (v := nI (w + 1)) dX0_driftBy_97 rfl (nI_inc w) (by decide) rfl ?_
          refine v_goto hC (pc := 100) (tgt := 17) dX0_driftBy_100 (by decide) ?_
          refine v_loc (l' := [(6, _), (3, _), (5, _), (4, _), (0, _), (1, _), (2, _)]) [0, 3, 4, 5, 6, 7, 8] rfl ?_
          exact ih (w + 1) (by omega) (by omega)
        · skip
          refine v_aload hC (pc := 68) 0 rfl dX0_driftBy_68 ?_
          refine v_getI hC (pc := 70) dX0_driftBy_70 fl_X0_75 rfl (by first | rfl | exact ok_c hq rfl | exact ok_w hq hw | exact ok_w (by omega) (by omega) | exact ok_s (by omega) (by omega) | exact ok_c (by omega) rfl | assumption) rfl (by decide) (by decide) ?_
          refine v_goto hC (pc := 73) (tgt := 96) dX0_driftBy_73 (by decide) ?_
          refine v_iast hC (pc := 96) dX0_driftBy_96 rfl (by first | rfl | exact ok_c hq rfl | exact ok_w hq hw | exact ok_w (by omega) (by omega) | exact ok_s (by omega) (by omega) | exact ok_c (by omega) rfl | assumption) (vp_nat (by omega) (by decide)) ?_
          refine v_heap (show _ = drgH u q (w + 1) s0 from ?_) ?_
          · rw [← drgH_s]
            rw [nI_clamp (show w < 2 ^ 31 by omega)]
            congr 1
            generalize sdG (sdN (w + 1) s0) = g at *
            unfold drG
            rw [drgH_f u q w s0 (i := (6, q, w)) (by simp)]
            first | (rw [if_pos (by first | exact c_65 | exact Classical.not_not.mp c_65)]; done) | (rw [if_neg (by first | exact c_65), drgH_f u q w s0 (i := (0, q, 6)) (by simp), drgH_f u q w s0 (i := (0, q, 0)) (by simp)])
          refine v_iinc hC (pc := 97) (l' := [(6, _), (8, _), (7, _), (3, _), (5, _), (4, _), (0, _), (1, _), (2, _)]) 3 (v := nI (w + 1)) dX0_driftBy_97 rfl (nI_inc w) (by decide) rfl ?_
          refine v_goto hC (pc := 100) (tgt := 17) dX0_driftBy_100 (by decide) ?_
          refine v_loc (l' := [(6, _), (3, _), (5, _), (4, _), (0, _), (1, _), (2, _)]) [0, 3, 4, 5, 6, 7, 8] rfl ?_
          exact ih (w + 1) (by omega) (by omega)
  have outer : ∀ (n i : Nat) (e : HP × Int32 × Int32), i ≤ N → N + 1 ≤ i + n → e = drF q nW i (h, 0, sd) → V X G 9 8 [(5, vi (nI i)), (4, vi e.2.1), (3, vi e.2.2), (0, vr (0, q, 0)), (1, vi sd), (2, vi (nI N))] [] (e.1) := by
    intro n
    induction n with
    | zero => intro i e h1 h2; exact absurd h2 (by omega)
    | succ n ih =>
      intro i e h1 h2 ha
      have he := ha
      have hu : e.1.1 (0, q, 0) 4 = nI nW := by rw [he, drF_w]; exact hnw
      refine v_iload hC (pc := 8) 0 rfl dX0_driftBy_8 ?_
      refine v_iload_n hC (pc := 10) (k := 2) 5 rfl dX0_driftBy_10 ?_
      refine v_icmp_ge hC (pc := 11) (tgt := 118) dX0_driftBy_11 (by decide) (fun c_11 => ?_) (fun c_11 => ?_)
      · skip
        have hi : i = N := lp_ex (c_11) h1 (by omega)
        refine v_iload hC (pc := 118) 1 rfl dX0_driftBy_118 ?_
        refine v_iret hC hX (pc := 120) dX0_driftBy_120 ?_
        subst hi
        exact ⟨by rw [he], by rw [he]⟩
      · skip
        have hi : i < N := lp_in (c_11) h1 (by omega)
        refine v_iconst hC (pc := 14) (v := 0) (by decide) dX0_driftBy_14 ?_
        refine v_istore hC (pc := 15) (l' := [(6, _), (5, _), (4, _), (3, _), (0, _), (1, _), (2, _)]) dX0_driftBy_15 (by decide) rfl ?_
        refine v_loc (l' := [(6, _), (3, _), (5, _), (4, _), (0, _), (1, _), (2, _)]) [0, 3, 1, 2, 4, 5, 6] rfl ?_
        refine v_heap (drgH_0 e.1 q e.2.2).symm ?_
        refine inner e.1 e.2.2 _ _ _ _ hu ?_ (nW + 1) 0 (Nat.zero_le _) (by omega)
        refine v_iload hC (pc := 103) 3 rfl dX0_driftBy_103 ?_
        refine v_aload_n hC (pc := 105) (k := 0) 4 rfl dX0_driftBy_105 ?_
        refine v_callV hC (pc := 106) (As := []) dX0_driftBy_106 rfl (t_endHour _ _ (d := d - 1) (by omega) hq _ hn4 (by rw [drgH_f _ _ _ _ (by simp)]; exact hu)) cv_X0_123 rfl (by decide) rfl (by first | rfl | exact ok_c hq rfl | exact ok_w hq hw | exact ok_w (by omega) (by omega) | exact ok_s (by omega) (by omega) | exact ok_c (by omega) rfl | assumption) (Nat.le_of_ble_eq_true rfl) (by omega) (fun r h' hr => ?_)
        obtain ⟨rfl, rfl⟩ := hr
        have eq1 : ccF (fun w => (drgH e.1 q nW e.2.2).1 (6, q, w) 0) ((drgH e.1 q nW e.2.2).1 (0, q, 13)) nW = ccF (fun w => e.1.1 (6, q, w) 0) (fun k => drG e.1 q k (sdG (sdN (k + 1) e.2.2))) nW := ccF_cong (fun v hv => by rw [drgH_f _ _ _ _ (by simp)]) (fun v hv => drgH_g _ _ _ _ _ hv)
        rw [eq1]
        show V _ _ _ (106 + 3) _ (_ :: _) _
        refine v_iadd hC (pc := 109) dX0_driftBy_109 ?_
        refine v_istore hC (pc := 110) (l' := [(4, _), (6, _), (3, _), (5, _), (0, _), (1, _), (2, _)]) dX0_driftBy_110 (by decide) rfl ?_
        refine v_iinc hC (pc := 112) (l' := [(5, _), (4, _), (6, _), (3, _), (0, _), (1, _), (2, _)]) 3 (v := nI (i + 1)) dX0_driftBy_112 rfl (nI_inc i) (by decide) rfl ?_
        refine v_goto hC (pc := 115) (tgt := 8) dX0_driftBy_115 (by decide) ?_
        refine v_loc (l' := [(5, _), (4, _), (3, _), (0, _), (1, _), (2, _)]) [0, 1, 3, 4, 5, 6] rfl ?_
        refine ih (i + 1) (drS q nW e) (by omega) (by omega) (by rw [drF, itN_s, ← drF, ← he])
  refine v_iload_n hC (pc := 0) (k := 1) 1 rfl dX0_driftBy_0 ?_
  refine v_istore_n hC (pc := 1) (l' := [(3, _), (0, _), (1, _), (2, _)]) dX0_driftBy_1 (by decide) rfl ?_
  refine v_iconst hC (pc := 2) (v := 0) (by decide) dX0_driftBy_2 ?_
  refine v_istore hC (pc := 3) (l' := [(4, _), (3, _), (0, _), (1, _), (2, _)]) dX0_driftBy_3 (by decide) rfl ?_
  refine v_iconst hC (pc := 5) (v := 0) (by decide) dX0_driftBy_5 ?_
  refine v_istore hC (pc := 6) (l' := [(5, _), (4, _), (3, _), (0, _), (1, _), (2, _)]) dX0_driftBy_6 (by decide) rfl ?_
  exact outer (N + 1) 0 (h, 0, sd) (Nat.zero_le _) (by omega) rfl

