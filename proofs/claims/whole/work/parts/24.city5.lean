/-! CITY: what was seen, ways; rows filled and copied -/
/-- whether the k-th that was seen is so of a walker who begins at c and keeps, or not -/
def aseP (h : HP) (q w : Nat) (c kp : Int32) (k : Nat) : Prop := h.1 (0, q, 9) k = nI w → bI (itN (fun i c => nxtH h q w c (nI i) kp) (h.1 (0, q, 10) k).toNatClampNeg c = h.1 (0, q, 11) k) = h.1 (0, q, 12) k
set_option maxRecDepth 20000 in
set_option maxHeartbeats 2000000 in
theorem t_isAsSeen (l9 : Launch) (G : WT) {d : Nat} (hd : 6 ≤ d) {q w : Nat} (hq : q < 5) (hw : w < 4) (h : HP) {nS : Nat} (hs8 : nS ≤ 8) (hns : h.1 (0, q, 0) 5 = nI nS) (hsh : ∀ k, k < nS → (h.1 (0, q, 10) k).toNatClampNeg ≤ 10) (hsh2 : ∀ k, k < nS → h.1 (0, q, 10) k = nI (h.1 (0, q, 10) k).toNatClampNeg) (c kp : Int32) : MS l9 G yX0_isAsSeen cX0_isAsSeen 6 (some .boolean) d [vr (0, q, 0), vi (nI w), vi c, vi kp] h (fun r h1 => h1 = h ∧ r = some (vi (bP (∀ k, k < nS → aseP h q w c kp k)))) := by
  refine MS_of (by decide +kernel) (Nat.le_of_ble_eq_true rfl) (fun X hC hX => ?_)
  show V X G 6 0 _ [] _
  have loop : ∀ (n k : Nat) , k ≤ nS → nS + 1 ≤ k + n → (∀ j, j < k → aseP h q w c kp j) → V X G 6 3 [(4, vi (nI k)), (0, vr (0, q, 0)), (1, vi (nI w)), (2, vi c), (3, vi kp)] [] (h) := by
    intro n
    induction n with
    | zero => intro k  h1 h2; exact absurd h2 (by omega)
    | succ n ih =>
      intro k  h1 h2 ha
      refine v_iload hC (pc := 3) 0 rfl dX0_isAsSeen_3 ?_
      refine v_aload_n hC (pc := 5) (k := 0) 1 rfl dX0_isAsSeen_5 ?_
      refine v_getI hC (pc := 6) dX0_isAsSeen_6 fl_X0_62 rfl (by first | rfl | exact ok_c hq rfl | exact ok_w hq hw | exact ok_w (by omega) (by omega) | exact ok_s (by omega) (by omega) | exact ok_c (by omega) rfl | assumption) rfl (by decide) (by decide) ?_
      refine v_icmp_ge hC (pc := 9) (tgt := 82) dX0_isAsSeen_9 (by decide) (fun c_9 => ?_) (fun c_9 => ?_)
      · skip
        have hi : k = nS := lp_ex (by rw [← hns]; exact c_9) h1 (by omega)
        refine v_iconst hC (pc := 82) (v := 1) (by decide) dX0_isAsSeen_82 ?_
        refine v_zret hC hX (pc := 83) dX0_isAsSeen_83 (nar_b (by first | exact Or.inl rfl | exact Or.inr rfl | exact bI_01 _)) ?_
        subst hi
        exact ⟨rfl, by rw [bP_t ha]⟩
      · skip
        have hi : k < nS := lp_in (by rw [← hns]; exact c_9) h1 (by omega)
        refine v_aload_n hC (pc := 12) (k := 0) 1 rfl dX0_isAsSeen_12 ?_
        refine v_getR hC (pc := 13) dX0_isAsSeen_13 fl_X0_25 rfl (by first | rfl | exact ok_c hq rfl | exact ok_w hq hw | exact ok_w (by omega) (by omega) | exact ok_s (by omega) (by omega) | exact ok_c (by omega) rfl | assumption) rfl (by decide) (by decide) rfl ?_
        refine v_iload hC (pc := 16) 0 rfl dX0_isAsSeen_16 ?_
        refine v_iald hC (pc := 18) dX0_isAsSeen_18 rfl (by first | rfl | exact ok_c hq rfl | exact ok_w hq hw | exact ok_w (by omega) (by omega) | exact ok_s (by omega) (by omega) | exact ok_c (by omega) rfl | assumption) (vp_nat (by omega) (by decide)) ?_
        refine v_iload_n hC (pc := 19) (k := 1) 2 rfl dX0_isAsSeen_19 ?_
        rw [nI_clamp (show k < 2 ^ 31 by omega)]
        refine v_icmp_ne hC (pc := 20) (tgt := 76) dX0_isAsSeen_20 (by decide) (fun c_20 => ?_) (fun c_20 => ?_)
        · skip
          refine v_iinc hC (pc := 76) (l' := [(4, _), (0, _), (1, _), (2, _), (3, _)]) 0 (v := nI (k + 1)) dX0_isAsSeen_76 rfl (nI_inc k) (by decide) rfl ?_
          refine v_goto hC (pc := 79) (tgt := 3) dX0_isAsSeen_79 (by decide) ?_
          exact ih (k + 1) (by omega) (by omega) (fun j hj => by
              rcases Nat.lt_or_ge j k with hjk | hjk
              · exact ha j hjk
              · have e : j = k := by omega
                subst e
                first | exact fun z => absurd z c_20 | (intro z; first | (rw [bI_t c_53, ← c_71]; rfl) | (rw [bI_f c_53, ← c_71]; rfl)))
        · skip
          refine v_aload_n hC (pc := 23) (k := 0) 1 rfl dX0_isAsSeen_23 ?_
          refine v_aload_n hC (pc := 24) (k := 0) 1 rfl dX0_isAsSeen_24 ?_
          refine v_getR hC (pc := 25) dX0_isAsSeen_25 fl_X0_17 rfl (by first | rfl | exact ok_c hq rfl | exact ok_w hq hw | exact ok_w (by omega) (by omega) | exact ok_s (by omega) (by omega) | exact ok_c (by omega) rfl | assumption) rfl (by decide) (by decide) rfl ?_
          refine v_iload_n hC (pc := 28) (k := 1) 2 rfl dX0_isAsSeen_28 ?_
          refine v_aald hC (pc := 29) 5 dX0_isAsSeen_29 rfl (by decide) (fun _ => rfl) (by first | rfl | exact ok_c hq rfl | exact ok_w hq hw | exact ok_w (by omega) (by omega) | exact ok_s (by omega) (by omega) | exact ok_c (by omega) rfl | assumption) (vp_nat (by omega) (by decide)) (by rw [nI_clamp (by omega)]; rfl) ?_
          refine v_iload_n hC (pc := 30) (k := 2) 3 rfl dX0_isAsSeen_30 ?_
          refine v_aload_n hC (pc := 31) (k := 0) 1 rfl dX0_isAsSeen_31 ?_
          refine v_getR hC (pc := 32) dX0_isAsSeen_32 fl_X0_28 rfl (by first | rfl | exact ok_c hq rfl | exact ok_w hq hw | exact ok_w (by omega) (by omega) | exact ok_s (by omega) (by omega) | exact ok_c (by omega) rfl | assumption) rfl (by decide) (by decide) rfl ?_
          refine v_iload hC (pc := 35) 0 rfl dX0_isAsSeen_35 ?_
          refine v_iald hC (pc := 37) dX0_isAsSeen_37 rfl (by first | rfl | exact ok_c hq rfl | exact ok_w hq hw | exact ok_w (by omega) (by omega) | exact ok_s (by omega) (by omega) | exact ok_c (by omega) rfl | assumption) (vp_nat (by omega) (by decide)) ?_
          refine v_iload_n hC (pc := 38) (k := 3) 4 rfl dX0_isAsSeen_38 ?_
          rw [nI_clamp (show k < 2 ^ 31 by omega), (hsh2 k hi)]
          refine v_callV hC (pc := 39) (As := [_, _, _, _]) dX0_isAsSeen_39 rfl (t_placeBehind _ _ (d := d - 1) (by omega) hq hw _ _ _ (show (h.1 (0, q, 10) k).toNatClampNeg < 1000 by have := hsh k hi; omega)) cv_X0_144 rfl (by decide) rfl (by first | rfl | exact ok_c hq rfl | exact ok_w hq hw | exact ok_w (by omega) (by omega) | exact ok_s (by omega) (by omega) | exact ok_c (by omega) rfl | assumption) (Nat.le_of_ble_eq_true rfl) (by omega) (fun r h' hr => ?_)
          obtain ⟨rfl, rfl⟩ := hr
          show V _ _ _ (39 + 3) _ (_ :: _) _
          refine v_istore hC (pc := 42) (l' := [(5, _), (4, _), (0, _), (1, _), (2, _), (3, _)]) dX0_isAsSeen_42 (by decide) rfl ?_
          refine v_iload hC (pc := 44) 0 rfl dX0_isAsSeen_44 ?_
          refine v_aload_n hC (pc := 46) (k := 0) 2 rfl dX0_isAsSeen_46 ?_
          refine v_getR hC (pc := 47) dX0_isAsSeen_47 fl_X0_31 rfl (by first | rfl | exact ok_c hq rfl | exact ok_w hq hw | exact ok_w (by omega) (by omega) | exact ok_s (by omega) (by omega) | exact ok_c (by omega) rfl | assumption) rfl (by decide) (by decide) rfl ?_
          refine v_iload hC (pc := 50) 1 rfl dX0_isAsSeen_50 ?_
          refine v_iald hC (pc := 52) dX0_isAsSeen_52 rfl (by first | rfl | exact ok_c hq rfl | exact ok_w hq hw | exact ok_w (by omega) (by omega) | exact ok_s (by omega) (by omega) | exact ok_c (by omega) rfl | assumption) (vp_nat (by omega) (by decide)) ?_
          rw [nI_clamp (show k < 2 ^ 31 by omega)]
          refine v_icmp_ne hC (pc := 53) (tgt := 60) dX0_isAsSeen_53 (by decide) (fun c_53 => ?_) (fun c_53 => ?_)
          · skip
            refine v_iconst hC (pc := 60) (v := 0) (by decide) dX0_isAsSeen_60 ?_
            refine v_callN hC (pc := 61) (As := [_]) dX0_isAsSeen_61 rfl (t_oneIf _ _ (d := d - 1) (by omega) _ _) cn_X0_140 (Nat.le_of_ble_eq_true rfl) (by omega) (fun r h' hr => ?_)
            obtain ⟨rfl, rfl⟩ := hr
            show V _ _ _ (61 + 3) _ (_ :: _) _
            refine v_aload_n hC (pc := 64) (k := 0) 2 rfl dX0_isAsSeen_64 ?_
            refine v_getR hC (pc := 65) dX0_isAsSeen_65 fl_X0_34 rfl (by first | rfl | exact ok_c hq rfl | exact ok_w hq hw | exact ok_w (by omega) (by omega) | exact ok_s (by omega) (by omega) | exact ok_c (by omega) rfl | assumption) rfl (by decide) (by decide) rfl ?_
            refine v_iload hC (pc := 68) 1 rfl dX0_isAsSeen_68 ?_
            refine v_iald hC (pc := 70) dX0_isAsSeen_70 rfl (by first | rfl | exact ok_c hq rfl | exact ok_w hq hw | exact ok_w (by omega) (by omega) | exact ok_s (by omega) (by omega) | exact ok_c (by omega) rfl | assumption) (vp_nat (by omega) (by decide)) ?_
            rw [nI_clamp (show k < 2 ^ 31 by omega)]
            refine v_icmp_eq hC (pc := 71) (tgt := 76) dX0_isAsSeen_71 (by decide) (fun c_71 => ?_) (fun c_71 => ?_)
            · skip
              refine v_iinc hC (pc := 76) (l' := [(4, _), (5, _), (0, _), (1, _), (2, _), (3, _)]) 1 (v := nI (k + 1)) dX0_isAsSeen_76 rfl (nI_inc k) (by decide) rfl ?_
              refine v_goto hC (pc := 79) (tgt := 3) dX0_isAsSeen_79 (by decide) ?_
              refine v_loc (l' := [(4, _), (0, _), (1, _), (2, _), (3, _)]) [0, 2, 3, 4, 5] rfl ?_
              exact ih (k + 1) (by omega) (by omega) (fun j hj => by
                  rcases Nat.lt_or_ge j k with hjk | hjk
                  · exact ha j hjk
                  · have e : j = k := by omega
                    subst e
                    first | exact fun z => absurd z c_20 | (intro z; first | (rw [bI_t c_53, ← c_71]; rfl) | (rw [bI_f c_53, ← c_71]; rfl)))
            · skip
              refine v_iconst hC (pc := 74) (v := 0) (by decide) dX0_isAsSeen_74 ?_
              refine v_zret hC hX (pc := 75) dX0_isAsSeen_75 (nar_b (by first | exact Or.inl rfl | exact Or.inr rfl | exact bI_01 _)) ?_
              refine ⟨rfl, ?_⟩
              rw [bP_f (fun z => c_71 (by
                have e := z k hi c_20
                rw [← e]
                first | (rw [bI_t c_53]; rfl) | (rw [bI_f c_53]; rfl)))]
          · skip
            refine v_iconst hC (pc := 56) (v := 1) (by decide) dX0_isAsSeen_56 ?_
            refine v_goto hC (pc := 57) (tgt := 61) dX0_isAsSeen_57 (by decide) ?_
            refine v_callN hC (pc := 61) (As := [_]) dX0_isAsSeen_61 rfl (t_oneIf _ _ (d := d - 1) (by omega) _ _) cn_X0_140 (Nat.le_of_ble_eq_true rfl) (by omega) (fun r h' hr => ?_)
            obtain ⟨rfl, rfl⟩ := hr
            show V _ _ _ (61 + 3) _ (_ :: _) _
            refine v_aload_n hC (pc := 64) (k := 0) 2 rfl dX0_isAsSeen_64 ?_
            refine v_getR hC (pc := 65) dX0_isAsSeen_65 fl_X0_34 rfl (by first | rfl | exact ok_c hq rfl | exact ok_w hq hw | exact ok_w (by omega) (by omega) | exact ok_s (by omega) (by omega) | exact ok_c (by omega) rfl | assumption) rfl (by decide) (by decide) rfl ?_
            refine v_iload hC (pc := 68) 1 rfl dX0_isAsSeen_68 ?_
            refine v_iald hC (pc := 70) dX0_isAsSeen_70 rfl (by first | rfl | exact ok_c hq rfl | exact ok_w hq hw | exact ok_w (by omega) (by omega) | exact ok_s (by omega) (by omega) | exact ok_c (by omega) rfl | assumption) (vp_nat (by omega) (by decide)) ?_
            rw [nI_clamp (show k < 2 ^ 31 by omega)]
            refine v_icmp_eq hC (pc := 71) (tgt := 76) dX0_isAsSeen_71 (by decide) (fun c_71 => ?_) (fun c_71 => ?_)
            · skip
              refine v_iinc hC (pc := 76) (l' := [(4, _), (5, _), (0, _), (1, _), (2, _), (3, _)]) 1 (v := nI (k + 1)) dX0_isAsSeen_76 rfl (nI_inc k) (by decide) rfl ?_
              refine v_goto hC (pc := 79) (tgt := 3) dX0_isAsSeen_79 (by decide) ?_
              refine v_loc (l' := [(4, _), (0, _), (1, _), (2, _), (3, _)]) [0, 2, 3, 4, 5] rfl ?_
              exact ih (k + 1) (by omega) (by omega) (fun j hj => by
                  rcases Nat.lt_or_ge j k with hjk | hjk
                  · exact ha j hjk
                  · have e : j = k := by omega
                    subst e
                    first | exact fun z => absurd z c_20 | (intro z; first | (rw [bI_t c_53, ← c_71]; rfl) | (rw [bI_f c_53, ← c_71]; rfl)))
            · skip
              refine v_iconst hC (pc := 74) (v := 0) (by decide) dX0_isAsSeen_74 ?_
              refine v_zret hC hX (pc := 75) dX0_isAsSeen_75 (nar_b (by first | exact Or.inl rfl | exact Or.inr rfl | exact bI_01 _)) ?_
              refine ⟨rfl, ?_⟩
              rw [bP_f (fun z => c_71 (by
                have e := z k hi c_20
                rw [← e]
                first | (rw [bI_t c_53]; rfl) | (rw [bI_f c_53]; rfl)))]
  refine v_iconst hC (pc := 0) (v := 0) (by decide) dX0_isAsSeen_0 ?_
  refine v_istore hC (pc := 1) (l' := [(4, _), (0, _), (1, _), (2, _), (3, _)]) dX0_isAsSeen_1 (by decide) rfl ?_
  exact loop (nS + 1) 0 (Nat.zero_le _) (by omega) (fun j hj => absurd hj (Nat.not_lt_zero j))

/-- a letter more: from some corners to some more -/
def witS (S : Nat → Int32) (K : Int32) (b : Int32) (c : Nat) (m : Int32) : Int32 := if (b >>> (nI c &&& 31)) &&& 1 = 1 then m ||| (bitF K (strF S (2 * nI c + 0)) ||| bitF K (strF S (2 * nI c + 1))) else m
def witW (S : Nat → Int32) (nC : Nat) (b : Int32) : Int32 := itN (witS S (nI nC) b) nC b
def witF (S : Nat → Int32) (nC n : Nat) (b : Int32) : Int32 := itN (fun _ b => witW S nC b) n b
set_option maxRecDepth 20000 in
set_option maxHeartbeats 2000000 in
theorem t_within (l9 : Launch) (G : WT) {d : Nat} (hd : 3 ≤ d) {q : Nat} (hq : q < 5) (h : HP) {nC : Nat} (hn8 : nC ≤ 8) (hnc : h.1 (0, q, 0) 0 = nI nC) (f : Int32) {N : Nat} (hN : N < 1000) : MS l9 G yX0_within cX0_within 7 (some .int) d [vr (0, q, 0), vi f, vi (nI N)] h (fun r h1 => h1 = h ∧ r = some (vi (witF (h.1 (0, q, 6)) nC N f))) := by
  refine MS_of (by decide +kernel) (Nat.le_of_ble_eq_true rfl) (fun X hC hX => ?_)
  show V X G 7 0 _ [] _
  have inner : ∀ (i : Nat) (b : Int32), (∀ m : Int32, m = witW (h.1 (0, q, 6)) nC b → V X G 7 70 [(6, vi (nI nC)), (5, vi m), (4, vi (nI i)), (3, vi b), (0, vr (0, q, 0)), (1, vi f), (2, vi (nI N))] [] h) → ∀ (n c : Nat) (m : Int32), c ≤ nC → nC + 1 ≤ c + n → m = itN (witS (h.1 (0, q, 6)) (nI nC) b) c b → V X G 7 17 [(6, vi (nI c)), (5, vi m), (4, vi (nI i)), (3, vi b), (0, vr (0, q, 0)), (1, vi f), (2, vi (nI N))] [] (h) := by
    intro i b k9 n
    induction n with
    | zero => intro c m h1 h2; exact absurd h2 (by omega)
    | succ n ih =>
      intro c m h1 h2 ha
      refine v_iload hC (pc := 17) 0 rfl dX0_within_17 ?_
      refine v_aload_n hC (pc := 19) (k := 0) 4 rfl dX0_within_19 ?_
      refine v_getI hC (pc := 20) dX0_within_20 fl_X0_40 rfl (by first | rfl | exact ok_c hq rfl | exact ok_w hq hw | exact ok_w (by omega) (by omega) | exact ok_s (by omega) (by omega) | exact ok_c (by omega) rfl | assumption) rfl (by decide) (by decide) ?_
      refine v_icmp_ge hC (pc := 23) (tgt := 70) dX0_within_23 (by decide) (fun c_23 => ?_) (fun c_23 => ?_)
      · skip
        have hi : c = nC := lp_ex (by rw [← hnc]; exact c_23) h1 (by omega)
        subst hi
        exact k9 m ha
      · skip
        have hi : c < nC := lp_in (by rw [← hnc]; exact c_23) h1 (by omega)
        refine v_iload_n hC (pc := 26) (k := 3) 3 rfl dX0_within_26 ?_
        refine v_iload hC (pc := 27) 0 rfl dX0_within_27 ?_
        refine v_ishr hC (pc := 29) dX0_within_29 ?_
        refine v_iconst hC (pc := 30) (v := 1) (by decide) dX0_within_30 ?_
        refine v_iand hC (pc := 31) dX0_within_31 ?_
        refine v_iconst hC (pc := 32) (v := 1) (by decide) dX0_within_32 ?_
        refine v_icmp_ne hC (pc := 33) (tgt := 64) dX0_within_33 (by decide) (fun c_33 => ?_) (fun c_33 => ?_)
        · skip
          refine v_iinc hC (pc := 64) (l' := [(6, _), (5, _), (4, _), (3, _), (0, _), (1, _), (2, _)]) 0 (v := nI (c + 1)) dX0_within_64 rfl (nI_inc c) (by decide) rfl ?_
          refine v_goto hC (pc := 67) (tgt := 17) dX0_within_67 (by decide) ?_
          exact ih (c + 1) _ (by omega) (by omega) (by rw [itN_s, ← ha, witS]; first | (rw [if_pos c_33, hnc]; done) | (rw [if_neg c_33]; done))
        · skip
          refine v_iload hC (pc := 36) 1 rfl dX0_within_36 ?_
          refine v_aload_n hC (pc := 38) (k := 0) 4 rfl dX0_within_38 ?_
          refine v_aload_n hC (pc := 39) (k := 0) 4 rfl dX0_within_39 ?_
          refine v_iload hC (pc := 40) 0 rfl dX0_within_40 ?_
          refine v_iconst hC (pc := 42) (v := 0) (by decide) dX0_within_42 ?_
          refine v_callV hC (pc := 43) (As := [_, _]) dX0_within_43 rfl (t_streetOf _ _ (d := d - 1) (by omega) hq _ _ _) cv_X0_85 rfl (by decide) rfl (by first | rfl | exact ok_c hq rfl | exact ok_w hq hw | exact ok_w (by omega) (by omega) | exact ok_s (by omega) (by omega) | exact ok_c (by omega) rfl | assumption) (Nat.le_of_ble_eq_true rfl) (by omega) (fun r h' hr => ?_)
          obtain ⟨rfl, rfl⟩ := hr
          show V _ _ _ (43 + 3) _ (_ :: _) _
          refine v_callV hC (pc := 46) (As := [_]) dX0_within_46 rfl (t_bitOf _ _ (d := d - 1) (by omega) hq _ _) cv_X0_131 rfl (by decide) rfl (by first | rfl | exact ok_c hq rfl | exact ok_w hq hw | exact ok_w (by omega) (by omega) | exact ok_s (by omega) (by omega) | exact ok_c (by omega) rfl | assumption) (Nat.le_of_ble_eq_true rfl) (by omega) (fun r h' hr => ?_)
          obtain ⟨rfl, rfl⟩ := hr
          show V _ _ _ (46 + 3) _ (_ :: _) _
          refine v_aload_n hC (pc := 49) (k := 0) 4 rfl dX0_within_49 ?_
          refine v_aload_n hC (pc := 50) (k := 0) 4 rfl dX0_within_50 ?_
          refine v_iload hC (pc := 51) 0 rfl dX0_within_51 ?_
          refine v_iconst hC (pc := 53) (v := 1) (by decide) dX0_within_53 ?_
          refine v_callV hC (pc := 54) (As := [_, _]) dX0_within_54 rfl (t_streetOf _ _ (d := d - 1) (by omega) hq _ _ _) cv_X0_85 rfl (by decide) rfl (by first | rfl | exact ok_c hq rfl | exact ok_w hq hw | exact ok_w (by omega) (by omega) | exact ok_s (by omega) (by omega) | exact ok_c (by omega) rfl | assumption) (Nat.le_of_ble_eq_true rfl) (by omega) (fun r h' hr => ?_)
          obtain ⟨rfl, rfl⟩ := hr
          show V _ _ _ (54 + 3) _ (_ :: _) _
          refine v_callV hC (pc := 57) (As := [_]) dX0_within_57 rfl (t_bitOf _ _ (d := d - 1) (by omega) hq _ _) cv_X0_131 rfl (by decide) rfl (by first | rfl | exact ok_c hq rfl | exact ok_w hq hw | exact ok_w (by omega) (by omega) | exact ok_s (by omega) (by omega) | exact ok_c (by omega) rfl | assumption) (Nat.le_of_ble_eq_true rfl) (by omega) (fun r h' hr => ?_)
          obtain ⟨rfl, rfl⟩ := hr
          show V _ _ _ (57 + 3) _ (_ :: _) _
          refine v_ior hC (pc := 60) dX0_within_60 ?_
          refine v_ior hC (pc := 61) dX0_within_61 ?_
          refine v_istore hC (pc := 62) (l' := [(5, _), (6, _), (4, _), (3, _), (0, _), (1, _), (2, _)]) dX0_within_62 (by decide) rfl ?_
          refine v_iinc hC (pc := 64) (l' := [(6, _), (5, _), (4, _), (3, _), (0, _), (1, _), (2, _)]) 1 (v := nI (c + 1)) dX0_within_64 rfl (nI_inc c) (by decide) rfl ?_
          refine v_goto hC (pc := 67) (tgt := 17) dX0_within_67 (by decide) ?_
          exact ih (c + 1) _ (by omega) (by omega) (by rw [itN_s, ← ha, witS]; first | (rw [if_pos c_33, hnc]; done) | (rw [if_neg c_33]; done))
  have outer : ∀ (n i : Nat) (b : Int32), i ≤ N → N + 1 ≤ i + n → b = witF (h.1 (0, q, 6)) nC i f → V X G 7 5 [(4, vi (nI i)), (3, vi b), (0, vr (0, q, 0)), (1, vi f), (2, vi (nI N))] [] (h) := by
    intro n
    induction n with
    | zero => intro i b h1 h2; exact absurd h2 (by omega)
    | succ n ih =>
      intro i b h1 h2 ha
      refine v_iload hC (pc := 5) 0 rfl dX0_within_5 ?_
      refine v_iload_n hC (pc := 7) (k := 2) 4 rfl dX0_within_7 ?_
      refine v_icmp_ge hC (pc := 8) (tgt := 79) dX0_within_8 (by decide) (fun c_8 => ?_) (fun c_8 => ?_)
      · skip
        have hi : i = N := lp_ex (c_8) h1 (by omega)
        refine v_iload_n hC (pc := 79) (k := 3) 1 rfl dX0_within_79 ?_
        refine v_iret hC hX (pc := 80) dX0_within_80 ?_
        subst hi
        exact ⟨rfl, by rw [ha]⟩
      · skip
        have hi : i < N := lp_in (c_8) h1 (by omega)
        refine v_iload_n hC (pc := 11) (k := 3) 1 rfl dX0_within_11 ?_
        refine v_istore hC (pc := 12) (l' := [(5, _), (4, _), (3, _), (0, _), (1, _), (2, _)]) dX0_within_12 (by decide) rfl ?_
        refine v_iconst hC (pc := 14) (v := 0) (by decide) dX0_within_14 ?_
        refine v_istore hC (pc := 15) (l' := [(6, _), (5, _), (4, _), (3, _), (0, _), (1, _), (2, _)]) dX0_within_15 (by decide) rfl ?_
        refine inner i b (fun m hm => ?_) (nC + 1) 0 b (Nat.zero_le _) (by omega) rfl
        refine v_iload hC (pc := 70) 1 rfl dX0_within_70 ?_
        refine v_istore_n hC (pc := 72) (l' := [(3, _), (6, _), (5, _), (4, _), (0, _), (1, _), (2, _)]) dX0_within_72 (by decide) rfl ?_
        refine v_iinc hC (pc := 73) (l' := [(4, _), (3, _), (6, _), (5, _), (0, _), (1, _), (2, _)]) 3 (v := nI (i + 1)) dX0_within_73 rfl (nI_inc i) (by decide) rfl ?_
        refine v_goto hC (pc := 76) (tgt := 5) dX0_within_76 (by decide) ?_
        refine v_loc (l' := [(4, _), (3, _), (0, _), (1, _), (2, _)]) [0, 1, 4, 5, 6] rfl ?_
        refine ih (i + 1) _ (by omega) (by omega) (by rw [hm, witF, itN_s, ← witF, ← ha])
  refine v_iload_n hC (pc := 0) (k := 1) 1 rfl dX0_within_0 ?_
  refine v_istore_n hC (pc := 1) (l' := [(3, _), (0, _), (1, _), (2, _)]) dX0_within_1 (by decide) rfl ?_
  refine v_iconst hC (pc := 2) (v := 0) (by decide) dX0_within_2 ?_
  refine v_istore hC (pc := 3) (l' := [(4, _), (3, _), (0, _), (1, _), (2, _)]) dX0_within_3 (by decide) rfl ?_
  exact outer (N + 1) 0 f (Nat.zero_le _) (by omega) rfl

/-- the least number of letters, up to n, behind which b is among those reached -/
def disF (S : Nat → Int32) (nC : Nat) (a b : Int32) (n : Nat) : Prop := ¬ witF S nC n (bitF (nI nC) a) &&& bitF (nI nC) b = 0
set_option maxRecDepth 20000 in
set_option maxHeartbeats 2000000 in
theorem t_distance (l9 : Launch) (G : WT) {d : Nat} (hd : 4 ≤ d) {q : Nat} (hq : q < 5) (h : HP) {nC : Nat} (hn8 : nC ≤ 8) (hnc : h.1 (0, q, 0) 0 = nI nC) (a g : Int32) : MS l9 G yX0_distance cX0_distance 5 (some .int) d [vr (0, q, 0), vi a, vi g] h (fun r h1 => h1 = h ∧ ((∃ i, i ≤ 24 ∧ r = some (vi (nI i)) ∧ disF (h.1 (0, q, 6)) nC a g i ∧ ∀ j, j < i → ¬ disF (h.1 (0, q, 6)) nC a g j) ∨ (r = some (vi (-1)) ∧ ∀ j, j < 25 → ¬ disF (h.1 (0, q, 6)) nC a g j))) := by
  refine MS_of (by decide +kernel) (Nat.le_of_ble_eq_true rfl) (fun X hC hX => ?_)
  show V X G 5 0 _ [] _
  have loop : ∀ (n i : Nat) (b : Int32), i ≤ 25 → 26 ≤ i + n → b = witF (h.1 (0, q, 6)) nC i (bitF (nI nC) a) → (∀ j, j < i → ¬ disF (h.1 (0, q, 6)) nC a g j) → V X G 5 9 [(4, vi (nI i)), (3, vi b), (0, vr (0, q, 0)), (1, vi a), (2, vi g)] [] h := by
    intro n
    induction n with
    | zero => intro i b h1 h2; exact absurd h2 (by omega)
    | succ n ih =>
      intro i b h1 h2 ha hb
      refine v_iload hC (pc := 9) 0 rfl dX0_distance_9 ?_
      refine v_bipush hC (pc := 11) (v := 24) (by decide +kernel) dX0_distance_11 ?_
      refine v_icmp_gt hC (pc := 13) (tgt := 42) dX0_distance_13 (by decide) (fun c_13 => ?_) (fun c_13 => ?_)
      · skip
        refine v_iconst hC (pc := 42) (v := (-1)) (by decide) dX0_distance_42 ?_
        refine v_iret hC hX (pc := 43) dX0_distance_43 ?_
        exact ⟨rfl, Or.inr ⟨rfl, fun j hj => hb j (by have := lp_gt (N := 24) c_13 (by decide) (by omega); omega)⟩⟩
      · skip
        refine v_iload_n hC (pc := 16) (k := 3) 1 rfl dX0_distance_16 ?_
        refine v_aload_n hC (pc := 17) (k := 0) 2 rfl dX0_distance_17 ?_
        refine v_iload_n hC (pc := 18) (k := 2) 4 rfl dX0_distance_18 ?_
        refine v_callV hC (pc := 19) (As := [_]) dX0_distance_19 rfl (t_bitOf _ _ (d := d - 1) (by omega) hq _ _) cv_X0_131 rfl (by decide) rfl (by first | rfl | exact ok_c hq rfl | exact ok_w hq hw | exact ok_w (by omega) (by omega) | exact ok_s (by omega) (by omega) | exact ok_c (by omega) rfl | assumption) (Nat.le_of_ble_eq_true rfl) (by omega) (fun r h' hr => ?_)
        obtain ⟨rfl, rfl⟩ := hr
        show V _ _ _ (19 + 3) _ (_ :: _) _
        refine v_iand hC (pc := 22) dX0_distance_22 ?_
        refine v_if_eq hC (pc := 23) (tgt := 29) dX0_distance_23 (by decide) (fun c_23 => ?_) (fun c_23 => ?_)
        · skip
          refine v_aload_n hC (pc := 29) (k := 0) 2 rfl dX0_distance_29 ?_
          refine v_iload_n hC (pc := 30) (k := 3) 1 rfl dX0_distance_30 ?_
          refine v_iconst hC (pc := 31) (v := 1) (by decide) dX0_distance_31 ?_
          refine v_callV hC (pc := 32) (As := [_, _]) dX0_distance_32 rfl (t_within _ _ (d := d - 1) (by omega) hq _ hn8 hnc _ (N := 1) (by decide)) cv_X0_137 rfl (by decide) rfl (by first | rfl | exact ok_c hq rfl | exact ok_w hq hw | exact ok_w (by omega) (by omega) | exact ok_s (by omega) (by omega) | exact ok_c (by omega) rfl | assumption) (Nat.le_of_ble_eq_true rfl) (by omega) (fun r h' hr => ?_)
          obtain ⟨rfl, rfl⟩ := hr
          show V _ _ _ (32 + 3) _ (_ :: _) _
          refine v_istore_n hC (pc := 35) (l' := [(3, _), (4, _), (0, _), (1, _), (2, _)]) dX0_distance_35 (by decide) rfl ?_
          refine v_iinc hC (pc := 36) (l' := [(4, _), (3, _), (0, _), (1, _), (2, _)]) 1 (v := nI (i + 1)) dX0_distance_36 rfl (nI_inc i) (by decide) rfl ?_
          refine v_goto hC (pc := 39) (tgt := 9) dX0_distance_39 (by decide) ?_
          refine ih (i + 1) _ (by have := lp_ngt (N := 24) c_13 (by decide) (by omega); omega) (by omega) ?_ (fun j hj => ?_)
          · rw [ha]; rfl
          · rcases Nat.lt_or_ge j i with hji | hji
            · exact hb j hji
            · have e : j = i := by omega
              subst e
              rw [disF, ← ha, ← hnc]
              exact fun z => z c_23
        · skip
          refine v_iload hC (pc := 26) 0 rfl dX0_distance_26 ?_
          refine v_iret hC hX (pc := 28) dX0_distance_28 ?_
          exact ⟨rfl, Or.inl ⟨i, by have := lp_ngt (N := 24) c_13 (by decide) (by omega); omega, rfl, by rw [disF, ← ha, ← hnc]; exact c_23, hb⟩⟩
  refine v_aload_n hC (pc := 0) (k := 0) 0 rfl dX0_distance_0 ?_
  refine v_iload_n hC (pc := 1) (k := 1) 1 rfl dX0_distance_1 ?_
  refine v_callV hC (pc := 2) (As := [_]) dX0_distance_2 rfl (t_bitOf _ _ (d := d - 1) (by omega) hq _ _) cv_X0_131 rfl (by decide) rfl (by first | rfl | exact ok_c hq rfl | exact ok_w hq hw | exact ok_w (by omega) (by omega) | exact ok_s (by omega) (by omega) | exact ok_c (by omega) rfl | assumption) (Nat.le_of_ble_eq_true rfl) (by omega) (fun r h' hr => ?_)
  obtain ⟨rfl, rfl⟩ := hr
  show V _ _ _ (2 + 3) _ (_ :: _) _
  refine v_istore_n hC (pc := 5) (l' := [(3, _), (0, _), (1, _), (2, _)]) dX0_distance_5 (by decide) rfl ?_
  refine v_iconst hC (pc := 6) (v := 0) (by decide) dX0_distance_6 ?_
  refine v_istore hC (pc := 7) (l' := [(4, _), (3, _), (0, _), (1, _), (2, _)]) dX0_distance_7 (by decide) rfl ?_
  refine loop 26 0 _ (Nat.zero_le _) (by omega) ?_ (fun j hj => absurd hj (Nat.not_lt_zero j))
  rw [hnc]; rfl

