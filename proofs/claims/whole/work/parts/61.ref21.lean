/-! THE REFERENCE: who began where -/
/-- what was seen is so, if w is at P behind n hours -/
def sgT (A : Nat → Int32) (w n : Nat) (P : Int32) (k : Nat) : Prop := A (48 + 4 * k) = nI w → A (48 + 4 * k + 1) = nI n → bI (P = A (48 + 4 * k + 2)) = A (48 + 4 * k + 3)
/-- the row with w at a corner, keeping or not -/
def beg (A : Nat → Int32) (w c x : Nat) : Nat → Int32 := upd (upd A (18 + 6 * w + 0) (nI c)) (18 + 6 * w + 2) (nI x)
def fitI (A B : Nat → Int32) (nW w nS n k : Nat) : Prop := (∀ m, m < n → ∀ j, j < nS → sgT A w m (hrsR B nW m (18 + 6 * w + 0)) j) ∧ ∀ j, j < k → sgT A w n (hrsR B nW n (18 + 6 * w + 0)) j
def fitP (A B : Nat → Int32) (nW w nS : Nat) : Prop := ∀ m, m ≤ 10 → ∀ j, j < nS → sgT A w m (hrsR B nW m (18 + 6 * w + 0)) j
theorem fitI_s {A B : Nat → Int32} {nW w nS n k : Nat} : fitI A B nW w nS n (k + 1) ↔ fitI A B nW w nS n k ∧ sgT A w n (hrsR B nW n (18 + 6 * w + 0)) k := by
  constructor
  · rintro ⟨h1, h2⟩
    exact ⟨⟨h1, fun j hj => h2 j (by omega)⟩, h2 k (by omega)⟩
  · rintro ⟨⟨h1, h2⟩, h3⟩
    refine ⟨h1, fun j hj => ?_⟩
    rcases (show j < k ∨ j = k by omega) with q | rfl
    · exact h2 j q
    · exact h3
theorem fitI_e {A B : Nat → Int32} {nW w nS n : Nat} : fitI A B nW w nS n nS ↔ fitI A B nW w nS (n + 1) 0 := by
  constructor
  · rintro ⟨h1, h2⟩
    refine ⟨fun m hm => ?_, fun j hj => absurd hj (Nat.not_lt_zero _)⟩
    rcases (show m < n ∨ m = n by omega) with q | rfl
    · exact h1 m q
    · exact h2
  · rintro ⟨h1, h2⟩
    exact ⟨fun m hm => h1 m (by omega), h1 n (by omega)⟩
theorem beg_wf {A : Nat → Int32} {nC nW w c x : Nat} (h8 : nC ≤ 8) (h4 : nW ≤ 4) (hw : w < nW) (hc : c < nC) (hS : wfS A nC) (hW : wfW A nC nW) : wfS (beg A w c x) nC ∧ wfW (beg A w c x) nC nW := by
  refine ⟨fun c1 s h1 h2 => ?_, fun v hv => ?_⟩
  · have e : beg A w c x (8 * s + c1) = A (8 * s + c1) := by
      unfold beg upd
      rw [if_neg (by omega), if_neg (by omega)]
    rw [e]
    exact hS c1 s h1 h2
  · by_cases e : v = w
    · subst e
      refine ⟨c, hc, ?_⟩
      unfold beg upd
      rw [if_neg (by omega), if_pos rfl]
    · have e : beg A w c x (18 + 6 * v + 0) = A (18 + 6 * v + 0) := by
        unfold beg upd
        rw [if_neg (by omega), if_neg (by omega)]
      rw [e]
      exact hW v hv
set_option maxRecDepth 20000 in
set_option maxHeartbeats 2000000 in
theorem m_fitsFrom (l9 : Launch) (G : WT) {d : Nat} (hd : 6 ≤ d) (h : HP) {nC nW : Nat} (hn8 : nC ≤ 8) (hn4 : nW ≤ 4) (hnw : h.1 (3, 0, 0) 4 = nI nW) (hS : wfS (h.1 (3, 0, 1)) nC) (hW : wfW (h.1 (3, 0, 1)) nC nW) {nS : Nat} (hs8 : nS ≤ 8) (hns : h.1 (3, 0, 1) 47 = nI nS) {w c x : Nat} (hw : w < nW) (hc : c < nC) : MS l9 G yX7_fitsFrom cX7_fitsFrom 8 (some .boolean) d [vr (3, 0, 0), vi (nI w), vi (nI c), vi (nI x)] h (fun r h1 => scr h h1 ∧ r = some (vi (bP (fitP (h.1 (3, 0, 1)) (beg ((stH h).1 (3, 0, 2)) w c x) nW w nS)))) := by
  refine MS_of (by decide +kernel) (Nat.le_of_ble_eq_true rfl) (fun X hC hX => ?_)
  show V X G 8 0 _ [] _
  have hwf := hrsR_wf hn8 hn4 (beg_wf (x := x) hn8 hn4 hw hc (stH_wf hn8 hn4 hS hW).1 (stH_wf hn8 hn4 hS hW).2).1 (beg_wf (x := x) hn8 hn4 hw hc (stH_wf hn8 hn4 hS hW).1 (stH_wf hn8 hn4 hS hW).2).2
  have loop : ∀ (n9 n : Nat) (u : HP), n ≤ 11 → 12 ≤ n + n9 → (scr h u ∧ u.1 (3, 0, 2) = hrsR (beg ((stH h).1 (3, 0, 2)) w c x) nW n) → V X G 8 24 [(5, vi (nI n)), (4, vi (bP (fitI (h.1 (3, 0, 1)) (beg ((stH h).1 (3, 0, 2)) w c x) nW w nS n 0))), (0, vr (3, 0, 0)), (1, vi (nI w)), (2, vi (nI c)), (3, vi (nI x))] [] u := by
    intro n9
    induction n9 with
    | zero => intro n u h1 h2; exact absurd h2 (by omega)
    | succ n9 ih9 =>
      intro n u h1 h2 ha
      refine v_iload hC (pc := 24) 0 rfl dX7_fitsFrom_24 ?_
      refine v_bipush hC (pc := 26) (v := 10) (by decide +kernel) dX7_fitsFrom_26 ?_
      refine v_icmp_gt hC (pc := 28) (tgt := 147) dX7_fitsFrom_28 (by decide) (fun c_28 => ?_) (fun c_28 => ?_)
      · skip
        have hn : 10 < n := lp_gt (N := 10) c_28 (by decide) (by omega)
        have hn2 : n = 11 := by omega
        subst hn2
        refine v_iload hC (pc := 147) 1 rfl dX7_fitsFrom_147 ?_
        refine v_zret hC hX (pc := 149) dX7_fitsFrom_149 (nar_b (bP_01 _)) ?_
        exact ⟨ha.1, by rw [bP_cong (show (fitI (h.1 (3, 0, 1)) (beg ((stH h).1 (3, 0, 2)) w c x) nW w nS 11 0) ↔ fitP (h.1 (3, 0, 1)) (beg ((stH h).1 (3, 0, 2)) w c x) nW w nS from ⟨fun z m hm => z.1 m (by omega), fun z => ⟨fun m hm => z m (by omega), fun j hj => absurd hj (Nat.not_lt_zero _)⟩⟩)]⟩
      · skip
        have hn : n ≤ 10 := lp_ngt (N := 10) c_28 (by decide) (by omega)
        refine v_iconst hC (pc := 31) (v := 0) (by decide) dX7_fitsFrom_31 ?_
        refine v_istore hC (pc := 32) (l' := [(6, _), (5, _), (4, _), (0, _), (1, _), (2, _), (3, _)]) dX7_fitsFrom_32 (by decide) rfl ?_
        have kl : ∀ (n9 k : Nat), k ≤ nS → nS + 1 ≤ k + n9 → V X G 8 34 [(6, vi (nI k)), (5, vi (nI n)), (4, vi (bP (fitI (h.1 (3, 0, 1)) (beg ((stH h).1 (3, 0, 2)) w c x) nW w nS n k))), (0, vr (3, 0, 0)), (1, vi (nI w)), (2, vi (nI c)), (3, vi (nI x))] [] u := by
          intro n9
          induction n9 with
          | zero => intro k h1 h2; exact absurd h2 (by omega)
          | succ n9 ihk =>
            intro k h1 h2
            refine v_iload hC (pc := 34) 0 rfl dX7_fitsFrom_34 ?_
            refine v_aload_n hC (pc := 36) (k := 0) 3 rfl dX7_fitsFrom_36 ?_
            refine v_getR hC (pc := 37) dX7_fitsFrom_37 fl_X7_7 rfl (by first | rfl | exact ok_c hq rfl | exact ok_w hq hw | exact ok_w (by omega) (by omega) | exact ok_s (by omega) (by omega) | exact ok_c (by omega) rfl | assumption) rfl (by decide) (by decide) rfl ?_
            refine v_bipush hC (pc := 40) (v := 47) (by decide +kernel) dX7_fitsFrom_40 ?_
            refine v_iald hC (pc := 42) dX7_fitsFrom_42 rfl (by first | rfl | exact ok_c hq rfl | exact ok_w hq hw | exact ok_w (by omega) (by omega) | exact ok_s (by omega) (by omega) | exact ok_c (by omega) rfl | assumption) (vp_nat (n := 47) (by omega) (by decide)) ?_
            show V X G 8 43 _ (vi (u.1 (3, 0, 1) 47) :: _) _
            rw [scr_1 ha.1, hns]
            refine v_icmp_ge hC (pc := 43) (tgt := 136) dX7_fitsFrom_43 (by decide) (fun c_43 => ?_) (fun c_43 => ?_)
            · skip
              have hk : k = nS := lp_ex c_43 h1 (by omega)
              subst hk
              refine v_aload_n hC (pc := 136) (k := 0) 3 rfl dX7_fitsFrom_136 ?_
              refine v_callV hC (pc := 137) (As := []) dX7_fitsFrom_137 rfl (m_hourGoes _ _ (d := d - 1) (by omega) _ hn4 (by rw [scr_0 ha.1]; exact hnw) (by rw [ha.2]; exact wf_pl hn8 (hwf n).2)) cv_X7_237 rfl (by decide) rfl (by first | rfl | exact ok_c hq rfl | exact ok_w hq hw | exact ok_w (by omega) (by omega) | exact ok_s (by omega) (by omega) | exact ok_c (by omega) rfl | assumption) (Nat.le_of_ble_eq_true rfl) (by omega) (fun r h' hr => ?_)
              obtain ⟨rfl, rfl⟩ := hr
              show V _ _ _ (137 + 3) _ (_ :: _) _
              refine v_pop hC (pc := 140) rfl dX7_fitsFrom_140 ?_
              refine v_iinc hC (pc := 141) (l' := [(5, _), (6, _), (4, _), (0, _), (1, _), (2, _), (3, _)]) 1 (v := nI (n + 1)) dX7_fitsFrom_141 rfl (nI_inc n) (by decide) rfl ?_
              refine v_goto hC (pc := 144) (tgt := 24) dX7_fitsFrom_144 (by decide) ?_
              refine v_loc (l' := [(5, _), (4, _), (0, _), (1, _), (2, _), (3, _)]) [0, 2, 3, 4, 5, 6] rfl ?_
              rw [bP_cong fitI_e]
              exact ih9 (n + 1) _ (by omega) (by omega) ⟨scr_hg ha.1 nW, by unfold hgH; rw [upR_same, ha.2]; rfl⟩
            · skip
              have hk : k < nS := lp_in c_43 h1 (by omega)
              refine v_bipush hC (pc := 46) (v := 48) (by decide +kernel) dX7_fitsFrom_46 ?_
              refine v_iconst hC (pc := 48) (v := 4) (by decide) dX7_fitsFrom_48 ?_
              refine v_iload hC (pc := 49) 0 rfl dX7_fitsFrom_49 ?_
              refine v_imul hC (pc := 51) dX7_fitsFrom_51 ?_
              refine v_iadd hC (pc := 52) dX7_fitsFrom_52 ?_
              rw [show (48 : Int32) = nI 48 from rfl, nL_4, pk_mul, nI_add]
              refine v_istore hC (pc := 53) (l' := [(7, _), (6, _), (5, _), (4, _), (0, _), (1, _), (2, _), (3, _)]) dX7_fitsFrom_53 (by decide) rfl ?_
              refine v_iload hC (pc := 55) 3 rfl dX7_fitsFrom_55 ?_
              refine v_if_eq hC (pc := 57) (tgt := 127) dX7_fitsFrom_57 (by decide) (fun c_57 => ?_) (fun c_57 => ?_)
              · skip
                refine v_iconst hC (pc := 127) (v := 0) (by decide) dX7_fitsFrom_127 ?_
                first
                  | rw [show (0 : Int32) = bP (fitI (h.1 (3, 0, 1)) (beg ((stH h).1 (3, 0, 2)) w c x) nW w nS n (k + 1)) from (bP_f (fun z => bP_0.mp c_57 (fitI_s.mp z).1)).symm]
                  | rw [show (1 : Int32) = bP (fitI (h.1 (3, 0, 1)) (beg ((stH h).1 (3, 0, 2)) w c x) nW w nS n (k + 1)) from (bP_t (fitI_s.mpr ⟨bP_1.mp ((bP_01 _).resolve_left c_57), fun y1 _ => absurd y1 c_68⟩)).symm]
                  | rw [show (1 : Int32) = bP (fitI (h.1 (3, 0, 1)) (beg ((stH h).1 (3, 0, 2)) w c x) nW w nS n (k + 1)) from (bP_t (fitI_s.mpr ⟨bP_1.mp ((bP_01 _).resolve_left c_57), fun _ y2 => absurd y2 c_82⟩)).symm]
                  | rw [show (1 : Int32) = bP (fitI (h.1 (3, 0, 1)) (beg ((stH h).1 (3, 0, 2)) w c x) nW w nS n (k + 1)) from (bP_t (fitI_s.mpr ⟨bP_1.mp ((bP_01 _).resolve_left c_57), fun _ _ => (bI_t c_100).trans c_120⟩)).symm]
                  | rw [show (1 : Int32) = bP (fitI (h.1 (3, 0, 1)) (beg ((stH h).1 (3, 0, 2)) w c x) nW w nS n (k + 1)) from (bP_t (fitI_s.mpr ⟨bP_1.mp ((bP_01 _).resolve_left c_57), fun _ _ => (bI_f c_100).trans c_120⟩)).symm]
                  | rw [show (0 : Int32) = bP (fitI (h.1 (3, 0, 1)) (beg ((stH h).1 (3, 0, 2)) w c x) nW w nS n (k + 1)) from (bP_f (fun z => c_120 (((bI_t c_100).symm.trans ((fitI_s.mp z).2 c_68 c_82))))).symm]
                  | rw [show (0 : Int32) = bP (fitI (h.1 (3, 0, 1)) (beg ((stH h).1 (3, 0, 2)) w c x) nW w nS n (k + 1)) from (bP_f (fun z => c_120 (((bI_f c_100).symm.trans ((fitI_s.mp z).2 c_68 c_82))))).symm]
                refine v_istore hC (pc := 128) (l' := [(4, _), (7, _), (6, _), (5, _), (0, _), (1, _), (2, _), (3, _)]) dX7_fitsFrom_128 (by decide) rfl ?_
                refine v_iinc hC (pc := 130) (l' := [(6, _), (4, _), (7, _), (5, _), (0, _), (1, _), (2, _), (3, _)]) 2 (v := nI (k + 1)) dX7_fitsFrom_130 rfl (nI_inc k) (by decide) rfl ?_
                refine v_goto hC (pc := 133) (tgt := 34) dX7_fitsFrom_133 (by decide) ?_
                refine v_loc (l' := [(6, _), (5, _), (4, _), (0, _), (1, _), (2, _), (3, _)]) [0, 3, 1, 4, 5, 6, 7] rfl ?_
                exact ihk (k + 1) (by omega) (by omega)
              · skip
                refine v_aload_n hC (pc := 60) (k := 0) 4 rfl dX7_fitsFrom_60 ?_
                refine v_getR hC (pc := 61) dX7_fitsFrom_61 fl_X7_7 rfl (by first | rfl | exact ok_c hq rfl | exact ok_w hq hw | exact ok_w (by omega) (by omega) | exact ok_s (by omega) (by omega) | exact ok_c (by omega) rfl | assumption) rfl (by decide) (by decide) rfl ?_
                refine v_iload hC (pc := 64) 0 rfl dX7_fitsFrom_64 ?_
                refine v_iald hC (pc := 66) dX7_fitsFrom_66 rfl (by first | rfl | exact ok_c hq rfl | exact ok_w hq hw | exact ok_w (by omega) (by omega) | exact ok_s (by omega) (by omega) | exact ok_c (by omega) rfl | assumption) (vp_nat (n := 48 + 4 * k) (by omega) (by decide)) ?_
                rw [nI_clamp (show 48 + 4 * k < 2 ^ 31 by omega)]
                show V X G 8 67 _ (vi (u.1 (3, 0, 1) (48 + 4 * k)) :: _) _
                rw [scr_1 ha.1]
                refine v_iload_n hC (pc := 67) (k := 1) 5 rfl dX7_fitsFrom_67 ?_
                refine v_icmp_ne hC (pc := 68) (tgt := 123) dX7_fitsFrom_68 (by decide) (fun c_68 => ?_) (fun c_68 => ?_)
                · skip
                  refine v_iconst hC (pc := 123) (v := 1) (by decide) dX7_fitsFrom_123 ?_
                  refine v_goto hC (pc := 124) (tgt := 128) dX7_fitsFrom_124 (by decide) ?_
                  first
                    | rw [show (0 : Int32) = bP (fitI (h.1 (3, 0, 1)) (beg ((stH h).1 (3, 0, 2)) w c x) nW w nS n (k + 1)) from (bP_f (fun z => bP_0.mp c_57 (fitI_s.mp z).1)).symm]
                    | rw [show (1 : Int32) = bP (fitI (h.1 (3, 0, 1)) (beg ((stH h).1 (3, 0, 2)) w c x) nW w nS n (k + 1)) from (bP_t (fitI_s.mpr ⟨bP_1.mp ((bP_01 _).resolve_left c_57), fun y1 _ => absurd y1 c_68⟩)).symm]
                    | rw [show (1 : Int32) = bP (fitI (h.1 (3, 0, 1)) (beg ((stH h).1 (3, 0, 2)) w c x) nW w nS n (k + 1)) from (bP_t (fitI_s.mpr ⟨bP_1.mp ((bP_01 _).resolve_left c_57), fun _ y2 => absurd y2 c_82⟩)).symm]
                    | rw [show (1 : Int32) = bP (fitI (h.1 (3, 0, 1)) (beg ((stH h).1 (3, 0, 2)) w c x) nW w nS n (k + 1)) from (bP_t (fitI_s.mpr ⟨bP_1.mp ((bP_01 _).resolve_left c_57), fun _ _ => (bI_t c_100).trans c_120⟩)).symm]
                    | rw [show (1 : Int32) = bP (fitI (h.1 (3, 0, 1)) (beg ((stH h).1 (3, 0, 2)) w c x) nW w nS n (k + 1)) from (bP_t (fitI_s.mpr ⟨bP_1.mp ((bP_01 _).resolve_left c_57), fun _ _ => (bI_f c_100).trans c_120⟩)).symm]
                    | rw [show (0 : Int32) = bP (fitI (h.1 (3, 0, 1)) (beg ((stH h).1 (3, 0, 2)) w c x) nW w nS n (k + 1)) from (bP_f (fun z => c_120 (((bI_t c_100).symm.trans ((fitI_s.mp z).2 c_68 c_82))))).symm]
                    | rw [show (0 : Int32) = bP (fitI (h.1 (3, 0, 1)) (beg ((stH h).1 (3, 0, 2)) w c x) nW w nS n (k + 1)) from (bP_f (fun z => c_120 (((bI_f c_100).symm.trans ((fitI_s.mp z).2 c_68 c_82))))).symm]
                  refine v_istore hC (pc := 128) (l' := [(4, _), (7, _), (6, _), (5, _), (0, _), (1, _), (2, _), (3, _)]) dX7_fitsFrom_128 (by decide) rfl ?_
                  refine v_iinc hC (pc := 130) (l' := [(6, _), (4, _), (7, _), (5, _), (0, _), (1, _), (2, _), (3, _)]) 2 (v := nI (k + 1)) dX7_fitsFrom_130 rfl (nI_inc k) (by decide) rfl ?_
                  refine v_goto hC (pc := 133) (tgt := 34) dX7_fitsFrom_133 (by decide) ?_
                  refine v_loc (l' := [(6, _), (5, _), (4, _), (0, _), (1, _), (2, _), (3, _)]) [0, 3, 1, 4, 5, 6, 7] rfl ?_
                  exact ihk (k + 1) (by omega) (by omega)
                · skip
                  refine v_aload_n hC (pc := 71) (k := 0) 4 rfl dX7_fitsFrom_71 ?_
                  refine v_getR hC (pc := 72) dX7_fitsFrom_72 fl_X7_7 rfl (by first | rfl | exact ok_c hq rfl | exact ok_w hq hw | exact ok_w (by omega) (by omega) | exact ok_s (by omega) (by omega) | exact ok_c (by omega) rfl | assumption) rfl (by decide) (by decide) rfl ?_
                  refine v_iload hC (pc := 75) 0 rfl dX7_fitsFrom_75 ?_
                  refine v_iconst hC (pc := 77) (v := 1) (by decide) dX7_fitsFrom_77 ?_
                  refine v_iadd hC (pc := 78) dX7_fitsFrom_78 ?_
                  rw [nL_1, nI_add]
                  refine v_iald hC (pc := 79) dX7_fitsFrom_79 rfl (by first | rfl | exact ok_c hq rfl | exact ok_w hq hw | exact ok_w (by omega) (by omega) | exact ok_s (by omega) (by omega) | exact ok_c (by omega) rfl | assumption) (vp_nat (n := 48 + 4 * k + 1) (by omega) (by decide)) ?_
                  rw [nI_clamp (show 48 + 4 * k + 1 < 2 ^ 31 by omega)]
                  show V X G 8 80 _ (vi (u.1 (3, 0, 1) (48 + 4 * k + 1)) :: _) _
                  rw [scr_1 ha.1]
                  refine v_iload hC (pc := 80) 2 rfl dX7_fitsFrom_80 ?_
                  refine v_icmp_ne hC (pc := 82) (tgt := 123) dX7_fitsFrom_82 (by decide) (fun c_82 => ?_) (fun c_82 => ?_)
                  · skip
                    refine v_iconst hC (pc := 123) (v := 1) (by decide) dX7_fitsFrom_123 ?_
                    refine v_goto hC (pc := 124) (tgt := 128) dX7_fitsFrom_124 (by decide) ?_
                    first
                      | rw [show (0 : Int32) = bP (fitI (h.1 (3, 0, 1)) (beg ((stH h).1 (3, 0, 2)) w c x) nW w nS n (k + 1)) from (bP_f (fun z => bP_0.mp c_57 (fitI_s.mp z).1)).symm]
                      | rw [show (1 : Int32) = bP (fitI (h.1 (3, 0, 1)) (beg ((stH h).1 (3, 0, 2)) w c x) nW w nS n (k + 1)) from (bP_t (fitI_s.mpr ⟨bP_1.mp ((bP_01 _).resolve_left c_57), fun y1 _ => absurd y1 c_68⟩)).symm]
                      | rw [show (1 : Int32) = bP (fitI (h.1 (3, 0, 1)) (beg ((stH h).1 (3, 0, 2)) w c x) nW w nS n (k + 1)) from (bP_t (fitI_s.mpr ⟨bP_1.mp ((bP_01 _).resolve_left c_57), fun _ y2 => absurd y2 c_82⟩)).symm]
                      | rw [show (1 : Int32) = bP (fitI (h.1 (3, 0, 1)) (beg ((stH h).1 (3, 0, 2)) w c x) nW w nS n (k + 1)) from (bP_t (fitI_s.mpr ⟨bP_1.mp ((bP_01 _).resolve_left c_57), fun _ _ => (bI_t c_100).trans c_120⟩)).symm]
                      | rw [show (1 : Int32) = bP (fitI (h.1 (3, 0, 1)) (beg ((stH h).1 (3, 0, 2)) w c x) nW w nS n (k + 1)) from (bP_t (fitI_s.mpr ⟨bP_1.mp ((bP_01 _).resolve_left c_57), fun _ _ => (bI_f c_100).trans c_120⟩)).symm]
                      | rw [show (0 : Int32) = bP (fitI (h.1 (3, 0, 1)) (beg ((stH h).1 (3, 0, 2)) w c x) nW w nS n (k + 1)) from (bP_f (fun z => c_120 (((bI_t c_100).symm.trans ((fitI_s.mp z).2 c_68 c_82))))).symm]
                      | rw [show (0 : Int32) = bP (fitI (h.1 (3, 0, 1)) (beg ((stH h).1 (3, 0, 2)) w c x) nW w nS n (k + 1)) from (bP_f (fun z => c_120 (((bI_f c_100).symm.trans ((fitI_s.mp z).2 c_68 c_82))))).symm]
                    refine v_istore hC (pc := 128) (l' := [(4, _), (7, _), (6, _), (5, _), (0, _), (1, _), (2, _), (3, _)]) dX7_fitsFrom_128 (by decide) rfl ?_
                    refine v_iinc hC (pc := 130) (l' := [(6, _), (4, _), (7, _), (5, _), (0, _), (1, _), (2, _), (3, _)]) 2 (v := nI (k + 1)) dX7_fitsFrom_130 rfl (nI_inc k) (by decide) rfl ?_
                    refine v_goto hC (pc := 133) (tgt := 34) dX7_fitsFrom_133 (by decide) ?_
                    refine v_loc (l' := [(6, _), (5, _), (4, _), (0, _), (1, _), (2, _), (3, _)]) [0, 3, 1, 4, 5, 6, 7] rfl ?_
                    exact ihk (k + 1) (by omega) (by omega)
                  · skip
                    refine v_aload_n hC (pc := 85) (k := 0) 4 rfl dX7_fitsFrom_85 ?_
                    refine v_iload_n hC (pc := 86) (k := 1) 5 rfl dX7_fitsFrom_86 ?_
                    refine v_iconst hC (pc := 87) (v := 0) (by decide) dX7_fitsFrom_87 ?_
                    refine v_callV hC (pc := 88) (As := [_, _]) dX7_fitsFrom_88 rfl (m_of _ _ (d := d - 1) (by omega) _ (w := w) (by omega) (k := 0) (by decide)) cv_X7_187 rfl (by decide) rfl (by first | rfl | exact ok_c hq rfl | exact ok_w hq hw | exact ok_w (by omega) (by omega) | exact ok_s (by omega) (by omega) | exact ok_c (by omega) rfl | assumption) (Nat.le_of_ble_eq_true rfl) (by omega) (fun r h' hr => ?_)
                    obtain ⟨he9, rfl⟩ := hr
                    rw [he9]
                    clear he9 h'
                    show V X G 8 91 _ (vi (u.1 (3, 0, 2) (18 + 6 * w + 0)) :: _) _
                    rw [ha.2]
                    show V _ _ _ (88 + 3) _ (_ :: _) _
                    refine v_aload_n hC (pc := 91) (k := 0) 4 rfl dX7_fitsFrom_91 ?_
                    refine v_getR hC (pc := 92) dX7_fitsFrom_92 fl_X7_7 rfl (by first | rfl | exact ok_c hq rfl | exact ok_w hq hw | exact ok_w (by omega) (by omega) | exact ok_s (by omega) (by omega) | exact ok_c (by omega) rfl | assumption) rfl (by decide) (by decide) rfl ?_
                    refine v_iload hC (pc := 95) 0 rfl dX7_fitsFrom_95 ?_
                    refine v_iconst hC (pc := 97) (v := 2) (by decide) dX7_fitsFrom_97 ?_
                    refine v_iadd hC (pc := 98) dX7_fitsFrom_98 ?_
                    rw [nL_2, nI_add]
                    refine v_iald hC (pc := 99) dX7_fitsFrom_99 rfl (by first | rfl | exact ok_c hq rfl | exact ok_w hq hw | exact ok_w (by omega) (by omega) | exact ok_s (by omega) (by omega) | exact ok_c (by omega) rfl | assumption) (vp_nat (n := 48 + 4 * k + 2) (by omega) (by decide)) ?_
                    rw [nI_clamp (show 48 + 4 * k + 2 < 2 ^ 31 by omega)]
                    show V X G 8 100 _ (vi (u.1 (3, 0, 1) (48 + 4 * k + 2)) :: _) _
                    rw [scr_1 ha.1]
                    refine v_icmp_ne hC (pc := 100) (tgt := 107) dX7_fitsFrom_100 (by decide) (fun c_100 => ?_) (fun c_100 => ?_)
                    · skip
                      refine v_iconst hC (pc := 107) (v := 0) (by decide) dX7_fitsFrom_107 ?_
                      refine v_callS hC (pc := 108) (As := [_]) dX7_fitsFrom_108 rfl (m_flag _ _ (d := d - 1) (by omega) _ _) cs_X7_147 (Nat.le_of_ble_eq_true rfl) (by omega) (fun r h' hr => ?_)
                      obtain ⟨he9, rfl⟩ := hr
                      rw [he9]
                      clear he9 h'
                      show V _ _ _ (108 + 3) _ (_ :: _) _
                      refine v_aload_n hC (pc := 111) (k := 0) 4 rfl dX7_fitsFrom_111 ?_
                      refine v_getR hC (pc := 112) dX7_fitsFrom_112 fl_X7_7 rfl (by first | rfl | exact ok_c hq rfl | exact ok_w hq hw | exact ok_w (by omega) (by omega) | exact ok_s (by omega) (by omega) | exact ok_c (by omega) rfl | assumption) rfl (by decide) (by decide) rfl ?_
                      refine v_iload hC (pc := 115) 0 rfl dX7_fitsFrom_115 ?_
                      refine v_iconst hC (pc := 117) (v := 3) (by decide) dX7_fitsFrom_117 ?_
                      refine v_iadd hC (pc := 118) dX7_fitsFrom_118 ?_
                      rw [nL_3, nI_add]
                      refine v_iald hC (pc := 119) dX7_fitsFrom_119 rfl (by first | rfl | exact ok_c hq rfl | exact ok_w hq hw | exact ok_w (by omega) (by omega) | exact ok_s (by omega) (by omega) | exact ok_c (by omega) rfl | assumption) (vp_nat (n := 48 + 4 * k + 3) (by omega) (by decide)) ?_
                      rw [nI_clamp (show 48 + 4 * k + 3 < 2 ^ 31 by omega)]
                      show V X G 8 120 _ (vi (u.1 (3, 0, 1) (48 + 4 * k + 3)) :: _) _
                      rw [scr_1 ha.1]
                      refine v_icmp_ne hC (pc := 120) (tgt := 127) dX7_fitsFrom_120 (by decide) (fun c_120 => ?_) (fun c_120 => ?_)
                      · skip
                        refine v_iconst hC (pc := 127) (v := 0) (by decide) dX7_fitsFrom_127 ?_
                        first
                          | rw [show (0 : Int32) = bP (fitI (h.1 (3, 0, 1)) (beg ((stH h).1 (3, 0, 2)) w c x) nW w nS n (k + 1)) from (bP_f (fun z => bP_0.mp c_57 (fitI_s.mp z).1)).symm]
                          | rw [show (1 : Int32) = bP (fitI (h.1 (3, 0, 1)) (beg ((stH h).1 (3, 0, 2)) w c x) nW w nS n (k + 1)) from (bP_t (fitI_s.mpr ⟨bP_1.mp ((bP_01 _).resolve_left c_57), fun y1 _ => absurd y1 c_68⟩)).symm]
                          | rw [show (1 : Int32) = bP (fitI (h.1 (3, 0, 1)) (beg ((stH h).1 (3, 0, 2)) w c x) nW w nS n (k + 1)) from (bP_t (fitI_s.mpr ⟨bP_1.mp ((bP_01 _).resolve_left c_57), fun _ y2 => absurd y2 c_82⟩)).symm]
                          | rw [show (1 : Int32) = bP (fitI (h.1 (3, 0, 1)) (beg ((stH h).1 (3, 0, 2)) w c x) nW w nS n (k + 1)) from (bP_t (fitI_s.mpr ⟨bP_1.mp ((bP_01 _).resolve_left c_57), fun _ _ => (bI_t c_100).trans c_120⟩)).symm]
                          | rw [show (1 : Int32) = bP (fitI (h.1 (3, 0, 1)) (beg ((stH h).1 (3, 0, 2)) w c x) nW w nS n (k + 1)) from (bP_t (fitI_s.mpr ⟨bP_1.mp ((bP_01 _).resolve_left c_57), fun _ _ => (bI_f c_100).trans c_120⟩)).symm]
                          | rw [show (0 : Int32) = bP (fitI (h.1 (3, 0, 1)) (beg ((stH h).1 (3, 0, 2)) w c x) nW w nS n (k + 1)) from (bP_f (fun z => c_120 (((bI_t c_100).symm.trans ((fitI_s.mp z).2 c_68 c_82))))).symm]
                          | rw [show (0 : Int32) = bP (fitI (h.1 (3, 0, 1)) (beg ((stH h).1 (3, 0, 2)) w c x) nW w nS n (k + 1)) from (bP_f (fun z => c_120 (((bI_f c_100).symm.trans ((fitI_s.mp z).2 c_68 c_82))))).symm]
                        refine v_istore hC (pc := 128) (l' := [(4, _), (7, _), (6, _), (5, _), (0, _), (1, _), (2, _), (3, _)]) dX7_fitsFrom_128 (by decide) rfl ?_
                        refine v_iinc hC (pc := 130) (l' := [(6, _), (4, _), (7, _), (5, _), (0, _), (1, _), (2, _), (3, _)]) 2 (v := nI (k + 1)) dX7_fitsFrom_130 rfl (nI_inc k) (by decide) rfl ?_
                        refine v_goto hC (pc := 133) (tgt := 34) dX7_fitsFrom_133 (by decide) ?_
                        refine v_loc (l' := [(6, _), (5, _), (4, _), (0, _), (1, _), (2, _), (3, _)]) [0, 3, 1, 4, 5, 6, 7] rfl ?_
                        exact ihk (k + 1) (by omega) (by omega)
                      · skip
                        refine v_iconst hC (pc := 123) (v := 1) (by decide) dX7_fitsFrom_123 ?_
                        refine v_goto hC (pc := 124) (tgt := 128) dX7_fitsFrom_124 (by decide) ?_
                        first
                          | rw [show (0 : Int32) = bP (fitI (h.1 (3, 0, 1)) (beg ((stH h).1 (3, 0, 2)) w c x) nW w nS n (k + 1)) from (bP_f (fun z => bP_0.mp c_57 (fitI_s.mp z).1)).symm]
                          | rw [show (1 : Int32) = bP (fitI (h.1 (3, 0, 1)) (beg ((stH h).1 (3, 0, 2)) w c x) nW w nS n (k + 1)) from (bP_t (fitI_s.mpr ⟨bP_1.mp ((bP_01 _).resolve_left c_57), fun y1 _ => absurd y1 c_68⟩)).symm]
                          | rw [show (1 : Int32) = bP (fitI (h.1 (3, 0, 1)) (beg ((stH h).1 (3, 0, 2)) w c x) nW w nS n (k + 1)) from (bP_t (fitI_s.mpr ⟨bP_1.mp ((bP_01 _).resolve_left c_57), fun _ y2 => absurd y2 c_82⟩)).symm]
                          | rw [show (1 : Int32) = bP (fitI (h.1 (3, 0, 1)) (beg ((stH h).1 (3, 0, 2)) w c x) nW w nS n (k + 1)) from (bP_t (fitI_s.mpr ⟨bP_1.mp ((bP_01 _).resolve_left c_57), fun _ _ => (bI_t c_100).trans c_120⟩)).symm]
                          | rw [show (1 : Int32) = bP (fitI (h.1 (3, 0, 1)) (beg ((stH h).1 (3, 0, 2)) w c x) nW w nS n (k + 1)) from (bP_t (fitI_s.mpr ⟨bP_1.mp ((bP_01 _).resolve_left c_57), fun _ _ => (bI_f c_100).trans c_120⟩)).symm]
                          | rw [show (0 : Int32) = bP (fitI (h.1 (3, 0, 1)) (beg ((stH h).1 (3, 0, 2)) w c x) nW w nS n (k + 1)) from (bP_f (fun z => c_120 (((bI_t c_100).symm.trans ((fitI_s.mp z).2 c_68 c_82))))).symm]
                          | rw [show (0 : Int32) = bP (fitI (h.1 (3, 0, 1)) (beg ((stH h).1 (3, 0, 2)) w c x) nW w nS n (k + 1)) from (bP_f (fun z => c_120 (((bI_f c_100).symm.trans ((fitI_s.mp z).2 c_68 c_82))))).symm]
                        refine v_istore hC (pc := 128) (l' := [(4, _), (7, _), (6, _), (5, _), (0, _), (1, _), (2, _), (3, _)]) dX7_fitsFrom_128 (by decide) rfl ?_
                        refine v_iinc hC (pc := 130) (l' := [(6, _), (4, _), (7, _), (5, _), (0, _), (1, _), (2, _), (3, _)]) 2 (v := nI (k + 1)) dX7_fitsFrom_130 rfl (nI_inc k) (by decide) rfl ?_
                        refine v_goto hC (pc := 133) (tgt := 34) dX7_fitsFrom_133 (by decide) ?_
                        refine v_loc (l' := [(6, _), (5, _), (4, _), (0, _), (1, _), (2, _), (3, _)]) [0, 3, 1, 4, 5, 6, 7] rfl ?_
                        exact ihk (k + 1) (by omega) (by omega)
                    · skip
                      refine v_iconst hC (pc := 103) (v := 1) (by decide) dX7_fitsFrom_103 ?_
                      refine v_goto hC (pc := 104) (tgt := 108) dX7_fitsFrom_104 (by decide) ?_
                      refine v_callS hC (pc := 108) (As := [_]) dX7_fitsFrom_108 rfl (m_flag _ _ (d := d - 1) (by omega) _ _) cs_X7_147 (Nat.le_of_ble_eq_true rfl) (by omega) (fun r h' hr => ?_)
                      obtain ⟨he9, rfl⟩ := hr
                      rw [he9]
                      clear he9 h'
                      show V _ _ _ (108 + 3) _ (_ :: _) _
                      refine v_aload_n hC (pc := 111) (k := 0) 4 rfl dX7_fitsFrom_111 ?_
                      refine v_getR hC (pc := 112) dX7_fitsFrom_112 fl_X7_7 rfl (by first | rfl | exact ok_c hq rfl | exact ok_w hq hw | exact ok_w (by omega) (by omega) | exact ok_s (by omega) (by omega) | exact ok_c (by omega) rfl | assumption) rfl (by decide) (by decide) rfl ?_
                      refine v_iload hC (pc := 115) 0 rfl dX7_fitsFrom_115 ?_
                      refine v_iconst hC (pc := 117) (v := 3) (by decide) dX7_fitsFrom_117 ?_
                      refine v_iadd hC (pc := 118) dX7_fitsFrom_118 ?_
                      rw [nL_3, nI_add]
                      refine v_iald hC (pc := 119) dX7_fitsFrom_119 rfl (by first | rfl | exact ok_c hq rfl | exact ok_w hq hw | exact ok_w (by omega) (by omega) | exact ok_s (by omega) (by omega) | exact ok_c (by omega) rfl | assumption) (vp_nat (n := 48 + 4 * k + 3) (by omega) (by decide)) ?_
                      rw [nI_clamp (show 48 + 4 * k + 3 < 2 ^ 31 by omega)]
                      show V X G 8 120 _ (vi (u.1 (3, 0, 1) (48 + 4 * k + 3)) :: _) _
                      rw [scr_1 ha.1]
                      refine v_icmp_ne hC (pc := 120) (tgt := 127) dX7_fitsFrom_120 (by decide) (fun c_120 => ?_) (fun c_120 => ?_)
                      · skip
                        refine v_iconst hC (pc := 127) (v := 0) (by decide) dX7_fitsFrom_127 ?_
                        first
                          | rw [show (0 : Int32) = bP (fitI (h.1 (3, 0, 1)) (beg ((stH h).1 (3, 0, 2)) w c x) nW w nS n (k + 1)) from (bP_f (fun z => bP_0.mp c_57 (fitI_s.mp z).1)).symm]
                          | rw [show (1 : Int32) = bP (fitI (h.1 (3, 0, 1)) (beg ((stH h).1 (3, 0, 2)) w c x) nW w nS n (k + 1)) from (bP_t (fitI_s.mpr ⟨bP_1.mp ((bP_01 _).resolve_left c_57), fun y1 _ => absurd y1 c_68⟩)).symm]
                          | rw [show (1 : Int32) = bP (fitI (h.1 (3, 0, 1)) (beg ((stH h).1 (3, 0, 2)) w c x) nW w nS n (k + 1)) from (bP_t (fitI_s.mpr ⟨bP_1.mp ((bP_01 _).resolve_left c_57), fun _ y2 => absurd y2 c_82⟩)).symm]
                          | rw [show (1 : Int32) = bP (fitI (h.1 (3, 0, 1)) (beg ((stH h).1 (3, 0, 2)) w c x) nW w nS n (k + 1)) from (bP_t (fitI_s.mpr ⟨bP_1.mp ((bP_01 _).resolve_left c_57), fun _ _ => (bI_t c_100).trans c_120⟩)).symm]
                          | rw [show (1 : Int32) = bP (fitI (h.1 (3, 0, 1)) (beg ((stH h).1 (3, 0, 2)) w c x) nW w nS n (k + 1)) from (bP_t (fitI_s.mpr ⟨bP_1.mp ((bP_01 _).resolve_left c_57), fun _ _ => (bI_f c_100).trans c_120⟩)).symm]
                          | rw [show (0 : Int32) = bP (fitI (h.1 (3, 0, 1)) (beg ((stH h).1 (3, 0, 2)) w c x) nW w nS n (k + 1)) from (bP_f (fun z => c_120 (((bI_t c_100).symm.trans ((fitI_s.mp z).2 c_68 c_82))))).symm]
                          | rw [show (0 : Int32) = bP (fitI (h.1 (3, 0, 1)) (beg ((stH h).1 (3, 0, 2)) w c x) nW w nS n (k + 1)) from (bP_f (fun z => c_120 (((bI_f c_100).symm.trans ((fitI_s.mp z).2 c_68 c_82))))).symm]
                        refine v_istore hC (pc := 128) (l' := [(4, _), (7, _), (6, _), (5, _), (0, _), (1, _), (2, _), (3, _)]) dX7_fitsFrom_128 (by decide) rfl ?_
                        refine v_iinc hC (pc := 130) (l' := [(6, _), (4, _), (7, _), (5, _), (0, _), (1, _), (2, _), (3, _)]) 2 (v := nI (k + 1)) dX7_fitsFrom_130 rfl (nI_inc k) (by decide) rfl ?_
                        refine v_goto hC (pc := 133) (tgt := 34) dX7_fitsFrom_133 (by decide) ?_
                        refine v_loc (l' := [(6, _), (5, _), (4, _), (0, _), (1, _), (2, _), (3, _)]) [0, 3, 1, 4, 5, 6, 7] rfl ?_
                        exact ihk (k + 1) (by omega) (by omega)
                      · skip
                        refine v_iconst hC (pc := 123) (v := 1) (by decide) dX7_fitsFrom_123 ?_
                        refine v_goto hC (pc := 124) (tgt := 128) dX7_fitsFrom_124 (by decide) ?_
                        first
                          | rw [show (0 : Int32) = bP (fitI (h.1 (3, 0, 1)) (beg ((stH h).1 (3, 0, 2)) w c x) nW w nS n (k + 1)) from (bP_f (fun z => bP_0.mp c_57 (fitI_s.mp z).1)).symm]
                          | rw [show (1 : Int32) = bP (fitI (h.1 (3, 0, 1)) (beg ((stH h).1 (3, 0, 2)) w c x) nW w nS n (k + 1)) from (bP_t (fitI_s.mpr ⟨bP_1.mp ((bP_01 _).resolve_left c_57), fun y1 _ => absurd y1 c_68⟩)).symm]
                          | rw [show (1 : Int32) = bP (fitI (h.1 (3, 0, 1)) (beg ((stH h).1 (3, 0, 2)) w c x) nW w nS n (k + 1)) from (bP_t (fitI_s.mpr ⟨bP_1.mp ((bP_01 _).resolve_left c_57), fun _ y2 => absurd y2 c_82⟩)).symm]
                          | rw [show (1 : Int32) = bP (fitI (h.1 (3, 0, 1)) (beg ((stH h).1 (3, 0, 2)) w c x) nW w nS n (k + 1)) from (bP_t (fitI_s.mpr ⟨bP_1.mp ((bP_01 _).resolve_left c_57), fun _ _ => (bI_t c_100).trans c_120⟩)).symm]
                          | rw [show (1 : Int32) = bP (fitI (h.1 (3, 0, 1)) (beg ((stH h).1 (3, 0, 2)) w c x) nW w nS n (k + 1)) from (bP_t (fitI_s.mpr ⟨bP_1.mp ((bP_01 _).resolve_left c_57), fun _ _ => (bI_f c_100).trans c_120⟩)).symm]
                          | rw [show (0 : Int32) = bP (fitI (h.1 (3, 0, 1)) (beg ((stH h).1 (3, 0, 2)) w c x) nW w nS n (k + 1)) from (bP_f (fun z => c_120 (((bI_t c_100).symm.trans ((fitI_s.mp z).2 c_68 c_82))))).symm]
                          | rw [show (0 : Int32) = bP (fitI (h.1 (3, 0, 1)) (beg ((stH h).1 (3, 0, 2)) w c x) nW w nS n (k + 1)) from (bP_f (fun z => c_120 (((bI_f c_100).symm.trans ((fitI_s.mp z).2 c_68 c_82))))).symm]
                        refine v_istore hC (pc := 128) (l' := [(4, _), (7, _), (6, _), (5, _), (0, _), (1, _), (2, _), (3, _)]) dX7_fitsFrom_128 (by decide) rfl ?_
                        refine v_iinc hC (pc := 130) (l' := [(6, _), (4, _), (7, _), (5, _), (0, _), (1, _), (2, _), (3, _)]) 2 (v := nI (k + 1)) dX7_fitsFrom_130 rfl (nI_inc k) (by decide) rfl ?_
                        refine v_goto hC (pc := 133) (tgt := 34) dX7_fitsFrom_133 (by decide) ?_
                        refine v_loc (l' := [(6, _), (5, _), (4, _), (0, _), (1, _), (2, _), (3, _)]) [0, 3, 1, 4, 5, 6, 7] rfl ?_
                        exact ihk (k + 1) (by omega) (by omega)
        exact kl (nS + 1) 0 (by omega) (by omega)
  refine v_iconst hC (pc := 0) (v := 1) (by decide) dX7_fitsFrom_0 ?_
  refine v_istore hC (pc := 1) (l' := [(4, _), (0, _), (1, _), (2, _), (3, _)]) dX7_fitsFrom_1 (by decide) rfl ?_
  refine v_aload_n hC (pc := 3) (k := 0) 1 rfl dX7_fitsFrom_3 ?_
  refine v_callV hC (pc := 4) (As := []) dX7_fitsFrom_4 rfl (m_starts _ _ (d := d - 1) (by omega) _) cv_X7_219 rfl (by decide) rfl (by first | rfl | exact ok_c hq rfl | exact ok_w hq hw | exact ok_w (by omega) (by omega) | exact ok_s (by omega) (by omega) | exact ok_c (by omega) rfl | assumption) (Nat.le_of_ble_eq_true rfl) (by omega) (fun r h' hr => ?_)
  obtain ⟨rfl, rfl⟩ := hr
  refine v_heap (show _ = stH h from rfl) ?_
  show V _ _ _ (4 + 3) _ _ _
  refine v_aload_n hC (pc := 7) (k := 0) 1 rfl dX7_fitsFrom_7 ?_
  refine v_iload_n hC (pc := 8) (k := 1) 2 rfl dX7_fitsFrom_8 ?_
  refine v_iconst hC (pc := 9) (v := 0) (by decide) dX7_fitsFrom_9 ?_
  refine v_iload_n hC (pc := 10) (k := 2) 3 rfl dX7_fitsFrom_10 ?_
  refine v_callV hC (pc := 11) (As := [_, _, _]) dX7_fitsFrom_11 rfl (m_becomesOf _ _ (d := d - 1) (by omega) _ (show w < 4 by omega) (k := 0) (by decide) _) cv_X7_193 rfl (by decide) rfl (by first | rfl | exact ok_c hq rfl | exact ok_w hq hw | exact ok_w (by omega) (by omega) | exact ok_s (by omega) (by omega) | exact ok_c (by omega) rfl | assumption) (Nat.le_of_ble_eq_true rfl) (by omega) (fun r h' hr => ?_)
  obtain ⟨rfl, rfl⟩ := hr
  show V _ _ _ (11 + 3) _ _ _
  refine v_aload_n hC (pc := 14) (k := 0) 1 rfl dX7_fitsFrom_14 ?_
  refine v_iload_n hC (pc := 15) (k := 1) 2 rfl dX7_fitsFrom_15 ?_
  refine v_iconst hC (pc := 16) (v := 2) (by decide) dX7_fitsFrom_16 ?_
  refine v_iload_n hC (pc := 17) (k := 3) 4 rfl dX7_fitsFrom_17 ?_
  refine v_callV hC (pc := 18) (As := [_, _, _]) dX7_fitsFrom_18 rfl (m_becomesOf _ _ (d := d - 1) (by omega) _ (show w < 4 by omega) (k := 2) (by decide) _) cv_X7_193 rfl (by decide) rfl (by first | rfl | exact ok_c hq rfl | exact ok_w hq hw | exact ok_w (by omega) (by omega) | exact ok_s (by omega) (by omega) | exact ok_c (by omega) rfl | assumption) (Nat.le_of_ble_eq_true rfl) (by omega) (fun r h' hr => ?_)
  obtain ⟨rfl, rfl⟩ := hr
  show V _ _ _ (18 + 3) _ _ _
  refine v_iconst hC (pc := 21) (v := 0) (by decide) dX7_fitsFrom_21 ?_
  refine v_istore hC (pc := 22) (l' := [(5, _), (4, _), (0, _), (1, _), (2, _), (3, _)]) dX7_fitsFrom_22 (by decide) rfl ?_
  rw [show vi 1 = vi (bP (fitI (h.1 (3, 0, 1)) (beg ((stH h).1 (3, 0, 2)) w c x) nW w nS 0 0)) from by rw [bP_t (show (fitI (h.1 (3, 0, 1)) (beg ((stH h).1 (3, 0, 2)) w c x) nW w nS 0 0) from ⟨fun m hm => absurd hm (Nat.not_lt_zero _), fun j hj => absurd hj (Nat.not_lt_zero _)⟩)]]
  refine loop 12 0 _ (by omega) (by omega) ⟨scr_upI (scr_upI (scr_st h) (by decide) _ _) (by decide) _ _, ?_⟩
  rw [upI_same, upI_same]
  rfl

