/-! THE REFERENCE: fits -/
/-- rows that are the same where it counts -/
def eqR (A B : Nat → Int32) : Prop := ∀ k, k < 80 → A k = B k
theorem eqR_r (A : Nat → Int32) : eqR A A := fun _ _ => rfl
theorem eqR_t {A B C : Nat → Int32} (h1 : eqR A B) (h2 : eqR B C) : eqR A C := fun k hk => (h1 k hk).trans (h2 k hk)
theorem eqR_s {A B : Nat → Int32} (h1 : eqR A B) : eqR B A := fun k hk => (h1 k hk).symm
theorem ldM_cong {A B : Nat → Int32} (h : eqR A B) {c s : Nat} (hc : c < 8) (hs : s < 2) (hour kp sg : Int32) : ldM A c s hour kp sg = ldM B c s hour kp sg := by
  unfold ldM
  split
  · exact h _ (by omega)
  · exact h _ (by omega)
theorem goM_cong {A B : Nat → Int32} (h : eqR A B) {c s : Nat} (hc : c < 8) (hs : s < 2) (hour kp : Int32) : goM A c s hour kp = goM B c s hour kp := by
  unfold goM
  rw [ldM_cong h hc hs, h 16 (by decide)]
theorem toM_cong {A B : Nat → Int32} (h : eqR A B) {nC nW w : Nat} (h8 : nC ≤ 8) (h4 : nW ≤ 4) (hW : wfW A nC nW) (hw : w < nW) : toM A w = toM B w := by
  obtain ⟨p, hp, e⟩ := hW w hw
  have e2 : B (18 + 6 * w + 0) = nI p := by rw [← h _ (by omega)]; exact e
  unfold toM
  rw [e, e2, nI_clamp (show p < 2 ^ 31 by omega)]
  have e3 : lefA A w = lefA B w := by
    unfold lefA
    rw [h _ (by omega), h _ (by omega)]
  have e4 : sidA A w = sidA B w := by
    unfold sidA
    rw [h _ (by omega), h _ (by omega)]
  have e5 : kpA A w = kpA B w := by
    unfold kpA
    rw [h _ (by omega)]
  rw [e3, e4, e5, h 17 (by decide), goM_cong h (by omega) (sidA_nat B w)]
theorem hrR_cong {A B : Nat → Int32} (h : eqR A B) {nC nW : Nat} (h8 : nC ≤ 8) (h4 : nW ≤ 4) (hW : wfW A nC nW) : eqR (hrR A nW) (hrR B nW) ∧ manA A nW = manA B nW := by
  have em : manA A nW = manA B nW := by
    unfold manA
    refine ckF_cong (fun k hk => h _ (by omega)) (fun k hk => toM_cong h h8 h4 hW hk) (fun k hk => ?_)
    unfold wenF lefA
    rw [h _ (by omega), h _ (by omega)]
  refine ⟨fun k hk => ?_, em⟩
  rcases (show k < 17 ∨ k = 17 ∨ 17 < k by omega) with q | rfl | q
  · rw [hrR_lo A q, hrR_lo B q]; exact h k hk
  · rw [hrR_17, hrR_17, h 17 (by decide)]
  · rcases (show k = 42 ∨ ¬ k = 42 by omega) with rfl | q2
    · rw [hrR_42, hrR_42, em, h 42 (by decide)]
    · by_cases e0 : k < 18 + 6 * nW ∧ (k - 18) % 6 = 0
      · obtain ⟨w, hw, rfl⟩ : ∃ w, w < nW ∧ k = 18 + 6 * w + 0 := ⟨(k - 18) / 6, by omega, by omega⟩
        rw [hrR_pl A h4 hw, hrR_pl B h4 hw]
        exact toM_cong h h8 h4 hW hw
      · by_cases e5 : k < 18 + 6 * nW ∧ (k - 18) % 6 = 5
        · obtain ⟨w, hw, rfl⟩ : ∃ w, w < nW ∧ k = 18 + 6 * w + 5 := ⟨(k - 18) / 6, by omega, by omega⟩
          rw [hrR_gone A h4 hw, hrR_gone B h4 hw]
          unfold lefA
          rw [h (18 + 6 * w + 5) (by omega), h (18 + 6 * w + 3) (by omega)]
        · rw [hrR_o A q q2 e0 e5, hrR_o B q q2 e0 e5]
          exact h k hk
theorem hrsR_cong {A B : Nat → Int32} (h : eqR A B) {nC nW : Nat} (h8 : nC ≤ 8) (h4 : nW ≤ 4) (hS : wfS A nC) (hW : wfW A nC nW) : ∀ n, eqR (hrsR A nW n) (hrsR B nW n)
  | 0 => h
  | n + 1 => (hrR_cong (hrsR_cong h h8 h4 hS hW n) h8 h4 (hrsR_wf h8 h4 hS hW n).2).1
theorem beg_cong {A B : Nat → Int32} (h : eqR A B) (w c x : Nat) : eqR (beg A w c x) (beg B w c x) := by
  intro k hk
  unfold beg upd
  split
  · rfl
  · split
    · rfl
    · exact h k hk
theorem fitP_cong {A B B' : Nat → Int32} (h : eqR B B') {nC nW w nS : Nat} (h8 : nC ≤ 8) (h4 : nW ≤ 4) (hw : w < nW) (hS : wfS B nC) (hW : wfW B nC nW) : fitP A B nW w nS ↔ fitP A B' nW w nS := by
  unfold fitP
  constructor
  · intro z m hm j hj
    rw [← hrsR_cong h h8 h4 hS hW m _ (by omega)]
    exact z m hm j hj
  · intro z m hm j hj
    rw [hrsR_cong h h8 h4 hS hW m _ (by omega)]
    exact z m hm j hj
theorem Bs_shl (P : Prop) {c : Nat} (hc : c < 32) : Bs (bP P <<< (nI c &&& 31)) (fun p => P ∧ p = c) := by
  rcases Classical.em P with h | h
  · rw [bP_t h]
    exact Bs_congr (Bs_one hc) (fun p => ⟨fun z => ⟨h, z⟩, fun z => z.2⟩)
  · rw [bP_f h]
    intro p
    by_cases hp : p < 32
    · rw [b_shl c hc 0 hp, b_0, Bool.and_false]
      exact ⟨fun z => (by cases z), fun z => absurd z.1 h⟩
    · rw [b_big (by omega)]
      exact ⟨fun z => (by cases z), fun z => absurd z.1 h⟩
set_option maxRecDepth 20000 in
set_option maxHeartbeats 2000000 in
theorem m_fits_ok (l9 : Launch) (G : WT) {d : Nat} (hd : 7 ≤ d) (h : HP) {nC nW : Nat} (hn8 : nC ≤ 8) (hnc : h.1 (3, 0, 0) 3 = nI nC) (hn4 : nW ≤ 4) (hnw : h.1 (3, 0, 0) 4 = nI nW) (hS : wfS (h.1 (3, 0, 1)) nC) (hW : wfW (h.1 (3, 0, 1)) nC nW) {nS : Nat} (hs8 : nS ≤ 8) (hns : h.1 (3, 0, 1) 47 = nI nS) {w x : Nat} (hw : w < nW) (hx : x < 2) : MS l9 G yX7_fits cX7_fits 5 (some .int) d [vr (3, 0, 0), vi (nI w), vi (nI x)] h (fun r h1 => scr h h1 ∧ ∃ v, r = some (vi v) ∧ Bs v (fun p => p < nC ∧ (fitP (h.1 (3, 0, 1)) (beg ((stH h).1 (3, 0, 2)) w p x) nW w nS))) := by
  refine MS_of (by decide +kernel) (Nat.le_of_ble_eq_true rfl) (fun X hC hX => ?_)
  show V X G 5 0 _ [] _
  have loop : ∀ (n c : Nat) (tv : Int32) (u : HP), c ≤ nC → nC + 1 ≤ c + n → scr h u → Bs tv (fun p => p < c ∧ (fitP (h.1 (3, 0, 1)) (beg ((stH h).1 (3, 0, 2)) w p x) nW w nS)) → V X G 5 22 [(4, vi (nI c)), (3, vi tv), (0, vr (3, 0, 0)), (1, vi (nI w)), (2, vi (nI x))] [] u := by
    intro n
    induction n with
    | zero => intro c tv u h1 h2; exact absurd h2 (by omega)
    | succ n ih =>
      intro c tv u h1 h2 ha htv
      refine v_iload hC (pc := 22) 0 rfl dX7_fits_22 ?_
      refine v_aload_n hC (pc := 24) (k := 0) 2 rfl dX7_fits_24 ?_
      refine v_getI hC (pc := 25) dX7_fits_25 fl_X7_76 rfl (by first | rfl | exact ok_c hq rfl | exact ok_w hq hw | exact ok_w (by omega) (by omega) | exact ok_s (by omega) (by omega) | exact ok_c (by omega) rfl | assumption) rfl (by decide) (by decide) ?_
      refine v_icmp_ge hC (pc := 28) (tgt := 54) dX7_fits_28 (by decide) (fun c_28 => ?_) (fun c_28 => ?_)
      · skip
        have hk : c = nC := lp_ex (by rw [scr_0 ha, hnc] at c_28; exact c_28) h1 (by omega)
        subst hk
        refine v_iload_n hC (pc := 54) (k := 3) 1 rfl dX7_fits_54 ?_
        refine v_iret hC hX (pc := 55) dX7_fits_55 ?_
        exact ⟨ha, tv, rfl, htv⟩
      · skip
        have hc : c < nC := lp_in (by rw [scr_0 ha, hnc] at c_28; exact c_28) h1 (by omega)
        refine v_iload_n hC (pc := 31) (k := 3) 1 rfl dX7_fits_31 ?_
        refine v_aload_n hC (pc := 32) (k := 0) 2 rfl dX7_fits_32 ?_
        refine v_iload_n hC (pc := 33) (k := 1) 3 rfl dX7_fits_33 ?_
        refine v_iload hC (pc := 34) 0 rfl dX7_fits_34 ?_
        refine v_iload_n hC (pc := 36) (k := 2) 4 rfl dX7_fits_36 ?_
        refine v_callV hC (pc := 37) (As := [_, _, _]) dX7_fits_37 rfl (m_fitsFrom _ _ (d := d - 1) (by omega) u hn8 hn4 (by rw [scr_0 ha]; exact hnw) (by rw [scr_1 ha]; exact hS) (by rw [scr_1 ha]; exact hW) hs8 (by rw [scr_1 ha]; exact hns) (w := w) (c := c) (x := x) hw hc) cv_X7_292 rfl (by decide) rfl (by first | rfl | exact ok_c hq rfl | exact ok_w hq hw | exact ok_w (by omega) (by omega) | exact ok_s (by omega) (by omega) | exact ok_c (by omega) rfl | assumption) (Nat.le_of_ble_eq_true rfl) (by omega) (fun r h' hr => ?_)
        obtain ⟨hsc, rfl⟩ := hr
        have ha2 := scr_t ha hsc
        have hq : fitP (u.1 (3, 0, 1)) (beg ((stH u).1 (3, 0, 2)) w c x) nW w nS ↔ (fitP (h.1 (3, 0, 1)) (beg ((stH h).1 (3, 0, 2)) w c x) nW w nS) := by
          rw [scr_1 ha]
          have e1 := beg_wf (x := x) hn8 hn4 hw hc (stH_wf hn8 hn4 hS hW).1 (stH_wf hn8 hn4 hS hW).2
          exact (fitP_cong (beg_cong (fun k hk => by rw [stH_at h hk, stH_at u hk, scr_1 ha]) w c x) hn8 hn4 hw e1.1 e1.2).symm
        rw [bP_cong hq]
        show V _ _ _ (37 + 3) _ (_ :: _) _
        refine v_callS hC (pc := 40) (As := [_]) dX7_fits_40 rfl (m_flag _ _ (d := d - 1) (by omega) _ _) cs_X7_147 (Nat.le_of_ble_eq_true rfl) (by omega) (fun r h' hr => ?_)
        obtain ⟨he9, rfl⟩ := hr
        rw [he9]
        clear he9 h'
        rw [flg_P]
        show V _ _ _ (40 + 3) _ (_ :: _) _
        refine v_iload hC (pc := 43) 0 rfl dX7_fits_43 ?_
        refine v_ishl hC (pc := 45) dX7_fits_45 ?_
        refine v_ior hC (pc := 46) dX7_fits_46 ?_
        refine v_istore_n hC (pc := 47) (l' := [(3, _), (4, _), (0, _), (1, _), (2, _)]) dX7_fits_47 (by decide) rfl ?_
        refine v_iinc hC (pc := 48) (l' := [(4, _), (3, _), (0, _), (1, _), (2, _)]) 1 (v := nI (c + 1)) dX7_fits_48 rfl (nI_inc c) (by decide) rfl ?_
        refine v_goto hC (pc := 51) (tgt := 22) dX7_fits_51 (by decide) ?_
        refine ih (c + 1) _ _ (by omega) (by omega) ha2 (Bs_congr (Bs_or htv (Bs_shl (fitP (h.1 (3, 0, 1)) (beg ((stH h).1 (3, 0, 2)) w c x) nW w nS) (by omega))) (fun p => ?_))
        constructor
        · rintro (⟨z1, z2⟩ | ⟨z1, rfl⟩)
          · exact ⟨by omega, z2⟩
          · exact ⟨by omega, z1⟩
        · rintro ⟨z1, z2⟩
          rcases (show p < c ∨ p = c by omega) with y | rfl
          · exact Or.inl ⟨y, z2⟩
          · exact Or.inr ⟨z2, rfl⟩
  refine v_aload_n hC (pc := 0) (k := 0) 0 rfl dX7_fits_0 ?_
  refine v_iload_n hC (pc := 1) (k := 1) 1 rfl dX7_fits_1 ?_
  refine v_callV hC (pc := 2) (As := [_]) dX7_fits_2 rfl (m_isWalker_t _ _ (d := d - 1) (by omega) _ (c := w) (by assumption) hn4 hnw) cv_X7_216 rfl (by decide) rfl (by first | rfl | exact ok_c hq rfl | exact ok_w hq hw | exact ok_w (by omega) (by omega) | exact ok_s (by omega) (by omega) | exact ok_c (by omega) rfl | assumption) (Nat.le_of_ble_eq_true rfl) (by omega) (fun r h' hr => ?_)
  obtain ⟨he9, rfl⟩ := hr
  rw [he9]
  clear he9 h'
  show V _ _ _ (2 + 3) _ (_ :: _) _
  refine v_if_eq hC (pc := 5) (tgt := 15) dX7_fits_5 (by decide) (fun c_5 => ?_) (fun c_5 => ?_)
  · exact absurd c_5 (by decide)
  · skip
    refine v_iload_n hC (pc := 8) (k := 2) 2 rfl dX7_fits_8 ?_
    refine v_callS hC (pc := 9) (As := [_]) dX7_fits_9 rfl (m_isPart_t _ _ (d := d - 1) (by omega) _ (s := x) (by assumption)) cs_X7_213 (Nat.le_of_ble_eq_true rfl) (by omega) (fun r h' hr => ?_)
    obtain ⟨he9, rfl⟩ := hr
    rw [he9]
    clear he9 h'
    show V _ _ _ (9 + 3) _ (_ :: _) _
    refine v_if_ne hC (pc := 12) (tgt := 17) dX7_fits_12 (by decide) (fun c_12 => ?_) (fun c_12 => ?_)
    · skip
      refine v_iconst hC (pc := 17) (v := 0) (by decide) dX7_fits_17 ?_
      refine v_istore_n hC (pc := 18) (l' := [(3, _), (0, _), (1, _), (2, _)]) dX7_fits_18 (by decide) rfl ?_
      refine v_iconst hC (pc := 19) (v := 0) (by decide) dX7_fits_19 ?_
      refine v_istore hC (pc := 20) (l' := [(4, _), (3, _), (0, _), (1, _), (2, _)]) dX7_fits_20 (by decide) rfl ?_
      exact loop (nC + 1) 0 _ _ (by omega) (by omega) (scr_r h) (fun p => by rw [b_0]; exact ⟨fun z => (by cases z), fun z => absurd z.1 (Nat.not_lt_zero _)⟩)
    · exact absurd c_12 (by decide)

set_option maxRecDepth 20000 in
set_option maxHeartbeats 2000000 in
theorem m_fits_bad (l9 : Launch) (G : WT) {d : Nat} (hd : 3 ≤ d) (h : HP) {nW : Nat} (hn4 : nW ≤ 4) (hnw : h.1 (3, 0, 0) 4 = nI nW) (w x : Int32) (hbad : ¬ ((¬ w < 0 ∧ ¬ nI nW ≤ w) ∧ (x = 0 ∨ x = 1))) : MS l9 G yX7_fits cX7_fits 5 (some .int) d [vr (3, 0, 0), vi w, vi x] h (fun r h1 => h1 = h ∧ r = some (vi (-1))) := by
  refine MS_of (by decide +kernel) (Nat.le_of_ble_eq_true rfl) (fun X hC hX => ?_)
  show V X G 5 0 _ [] _
  refine v_aload_n hC (pc := 0) (k := 0) 0 rfl dX7_fits_0 ?_
  refine v_iload_n hC (pc := 1) (k := 1) 1 rfl dX7_fits_1 ?_
  refine v_callV hC (pc := 2) (As := [_]) dX7_fits_2 rfl (m_isWalker _ _ (d := d - 1) (by omega) _ hn4 hnw _) cv_X7_216 rfl (by decide) rfl (by first | rfl | exact ok_c hq rfl | exact ok_w hq hw | exact ok_w (by omega) (by omega) | exact ok_s (by omega) (by omega) | exact ok_c (by omega) rfl | assumption) (Nat.le_of_ble_eq_true rfl) (by omega) (fun r h' hr => ?_)
  obtain ⟨he9, rfl⟩ := hr
  rw [he9]
  clear he9 h'
  show V _ _ _ (2 + 3) _ (_ :: _) _
  refine v_ifb_eq hC (pc := 5) (tgt := 15) dX7_fits_5 (by decide) (fun c_5 => ?_) (fun c_5 => ?_)
  · skip
    refine v_iconst hC (pc := 15) (v := (-1)) (by decide) dX7_fits_15 ?_
    refine v_iret hC hX (pc := 16) dX7_fits_16 ?_
    exact ⟨rfl, rfl⟩
  · skip
    refine v_iload_n hC (pc := 8) (k := 2) 2 rfl dX7_fits_8 ?_
    refine v_callS hC (pc := 9) (As := [_]) dX7_fits_9 rfl (m_isPart _ _ (d := d - 1) (by omega) _ _) cs_X7_213 (Nat.le_of_ble_eq_true rfl) (by omega) (fun r h' hr => ?_)
    obtain ⟨he9, rfl⟩ := hr
    rw [he9]
    clear he9 h'
    show V _ _ _ (9 + 3) _ (_ :: _) _
    refine v_ifb_ne hC (pc := 12) (tgt := 17) dX7_fits_12 (by decide) (fun c_12 => ?_) (fun c_12 => ?_)
    · skip
      exact absurd ⟨c_5, c_12⟩ hbad
    · skip
      refine v_iconst hC (pc := 15) (v := (-1)) (by decide) dX7_fits_15 ?_
      refine v_iret hC hX (pc := 16) dX7_fits_16 ?_
      exact ⟨rfl, rfl⟩

