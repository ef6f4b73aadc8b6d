/-! THE READER OF THE CLASS: its draft, lines of numbers -/
theorem ne_1 {a b : Nat × Nat} {m n : Nat} (h : m ≠ n) : ((m, a) : PId) ≠ (n, b) := fun z => h (congrArg Prod.fst z)
def WC (h : HP) (q : Nat) (D : Nat → Int32) (w : Nat) : Prop := h.1 (6, q, w) 0 = D (18 + 6 * w + 0) ∧ h.1 (6, q, w) 1 = D (18 + 6 * w + 1) ∧ h.1 (6, q, w) 2 = D (18 + 6 * w + 2) ∧ h.1 (6, q, w) 3 = D (18 + 6 * w + 4) ∧ h.1 (6, q, w) 4 = D (18 + 6 * w + 3) ∧ h.1 (6, q, w) 5 = D (18 + 6 * w + 5)
/-- the class's draft -/
def DCd (h : HP) (D : Nat → Int32) : Prop := (h.1 (0, 4, 0) 0 = D 80 ∧ h.1 (0, 4, 0) 1 = D 16 ∧ h.1 (0, 4, 0) 2 = D 17 ∧ h.1 (0, 4, 0) 3 = 0 ∧ h.1 (0, 4, 0) 4 = D 81 ∧ h.1 (0, 4, 0) 5 = 0) ∧ (∀ c s, c < 8 → s < 2 → h.1 (0, 4, 6) (2 * c + s) = D (8 * s + c)) ∧ (∀ g, g < 4 → h.1 (0, 4, 8) g = D (43 + g)) ∧ ∀ n, n ≤ 4 → D 81 = nI n → ∀ w, w < n → WC h 4 D w
def DCt (h : HP) (D : Nat → Int32) : Prop := h.1 (1, 0, 4) 0 = (D 82 >>> (nI 2 &&& 31)) &&& 1 ∧ h.1 (1, 0, 4) 1 = D 83 ∧ h.1 (1, 0, 4) 2 = D 84 ∧ h.1 (1, 0, 4) 3 = D 16 ∧ h.1 (1, 0, 4) 4 = (D 82 >>> (nI 3 &&& 31)) &&& 1 ∧ h.1 (1, 0, 4) 7 = (D 82 >>> (nI 4 &&& 31)) &&& 1
def KB (h : HP) : Prop := ∀ w, w < 4 → h.1 (6, 4, w) 2 = 0 ∨ h.1 (6, 4, w) 2 = 1
def CE (h0 h : HP) : Prop := (∀ i : PId, i ≠ (1, 0, 2) → i ≠ (1, 0, 4) → ¬ isC 4 i → h.1 i = h0.1 i) ∧ (h.2 = h0.2 ∧ (KB h0 → KB h)) ∧ ∀ k, k = 1 ∨ k = 4 ∨ k = 0 ∨ 8 ≤ k → h.1 (1, 0, 2) k = h0.1 (1, 0, 2) k
theorem CE_r (h : HP) : CE h h := ⟨fun _ _ _ _ => rfl, ⟨rfl, id⟩, fun _ _ => rfl⟩
theorem nC2 : ¬ isC 4 (1, 0, 2) := fun z => z.1.elim (fun y => absurd y (by decide)) (fun y => absurd y (by decide))
theorem nC3 : ¬ isC 4 (1, 0, 3) := fun z => z.1.elim (fun y => absurd y (by decide)) (fun y => absurd y (by decide))
theorem nC4 : ¬ isC 4 (1, 0, 4) := fun z => z.1.elim (fun y => absurd y (by decide)) (fun y => absurd y (by decide))
theorem CE_F {h0 h u : HP} (h1 : CE h0 h) (h2 : FrR h u) : CE h0 u := ⟨fun i a b c => (h2.1 i a).trans (h1.1 i a b c), ⟨h2.2.1.trans h1.2.1.1, fun z w hw => by rw [h2.1 (6, 4, w) (ne_1 (by decide))]; exact h1.2.1.2 z w hw⟩, fun k hk => (h2.2.2 k hk).trans (h1.2.2 k hk)⟩
theorem CE_t {h0 h : HP} {k : Nat} {x : Int32} (h1 : CE h0 h) : CE h0 (upI h (1, 0, 4) k x) := ⟨fun i a b c => by rw [upI_ne _ _ _ b]; exact h1.1 i a b c, ⟨h1.2.1.1, fun z w hw => by rw [upI_ne _ _ _ (ne_1 (by decide))]; exact h1.2.1.2 z w hw⟩, fun m hm => by rw [upI_ne _ _ _ (by decide)]; exact h1.2.2 m hm⟩
theorem CE_c {h0 h : HP} {i : PId} {k : Nat} {x : Int32} (hi : isC 4 i) (h1 : CE h0 h) (hk : i.1 = 6 → k = 2 → x = 0 ∨ x = 1 := by intro a b; first | exact absurd b (by decide) | exact absurd a (by decide)) : CE h0 (upI h i k x) := ⟨fun j a b c => by rw [upI_ne _ _ _ (show j ≠ i from fun e => c (by rw [e]; exact hi))]; exact h1.1 j a b c, ⟨h1.2.1.1, fun z w hw => by
  by_cases e : ((6, 4, w) : PId) = i ∧ 2 = k
  · rw [← e.1, ← e.2, upI_i]; exact hk (by rw [← e.1]) e.2.symm
  · have e9 : (upI h i k x).1 (6, 4, w) 2 = h.1 (6, 4, w) 2 := by simp only [upI, if_neg e]
    rw [e9]; exact h1.2.1.2 z w hw⟩, fun m hm => by rw [upI_ne _ _ _ (show ((1, 0, 2) : PId) ≠ i from fun e => nC2 (by rw [e]; exact hi))]; exact h1.2.2 m hm⟩
def CSt (t : Nat) (h0 h : HP) (a : PA) : Prop := CE h0 h ∧ a.1 ≤ t ∧ DCd h a.2 ∧ DCt h a.2 ∧ h.1 (1, 0, 2) 2 = 0 ∧ h.1 (1, 0, 2) 5 = nI a.1
def CFl (h0 h : HP) (c : Int32) (f : Nat) : Prop := CE h0 h ∧ h.1 (1, 0, 2) 2 = c ∧ h.1 (1, 0, 2) 3 = nI f
/-- what a line's reading answers and leaves -/
def TKP (t : Nat) (h0 h1 : HP) (x : Sum PE PA) (r : Option PV) : Prop := match x with
  | .inl e => r = some (vi 0) ∧ CFl h0 h1 e.1 e.2
  | .inr b => r = some (vi 1) ∧ CSt t h0 h1 b
theorem CFl_rf {h0 h u : HP} {c : Int32} {f : Nat} (hE : CE h0 h) (hF : RFp h u c f) : CFl h0 u c f := ⟨CE_F hE hF.1, hF.2.1, hF.2.2⟩
theorem DCd_F {h u : HP} {D : Nat → Int32} (hd : DCd h D) (hF : FrR h u) : DCd u D := by
  obtain ⟨⟨a0, a1, a2, a3, a4, a5⟩, a6, a7, a8⟩ := hd
  have e0 := hF.1 (0, 4, 0) (by decide)
  have e1 := hF.1 (0, 4, 6) (by decide)
  have e2 := hF.1 (0, 4, 8) (by decide)
  unfold DCd
  rw [e0, e1, e2]
  refine ⟨⟨a0, a1, a2, a3, a4, a5⟩, a6, a7, fun n hn e w hw => ?_⟩
  unfold WC
  rw [hF.1 (6, 4, w) (ne_1 (by decide))]
  exact a8 n hn e w hw
theorem DCt_F {h u : HP} {D : Nat → Int32} (hd : DCt h D) (hF : FrR h u) : DCt u D := by
  unfold DCt
  rw [hF.1 (1, 0, 4) (by decide)]
  exact hd
/-- a draft alike where the class looks -/
theorem DCd_c {h : HP} {D E : Nat → Int32} (hd : DCd h D) (e : ∀ k, k < 82 → E k = D k) : DCd h E := by
  obtain ⟨⟨a0, a1, a2, a3, a4, a5⟩, a6, a7, a8⟩ := hd
  unfold DCd
  rw [e 80 (by omega), e 16 (by omega), e 17 (by omega), e 81 (by omega)]
  refine ⟨⟨a0, a1, a2, a3, a4, a5⟩, fun c s hc hs => by rw [e _ (by omega)]; exact a6 c s hc hs, fun g hg => by rw [e _ (by omega)]; exact a7 g hg, fun n hn en w hw => ?_⟩
  have z := a8 n hn en w hw
  unfold WC at z ⊢
  rw [e (18 + 6 * w + 0) (by omega), e (18 + 6 * w + 1) (by omega), e (18 + 6 * w + 2) (by omega), e (18 + 6 * w + 3) (by omega), e (18 + 6 * w + 4) (by omega), e (18 + 6 * w + 5) (by omega)]
  exact z
theorem DCt_c {h : HP} {D E : Nat → Int32} (hd : DCt h D) (e : ∀ k, k = 16 ∨ (82 ≤ k ∧ k ≤ 84) → E k = D k) : DCt h E := by
  unfold DCt
  rw [e 16 (by omega), e 82 (by omega), e 83 (by omega), e 84 (by omega)]
  exact hd
theorem DCd_t {h : HP} {D : Nat → Int32} {k : Nat} {x : Int32} (hd : DCd h D) : DCd (upI h (1, 0, 4) k x) D := by
  obtain ⟨a1, a6, a7, a8⟩ := hd
  unfold DCd
  rw [upI_ne _ _ _ (by decide), upI_ne _ _ _ (by decide), upI_ne _ _ _ (by decide)]
  refine ⟨a1, a6, a7, fun n hn en w hw => ?_⟩
  have z := a8 n hn en w hw
  unfold WC at z ⊢
  rw [upI_ne _ _ _ (ne_1 (by decide))]
  exact z
theorem told_k : ∀ m, m < 32 → (((nI m ||| ((1 : Int32) <<< (nI 2 &&& 31))) >>> (nI 2 &&& 31)) &&& 1 = (((nI m >>> (nI 2 &&& 31)) &&& 1) ||| ((1 : Int32) <<< (nI 0 &&& 31))) ∧ ((nI m ||| ((1 : Int32) <<< (nI 2 &&& 31))) >>> (nI 3 &&& 31)) &&& 1 = (nI m >>> (nI 3 &&& 31)) &&& 1 ∧ ((nI m ||| ((1 : Int32) <<< (nI 2 &&& 31))) >>> (nI 4 &&& 31)) &&& 1 = (nI m >>> (nI 4 &&& 31)) &&& 1) ∧ (((nI m ||| ((1 : Int32) <<< (nI 3 &&& 31))) >>> (nI 3 &&& 31)) &&& 1 = (((nI m >>> (nI 3 &&& 31)) &&& 1) ||| ((1 : Int32) <<< (nI 0 &&& 31))) ∧ ((nI m ||| ((1 : Int32) <<< (nI 3 &&& 31))) >>> (nI 2 &&& 31)) &&& 1 = (nI m >>> (nI 2 &&& 31)) &&& 1 ∧ ((nI m ||| ((1 : Int32) <<< (nI 3 &&& 31))) >>> (nI 4 &&& 31)) &&& 1 = (nI m >>> (nI 4 &&& 31)) &&& 1) ∧ (((nI m ||| ((1 : Int32) <<< (nI 4 &&& 31))) >>> (nI 4 &&& 31)) &&& 1 = (((nI m >>> (nI 4 &&& 31)) &&& 1) ||| ((1 : Int32) <<< (nI 0 &&& 31))) ∧ ((nI m ||| ((1 : Int32) <<< (nI 4 &&& 31))) >>> (nI 2 &&& 31)) &&& 1 = (nI m >>> (nI 2 &&& 31)) &&& 1 ∧ ((nI m ||| ((1 : Int32) <<< (nI 4 &&& 31))) >>> (nI 3 &&& 31)) &&& 1 = (nI m >>> (nI 3 &&& 31)) &&& 1) := by decide +kernel
theorem DCt_2 {h : HP} {D : Nat → Int32} (hd : DCt h D) (hm : ∃ m, m < 32 ∧ D 82 = nI m) : DCt (upI h (1, 0, 4) 0 (h.1 (1, 0, 4) 0 ||| (1 <<< (nI 0 &&& 31)))) (upd D 82 (D 82 ||| (1 <<< (nI 2 &&& 31)))) := by
  obtain ⟨m, hm, em⟩ := hm
  obtain ⟨a0, a1, a2, a3, a4, a7⟩ := hd
  have x := (told_k m hm).1
  exact ⟨by rw [upI_i, updi, em, x.1, ← em, ← a0], by rw [upI_k _ _ _ _ _ (by decide), updo (by decide)]; exact a1, by rw [upI_k _ _ _ _ _ (by decide), updo (by decide)]; exact a2, by rw [upI_k _ _ _ _ _ (by decide), updo (by decide)]; exact a3, by rw [upI_k _ _ _ _ _ (by decide), updi, em, x.2.1, ← em]; exact a4, by rw [upI_k _ _ _ _ _ (by decide), updi, em, x.2.2, ← em]; exact a7⟩
theorem DCt_3 {h : HP} {D : Nat → Int32} (hd : DCt h D) (hm : ∃ m, m < 32 ∧ D 82 = nI m) : DCt (upI h (1, 0, 4) 4 (h.1 (1, 0, 4) 4 ||| (1 <<< (nI 0 &&& 31)))) (upd D 82 (D 82 ||| (1 <<< (nI 3 &&& 31)))) := by
  obtain ⟨m, hm, em⟩ := hm
  obtain ⟨a0, a1, a2, a3, a4, a7⟩ := hd
  have x := (told_k m hm).2.1
  exact ⟨by rw [upI_k _ _ _ _ _ (by decide), updi, em, x.2.1, ← em]; exact a0, by rw [upI_k _ _ _ _ _ (by decide), updo (by decide)]; exact a1, by rw [upI_k _ _ _ _ _ (by decide), updo (by decide)]; exact a2, by rw [upI_k _ _ _ _ _ (by decide), updo (by decide)]; exact a3, by rw [upI_i, updi, em, x.1, ← em, ← a4], by rw [upI_k _ _ _ _ _ (by decide), updi, em, x.2.2, ← em]; exact a7⟩
theorem DCt_4 {h : HP} {D : Nat → Int32} (hd : DCt h D) (hm : ∃ m, m < 32 ∧ D 82 = nI m) : DCt (upI h (1, 0, 4) 7 (h.1 (1, 0, 4) 7 ||| (1 <<< (nI 0 &&& 31)))) (upd D 82 (D 82 ||| (1 <<< (nI 4 &&& 31)))) := by
  obtain ⟨m, hm, em⟩ := hm
  obtain ⟨a0, a1, a2, a3, a4, a7⟩ := hd
  have x := (told_k m hm).2.2
  exact ⟨by rw [upI_k _ _ _ _ _ (by decide), updi, em, x.2.1, ← em]; exact a0, by rw [upI_k _ _ _ _ _ (by decide), updo (by decide)]; exact a1, by rw [upI_k _ _ _ _ _ (by decide), updo (by decide)]; exact a2, by rw [upI_k _ _ _ _ _ (by decide), updo (by decide)]; exact a3, by rw [upI_k _ _ _ _ _ (by decide), updi, em, x.2.2, ← em]; exact a4, by rw [upI_i, updi, em, x.1, ← em, ← a7]⟩
theorem DCd_80 {h : HP} {D : Nat → Int32} (v : Int32) (hd : DCd h D) : DCd (upI h (0, 4, 0) 0 v) (upd D 80 v) := by
  obtain ⟨⟨a0, a1, a2, a3, a4, a5⟩, a6, a7, a8⟩ := hd
  refine ⟨⟨(upI_i _ _ _ _).trans (updi _ _ _).symm, (upI_k _ _ _ _ _ (by decide)).trans (a1.trans (updo (by decide)).symm), (upI_k _ _ _ _ _ (by decide)).trans (a2.trans (updo (by decide)).symm), (upI_k _ _ _ _ _ (by decide)).trans a3, (upI_k _ _ _ _ _ (by decide)).trans (a4.trans (updo (by decide)).symm), (upI_k _ _ _ _ _ (by decide)).trans a5⟩, fun c s hc hs => ?_, fun g hg => ?_, fun n hn en w hw => ?_⟩
  · rw [upI_ne _ _ _ (by decide), updo (by omega)]; exact a6 c s hc hs
  · rw [upI_ne _ _ _ (by decide), updo (by omega)]; exact a7 g hg
  · rw [updo (by decide)] at en
    have z := a8 n hn en w hw
    unfold WC at z ⊢
    rw [upI_ne _ _ _ (ne_1 (by decide)), updo (by omega), updo (by omega), updo (by omega), updo (by omega), updo (by omega), updo (by omega)]
    exact z
theorem DCd_16 {h : HP} {D : Nat → Int32} (v : Int32) (hd : DCd h D) : DCd (upI h (0, 4, 0) 1 v) (upd D 16 v) := by
  obtain ⟨⟨a0, a1, a2, a3, a4, a5⟩, a6, a7, a8⟩ := hd
  refine ⟨⟨(upI_k _ _ _ _ _ (by decide)).trans (a0.trans (updo (by decide)).symm), (upI_i _ _ _ _).trans (updi _ _ _).symm, (upI_k _ _ _ _ _ (by decide)).trans (a2.trans (updo (by decide)).symm), (upI_k _ _ _ _ _ (by decide)).trans a3, (upI_k _ _ _ _ _ (by decide)).trans (a4.trans (updo (by decide)).symm), (upI_k _ _ _ _ _ (by decide)).trans a5⟩, fun c s hc hs => ?_, fun g hg => ?_, fun n hn en w hw => ?_⟩
  · rw [upI_ne _ _ _ (by decide), updo (by omega)]; exact a6 c s hc hs
  · rw [upI_ne _ _ _ (by decide), updo (by omega)]; exact a7 g hg
  · rw [updo (by decide)] at en
    have z := a8 n hn en w hw
    unfold WC at z ⊢
    rw [upI_ne _ _ _ (ne_1 (by decide)), updo (by omega), updo (by omega), updo (by omega), updo (by omega), updo (by omega), updo (by omega)]
    exact z
theorem DCd_17 {h : HP} {D : Nat → Int32} (v : Int32) (hd : DCd h D) : DCd (upI h (0, 4, 0) 2 v) (upd D 17 v) := by
  obtain ⟨⟨a0, a1, a2, a3, a4, a5⟩, a6, a7, a8⟩ := hd
  refine ⟨⟨(upI_k _ _ _ _ _ (by decide)).trans (a0.trans (updo (by decide)).symm), (upI_k _ _ _ _ _ (by decide)).trans (a1.trans (updo (by decide)).symm), (upI_i _ _ _ _).trans (updi _ _ _).symm, (upI_k _ _ _ _ _ (by decide)).trans a3, (upI_k _ _ _ _ _ (by decide)).trans (a4.trans (updo (by decide)).symm), (upI_k _ _ _ _ _ (by decide)).trans a5⟩, fun c s hc hs => ?_, fun g hg => ?_, fun n hn en w hw => ?_⟩
  · rw [upI_ne _ _ _ (by decide), updo (by omega)]; exact a6 c s hc hs
  · rw [upI_ne _ _ _ (by decide), updo (by omega)]; exact a7 g hg
  · rw [updo (by decide)] at en
    have z := a8 n hn en w hw
    unfold WC at z ⊢
    rw [upI_ne _ _ _ (ne_1 (by decide)), updo (by omega), updo (by omega), updo (by omega), updo (by omega), updo (by omega), updo (by omega)]
    exact z
theorem DCt_p {h : HP} {D : Nat → Int32} {i : PId} {k : Nat} {v : Int32} (hi : (1, 0, 4) ≠ i) (hd : DCt h D) : DCt (upI h i k v) D := by
  unfold DCt
  rw [upI_ne _ _ _ hi]
  exact hd
set_option maxRecDepth 20000 in
set_option maxHeartbeats 2000000 in
theorem t_tell_n (l9 : Launch) (G : WT) {d : Nat} (hd : 2 ≤ d) (h : HP) {l c : Nat} (hl : l < 8) (hb : ((h.1 (1, 0, 4) l) >>> (nI c &&& 31)) &&& 1 = 1) : MS l9 G yX2_tellOnce cX2_tellOnce 3 (some .boolean) d [vr (1, 0, 2), vi (nI l), vi (nI c)] h (fun r h1 => h1 = rfH h 4 (h.1 (1, 0, 2) 7) ∧ r = some (vi 0)) := by
  refine MS_of (by decide +kernel) (Nat.le_of_ble_eq_true rfl) (fun X hC hX => ?_)
  show V X G 3 0 _ [] _
  refine v_iload_n hC (pc := 0) (k := 1) 1 rfl dX2_tellOnce_0 ?_
  refine v_if_lt hC (pc := 1) (tgt := 13) dX2_tellOnce_1 (by decide) (fun c_1 => ?_) (fun c_1 => ?_)
  · exact absurd c_1 (nI_pos (by omega))
  · skip
    refine v_iload_n hC (pc := 4) (k := 1) 1 rfl dX2_tellOnce_4 ?_
    refine v_aload_n hC (pc := 5) (k := 0) 0 rfl dX2_tellOnce_5 ?_
    refine v_getR hC (pc := 6) dX2_tellOnce_6 fl_X2_22 rfl (by first | rfl | exact ok_c hq rfl | exact ok_w hq hw | exact ok_w (by omega) (by omega) | exact ok_s (by omega) (by omega) | exact ok_c (by omega) rfl | assumption) rfl (by decide) (by decide) rfl ?_
    refine v_alen hC (pc := 9) 0 dX2_tellOnce_9 rfl (fun _ => rfl) (by first | exact Or.inl rfl | exact Or.inr rfl) (by first | rfl | exact ok_c hq rfl | exact ok_w hq hw | exact ok_w (by omega) (by omega) | exact ok_s (by omega) (by omega) | exact ok_c (by omega) rfl | assumption) (v := nI 8) (by decide +kernel) ?_
    refine v_icmp_lt hC (pc := 10) (tgt := 15) dX2_tellOnce_10 (by decide) (fun c_10 => ?_) (fun c_10 => ?_)
    · skip
      refine v_aload_n hC (pc := 15) (k := 0) 0 rfl dX2_tellOnce_15 ?_
      refine v_getR hC (pc := 16) dX2_tellOnce_16 fl_X2_22 rfl (by first | rfl | exact ok_c hq rfl | exact ok_w hq hw | exact ok_w (by omega) (by omega) | exact ok_s (by omega) (by omega) | exact ok_c (by omega) rfl | assumption) rfl (by decide) (by decide) rfl ?_
      refine v_iload_n hC (pc := 19) (k := 1) 1 rfl dX2_tellOnce_19 ?_
      refine v_iald hC (pc := 20) dX2_tellOnce_20 rfl (by first | rfl | exact ok_c hq rfl | exact ok_w hq hw | exact ok_w (by omega) (by omega) | exact ok_s (by omega) (by omega) | exact ok_c (by omega) rfl | assumption) (vp_nat (by omega) (by decide)) ?_
      rw [nI_clamp (show l < 2 ^ 31 by omega)]
      refine v_iload_n hC (pc := 21) (k := 2) 2 rfl dX2_tellOnce_21 ?_
      refine v_ishr hC (pc := 22) dX2_tellOnce_22 ?_
      refine v_iconst hC (pc := 23) (v := 1) (by decide) dX2_tellOnce_23 ?_
      refine v_iand hC (pc := 24) dX2_tellOnce_24 ?_
      refine v_iconst hC (pc := 25) (v := 1) (by decide) dX2_tellOnce_25 ?_
      refine v_icmp_ne hC (pc := 26) (tgt := 39) dX2_tellOnce_26 (by decide) (fun c_26 => ?_) (fun c_26 => ?_)
      · exact absurd hb c_26
      · skip
        refine v_aload_n hC (pc := 29) (k := 0) 0 rfl dX2_tellOnce_29 ?_
        refine v_iconst hC (pc := 30) (v := 4) (by decide) dX2_tellOnce_30 ?_
        refine v_aload_n hC (pc := 31) (k := 0) 0 rfl dX2_tellOnce_31 ?_
        refine v_getI hC (pc := 32) dX2_tellOnce_32 fl_X2_72 rfl (by first | rfl | exact ok_c hq rfl | exact ok_w hq hw | exact ok_w (by omega) (by omega) | exact ok_s (by omega) (by omega) | exact ok_c (by omega) rfl | assumption) rfl (by decide) (by decide) ?_
        refine v_callV hC (pc := 35) (As := [_, _]) dX2_tellOnce_35 rfl (t_refuse _ _ (d := d - 1) (by omega) _ _ _) cv_X2_64 rfl (by decide) rfl (by first | rfl | exact ok_c hq rfl | exact ok_w hq hw | exact ok_w (by omega) (by omega) | exact ok_s (by omega) (by omega) | exact ok_c (by omega) rfl | assumption) (Nat.le_of_ble_eq_true rfl) (by omega) (fun r h' hr => ?_)
        obtain ⟨he9, rfl⟩ := hr
        rw [he9]
        clear he9 h'
        show V _ _ _ (35 + 3) _ (_ :: _) _
        refine v_zret hC hX (pc := 38) dX2_tellOnce_38 (nar_b (by first | exact Or.inl rfl | exact Or.inr rfl | exact bI_01 _)) ?_
        exact ⟨rfl, rfl⟩
    · exact absurd (nI_lt hl (by decide)) c_10

set_option maxRecDepth 20000 in
set_option maxHeartbeats 2000000 in
theorem t_tell_g (l9 : Launch) (G : WT) {d : Nat} (hd : 2 ≤ d) (h : HP) {l c : Nat} (hl : l < 8) (hb : ¬ ((h.1 (1, 0, 4) l) >>> (nI c &&& 31)) &&& 1 = 1) : MS l9 G yX2_tellOnce cX2_tellOnce 3 (some .boolean) d [vr (1, 0, 2), vi (nI l), vi (nI c)] h (fun r h1 => h1 = upI h (1, 0, 4) l (h.1 (1, 0, 4) l ||| (1 <<< (nI c &&& 31))) ∧ r = some (vi 1)) := by
  refine MS_of (by decide +kernel) (Nat.le_of_ble_eq_true rfl) (fun X hC hX => ?_)
  show V X G 3 0 _ [] _
  refine v_iload_n hC (pc := 0) (k := 1) 1 rfl dX2_tellOnce_0 ?_
  refine v_if_lt hC (pc := 1) (tgt := 13) dX2_tellOnce_1 (by decide) (fun c_1 => ?_) (fun c_1 => ?_)
  · exact absurd c_1 (nI_pos (by omega))
  · skip
    refine v_iload_n hC (pc := 4) (k := 1) 1 rfl dX2_tellOnce_4 ?_
    refine v_aload_n hC (pc := 5) (k := 0) 0 rfl dX2_tellOnce_5 ?_
    refine v_getR hC (pc := 6) dX2_tellOnce_6 fl_X2_22 rfl (by first | rfl | exact ok_c hq rfl | exact ok_w hq hw | exact ok_w (by omega) (by omega) | exact ok_s (by omega) (by omega) | exact ok_c (by omega) rfl | assumption) rfl (by decide) (by decide) rfl ?_
    refine v_alen hC (pc := 9) 0 dX2_tellOnce_9 rfl (fun _ => rfl) (by first | exact Or.inl rfl | exact Or.inr rfl) (by first | rfl | exact ok_c hq rfl | exact ok_w hq hw | exact ok_w (by omega) (by omega) | exact ok_s (by omega) (by omega) | exact ok_c (by omega) rfl | assumption) (v := nI 8) (by decide +kernel) ?_
    refine v_icmp_lt hC (pc := 10) (tgt := 15) dX2_tellOnce_10 (by decide) (fun c_10 => ?_) (fun c_10 => ?_)
    · skip
      refine v_aload_n hC (pc := 15) (k := 0) 0 rfl dX2_tellOnce_15 ?_
      refine v_getR hC (pc := 16) dX2_tellOnce_16 fl_X2_22 rfl (by first | rfl | exact ok_c hq rfl | exact ok_w hq hw | exact ok_w (by omega) (by omega) | exact ok_s (by omega) (by omega) | exact ok_c (by omega) rfl | assumption) rfl (by decide) (by decide) rfl ?_
      refine v_iload_n hC (pc := 19) (k := 1) 1 rfl dX2_tellOnce_19 ?_
      refine v_iald hC (pc := 20) dX2_tellOnce_20 rfl (by first | rfl | exact ok_c hq rfl | exact ok_w hq hw | exact ok_w (by omega) (by omega) | exact ok_s (by omega) (by omega) | exact ok_c (by omega) rfl | assumption) (vp_nat (by omega) (by decide)) ?_
      rw [nI_clamp (show l < 2 ^ 31 by omega)]
      refine v_iload_n hC (pc := 21) (k := 2) 2 rfl dX2_tellOnce_21 ?_
      refine v_ishr hC (pc := 22) dX2_tellOnce_22 ?_
      refine v_iconst hC (pc := 23) (v := 1) (by decide) dX2_tellOnce_23 ?_
      refine v_iand hC (pc := 24) dX2_tellOnce_24 ?_
      refine v_iconst hC (pc := 25) (v := 1) (by decide) dX2_tellOnce_25 ?_
      refine v_icmp_ne hC (pc := 26) (tgt := 39) dX2_tellOnce_26 (by decide) (fun c_26 => ?_) (fun c_26 => ?_)
      · skip
        refine v_aload_n hC (pc := 39) (k := 0) 0 rfl dX2_tellOnce_39 ?_
        refine v_getR hC (pc := 40) dX2_tellOnce_40 fl_X2_22 rfl (by first | rfl | exact ok_c hq rfl | exact ok_w hq hw | exact ok_w (by omega) (by omega) | exact ok_s (by omega) (by omega) | exact ok_c (by omega) rfl | assumption) rfl (by decide) (by decide) rfl ?_
        refine v_iload_n hC (pc := 43) (k := 1) 1 rfl dX2_tellOnce_43 ?_
        refine v_dup2 hC (pc := 44) dX2_tellOnce_44 ?_
        refine v_iald hC (pc := 45) dX2_tellOnce_45 rfl (by first | rfl | exact ok_c hq rfl | exact ok_w hq hw | exact ok_w (by omega) (by omega) | exact ok_s (by omega) (by omega) | exact ok_c (by omega) rfl | assumption) (vp_nat (by omega) (by decide)) ?_
        rw [nI_clamp (show l < 2 ^ 31 by omega)]
        refine v_iconst hC (pc := 46) (v := 1) (by decide) dX2_tellOnce_46 ?_
        refine v_iload_n hC (pc := 47) (k := 2) 2 rfl dX2_tellOnce_47 ?_
        refine v_ishl hC (pc := 48) dX2_tellOnce_48 ?_
        refine v_ior hC (pc := 49) dX2_tellOnce_49 ?_
        refine v_iast hC (pc := 50) dX2_tellOnce_50 rfl (by first | rfl | exact ok_c hq rfl | exact ok_w hq hw | exact ok_w (by omega) (by omega) | exact ok_s (by omega) (by omega) | exact ok_c (by omega) rfl | assumption) (vp_nat (by omega) (by decide)) ?_
        rw [nI_clamp (show l < 2 ^ 31 by omega)]
        refine v_iconst hC (pc := 51) (v := 1) (by decide) dX2_tellOnce_51 ?_
        refine v_zret hC hX (pc := 52) dX2_tellOnce_52 (nar_b (by first | exact Or.inl rfl | exact Or.inr rfl | exact bI_01 _)) ?_
        exact ⟨rfl, rfl⟩
      · exact absurd c_26 hb
    · exact absurd (nI_lt hl (by decide)) c_10

theorem b01_0 {x : Int32} (h : ((x >>> (nI 0 &&& 31)) &&& 1) = 1) (h2 : x = 0) : False := by rw [h2] at h; exact absurd h (by decide)
theorem b01_1 {x : Int32} (h : ¬ x &&& 1 = 0) : (((x &&& 1) >>> (nI 0 &&& 31)) &&& 1) = 1 := by
  rcases and1 x with e | e
  · exact absurd e h
  · rw [e]; decide
theorem b01_2 {x : Int32} (h : x &&& 1 = 0) : ¬ (((x &&& 1) >>> (nI 0 &&& 31)) &&& 1) = 1 := by rw [h]; decide
set_option maxRecDepth 20000 in
set_option maxHeartbeats 2000000 in
theorem t_takeCity (l9 : Launch) (G : WT) {d : Nat} (hd : 4 ≤ d) {T : Nat → Int32} {t : Nat} {h0 : HP} (ht : t ≤ 160) (htp : h0.1 (1, 0, 2) 1 = nI t) (hT : h0.1 (1, 0, 3) = T) (hT0 : ∀ j, j < t → ¬ T j < 0) (h : HP) {e f : Nat} {D : Nat → Int32} (hS : CSt t h0 h (e, D)) (hq7 : h.1 (1, 0, 2) 7 = nI f) (hm : ∃ m, m < 32 ∧ D 82 = nI m) : MS l9 G yX2_takeCity cX2_takeCity 2 (some .boolean) d [vr (1, 0, 2)] h (fun r h1 => TKP t h0 h1 (iteP ((D 82 >>> (nI 2 &&& 31)) &&& 1 = 0) (linK T t 2 (e, (upd D 82 (D 82 ||| (1 <<< (nI 2 &&& 31)))))) (.inl (4, f))) r) := by
  refine MS_of (by decide +kernel) (Nat.le_of_ble_eq_true rfl) (fun X hC hX => ?_)
  show V X G 2 0 _ [] _
  obtain ⟨hE, he, hDd, hDt, hz, hp⟩ := id hS
  have hld : h.1 (1, 0, 4) 0 = (D 82 >>> (nI 2 &&& 31)) &&& 1 := hDt.1
  have hE1 : CE h0 (upI h (1, 0, 4) 0 (h.1 (1, 0, 4) 0 ||| (1 <<< (nI 0 &&& 31)))) := CE_t hE
  have hDd1 : DCd (upI h (1, 0, 4) 0 (h.1 (1, 0, 4) 0 ||| (1 <<< (nI 0 &&& 31)))) (upd D 82 (D 82 ||| (1 <<< (nI 2 &&& 31)))) := DCd_c (DCd_t hDd) (fun k hk => updo (by omega))
  have hDt1 : DCt (upI h (1, 0, 4) 0 (h.1 (1, 0, 4) 0 ||| (1 <<< (nI 0 &&& 31)))) (upd D 82 (D 82 ||| (1 <<< (nI 2 &&& 31)))) := DCt_2 hDt hm
  by_cases hq : (D 82 >>> (nI 2 &&& 31)) &&& 1 = 0
  · cases hn : numS T t 2 8 (e, (upd D 82 (D 82 ||| (1 <<< (nI 2 &&& 31))))) with
    | inl x =>
      obtain ⟨xc, xf⟩ := x
      refine v_aload_n hC (pc := 0) (k := 0) 0 rfl dX2_takeCity_0 ?_
      refine v_iconst hC (pc := 1) (v := 0) (by decide) dX2_takeCity_1 ?_
      refine v_iconst hC (pc := 2) (v := 0) (by decide) dX2_takeCity_2 ?_
      refine v_callV hC (pc := 3) (As := [_, _]) dX2_takeCity_3 rfl (t_tell_g _ _ (d := d - 1) (by omega) _ (l := 0) (c := 0) (by decide) (by rw [hld]; exact b01_2 hq)) cv_X2_136 rfl (by decide) rfl (by first | rfl | exact ok_c hq rfl | exact ok_w hq hw | exact ok_w (by omega) (by omega) | exact ok_s (by omega) (by omega) | exact ok_c (by omega) rfl | assumption) (Nat.le_of_ble_eq_true rfl) (by omega) (fun r h' hr => ?_)
      obtain ⟨he9, rfl⟩ := hr
      rw [he9]
      clear he9 h'
      show V _ _ _ (3 + 3) _ (_ :: _) _
      refine v_if_ne hC (pc := 6) (tgt := 11) dX2_takeCity_6 (by decide) (fun c_6 => ?_) (fun c_6 => ?_)
      · skip
        refine v_aload_n hC (pc := 11) (k := 0) 0 rfl dX2_takeCity_11 ?_
        refine v_iconst hC (pc := 12) (v := 2) (by decide) dX2_takeCity_12 ?_
        refine v_bipush hC (pc := 13) (v := 8) (by decide +kernel) dX2_takeCity_13 ?_
        refine v_callV hC (pc := 15) (As := [_, _]) dX2_takeCity_15 rfl (t_num_f _ _ (d := d - 1) (by omega) _ (a := ((e, (upd D 82 (D 82 ||| (1 <<< (nI 2 &&& 31))))) : PA)) ht ((hE1).2.2 1 (by decide) |>.trans htp) (((hE1).1 (1, 0, 3) (by decide) (by decide) nC3).trans hT) hT0 (by rw [upI_ne _ _ _ (by decide)]; exact hp) he 2 8 hn) cv_X2_139 rfl (by decide) rfl (by first | rfl | exact ok_c hq rfl | exact ok_w hq hw | exact ok_w (by omega) (by omega) | exact ok_s (by omega) (by omega) | exact ok_c (by omega) rfl | assumption) (Nat.le_of_ble_eq_true rfl) (by omega) (fun r h' hr => ?_)
        obtain ⟨rfl, hF⟩ := hr
        generalize h' = u9 at hF ⊢
        show V _ _ _ (15 + 3) _ (_ :: _) _
        refine v_istore_n hC (pc := 18) (l' := [(1, _), (0, _)]) dX2_takeCity_18 (by decide) rfl ?_
        refine v_iload_n hC (pc := 19) (k := 1) 0 rfl dX2_takeCity_19 ?_
        refine v_if_lt hC (pc := 20) (tgt := 31) dX2_takeCity_20 (by decide) (fun c_20 => ?_) (fun c_20 => ?_)
        · skip
          refine v_iload_n hC (pc := 31) (k := 1) 0 rfl dX2_takeCity_31 ?_
          refine v_if_lt hC (pc := 32) (tgt := 39) dX2_takeCity_32 (by decide) (fun c_32 => ?_) (fun c_32 => ?_)
          · skip
            refine v_iconst hC (pc := 39) (v := 0) (by decide) dX2_takeCity_39 ?_
            refine v_zret hC hX (pc := 40) dX2_takeCity_40 (nar_b (by first | exact Or.inl rfl | exact Or.inr rfl | exact bI_01 _)) ?_
            rw [iteP_t hq, linK_2, hn]
            exact ⟨rfl, CFl_rf hE1 hF⟩
          · exact absurd (by decide) c_32
        · exact absurd (by decide) c_20
      · exact absurd c_6 (by decide)
    | inr b =>
      obtain ⟨-, hv, hb⟩ := numS_i hn
      have hge : ¬ tV T t e < 0 := fun z => hv.1 (Int32.lt_of_lt_of_le z (by decide))
      refine v_aload_n hC (pc := 0) (k := 0) 0 rfl dX2_takeCity_0 ?_
      refine v_iconst hC (pc := 1) (v := 0) (by decide) dX2_takeCity_1 ?_
      refine v_iconst hC (pc := 2) (v := 0) (by decide) dX2_takeCity_2 ?_
      refine v_callV hC (pc := 3) (As := [_, _]) dX2_takeCity_3 rfl (t_tell_g _ _ (d := d - 1) (by omega) _ (l := 0) (c := 0) (by decide) (by rw [hld]; exact b01_2 hq)) cv_X2_136 rfl (by decide) rfl (by first | rfl | exact ok_c hq rfl | exact ok_w hq hw | exact ok_w (by omega) (by omega) | exact ok_s (by omega) (by omega) | exact ok_c (by omega) rfl | assumption) (Nat.le_of_ble_eq_true rfl) (by omega) (fun r h' hr => ?_)
      obtain ⟨he9, rfl⟩ := hr
      rw [he9]
      clear he9 h'
      show V _ _ _ (3 + 3) _ (_ :: _) _
      refine v_if_ne hC (pc := 6) (tgt := 11) dX2_takeCity_6 (by decide) (fun c_6 => ?_) (fun c_6 => ?_)
      · skip
        refine v_aload_n hC (pc := 11) (k := 0) 0 rfl dX2_takeCity_11 ?_
        refine v_iconst hC (pc := 12) (v := 2) (by decide) dX2_takeCity_12 ?_
        refine v_bipush hC (pc := 13) (v := 8) (by decide +kernel) dX2_takeCity_13 ?_
        refine v_callV hC (pc := 15) (As := [_, _]) dX2_takeCity_15 rfl (t_num_g _ _ (d := d - 1) (by omega) _ (a := ((e, (upd D 82 (D 82 ||| (1 <<< (nI 2 &&& 31))))) : PA)) ht ((hE1).2.2 1 (by decide) |>.trans htp) (((hE1).1 (1, 0, 3) (by decide) (by decide) nC3).trans hT) hT0 (by rw [upI_ne _ _ _ (by decide)]; exact hp) he 2 8 hn) cv_X2_139 rfl (by decide) rfl (by first | rfl | exact ok_c hq rfl | exact ok_w hq hw | exact ok_w (by omega) (by omega) | exact ok_s (by omega) (by omega) | exact ok_c (by omega) rfl | assumption) (Nat.le_of_ble_eq_true rfl) (by omega) (fun r h' hr => ?_)
        obtain ⟨rfl, hF⟩ := hr
        generalize h' = u9 at hF ⊢
        show V _ _ _ (15 + 3) _ (_ :: _) _
        refine v_istore_n hC (pc := 18) (l' := [(1, _), (0, _)]) dX2_takeCity_18 (by decide) rfl ?_
        refine v_iload_n hC (pc := 19) (k := 1) 0 rfl dX2_takeCity_19 ?_
        refine v_if_lt hC (pc := 20) (tgt := 31) dX2_takeCity_20 (by decide) (fun c_20 => ?_) (fun c_20 => ?_)
        · exact absurd c_20 hge
        · skip
          refine v_aload_n hC (pc := 23) (k := 0) 1 rfl dX2_takeCity_23 ?_
          refine v_getR hC (pc := 24) dX2_takeCity_24 fl_X2_12 rfl (by first | rfl | exact ok_c hq rfl | exact ok_w hq hw | exact ok_w (by omega) (by omega) | exact ok_s (by omega) (by omega) | exact ok_c (by omega) rfl | assumption) rfl (by decide) (by decide) rfl ?_
          refine v_iload_n hC (pc := 27) (k := 1) 0 rfl dX2_takeCity_27 ?_
          refine v_putI hC (pc := 28) dX2_takeCity_28 fs_X2_143 rfl (by first | rfl | exact ok_c hq rfl | exact ok_w hq hw | exact ok_w (by omega) (by omega) | exact ok_s (by omega) (by omega) | exact ok_c (by omega) rfl | assumption) rfl (by decide) (by decide) ?_
          refine v_iload_n hC (pc := 31) (k := 1) 0 rfl dX2_takeCity_31 ?_
          refine v_if_lt hC (pc := 32) (tgt := 39) dX2_takeCity_32 (by decide) (fun c_32 => ?_) (fun c_32 => ?_)
          · exact absurd c_32 hge
          · skip
            refine v_iconst hC (pc := 35) (v := 1) (by decide) dX2_takeCity_35 ?_
            refine v_goto hC (pc := 36) (tgt := 40) dX2_takeCity_36 (by decide) ?_
            refine v_zret hC hX (pc := 40) dX2_takeCity_40 (nar_b (by first | exact Or.inl rfl | exact Or.inr rfl | exact bI_01 _)) ?_
            rw [iteP_t hq, linK_2, hn]
            obtain ⟨hF1, hF2, hF3, hF5, hF7⟩ := hF
            have hDd2 := DCd_F hDd1 hF1
            have hDt2 := DCt_F hDt1 hF1
            rw [hb]
            show _ ∧ CSt t h0 _ (tE T t e, upd (upd D 82 (D 82 ||| (1 <<< (nI 2 &&& 31)))) 80 (tV T t e))
            exact ⟨rfl, CE_c (i := (0, 4, 0)) ⟨Or.inl rfl, rfl⟩ (CE_F hE1 hF1), (tE_m he).2, DCd_80 _ hDd2, DCt_p (by decide) (DCt_c hDt2 (E := upd (upd D 82 (D 82 ||| (1 <<< (nI 2 &&& 31)))) 80 (tV T t e)) (fun k hk => updo (by omega))), by rw [upI_ne _ _ _ (by decide), hF2, upI_ne _ _ _ (by decide)]; exact hz, by rw [upI_ne _ _ _ (by decide)]; exact hF5⟩
      · exact absurd c_6 (by decide)
  · skip
    refine v_aload_n hC (pc := 0) (k := 0) 0 rfl dX2_takeCity_0 ?_
    refine v_iconst hC (pc := 1) (v := 0) (by decide) dX2_takeCity_1 ?_
    refine v_iconst hC (pc := 2) (v := 0) (by decide) dX2_takeCity_2 ?_
    refine v_callV hC (pc := 3) (As := [_, _]) dX2_takeCity_3 rfl (t_tell_n _ _ (d := d - 1) (by omega) _ (l := 0) (c := 0) (by decide) (by rw [hld]; exact b01_1 hq)) cv_X2_136 rfl (by decide) rfl (by first | rfl | exact ok_c hq rfl | exact ok_w hq hw | exact ok_w (by omega) (by omega) | exact ok_s (by omega) (by omega) | exact ok_c (by omega) rfl | assumption) (Nat.le_of_ble_eq_true rfl) (by omega) (fun r h' hr => ?_)
    obtain ⟨he9, rfl⟩ := hr
    rw [he9]
    clear he9 h'
    show V _ _ _ (3 + 3) _ (_ :: _) _
    refine v_if_ne hC (pc := 6) (tgt := 11) dX2_takeCity_6 (by decide) (fun c_6 => ?_) (fun c_6 => ?_)
    · exact absurd c_6 (by decide)
    · skip
      refine v_iconst hC (pc := 9) (v := 0) (by decide) dX2_takeCity_9 ?_
      refine v_zret hC hX (pc := 10) dX2_takeCity_10 (nar_b (by first | exact Or.inl rfl | exact Or.inr rfl | exact bI_01 _)) ?_
      rw [iteP_f hq]
      exact ⟨rfl, CE_F hE (FrR_rf (FrR_r h)), rfH_2 _ _ _, (rfH_3 _ _ _).trans hq7⟩

set_option maxRecDepth 20000 in
set_option maxHeartbeats 2000000 in
theorem t_takeHour (l9 : Launch) (G : WT) {d : Nat} (hd : 4 ≤ d) {T : Nat → Int32} {t : Nat} {h0 : HP} (ht : t ≤ 160) (htp : h0.1 (1, 0, 2) 1 = nI t) (hT : h0.1 (1, 0, 3) = T) (hT0 : ∀ j, j < t → ¬ T j < 0) (h : HP) {e f : Nat} {D : Nat → Int32} (hS : CSt t h0 h (e, D)) (hq7 : h.1 (1, 0, 2) 7 = nI f) (hm : ∃ m, m < 32 ∧ D 82 = nI m) : MS l9 G yX2_takeHour cX2_takeHour 2 (some .boolean) d [vr (1, 0, 2)] h (fun r h1 => TKP t h0 h1 (iteP ((D 82 >>> (nI 3 &&& 31)) &&& 1 = 0) (linK T t 3 (e, (upd D 82 (D 82 ||| (1 <<< (nI 3 &&& 31)))))) (.inl (4, f))) r) := by
  refine MS_of (by decide +kernel) (Nat.le_of_ble_eq_true rfl) (fun X hC hX => ?_)
  show V X G 2 0 _ [] _
  obtain ⟨hE, he, hDd, hDt, hz, hp⟩ := id hS
  have hld : h.1 (1, 0, 4) 4 = (D 82 >>> (nI 3 &&& 31)) &&& 1 := hDt.2.2.2.2.1
  have hE1 : CE h0 (upI h (1, 0, 4) 4 (h.1 (1, 0, 4) 4 ||| (1 <<< (nI 0 &&& 31)))) := CE_t hE
  have hDd1 : DCd (upI h (1, 0, 4) 4 (h.1 (1, 0, 4) 4 ||| (1 <<< (nI 0 &&& 31)))) (upd D 82 (D 82 ||| (1 <<< (nI 3 &&& 31)))) := DCd_c (DCd_t hDd) (fun k hk => updo (by omega))
  have hDt1 : DCt (upI h (1, 0, 4) 4 (h.1 (1, 0, 4) 4 ||| (1 <<< (nI 0 &&& 31)))) (upd D 82 (D 82 ||| (1 <<< (nI 3 &&& 31)))) := DCt_3 hDt hm
  by_cases hq : (D 82 >>> (nI 3 &&& 31)) &&& 1 = 0
  · cases hn : numS T t 0 23 (e, (upd D 82 (D 82 ||| (1 <<< (nI 3 &&& 31))))) with
    | inl x =>
      obtain ⟨xc, xf⟩ := x
      refine v_aload_n hC (pc := 0) (k := 0) 0 rfl dX2_takeHour_0 ?_
      refine v_iconst hC (pc := 1) (v := 4) (by decide) dX2_takeHour_1 ?_
      refine v_iconst hC (pc := 2) (v := 0) (by decide) dX2_takeHour_2 ?_
      refine v_callV hC (pc := 3) (As := [_, _]) dX2_takeHour_3 rfl (t_tell_g _ _ (d := d - 1) (by omega) _ (l := 4) (c := 0) (by decide) (by rw [hld]; exact b01_2 hq)) cv_X2_136 rfl (by decide) rfl (by first | rfl | exact ok_c hq rfl | exact ok_w hq hw | exact ok_w (by omega) (by omega) | exact ok_s (by omega) (by omega) | exact ok_c (by omega) rfl | assumption) (Nat.le_of_ble_eq_true rfl) (by omega) (fun r h' hr => ?_)
      obtain ⟨he9, rfl⟩ := hr
      rw [he9]
      clear he9 h'
      show V _ _ _ (3 + 3) _ (_ :: _) _
      refine v_if_ne hC (pc := 6) (tgt := 11) dX2_takeHour_6 (by decide) (fun c_6 => ?_) (fun c_6 => ?_)
      · skip
        refine v_aload_n hC (pc := 11) (k := 0) 0 rfl dX2_takeHour_11 ?_
        refine v_iconst hC (pc := 12) (v := 0) (by decide) dX2_takeHour_12 ?_
        refine v_bipush hC (pc := 13) (v := 23) (by decide +kernel) dX2_takeHour_13 ?_
        refine v_callV hC (pc := 15) (As := [_, _]) dX2_takeHour_15 rfl (t_num_f _ _ (d := d - 1) (by omega) _ (a := ((e, (upd D 82 (D 82 ||| (1 <<< (nI 3 &&& 31))))) : PA)) ht ((hE1).2.2 1 (by decide) |>.trans htp) (((hE1).1 (1, 0, 3) (by decide) (by decide) nC3).trans hT) hT0 (by rw [upI_ne _ _ _ (by decide)]; exact hp) he 0 23 hn) cv_X2_139 rfl (by decide) rfl (by first | rfl | exact ok_c hq rfl | exact ok_w hq hw | exact ok_w (by omega) (by omega) | exact ok_s (by omega) (by omega) | exact ok_c (by omega) rfl | assumption) (Nat.le_of_ble_eq_true rfl) (by omega) (fun r h' hr => ?_)
        obtain ⟨rfl, hF⟩ := hr
        generalize h' = u9 at hF ⊢
        show V _ _ _ (15 + 3) _ (_ :: _) _
        refine v_istore_n hC (pc := 18) (l' := [(1, _), (0, _)]) dX2_takeHour_18 (by decide) rfl ?_
        refine v_iload_n hC (pc := 19) (k := 1) 0 rfl dX2_takeHour_19 ?_
        refine v_if_lt hC (pc := 20) (tgt := 31) dX2_takeHour_20 (by decide) (fun c_20 => ?_) (fun c_20 => ?_)
        · skip
          refine v_iload_n hC (pc := 31) (k := 1) 0 rfl dX2_takeHour_31 ?_
          refine v_if_lt hC (pc := 32) (tgt := 39) dX2_takeHour_32 (by decide) (fun c_32 => ?_) (fun c_32 => ?_)
          · skip
            refine v_iconst hC (pc := 39) (v := 0) (by decide) dX2_takeHour_39 ?_
            refine v_zret hC hX (pc := 40) dX2_takeHour_40 (nar_b (by first | exact Or.inl rfl | exact Or.inr rfl | exact bI_01 _)) ?_
            rw [iteP_t hq, linK_3, hn]
            exact ⟨rfl, CFl_rf hE1 hF⟩
          · exact absurd (by decide) c_32
        · exact absurd (by decide) c_20
      · exact absurd c_6 (by decide)
    | inr b =>
      obtain ⟨-, hv, hb⟩ := numS_i hn
      have hge : ¬ tV T t e < 0 := fun z => hv.1 (Int32.lt_of_lt_of_le z (by decide))
      refine v_aload_n hC (pc := 0) (k := 0) 0 rfl dX2_takeHour_0 ?_
      refine v_iconst hC (pc := 1) (v := 4) (by decide) dX2_takeHour_1 ?_
      refine v_iconst hC (pc := 2) (v := 0) (by decide) dX2_takeHour_2 ?_
      refine v_callV hC (pc := 3) (As := [_, _]) dX2_takeHour_3 rfl (t_tell_g _ _ (d := d - 1) (by omega) _ (l := 4) (c := 0) (by decide) (by rw [hld]; exact b01_2 hq)) cv_X2_136 rfl (by decide) rfl (by first | rfl | exact ok_c hq rfl | exact ok_w hq hw | exact ok_w (by omega) (by omega) | exact ok_s (by omega) (by omega) | exact ok_c (by omega) rfl | assumption) (Nat.le_of_ble_eq_true rfl) (by omega) (fun r h' hr => ?_)
      obtain ⟨he9, rfl⟩ := hr
      rw [he9]
      clear he9 h'
      show V _ _ _ (3 + 3) _ (_ :: _) _
      refine v_if_ne hC (pc := 6) (tgt := 11) dX2_takeHour_6 (by decide) (fun c_6 => ?_) (fun c_6 => ?_)
      · skip
        refine v_aload_n hC (pc := 11) (k := 0) 0 rfl dX2_takeHour_11 ?_
        refine v_iconst hC (pc := 12) (v := 0) (by decide) dX2_takeHour_12 ?_
        refine v_bipush hC (pc := 13) (v := 23) (by decide +kernel) dX2_takeHour_13 ?_
        refine v_callV hC (pc := 15) (As := [_, _]) dX2_takeHour_15 rfl (t_num_g _ _ (d := d - 1) (by omega) _ (a := ((e, (upd D 82 (D 82 ||| (1 <<< (nI 3 &&& 31))))) : PA)) ht ((hE1).2.2 1 (by decide) |>.trans htp) (((hE1).1 (1, 0, 3) (by decide) (by decide) nC3).trans hT) hT0 (by rw [upI_ne _ _ _ (by decide)]; exact hp) he 0 23 hn) cv_X2_139 rfl (by decide) rfl (by first | rfl | exact ok_c hq rfl | exact ok_w hq hw | exact ok_w (by omega) (by omega) | exact ok_s (by omega) (by omega) | exact ok_c (by omega) rfl | assumption) (Nat.le_of_ble_eq_true rfl) (by omega) (fun r h' hr => ?_)
        obtain ⟨rfl, hF⟩ := hr
        generalize h' = u9 at hF ⊢
        show V _ _ _ (15 + 3) _ (_ :: _) _
        refine v_istore_n hC (pc := 18) (l' := [(1, _), (0, _)]) dX2_takeHour_18 (by decide) rfl ?_
        refine v_iload_n hC (pc := 19) (k := 1) 0 rfl dX2_takeHour_19 ?_
        refine v_if_lt hC (pc := 20) (tgt := 31) dX2_takeHour_20 (by decide) (fun c_20 => ?_) (fun c_20 => ?_)
        · exact absurd c_20 hge
        · skip
          refine v_aload_n hC (pc := 23) (k := 0) 1 rfl dX2_takeHour_23 ?_
          refine v_getR hC (pc := 24) dX2_takeHour_24 fl_X2_12 rfl (by first | rfl | exact ok_c hq rfl | exact ok_w hq hw | exact ok_w (by omega) (by omega) | exact ok_s (by omega) (by omega) | exact ok_c (by omega) rfl | assumption) rfl (by decide) (by decide) rfl ?_
          refine v_iload_n hC (pc := 27) (k := 1) 0 rfl dX2_takeHour_27 ?_
          refine v_putI hC (pc := 28) dX2_takeHour_28 fs_X2_153 rfl (by first | rfl | exact ok_c hq rfl | exact ok_w hq hw | exact ok_w (by omega) (by omega) | exact ok_s (by omega) (by omega) | exact ok_c (by omega) rfl | assumption) rfl (by decide) (by decide) ?_
          refine v_iload_n hC (pc := 31) (k := 1) 0 rfl dX2_takeHour_31 ?_
          refine v_if_lt hC (pc := 32) (tgt := 39) dX2_takeHour_32 (by decide) (fun c_32 => ?_) (fun c_32 => ?_)
          · exact absurd c_32 hge
          · skip
            refine v_iconst hC (pc := 35) (v := 1) (by decide) dX2_takeHour_35 ?_
            refine v_goto hC (pc := 36) (tgt := 40) dX2_takeHour_36 (by decide) ?_
            refine v_zret hC hX (pc := 40) dX2_takeHour_40 (nar_b (by first | exact Or.inl rfl | exact Or.inr rfl | exact bI_01 _)) ?_
            rw [iteP_t hq, linK_3, hn]
            obtain ⟨hF1, hF2, hF3, hF5, hF7⟩ := hF
            have hDd2 := DCd_F hDd1 hF1
            have hDt2 := DCt_F hDt1 hF1
            rw [hb]
            show _ ∧ CSt t h0 _ (tE T t e, upd (upd D 82 (D 82 ||| (1 <<< (nI 3 &&& 31)))) 17 (tV T t e))
            exact ⟨rfl, CE_c (i := (0, 4, 0)) ⟨Or.inl rfl, rfl⟩ (CE_F hE1 hF1), (tE_m he).2, DCd_17 _ hDd2, DCt_p (by decide) (DCt_c hDt2 (E := upd (upd D 82 (D 82 ||| (1 <<< (nI 3 &&& 31)))) 17 (tV T t e)) (fun k hk => updo (by omega))), by rw [upI_ne _ _ _ (by decide), hF2, upI_ne _ _ _ (by decide)]; exact hz, by rw [upI_ne _ _ _ (by decide)]; exact hF5⟩
      · exact absurd c_6 (by decide)
  · skip
    refine v_aload_n hC (pc := 0) (k := 0) 0 rfl dX2_takeHour_0 ?_
    refine v_iconst hC (pc := 1) (v := 4) (by decide) dX2_takeHour_1 ?_
    refine v_iconst hC (pc := 2) (v := 0) (by decide) dX2_takeHour_2 ?_
    refine v_callV hC (pc := 3) (As := [_, _]) dX2_takeHour_3 rfl (t_tell_n _ _ (d := d - 1) (by omega) _ (l := 4) (c := 0) (by decide) (by rw [hld]; exact b01_1 hq)) cv_X2_136 rfl (by decide) rfl (by first | rfl | exact ok_c hq rfl | exact ok_w hq hw | exact ok_w (by omega) (by omega) | exact ok_s (by omega) (by omega) | exact ok_c (by omega) rfl | assumption) (Nat.le_of_ble_eq_true rfl) (by omega) (fun r h' hr => ?_)
    obtain ⟨he9, rfl⟩ := hr
    rw [he9]
    clear he9 h'
    show V _ _ _ (3 + 3) _ (_ :: _) _
    refine v_if_ne hC (pc := 6) (tgt := 11) dX2_takeHour_6 (by decide) (fun c_6 => ?_) (fun c_6 => ?_)
    · exact absurd c_6 (by decide)
    · skip
      refine v_iconst hC (pc := 9) (v := 0) (by decide) dX2_takeHour_9 ?_
      refine v_zret hC hX (pc := 10) dX2_takeHour_10 (nar_b (by first | exact Or.inl rfl | exact Or.inr rfl | exact bI_01 _)) ?_
      rw [iteP_f hq]
      exact ⟨rfl, CE_F hE (FrR_rf (FrR_r h)), rfH_2 _ _ _, (rfH_3 _ _ _).trans hq7⟩

