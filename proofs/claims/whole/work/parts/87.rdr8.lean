/-! THE READER OF THE CLASS: all lines -/
/-- no fault is 0 -/
def PX {α : Type} (x : Sum PE α) : Prop := ∀ c f, x = .inl (c, f) → 0 < c
theorem PX_r {α : Type} (a : α) : PX (Sum.inr a : Sum PE α) := fun _ _ h => by cases h
theorem PX_l {α : Type} {c : Int32} {f : Nat} (h : 0 < c) : PX (Sum.inl (c, f) : Sum PE α) := fun _ _ e => by cases e; exact h
theorem PX_b {α β : Type} {x : Sum PE α} {f : α → Sum PE β} (h1 : PX x) (h2 : ∀ a, PX (f a)) : PX (bdE x f) := by
  cases x with
  | inl e => exact fun c g h => by cases h; exact h1 c g rfl
  | inr a => exact h2 a
theorem PX_m {x : Sum PE PA} {f : (Nat → Int32) → (Nat → Int32)} (h : PX x) : PX (mpE x f) := PX_b h (fun _ => PX_r _)
theorem PX_i {α : Type} {p : Prop} {a b : Sum PE α} (h1 : PX a) (h2 : PX b) : PX (iteP p a b) := by
  rcases Classical.em p with q | q
  · rw [iteP_t q]; exact h1
  · rw [iteP_f q]; exact h2
section TX
variable (T : Nat → Int32) (t : Nat)
theorem PX_num (lo hi : Int32) (a : PA) : PX (numS T t lo hi a) := PX_i (PX_l (by decide)) (PX_i (PX_i (PX_r _) (PX_l (by decide))) (PX_l (by decide)))
theorem PX_cor (s : Int32) (a : PA) : PX (corS T t s a) := PX_b (PX_num T t 0 7 a) (fun _ => PX_i (PX_r _) (PX_l (by decide)))
theorem PX_str (s : Nat) (a : PA) : PX (strS T t s a) := PX_m (PX_b (PX_m (PX_cor T t _ a)) (fun _ => PX_cor T t _ _))
theorem PX_adv (a : PA) : PX (advS T t a) := PX_i (PX_l (by decide)) (PX_r _)
theorem PX_rou (a : PA) : PX (rouS T t a) := PX_i (PX_l (by decide)) (PX_i (PX_i (PX_i (PX_r _) (PX_l (by decide))) (PX_l (by decide))) (PX_l (by decide)))
theorem PX_wlk (n : Nat) (kp : Int32) (a : PA) : PX (wlkS T t n kp a) := PX_m (PX_m (PX_m (PX_b (PX_m (PX_m (PX_m (PX_b (PX_b (PX_m (PX_cor T t _ a)) (fun _ => PX_i (PX_l (by decide)) (PX_i (PX_r _) (PX_l (by decide))))) (fun _ => PX_adv T t _))))) (fun _ => PX_rou T t _))))
theorem PX_gl (a : PA) : ∀ g, PX (glN T t g a)
  | 0 => PX_r _
  | g + 1 => PX_b (PX_gl a g) (fun _ => PX_m (PX_num T t 0 9 _))
theorem PX_linK (k : Nat) (a : PA) : PX (linK T t k a) := by
  match k with
  | 0 => exact PX_str T t 0 a
  | 1 => exact PX_str T t 1 a
  | 2 => rw [linK_2]; exact PX_m (PX_num T t _ _ a)
  | 3 => rw [linK_3]; exact PX_m (PX_num T t _ _ a)
  | 4 => rw [linK_4]; exact PX_gl T t a 4
  | 5 => rw [linK_5]; exact PX_m (PX_cor T t _ a)
  | 6 => exact PX_wlk T t _ 0 a
  | (k + 7) => exact PX_wlk T t _ 1 a
theorem PX_knd (k : Nat) (a : PA) : PX (kndS T t k a) := PX_i (PX_l (by decide)) (PX_i (PX_r _) (PX_l (by decide)))
theorem PX_tk (a : PA) : PX (tkS T t a) := PX_i (PX_l (by decide)) (PX_i (PX_l (by decide)) (PX_i (PX_i (PX_linK T t _ _) (PX_l (by decide))) (PX_linK T t _ _)))
end TX
theorem div2_16 : ∀ k, k < 16 → nI k / 2 = nI (k / 2) := by decide +kernel
theorem shr_0 {x : Int32} {m : Nat} (hm : m ≤ 8) (h8 : ∀ p, 8 ≤ p → p < 32 → ¬ (x >>> (nI p &&& 31)) &&& 1 = 1) : x >>> (nI m &&& 31) = 0 ↔ ∀ p, m ≤ p → p < 32 → ¬ (x >>> (nI p &&& 31)) &&& 1 = 1 := by
  have hb : ∀ p, p < 32 → bt (x >>> (nI m &&& 31)) p = if m + p < 32 then bt x (m + p) else bt x 31 := fun p hp => b_sshr m (by omega) x hp
  constructor
  · intro h p h1 h2 z
    have e := hb (p - m) (by omega)
    rw [h, if_pos (by omega), show m + (p - m) = p by omega, b_0, (b_tst x h2).mp z] at e
    cases e
  · intro h
    refine b_ext (fun p hp => ?_)
    rw [hb p hp, b_0]
    by_cases q : m + p < 32
    · rw [if_pos q]
      cases e : bt x (m + p) with
      | false => rfl
      | true => exact absurd ((b_tst x q).mpr e) (h (m + p) (by omega) q)
    · rw [if_neg q]
      cases e : bt x 31 with
      | false => rfl
      | true => exact absurd ((b_tst x (by decide)).mpr e) (h8 31 (by decide) (by decide))
/-- a corner that there is not -/
theorem tel_iff {h : HP} {D : Nat → Int32} {n : Nat} (hn : n ≤ 4) (hD : DCd h D) (hW : WD D) (hn81 : D 81 = nI n) : telP h 4 n ↔ ¬ D 85 < D 80 := by
  obtain ⟨⟨n', h1, h2, h3, h4, h5⟩, ⟨k1, k2, k3, k4⟩, ⟨m, hm2, hm8, em⟩, -⟩ := hW
  have en : n' = n := (nI_eq (by omega) (by omega)).mp (h2.symm.trans hn81)
  subst en
  obtain ⟨⟨a0, a1, -⟩, a6, -, a8⟩ := hD
  have a9 := a8 n' hn hn81
  have hc0 : h.1 (0, 4, 0) 0 = nI m := a0.trans em
  have hmi : (nI m).toInt = m := nI_toInt (by omega)
  have hR : ¬ D 85 < D 80 ↔ ∃ p, m ≤ p ∧ p < 8 ∧ hiM D n' p := by
    rw [Int32.lt_iff_toInt_lt, em, hmi]
    constructor
    · intro z
      rcases h5 with y | ⟨p, y1, y2, y3⟩
      · omega
      · exact ⟨p, by omega, y1, y3⟩
    · rintro ⟨p, y1, y2, y3⟩
      have := h4 p y2 y3
      omega
  rw [hR]
  unfold telP
  constructor
  · rintro ((z | ⟨k, hk, z1, z2⟩) | ⟨w, hw, z⟩)
    · rw [hc0, a1, shr_0 hm8 k4] at z
      have : ∃ p, m ≤ p ∧ p < 32 ∧ (D 16 >>> (nI p &&& 31)) &&& 1 = 1 := by
        refine Classical.not_not.mp (fun y => z (fun p q1 q2 q3 => y ⟨p, q1, q2, q3⟩))
      obtain ⟨p, q1, q2, q3⟩ := this
      have q4 : p < 8 := Nat.lt_of_not_le (fun y => k4 p y q2 q3)
      exact ⟨p, q1, q4, Or.inr (Or.inl q3)⟩
    · have e1 : k = 2 * (k / 2) + k % 2 := by omega
      have e2 := a6 (k / 2) (k % 2) (by omega) (by omega)
      rw [← e1] at e2
      rw [hc0, div2_16 k hk, e2] at z2
      rw [e2] at z1
      obtain hq | ⟨p, hp, hq⟩ := k2 (k / 2) (k % 2) (by omega) (by omega)
      · exact absurd hq z1
      · rcases z2 with z2 | z2
        · exact ⟨k / 2, (nI_leI (by omega) (by omega)).mp z2, by omega, Or.inl ⟨k / 2, k % 2, by omega, by omega, z1, Or.inl rfl⟩⟩
        · rw [hq] at z2
          exact ⟨p, (nI_leI (by omega) (by omega)).mp z2, hp, Or.inl ⟨k / 2, k % 2, by omega, by omega, z1, Or.inr hq⟩⟩
    · obtain ⟨⟨p, hp, hq⟩, -⟩ := h3 w hw
      have z' : h.1 (0, 4, 0) 0 ≤ h.1 (6, 4, w) 0 := z
      rw [hc0, (a9 w hw).1, hq] at z'
      exact ⟨p, (nI_leI (by omega) (by omega)).mp z', hp, Or.inr (Or.inr ⟨w, hw, hq⟩)⟩
  · rintro ⟨p, hpm, hp8, ⟨c, s, hc, hs, z1, z2⟩ | z | ⟨w, hw, z⟩⟩
    · refine Or.inl (Or.inr ⟨2 * c + s, by omega, ?_⟩)
      unfold telD1
      rw [a6 c s hc hs, hc0, div2_16 _ (by omega), show (2 * c + s) / 2 = c by omega]
      refine ⟨z1, ?_⟩
      rcases z2 with z2 | z2
      · subst z2; exact Or.inl (nI_le hpm (by omega))
      · rw [z2]; exact Or.inr (nI_le hpm (by omega))
    · refine Or.inl (Or.inl ?_)
      rw [hc0, a1, shr_0 hm8 k4]
      exact fun y => y p hpm (by omega) z
    · refine Or.inr ⟨w, hw, ?_⟩
      unfold telD2
      rw [hc0, (a9 w hw).1, z]
      exact nI_le hpm (by omega)
/-- what readLines answers and leaves -/
def TXC (T : Nat → Int32) (t : Nat) (h : HP) (r : Option PV) (h1 : HP) : Prop := (∃ c f v, txE T t = .inl (c, f) ∧ 0 < c ∧ r = some (vi v) ∧ CE h h1 ∧ h1.1 (1, 0, 2) 2 = c ∧ h1.1 (1, 0, 2) 3 = nI f) ∨ ∃ m D, txE T t = .inr (m, D) ∧ WD D ∧ r = some (vi (nI m)) ∧ CE h h1 ∧ h1.1 (1, 0, 2) 2 = 0 ∧ DCd h1 D
def clH (h : HP) : HP := upI (upI (upI (upR (upR (upR (upI (upI (upI (upI (upI (upI h (0, 4, 0) 0 4) (0, 4, 0) 1 0) (0, 4, 0) 2 0) (0, 4, 0) 3 0) (0, 4, 0) 4 0) (0, 4, 0) 5 0) (0, 4, 6) (filR (h.1 (0, 4, 6)) 16 (-4))) (0, 4, 8) (filR (h.1 (0, 4, 8)) 4 0)) (1, 0, 4) (filR (h.1 (1, 0, 4)) 8 0)) (1, 0, 2) 2 0) (1, 0, 2) 3 0) (1, 0, 2) 5 0
theorem clH_CS (h : HP) (t : Nat) : CSt t h (clH h) (0, dr0) := by
  refine ⟨⟨fun i a b c => ?_, ⟨rfl, fun z w hw => ?_⟩, fun k hk => ?_⟩, Nat.zero_le _, ⟨⟨?_, ?_, ?_, ?_, ?_, ?_⟩, fun c s hc hs => ?_, fun g hg => ?_, fun n hn e w hw => ?_⟩, ?_, ?_, ?_⟩
  · have e0 : i ≠ (0, 4, 0) := fun e => c (by rw [e]; exact ⟨Or.inl rfl, rfl⟩)
    have e1 : i ≠ (0, 4, 6) := fun e => c (by rw [e]; exact ⟨Or.inl rfl, rfl⟩)
    have e2 : i ≠ (0, 4, 8) := fun e => c (by rw [e]; exact ⟨Or.inl rfl, rfl⟩)
    unfold clH
    rw [upI_ne _ _ _ a, upI_ne _ _ _ a, upI_ne _ _ _ a, upR_ne _ _ b, upR_ne _ _ e2, upR_ne _ _ e1, upI_ne _ _ _ e0, upI_ne _ _ _ e0, upI_ne _ _ _ e0, upI_ne _ _ _ e0, upI_ne _ _ _ e0, upI_ne _ _ _ e0]
  · have e9 : (clH h).1 (6, 4, w) 2 = h.1 (6, 4, w) 2 := by simp [clH, upI, upR]
    rw [e9]; exact z w hw
  · simp [clH, upI, upR, show ¬ k = 2 by omega, show ¬ k = 3 by omega, show ¬ k = 5 by omega]
  all_goals first
    | (simp [clH, upI, upR, dr0]; done)
    | skip
  · show (clH h).1 (0, 4, 6) (2 * c + s) = dr0 (8 * s + c)
    have e : (clH h).1 (0, 4, 6) (2 * c + s) = filR (h.1 (0, 4, 6)) 16 (-4) (2 * c + s) := by simp [clH, upI, upR]
    rw [e]
    unfold filR dr0
    rw [if_pos (by omega), if_pos (by omega)]
  · show (clH h).1 (0, 4, 8) g = dr0 (43 + g)
    have e : (clH h).1 (0, 4, 8) g = filR (h.1 (0, 4, 8)) 4 0 g := by simp [clH, upI, upR]
    rw [e]
    unfold filR dr0
    rw [if_pos hg, if_neg (by omega), if_neg (by omega), if_neg (by omega)]
  · exact absurd ((nI_eq (by omega) (by decide)).mp (e.symm.trans (show dr0 81 = nI 0 from rfl))) (by omega)
  · have e : ∀ k, k < 8 → (clH h).1 (1, 0, 4) k = 0 := fun k hk => by
      have e1 : (clH h).1 (1, 0, 4) k = filR (h.1 (1, 0, 4)) 8 0 k := by simp [clH, upI, upR]
      rw [e1]
      exact if_pos hk
    exact ⟨e 0 (by decide), e 1 (by decide), e 2 (by decide), e 3 (by decide), e 4 (by decide), e 7 (by decide)⟩
  · rw [show (clH h).1 (1, 0, 2) 5 = 0 by simp [clH, upI]]; exact nI_0.symm
theorem tF_end {T : Nat → Int32} {t : Nat} : tF T t t = t := txR_e (fun z => absurd z (Nat.lt_irrefl _))
theorem tK_end {T : Nat → Int32} {t : Nat} : tK T t t = 0 := by unfold tK; rw [tF_end, if_pos (Nat.le_refl _)]
theorem tB_end {T : Nat → Int32} {t : Nat} : ¬ tB T t t := fun z => z.elim (fun y => absurd (y.1.symm.trans tK_end) (by decide)) (fun y => absurd (y.1.symm.trans tK_end) (by decide))
theorem kC_n0 {k : Nat} (hk : k ≤ 3) (h : ¬ k = 0) : ¬ kC k = 4 := by
  rcases (show k = 1 ∨ k = 2 ∨ k = 3 by omega) with q | q | q <;> subst q <;> decide
theorem tF_k {T : Nat → Int32} {t e : Nat} (h : tK T t e = 0) (h2 : tF T t e ≤ t) : tF T t e = t := by
  unfold tK at h
  by_cases q : t ≤ tF T t e
  · omega
  · rw [if_neg q] at h
    split at h
    · cases h
    · split at h <;> cases h
set_option maxRecDepth 20000 in
set_option maxHeartbeats 2000000 in
theorem t_readLines (l9 : Launch) (G : WT) {d : Nat} (hd : 9 ≤ d) {T : Nat → Int32} {t : Nat} (h : HP) (ht : t ≤ 160) (htp : h.1 (1, 0, 2) 1 = nI t) (hT : h.1 (1, 0, 3) = T) (hT0 : ∀ j, j < t → ¬ T j < 0) : MS l9 G yX2_readLines cX2_readLines 2 (some .int) d [vr (1, 0, 2)] h (fun r h1 => TXC T t h r h1) := by
  refine MS_of (by decide +kernel) (Nat.le_of_ble_eq_true rfl) (fun X hC hX => ?_)
  show V X G 2 0 _ [] _
  have EXF : ∀ (m : Nat) (u : HP) (c : Int32) (f : Nat), 0 < c → CE h u → u.1 (1, 0, 2) 2 = c → u.1 (1, 0, 2) 3 = nI f → txE T t = .inl (c, f) → V X G 2 75 [(1, vi (nI m)), (0, vr (1, 0, 2))] [] u := by
    intro m u c f hc hE h2 h3 hsp
    refine v_aload_n hC (pc := 75) (k := 0) 1 rfl dX2_readLines_75 ?_
    refine v_getI hC (pc := 76) dX2_readLines_76 fl_X2_34 rfl (by first | rfl | exact ok_c hq rfl | exact ok_w hq hw | exact ok_w (by omega) (by omega) | exact ok_s (by omega) (by omega) | exact ok_c (by omega) rfl | assumption) rfl (by decide) (by decide) ?_
    rw [h2]
    refine v_if_ne hC (pc := 79) (tgt := 103) dX2_readLines_79 (by decide) (fun c_79 => ?_) (fun c_79 => ?_)
    · skip
      refine v_iload_n hC (pc := 103) (k := 1) 0 rfl dX2_readLines_103 ?_
      refine v_iret hC hX (pc := 104) dX2_readLines_104 ?_
      exact Or.inl ⟨c, f, _, hsp, hc, rfl, hE, h2, h3⟩
    · exact absurd hc (by rw [c_79]; exact Int32.lt_irrefl)
  have EXG : ∀ (m : Nat) (u : HP) (a : PA), CE h u → u.1 (1, 0, 2) 2 = 0 → DCd u a.2 → WD a.2 → tF T t a.1 = t → txE T t = bdE (.inr (m, a)) (finS T t) → V X G 2 75 [(1, vi (nI m)), (0, vr (1, 0, 2))] [] u := by
    intro m u a hE h2 hD hW htF hsp
    obtain ⟨n, hn4, hn81, -⟩ := id hW.1
    have hu4 : u.1 (0, 4, 0) 4 = nI n := hD.1.2.2.2.2.1.trans hn81
    have hlen : u.1 (1, 0, 2) 1 = nI t := (hE.2.2 1 (by decide)).trans htp
    refine v_aload_n hC (pc := 75) (k := 0) 1 rfl dX2_readLines_75 ?_
    refine v_getI hC (pc := 76) dX2_readLines_76 fl_X2_34 rfl (by first | rfl | exact ok_c hq rfl | exact ok_w hq hw | exact ok_w (by omega) (by omega) | exact ok_s (by omega) (by omega) | exact ok_c (by omega) rfl | assumption) rfl (by decide) (by decide) ?_
    rw [h2]
    refine v_if_ne hC (pc := 79) (tgt := 103) dX2_readLines_79 (by decide) (fun c_79 => ?_) (fun c_79 => ?_)
    · exact absurd rfl c_79
    · skip
      refine v_aload_n hC (pc := 82) (k := 0) 1 rfl dX2_readLines_82 ?_
      refine v_getR hC (pc := 83) dX2_readLines_83 fl_X2_12 rfl (by first | rfl | exact ok_c hq rfl | exact ok_w hq hw | exact ok_w (by omega) (by omega) | exact ok_s (by omega) (by omega) | exact ok_c (by omega) rfl | assumption) rfl (by decide) (by decide) rfl ?_
      refine v_callV hC (pc := 86) (As := []) dX2_readLines_86 rfl (t_tells _ _ (d := d - 1) (by omega) (q := 4) (by decide) _ hn4 hu4) cv_X2_58 rfl (by decide) rfl (by first | rfl | exact ok_c hq rfl | exact ok_w hq hw | exact ok_w (by omega) (by omega) | exact ok_s (by omega) (by omega) | exact ok_c (by omega) rfl | assumption) (Nat.le_of_ble_eq_true rfl) (by omega) (fun r h' hr => ?_)
      obtain ⟨he9, rfl⟩ := hr
      rw [he9]
      clear he9 h'
      show V _ _ _ (86 + 3) _ (_ :: _) _
      refine v_if_eq hC (pc := 89) (tgt := 103) dX2_readLines_89 (by decide) (fun c_89 => ?_) (fun c_89 => ?_)
      · skip
        have hlt : a.2 85 < a.2 80 := Classical.not_not.mp (fun z => bP_0.mp c_89 ((tel_iff hn4 hD hW hn81).mpr z))
        refine v_iload_n hC (pc := 103) (k := 1) 0 rfl dX2_readLines_103 ?_
        refine v_iret hC hX (pc := 104) dX2_readLines_104 ?_
        first
          | exact Or.inr ⟨m, a.2, by rw [hsp]; show finS T t (m, a) = _; unfold finS; rw [iteP_t hlt], hW, rfl, hE, h2, hD⟩
          | exact Or.inl ⟨6, tF T t a.1, _, by rw [hsp]; show finS T t (m, a) = _; unfold finS; rw [iteP_f hlt], by decide, rfl, CE_F hE (FrR_rf (FrR_r u)), rfH_2 _ _ _, by rw [rfH_3, htF]⟩
      · skip
        have hlt : ¬ a.2 85 < a.2 80 := (tel_iff hn4 hD hW hn81).mp (Classical.not_not.mp (fun z => c_89 (bP_f z)))
        refine v_aload_n hC (pc := 92) (k := 0) 1 rfl dX2_readLines_92 ?_
        refine v_bipush hC (pc := 93) (v := 6) (by decide +kernel) dX2_readLines_93 ?_
        refine v_aload_n hC (pc := 95) (k := 0) 1 rfl dX2_readLines_95 ?_
        refine v_getI hC (pc := 96) dX2_readLines_96 fl_X2_61 rfl (by first | rfl | exact ok_c hq rfl | exact ok_w hq hw | exact ok_w (by omega) (by omega) | exact ok_s (by omega) (by omega) | exact ok_c (by omega) rfl | assumption) rfl (by decide) (by decide) ?_
        rw [hlen]
        refine v_callV hC (pc := 99) (As := [_, _]) dX2_readLines_99 rfl (t_refuse _ _ (d := d - 1) (by omega) _ _ _) cv_X2_64 rfl (by decide) rfl (by first | rfl | exact ok_c hq rfl | exact ok_w hq hw | exact ok_w (by omega) (by omega) | exact ok_s (by omega) (by omega) | exact ok_c (by omega) rfl | assumption) (Nat.le_of_ble_eq_true rfl) (by omega) (fun r h' hr => ?_)
        obtain ⟨he9, rfl⟩ := hr
        rw [he9]
        clear he9 h'
        show V _ _ _ (99 + 3) _ (_ :: _) _
        refine v_pop hC (pc := 102) rfl dX2_readLines_102 ?_
        refine v_iload_n hC (pc := 103) (k := 1) 0 rfl dX2_readLines_103 ?_
        refine v_iret hC hX (pc := 104) dX2_readLines_104 ?_
        first
          | exact Or.inr ⟨m, a.2, by rw [hsp]; show finS T t (m, a) = _; unfold finS; rw [iteP_t hlt], hW, rfl, hE, h2, hD⟩
          | exact Or.inl ⟨6, tF T t a.1, _, by rw [hsp]; show finS T t (m, a) = _; unfold finS; rw [iteP_f hlt], by decide, rfl, CE_F hE (FrR_rf (FrR_r u)), rfH_2 _ _ _, by rw [rfH_3, htF]⟩
  have LOOP : ∀ (n m : Nat) (u : HP) (a : PA), CSt t h u a → WD a.2 → t + 1 ≤ a.1 + n → m ≤ a.1 → bdE (txS T t n m a) (finS T t) = txE T t → V X G 2 32 [(1, vi (nI m)), (0, vr (1, 0, 2))] [] u := by
    intro n
    induction n with
    | zero => intro m u a hS hW h1; exact absurd hS.2.1 (by omega)
    | succ n ih =>
      intro m u a hS hW h1 hma hsp
      have hat9 := hS.2.1
      by_cases hm9 : m < 160
      · rcases Classical.em (tB T t a.1) with hb | hb
        · skip
          refine v_iload_n hC (pc := 32) (k := 1) 0 rfl dX2_readLines_32 ?_
          refine v_sipush hC (pc := 33) (v := 160) (by decide +kernel) dX2_readLines_33 ?_
          refine v_icmp_ge hC (pc := 36) (tgt := 75) dX2_readLines_36 (by decide) (fun c_36 => ?_) (fun c_36 => ?_)
          · exact absurd c_36 (nI_ge hm9 (by decide))
          · skip
            refine v_aload_n hC (pc := 39) (k := 0) 1 rfl dX2_readLines_39 ?_
            refine v_callV hC (pc := 40) (As := []) dX2_readLines_40 rfl (t_nt_b _ _ (d := d - 1) (by omega) _ ht (hS.1.2.2 1 (by decide) |>.trans htp) ((hS.1.1 (1, 0, 3) (by decide) (by decide) nC3).trans hT) hT0 hS.2.2.2.2.2 hS.2.1 hb) cv_X2_44 rfl (by decide) rfl (by first | rfl | exact ok_c hq rfl | exact ok_w hq hw | exact ok_w (by omega) (by omega) | exact ok_s (by omega) (by omega) | exact ok_c (by omega) rfl | assumption) (Nat.le_of_ble_eq_true rfl) (by omega) (fun r h' hr => ?_)
            obtain ⟨rfl, hF, z2, z3⟩ := hr
            generalize h' = u9 at hF z2 z3 ⊢
            show V _ _ _ (40 + 3) _ (_ :: _) _
            refine v_if_eq hC (pc := 43) (tgt := 75) dX2_readLines_43 (by decide) (fun c_43 => ?_) (fun c_43 => ?_)
            · skip
              exact EXF m u9 1 (tF T t a.1) (by decide) (CE_F hS.1 hF) z2 z3 (by rw [← hsp, txS_b hb]; rfl)
            · exact absurd c_43 (by decide)
        · by_cases hk : tK T t a.1 = 0
          · skip
            refine v_iload_n hC (pc := 32) (k := 1) 0 rfl dX2_readLines_32 ?_
            refine v_sipush hC (pc := 33) (v := 160) (by decide +kernel) dX2_readLines_33 ?_
            refine v_icmp_ge hC (pc := 36) (tgt := 75) dX2_readLines_36 (by decide) (fun c_36 => ?_) (fun c_36 => ?_)
            · exact absurd c_36 (nI_ge hm9 (by decide))
            · skip
              refine v_aload_n hC (pc := 39) (k := 0) 1 rfl dX2_readLines_39 ?_
              refine v_callV hC (pc := 40) (As := []) dX2_readLines_40 rfl (t_nt_g _ _ (d := d - 1) (by omega) _ ht (hS.1.2.2 1 (by decide) |>.trans htp) ((hS.1.1 (1, 0, 3) (by decide) (by decide) nC3).trans hT) hT0 hS.2.2.2.2.2 hS.2.1 hb) cv_X2_44 rfl (by decide) rfl (by first | rfl | exact ok_c hq rfl | exact ok_w hq hw | exact ok_w (by omega) (by omega) | exact ok_s (by omega) (by omega) | exact ok_c (by omega) rfl | assumption) (Nat.le_of_ble_eq_true rfl) (by omega) (fun r h' hr => ?_)
              obtain ⟨rfl, hF, y2, y3, y5, y7, y6⟩ := hr
              generalize h' = u9 at hF y2 y3 y5 y7 y6 ⊢
              show V _ _ _ (40 + 3) _ (_ :: _) _
              refine v_if_eq hC (pc := 43) (tgt := 75) dX2_readLines_43 (by decide) (fun c_43 => ?_) (fun c_43 => ?_)
              · exact absurd c_43 (by decide)
              · skip
                refine v_aload_n hC (pc := 46) (k := 0) 1 rfl dX2_readLines_46 ?_
                refine v_getI hC (pc := 47) dX2_readLines_47 fl_X2_48 rfl (by first | rfl | exact ok_c hq rfl | exact ok_w hq hw | exact ok_w (by omega) (by omega) | exact ok_s (by omega) (by omega) | exact ok_c (by omega) rfl | assumption) rfl (by decide) (by decide) ?_
                rw [y6]
                refine v_iconst hC (pc := 50) (v := 4) (by decide) dX2_readLines_50 ?_
                refine v_icmp_eq hC (pc := 51) (tgt := 75) dX2_readLines_51 (by decide) (fun c_51 => ?_) (fun c_51 => ?_)
                · skip
                  exact EXG m u9 a (CE_F hS.1 hF) (y2.trans hS.2.2.2.2.1) (DCd_F hS.2.2.1 hF) hW (tF_k hk (tF_b hS.2.1).2) (by rw [← hsp, txS_e hb hk])
                · exact absurd (by rw [hk]; rfl) c_51
          · cases htk : tkS T t a with
            | inl x9 =>
              refine v_iload_n hC (pc := 32) (k := 1) 0 rfl dX2_readLines_32 ?_
              refine v_sipush hC (pc := 33) (v := 160) (by decide +kernel) dX2_readLines_33 ?_
              refine v_icmp_ge hC (pc := 36) (tgt := 75) dX2_readLines_36 (by decide) (fun c_36 => ?_) (fun c_36 => ?_)
              · exact absurd c_36 (nI_ge hm9 (by decide))
              · skip
                refine v_aload_n hC (pc := 39) (k := 0) 1 rfl dX2_readLines_39 ?_
                refine v_callV hC (pc := 40) (As := []) dX2_readLines_40 rfl (t_nt_g _ _ (d := d - 1) (by omega) _ ht (hS.1.2.2 1 (by decide) |>.trans htp) ((hS.1.1 (1, 0, 3) (by decide) (by decide) nC3).trans hT) hT0 hS.2.2.2.2.2 hS.2.1 hb) cv_X2_44 rfl (by decide) rfl (by first | rfl | exact ok_c hq rfl | exact ok_w hq hw | exact ok_w (by omega) (by omega) | exact ok_s (by omega) (by omega) | exact ok_c (by omega) rfl | assumption) (Nat.le_of_ble_eq_true rfl) (by omega) (fun r h' hr => ?_)
                obtain ⟨rfl, hF, y2, y3, y5, y7, y6⟩ := hr
                generalize h' = u9 at hF y2 y3 y5 y7 y6 ⊢
                show V _ _ _ (40 + 3) _ (_ :: _) _
                refine v_if_eq hC (pc := 43) (tgt := 75) dX2_readLines_43 (by decide) (fun c_43 => ?_) (fun c_43 => ?_)
                · exact absurd c_43 (by decide)
                · skip
                  refine v_aload_n hC (pc := 46) (k := 0) 1 rfl dX2_readLines_46 ?_
                  refine v_getI hC (pc := 47) dX2_readLines_47 fl_X2_48 rfl (by first | rfl | exact ok_c hq rfl | exact ok_w hq hw | exact ok_w (by omega) (by omega) | exact ok_s (by omega) (by omega) | exact ok_c (by omega) rfl | assumption) rfl (by decide) (by decide) ?_
                  rw [y6]
                  refine v_iconst hC (pc := 50) (v := 4) (by decide) dX2_readLines_50 ?_
                  refine v_icmp_eq hC (pc := 51) (tgt := 75) dX2_readLines_51 (by decide) (fun c_51 => ?_) (fun c_51 => ?_)
                  · exact absurd c_51 (kC_n0 (tK_le T t a.1) hk)
                  · skip
                    refine v_aload_n hC (pc := 54) (k := 0) 1 rfl dX2_readLines_54 ?_
                    refine v_callV hC (pc := 55) (As := []) dX2_readLines_55 rfl (t_takeLine _ _ (d := d - 1) (by omega) ht htp hT hT0 _ (a := a) ⟨CE_F hS.1 hF, (tE_m hS.2.1).2, DCd_F hS.2.2.1 hF, DCt_F hS.2.2.2.1 hF, y2.trans hS.2.2.2.2.1, y5⟩ y7 y6 hS.2.1 hW) cv_X2_51 rfl (by decide) rfl (by first | rfl | exact ok_c hq rfl | exact ok_w hq hw | exact ok_w (by omega) (by omega) | exact ok_s (by omega) (by omega) | exact ok_c (by omega) rfl | assumption) (Nat.le_of_ble_eq_true rfl) (by omega) (fun r h' hr => ?_)
                    rw [htk] at hr
                    obtain ⟨rfl, hE9, z2, z3⟩ := hr
                    generalize h' = u8 at hE9 z2 z3 ⊢
                    show V _ _ _ (55 + 3) _ (_ :: _) _
                    refine v_if_eq hC (pc := 58) (tgt := 75) dX2_readLines_58 (by decide) (fun c_58 => ?_) (fun c_58 => ?_)
                    · skip
                      exact EXF m u8 x9.1 x9.2 (PX_tk T t a _ _ htk) hE9 z2 z3 (by rw [← hsp, txS_l hb hk, lin_tk, htk]; rfl)
                    · exact absurd c_58 (by decide)
            | inr b =>
              cases hkn : kndS T t 3 b with
              | inl x8 =>
                refine v_iload_n hC (pc := 32) (k := 1) 0 rfl dX2_readLines_32 ?_
                refine v_sipush hC (pc := 33) (v := 160) (by decide +kernel) dX2_readLines_33 ?_
                refine v_icmp_ge hC (pc := 36) (tgt := 75) dX2_readLines_36 (by decide) (fun c_36 => ?_) (fun c_36 => ?_)
                · exact absurd c_36 (nI_ge hm9 (by decide))
                · skip
                  refine v_aload_n hC (pc := 39) (k := 0) 1 rfl dX2_readLines_39 ?_
                  refine v_callV hC (pc := 40) (As := []) dX2_readLines_40 rfl (t_nt_g _ _ (d := d - 1) (by omega) _ ht (hS.1.2.2 1 (by decide) |>.trans htp) ((hS.1.1 (1, 0, 3) (by decide) (by decide) nC3).trans hT) hT0 hS.2.2.2.2.2 hS.2.1 hb) cv_X2_44 rfl (by decide) rfl (by first | rfl | exact ok_c hq rfl | exact ok_w hq hw | exact ok_w (by omega) (by omega) | exact ok_s (by omega) (by omega) | exact ok_c (by omega) rfl | assumption) (Nat.le_of_ble_eq_true rfl) (by omega) (fun r h' hr => ?_)
                  obtain ⟨rfl, hF, y2, y3, y5, y7, y6⟩ := hr
                  generalize h' = u9 at hF y2 y3 y5 y7 y6 ⊢
                  show V _ _ _ (40 + 3) _ (_ :: _) _
                  refine v_if_eq hC (pc := 43) (tgt := 75) dX2_readLines_43 (by decide) (fun c_43 => ?_) (fun c_43 => ?_)
                  · exact absurd c_43 (by decide)
                  · skip
                    refine v_aload_n hC (pc := 46) (k := 0) 1 rfl dX2_readLines_46 ?_
                    refine v_getI hC (pc := 47) dX2_readLines_47 fl_X2_48 rfl (by first | rfl | exact ok_c hq rfl | exact ok_w hq hw | exact ok_w (by omega) (by omega) | exact ok_s (by omega) (by omega) | exact ok_c (by omega) rfl | assumption) rfl (by decide) (by decide) ?_
                    rw [y6]
                    refine v_iconst hC (pc := 50) (v := 4) (by decide) dX2_readLines_50 ?_
                    refine v_icmp_eq hC (pc := 51) (tgt := 75) dX2_readLines_51 (by decide) (fun c_51 => ?_) (fun c_51 => ?_)
                    · exact absurd c_51 (kC_n0 (tK_le T t a.1) hk)
                    · skip
                      refine v_aload_n hC (pc := 54) (k := 0) 1 rfl dX2_readLines_54 ?_
                      refine v_callV hC (pc := 55) (As := []) dX2_readLines_55 rfl (t_takeLine _ _ (d := d - 1) (by omega) ht htp hT hT0 _ (a := a) ⟨CE_F hS.1 hF, (tE_m hS.2.1).2, DCd_F hS.2.2.1 hF, DCt_F hS.2.2.2.1 hF, y2.trans hS.2.2.2.2.1, y5⟩ y7 y6 hS.2.1 hW) cv_X2_51 rfl (by decide) rfl (by first | rfl | exact ok_c hq rfl | exact ok_w hq hw | exact ok_w (by omega) (by omega) | exact ok_s (by omega) (by omega) | exact ok_c (by omega) rfl | assumption) (Nat.le_of_ble_eq_true rfl) (by omega) (fun r h' hr => ?_)
                      rw [htk] at hr
                      obtain ⟨rfl, hS9⟩ := hr
                      generalize h' = u8 at hS9 ⊢
                      show V _ _ _ (55 + 3) _ (_ :: _) _
                      refine v_if_eq hC (pc := 58) (tgt := 75) dX2_readLines_58 (by decide) (fun c_58 => ?_) (fun c_58 => ?_)
                      · exact absurd c_58 (by decide)
                      · skip
                        refine v_aload_n hC (pc := 61) (k := 0) 1 rfl dX2_readLines_61 ?_
                        refine v_iconst hC (pc := 62) (v := 3) (by decide) dX2_readLines_62 ?_
                        refine v_callV hC (pc := 63) (As := [_]) dX2_readLines_63 rfl (t_of_f _ _ (d := d - 1) (by omega) _ (a := b) ht (hS9.1.2.2 1 (by decide) |>.trans htp) ((hS9.1.1 (1, 0, 3) (by decide) (by decide) nC3).trans hT) hT0 hS9.2.2.2.2.2 hS9.2.1 (K := 3) (by decide) (by decide) hkn) cv_X2_54 rfl (by decide) rfl (by first | rfl | exact ok_c hq rfl | exact ok_w hq hw | exact ok_w (by omega) (by omega) | exact ok_s (by omega) (by omega) | exact ok_c (by omega) rfl | assumption) (Nat.le_of_ble_eq_true rfl) (by omega) (fun r h' hr => ?_)
                        obtain ⟨rfl, hF9⟩ := hr
                        generalize h' = u7 at hF9 ⊢
                        show V _ _ _ (63 + 3) _ (_ :: _) _
                        refine v_if_eq hC (pc := 66) (tgt := 75) dX2_readLines_66 (by decide) (fun c_66 => ?_) (fun c_66 => ?_)
                        · skip
                          exact EXF m u7 x8.1 x8.2 (PX_knd T t 3 b _ _ hkn) (CE_F hS9.1 hF9.1) hF9.2.1 hF9.2.2 (by rw [← hsp, txS_l hb hk, lin_tk, htk]; rw [bdE_r, hkn]; rfl)
                        · exact absurd c_66 (by decide)
              | inr b9 =>
                refine v_iload_n hC (pc := 32) (k := 1) 0 rfl dX2_readLines_32 ?_
                refine v_sipush hC (pc := 33) (v := 160) (by decide +kernel) dX2_readLines_33 ?_
                refine v_icmp_ge hC (pc := 36) (tgt := 75) dX2_readLines_36 (by decide) (fun c_36 => ?_) (fun c_36 => ?_)
                · exact absurd c_36 (nI_ge hm9 (by decide))
                · skip
                  refine v_aload_n hC (pc := 39) (k := 0) 1 rfl dX2_readLines_39 ?_
                  refine v_callV hC (pc := 40) (As := []) dX2_readLines_40 rfl (t_nt_g _ _ (d := d - 1) (by omega) _ ht (hS.1.2.2 1 (by decide) |>.trans htp) ((hS.1.1 (1, 0, 3) (by decide) (by decide) nC3).trans hT) hT0 hS.2.2.2.2.2 hS.2.1 hb) cv_X2_44 rfl (by decide) rfl (by first | rfl | exact ok_c hq rfl | exact ok_w hq hw | exact ok_w (by omega) (by omega) | exact ok_s (by omega) (by omega) | exact ok_c (by omega) rfl | assumption) (Nat.le_of_ble_eq_true rfl) (by omega) (fun r h' hr => ?_)
                  obtain ⟨rfl, hF, y2, y3, y5, y7, y6⟩ := hr
                  generalize h' = u9 at hF y2 y3 y5 y7 y6 ⊢
                  show V _ _ _ (40 + 3) _ (_ :: _) _
                  refine v_if_eq hC (pc := 43) (tgt := 75) dX2_readLines_43 (by decide) (fun c_43 => ?_) (fun c_43 => ?_)
                  · exact absurd c_43 (by decide)
                  · skip
                    refine v_aload_n hC (pc := 46) (k := 0) 1 rfl dX2_readLines_46 ?_
                    refine v_getI hC (pc := 47) dX2_readLines_47 fl_X2_48 rfl (by first | rfl | exact ok_c hq rfl | exact ok_w hq hw | exact ok_w (by omega) (by omega) | exact ok_s (by omega) (by omega) | exact ok_c (by omega) rfl | assumption) rfl (by decide) (by decide) ?_
                    rw [y6]
                    refine v_iconst hC (pc := 50) (v := 4) (by decide) dX2_readLines_50 ?_
                    refine v_icmp_eq hC (pc := 51) (tgt := 75) dX2_readLines_51 (by decide) (fun c_51 => ?_) (fun c_51 => ?_)
                    · exact absurd c_51 (kC_n0 (tK_le T t a.1) hk)
                    · skip
                      refine v_aload_n hC (pc := 54) (k := 0) 1 rfl dX2_readLines_54 ?_
                      refine v_callV hC (pc := 55) (As := []) dX2_readLines_55 rfl (t_takeLine _ _ (d := d - 1) (by omega) ht htp hT hT0 _ (a := a) ⟨CE_F hS.1 hF, (tE_m hS.2.1).2, DCd_F hS.2.2.1 hF, DCt_F hS.2.2.2.1 hF, y2.trans hS.2.2.2.2.1, y5⟩ y7 y6 hS.2.1 hW) cv_X2_51 rfl (by decide) rfl (by first | rfl | exact ok_c hq rfl | exact ok_w hq hw | exact ok_w (by omega) (by omega) | exact ok_s (by omega) (by omega) | exact ok_c (by omega) rfl | assumption) (Nat.le_of_ble_eq_true rfl) (by omega) (fun r h' hr => ?_)
                      rw [htk] at hr
                      obtain ⟨rfl, hS9⟩ := hr
                      generalize h' = u8 at hS9 ⊢
                      show V _ _ _ (55 + 3) _ (_ :: _) _
                      refine v_if_eq hC (pc := 58) (tgt := 75) dX2_readLines_58 (by decide) (fun c_58 => ?_) (fun c_58 => ?_)
                      · exact absurd c_58 (by decide)
                      · skip
                        refine v_aload_n hC (pc := 61) (k := 0) 1 rfl dX2_readLines_61 ?_
                        refine v_iconst hC (pc := 62) (v := 3) (by decide) dX2_readLines_62 ?_
                        refine v_callV hC (pc := 63) (As := [_]) dX2_readLines_63 rfl (t_of_g _ _ (d := d - 1) (by omega) _ (a := b) ht (hS9.1.2.2 1 (by decide) |>.trans htp) ((hS9.1.1 (1, 0, 3) (by decide) (by decide) nC3).trans hT) hT0 hS9.2.2.2.2.2 hS9.2.1 (K := 3) (by decide) (by decide) hkn) cv_X2_54 rfl (by decide) rfl (by first | rfl | exact ok_c hq rfl | exact ok_w hq hw | exact ok_w (by omega) (by omega) | exact ok_s (by omega) (by omega) | exact ok_c (by omega) rfl | assumption) (Nat.le_of_ble_eq_true rfl) (by omega) (fun r h' hr => ?_)
                        obtain ⟨rfl, hG1, hG2, hG3, hG5, hG7⟩ := hr
                        generalize h' = u7 at hG1 hG2 hG3 hG5 hG7 ⊢
                        show V _ _ _ (63 + 3) _ (_ :: _) _
                        refine v_if_eq hC (pc := 66) (tgt := 75) dX2_readLines_66 (by decide) (fun c_66 => ?_) (fun c_66 => ?_)
                        · exact absurd c_66 (by decide)
                        · skip
                          refine v_iinc hC (pc := 69) (l' := [(1, _), (0, _)]) 0 (v := nI (m + 1)) dX2_readLines_69 rfl (nI_inc m) (by decide) rfl ?_
                          refine v_goto hC (pc := 72) (tgt := 32) dX2_readLines_72 (by decide) ?_
                          obtain ⟨-, -, hb9⟩ := kndS_i hkn
                          obtain ⟨q1, q2, q3⟩ := linS_i (show linS T t a = .inr b9 by rw [lin_tk, htk, bdE_r, hkn]) hS.2.1 hW
                          refine ih (m + 1) u7 b9 ?_ q3 (by omega) (by omega) ?_
                          · rw [hb9]
                            exact ⟨CE_F hS9.1 hG1, (tE_m hS9.2.1).2, DCd_F hS9.2.2.1 hG1, DCt_F hS9.2.2.2.1 hG1, hG2.trans hS9.2.2.2.2.1, hG5⟩
                          · rw [← hsp, txS_l hb hk, lin_tk, htk]; rw [bdE_r, hkn, bdE_r]
      · have hat : a.1 = t := by omega
        refine v_iload_n hC (pc := 32) (k := 1) 0 rfl dX2_readLines_32 ?_
        refine v_sipush hC (pc := 33) (v := 160) (by decide +kernel) dX2_readLines_33 ?_
        refine v_icmp_ge hC (pc := 36) (tgt := 75) dX2_readLines_36 (by decide) (fun c_36 => ?_) (fun c_36 => ?_)
        · skip
          exact EXG m u a hS.1 hS.2.2.2.2.1 hS.2.2.1 hW (by rw [hat, tF_end]) (by rw [← hsp, txS_e (by rw [hat]; exact tB_end) (by rw [hat]; exact tK_end)])
        · exact absurd (nI_le (show 160 ≤ m by omega) (by omega)) c_36
  refine v_aload_n hC (pc := 0) (k := 0) 0 rfl dX2_readLines_0 ?_
  refine v_getR hC (pc := 1) dX2_readLines_1 fl_X2_12 rfl (by first | rfl | exact ok_c hq rfl | exact ok_w hq hw | exact ok_w (by omega) (by omega) | exact ok_s (by omega) (by omega) | exact ok_c (by omega) rfl | assumption) rfl (by decide) (by decide) rfl ?_
  refine v_callV hC (pc := 4) (As := []) dX2_readLines_4 rfl (t_clear _ _ (d := d - 1) (by omega) (q := 4) (by decide) _) cv_X2_25 rfl (by decide) rfl (by first | rfl | exact ok_c hq rfl | exact ok_w hq hw | exact ok_w (by omega) (by omega) | exact ok_s (by omega) (by omega) | exact ok_c (by omega) rfl | assumption) (Nat.le_of_ble_eq_true rfl) (by omega) (fun r h' hr => ?_)
  obtain ⟨rfl, he9⟩ := hr
  rw [he9]
  clear he9 h'
  show V _ _ _ (4 + 3) _ _ _
  refine v_aload_n hC (pc := 7) (k := 0) 0 rfl dX2_readLines_7 ?_
  refine v_getR hC (pc := 8) dX2_readLines_8 fl_X2_22 rfl (by first | rfl | exact ok_c hq rfl | exact ok_w hq hw | exact ok_w (by omega) (by omega) | exact ok_s (by omega) (by omega) | exact ok_c (by omega) rfl | assumption) rfl (by decide) (by decide) rfl ?_
  refine v_iconst hC (pc := 11) (v := 0) (by decide) dX2_readLines_11 ?_
  refine v_callS hC (pc := 12) (As := [_, _]) dX2_readLines_12 rfl (t_fillI _ _ (d := d - 1) (by omega) _ (x := (1, 0, 4)) (N := 8) rfl rfl (by decide) _) cs_X2_28 (Nat.le_of_ble_eq_true rfl) (by omega) (fun r h' hr => ?_)
  obtain ⟨rfl, he9⟩ := hr
  rw [he9]
  clear he9 h'
  show V _ _ _ (12 + 3) _ _ _
  refine v_aload_n hC (pc := 15) (k := 0) 0 rfl dX2_readLines_15 ?_
  refine v_iconst hC (pc := 16) (v := 0) (by decide) dX2_readLines_16 ?_
  refine v_putI hC (pc := 17) dX2_readLines_17 fs_X2_34 rfl (by first | rfl | exact ok_c hq rfl | exact ok_w hq hw | exact ok_w (by omega) (by omega) | exact ok_s (by omega) (by omega) | exact ok_c (by omega) rfl | assumption) rfl (by decide) (by decide) ?_
  refine v_aload_n hC (pc := 20) (k := 0) 0 rfl dX2_readLines_20 ?_
  refine v_iconst hC (pc := 21) (v := 0) (by decide) dX2_readLines_21 ?_
  refine v_putI hC (pc := 22) dX2_readLines_22 fs_X2_38 rfl (by first | rfl | exact ok_c hq rfl | exact ok_w hq hw | exact ok_w (by omega) (by omega) | exact ok_s (by omega) (by omega) | exact ok_c (by omega) rfl | assumption) rfl (by decide) (by decide) ?_
  refine v_aload_n hC (pc := 25) (k := 0) 0 rfl dX2_readLines_25 ?_
  refine v_iconst hC (pc := 26) (v := 0) (by decide) dX2_readLines_26 ?_
  refine v_putI hC (pc := 27) dX2_readLines_27 fs_X2_41 rfl (by first | rfl | exact ok_c hq rfl | exact ok_w hq hw | exact ok_w (by omega) (by omega) | exact ok_s (by omega) (by omega) | exact ok_c (by omega) rfl | assumption) rfl (by decide) (by decide) ?_
  refine v_iconst hC (pc := 30) (v := 0) (by decide) dX2_readLines_30 ?_
  refine v_istore_n hC (pc := 31) (l' := [(1, _), (0, _)]) dX2_readLines_31 (by decide) rfl ?_
  refine v_heap (h' := clH h) ?_ (LOOP (t + 1) 0 (clH h) (0, dr0) (clH_CS h t) WD_0 (by omega) (Nat.zero_le _) rfl)
  unfold clH
  have e9 : ∀ H : HP, H.1 (1, 0, 4) = h.1 (1, 0, 4) → filR (H.1 (1, 0, 4)) 8 0 = filR (h.1 (1, 0, 4)) 8 0 := fun H q => by rw [q]
  rw [e9 _ (by rw [upR_ne _ _ (by decide), upR_ne _ _ (by decide), upI_ne _ _ _ (by decide), upI_ne _ _ _ (by decide), upI_ne _ _ _ (by decide), upI_ne _ _ _ (by decide), upI_ne _ _ _ (by decide), upI_ne _ _ _ (by decide)])]

