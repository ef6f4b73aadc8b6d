/-! THE TEXT: tokens, and how the reference reads one -/
theorem upI_i (h : HP) (i : PId) (k : Nat) (x : Int32) : (upI h i k x).1 i k = x := by simp [upI]
theorem upI_k (h : HP) (i : PId) (k m : Nat) (x : Int32) (e : m ≠ k) : (upI h i k x).1 i m = h.1 i m := by simp [upI, e]
theorem upI_id (h : HP) (i : PId) (k : Nat) : upI h i k (h.1 i k) = h := by
  refine Prod.ext (funext fun j => funext fun m => ?_) rfl
  by_cases e : j = i ∧ m = k
  · simp [upI, e]
  · simp [upI, e]
/-- as far as a test holds -/
def runP (P : Nat → Bool) : Nat → Nat → Nat
  | 0, p => p
  | n + 1, p => if P p then runP P n (p + 1) else p
def txR (P : Nat → Bool) (t p : Nat) : Nat := runP P (t - p) p
theorem txR_s {P : Nat → Bool} {t p : Nat} (h : p < t) (hP : P p = true) : txR P t p = txR P t (p + 1) := by
  unfold txR
  rw [show t - p = (t - (p + 1)) + 1 by omega, runP, if_pos hP]
theorem txR_e {P : Nat → Bool} {t p : Nat} (h : p < t → P p = false) : txR P t p = p := by
  unfold txR
  rcases Nat.lt_or_ge p t with q | q
  · rw [show t - p = (t - (p + 1)) + 1 by omega, runP, if_neg (by rw [h q]; decide)]
  · rw [show t - p = 0 by omega]; rfl
theorem runP_b (P : Nat → Bool) : ∀ n p, p ≤ runP P n p ∧ runP P n p ≤ p + n
  | 0, p => ⟨Nat.le_refl _, Nat.le_refl _⟩
  | n + 1, p => by
    have := runP_b P n (p + 1)
    rw [runP]
    split
    · omega
    · omega
theorem txR_b (P : Nat → Bool) {t p : Nat} (h : p ≤ t) : p ≤ txR P t p ∧ txR P t p ≤ t := by
  have := runP_b P (t - p) p
  unfold txR
  omega
def spB (T : Nat → Int32) (j : Nat) : Bool := decide (T j = 32)
def leB (T : Nat → Int32) (j : Nat) : Bool := decide (¬ T j < 97 ∧ ¬ 122 < T j)
def fiB (T : Nat → Int32) (j : Nat) : Bool := decide (¬ T j < 48 ∧ ¬ 57 < T j)
/-- a token that is read from e on: its first byte, its kind (0 the end, 1 a word, 2 a number, 3 a sign), where it ends, its value, whether it is none -/
def tF (T : Nat → Int32) (t e : Nat) : Nat := txR (spB T) t e
def tK (T : Nat → Int32) (t e : Nat) : Nat := if t ≤ tF T t e then 0 else if leB T (tF T t e) = true then 1 else if fiB T (tF T t e) = true then 2 else 3
def tE (T : Nat → Int32) (t e : Nat) : Nat := if t ≤ tF T t e then tF T t e else if leB T (tF T t e) = true then txR (leB T) t (tF T t e) else if fiB T (tF T t e) = true then txR (fiB T) t (tF T t e) else tF T t e + 1
def vlF (T : Nat → Int32) (f n : Nat) : Int32 := itN (fun i a => 10 * a + T (f + i) - 48) n 0
def tV (T : Nat → Int32) (t e : Nat) : Int32 := vlF T (tF T t e) (tE T t e - tF T t e)
def tB (T : Nat → Int32) (t e : Nat) : Prop := (tK T t e = 2 ∧ 2 < tE T t e - tF T t e) ∨ (tK T t e = 3 ∧ ¬ T (tF T t e) = 59)
theorem tF_b {T : Nat → Int32} {t e : Nat} (h : e ≤ t) : e ≤ tF T t e ∧ tF T t e ≤ t := txR_b _ h
theorem tE_b {T : Nat → Int32} {t e : Nat} (h : e ≤ t) : tF T t e ≤ tE T t e ∧ tE T t e ≤ t := by
  have h1 := tF_b (T := T) h
  unfold tE
  split
  · omega
  · split
    · exact txR_b _ h1.2
    · split
      · exact txR_b _ h1.2
      · omega
theorem tE_g {T : Nat → Int32} {t e : Nat} (h : e ≤ t) (hk : ¬ tK T t e = 0) : tF T t e < tE T t e := by
  have h1 := tF_b (T := T) h
  unfold tK at hk
  unfold tE
  by_cases e0 : t ≤ tF T t e
  · rw [if_pos e0] at hk; exact absurd rfl hk
  · rw [if_neg e0]
    by_cases e1 : leB T (tF T t e) = true
    · rw [if_pos e1, txR_s (by omega) e1]
      have := txR_b (leB T) (show tF T t e + 1 ≤ t by omega)
      omega
    · rw [if_neg e1]
      by_cases e2 : fiB T (tF T t e) = true
      · rw [if_pos e2, txR_s (by omega) e2]
        have := txR_b (fiB T) (show tF T t e + 1 ≤ t by omega)
        omega
      · rw [if_neg e2]; omega
theorem tE_3 {T : Nat → Int32} {t e : Nat} (h : tK T t e = 3) : tE T t e = tF T t e + 1 := by
  unfold tK at h
  unfold tE
  by_cases e0 : t ≤ tF T t e
  · rw [if_pos e0] at h; exact absurd h (by decide)
  · rw [if_neg e0] at h ⊢
    by_cases e1 : leB T (tF T t e) = true
    · rw [if_pos e1] at h; exact absurd h (by decide)
    · rw [if_neg e1] at h ⊢
      by_cases e2 : fiB T (tF T t e) = true
      · rw [if_pos e2] at h; exact absurd h (by decide)
      · rw [if_neg e2]
theorem byF_lt {T : Nat → Int32} {t p : Nat} (h : p < t) : byF T t p = T p := if_pos h
theorem byF_ge {T : Nat → Int32} {t p : Nat} (h : ¬ p < t) : byF T t p = -1 := if_neg h
/-- all but what a token writes stays -/
def Fr6 (h u : HP) : Prop := (∀ i : PId, i ≠ (3, 0, 0) → u.1 i = h.1 i) ∧ u.2 = h.2 ∧ ∀ k, k < 13 ∨ 18 < k → u.1 (3, 0, 0) k = h.1 (3, 0, 0) k
theorem Fr6_r (h : HP) : Fr6 h h := ⟨fun _ _ => rfl, rfl, fun _ _ => rfl⟩
theorem Fr6_up {h u : HP} {k : Nat} {x : Int32} (hF : Fr6 h u) (hk : 13 ≤ k ∧ k ≤ 18) : Fr6 h (upI u (3, 0, 0) k x) :=
  ⟨fun i hi => by rw [upI_ne _ _ _ hi]; exact hF.1 i hi, hF.2.1, fun m hm => by rw [upI_k _ _ _ _ _ (by omega)]; exact hF.2.2 m hm⟩
theorem Fr6_t {h u w : HP} (h1 : Fr6 h u) (h2 : Fr6 u w) : Fr6 h w :=
  ⟨fun i hi => (h2.1 i hi).trans (h1.1 i hi), h2.2.1.trans h1.2.1, fun k hk => (h2.2.2 k hk).trans (h1.2.2 k hk)⟩
def TokR (T : Nat → Int32) (t : Nat) (h u : HP) (e : Nat) : Prop := Fr6 h u ∧ ((tB T t e ∧ u.1 (3, 0, 0) 17 = 1 ∧ u.1 (3, 0, 0) 18 = nI (tF T t e)) ∨ (¬ tB T t e ∧ u.1 (3, 0, 0) 17 = 0 ∧ u.1 (3, 0, 0) 13 = nI (tE T t e) ∧ u.1 (3, 0, 0) 14 = nI (tF T t e) ∧ u.1 (3, 0, 0) 15 = nI (tK T t e) ∧ (tK T t e = 2 → u.1 (3, 0, 0) 16 = tV T t e)))
theorem m_byteT (l9 : Launch) (G : WT) {d : Nat} (hd : 1 ≤ d) (h : HP) {T : Nat → Int32} {t p : Nat} (ht : t ≤ 160) (htp : h.1 (3, 0, 0) 12 = nI t) (hT : h.1 (3, 0, 12) = T) (hp : p < 1000) : MS l9 G yX7_byteAt cX7_byteAt 2 (some .int) d [vr (3, 0, 0), vi (nI p)] h (fun r h1 => h1 = h ∧ r = some (vi (byF T t p))) := by
  subst hT
  exact m_byteAt l9 G hd h ht htp hp
theorem nd_1 (l9 : Launch) (G : WT) {d : Nat} (hd : 1 ≤ d) (h : HP) (code : Int32) : MS l9 G yX7_needs0 cX7_needs0 3 none d [vr (3, 0, 0), vi 1, vi code] h (fun r h1 => h1 = h ∧ r = none) := by
  have e := m_needs0 l9 G hd h True code
  rw [bP_t trivial] at e
  exact MS.mono e (fun r h' z => ⟨by rw [z.2]; exact if_neg (fun y => y.1 trivial), z.1⟩)
def nfH (h : HP) (code : Int32) : HP := upI (upI h (3, 0, 0) 17 code) (3, 0, 0) 18 (h.1 (3, 0, 0) 14)
theorem nd_0 (l9 : Launch) (G : WT) {d : Nat} (hd : 1 ≤ d) (h : HP) (code : Int32) (hf : h.1 (3, 0, 0) 17 = 0) : MS l9 G yX7_needs0 cX7_needs0 3 none d [vr (3, 0, 0), vi 0, vi code] h (fun r h1 => h1 = nfH h code ∧ r = none) := by
  have e := m_needs0 l9 G hd h False code
  rw [bP_f (fun z => z)] at e
  exact MS.mono e (fun r h' z => ⟨by rw [z.2]; exact if_pos ⟨fun z => z, hf⟩, z.1⟩)
theorem nd_x (l9 : Launch) (G : WT) {d : Nat} (hd : 1 ≤ d) (h : HP) (b code : Int32) (hb : b = 0 ∨ b = 1) (hf : ¬ h.1 (3, 0, 0) 17 = 0) : MS l9 G yX7_needs0 cX7_needs0 3 none d [vr (3, 0, 0), vi b, vi code] h (fun r h1 => h1 = h ∧ r = none) := by
  rcases hb with rfl | rfl
  · have e := m_needs0 l9 G hd h False code
    rw [bP_f (fun z => z)] at e
    exact MS.mono e (fun r h' z => ⟨by rw [z.2]; exact if_neg (fun y => hf y.2), z.1⟩)
  · exact nd_1 l9 G hd h code
theorem nfH_17 (h : HP) (c : Int32) : (nfH h c).1 (3, 0, 0) 17 = c := by simp [nfH, upI]
theorem nfH_18 (h : HP) (c : Int32) : (nfH h c).1 (3, 0, 0) 18 = h.1 (3, 0, 0) 14 := by simp [nfH, upI]
theorem nfH_k (h : HP) (c : Int32) (k : Nat) (h1 : k ≠ 17) (h2 : k ≠ 18) : (nfH h c).1 (3, 0, 0) k = h.1 (3, 0, 0) k := by simp [nfH, upI, h1, h2]
theorem Fr6_nf {h u : HP} (c : Int32) (hF : Fr6 h u) : Fr6 h (nfH u c) := Fr6_up (Fr6_up hF (by decide)) (by decide)
theorem vlF_s (T : Nat → Int32) (f n : Nat) : vlF T f (n + 1) = 10 * vlF T f n + T (f + n) - 48 := rfl
theorem bI_dec {p : Prop} [Decidable p] (h : ¬ p) : decide p = false := decide_eq_false h
set_option maxRecDepth 20000 in
set_option maxHeartbeats 2000000 in
theorem m_nextToken (l9 : Launch) (G : WT) {d : Nat} (hd : 2 ≤ d) (h : HP) {T : Nat → Int32} {t e : Nat} (ht : t ≤ 160) (htp : h.1 (3, 0, 0) 12 = nI t) (hT : h.1 (3, 0, 12) = T) (hT0 : ∀ j, j < t → ¬ T j < 0) (hf0 : h.1 (3, 0, 0) 17 = 0) (hp0 : h.1 (3, 0, 0) 13 = nI e) (het : e ≤ t) : MS l9 G yX7_nextToken cX7_nextToken 2 none d [vr (3, 0, 0)] h (fun r h1 => r = none ∧ TokR T t h h1 e) := by
  refine MS_of (by decide +kernel) (Nat.le_of_ble_eq_true rfl) (fun X hC hX => ?_)
  show V X G 2 0 _ [] _
  have l6 : ∀ u : HP, Fr6 h u → u.1 (3, 0, 0) 17 = 0 → u.1 (3, 0, 0) 13 = nI (tF T t e) → u.1 (3, 0, 0) 14 = nI (tF T t e) → tF T t e < t → tK T t e = 3 → V X G 2 243 [(1, vi (byF T t (tF T t e))), (0, vr (3, 0, 0))] [] u := by
    intro u hF hq7 hq3 hq4 hft hK3
    have G1 : ¬ tB T t e → V X G 2 260 [(1, vi (byF T t (tF T t e))), (0, vr (3, 0, 0))] [vi 1, vr (3, 0, 0)] (upI u (3, 0, 0) 15 3) := by
      intro hb
      refine v_iconst hC (pc := 260) (v := 1) (by decide) dX7_nextToken_260 ?_
      refine v_callV hC (pc := 261) (As := [_, _]) dX7_nextToken_261 rfl (nd_1 _ _ (d := d - 1) (by omega) _ _) cv_X7_133 rfl (by decide) rfl (by first | rfl | exact ok_c hq rfl | exact ok_w hq hw | exact ok_w (by omega) (by omega) | exact ok_s (by omega) (by omega) | exact ok_c (by omega) rfl | assumption) (Nat.le_of_ble_eq_true rfl) (by omega) (fun r h' hr => ?_)
      obtain ⟨he9, rfl⟩ := hr
      rw [he9]
      clear he9 h'
      show V _ _ _ (261 + 3) _ _ _
      refine v_aload_n hC (pc := 264) (k := 0) 1 rfl dX7_nextToken_264 ?_
      refine v_dup hC (pc := 265) rfl dX7_nextToken_265 ?_
      refine v_getI hC (pc := 266) dX7_nextToken_266 fl_X7_100 rfl (by first | rfl | exact ok_c hq rfl | exact ok_w hq hw | exact ok_w (by omega) (by omega) | exact ok_s (by omega) (by omega) | exact ok_c (by omega) rfl | assumption) rfl (by decide) (by decide) ?_
      try simp (decide := true) only [upI_i, upI_k, hq3]
      refine v_iconst hC (pc := 269) (v := 1) (by decide) dX7_nextToken_269 ?_
      refine v_iadd hC (pc := 270) dX7_nextToken_270 ?_
      rw [nI_1]
      refine v_putI hC (pc := 271) dX7_nextToken_271 fs_X7_100 rfl (by first | rfl | exact ok_c hq rfl | exact ok_w hq hw | exact ok_w (by omega) (by omega) | exact ok_s (by omega) (by omega) | exact ok_c (by omega) rfl | assumption) rfl (by decide) (by decide) ?_
      refine v_vret hC hX (pc := 274) dX7_nextToken_274 ?_
      have hEe : tE T t e = tF T t e + 1 := tE_3 hK3
      exact ⟨rfl, Fr6_up (Fr6_up hF (by decide)) (by decide), Or.inr ⟨hb, by simp (decide := true) only [upI_i, upI_k]; exact hq7, by simp (decide := true) only [upI_i]; rw [hEe], by simp (decide := true) only [upI_i, upI_k]; exact hq4, by simp (decide := true) only [upI_i, upI_k]; rw [hK3]; rfl, fun z => absurd (hK3.symm.trans z) (by decide)⟩⟩
    have G0 : tB T t e → V X G 2 260 [(1, vi (byF T t (tF T t e))), (0, vr (3, 0, 0))] [vi 0, vr (3, 0, 0)] (upI u (3, 0, 0) 15 3) := by
      intro hb
      refine v_iconst hC (pc := 260) (v := 1) (by decide) dX7_nextToken_260 ?_
      refine v_callV hC (pc := 261) (As := [_, _]) dX7_nextToken_261 rfl (nd_0 _ _ (d := d - 1) (by omega) _ _ (by simp (decide := true) only [upI_k]; exact hq7)) cv_X7_133 rfl (by decide) rfl (by first | rfl | exact ok_c hq rfl | exact ok_w hq hw | exact ok_w (by omega) (by omega) | exact ok_s (by omega) (by omega) | exact ok_c (by omega) rfl | assumption) (Nat.le_of_ble_eq_true rfl) (by omega) (fun r h' hr => ?_)
      obtain ⟨he9, rfl⟩ := hr
      rw [he9]
      clear he9 h'
      show V _ _ _ (261 + 3) _ _ _
      refine v_aload_n hC (pc := 264) (k := 0) 1 rfl dX7_nextToken_264 ?_
      refine v_dup hC (pc := 265) rfl dX7_nextToken_265 ?_
      refine v_getI hC (pc := 266) dX7_nextToken_266 fl_X7_100 rfl (by first | rfl | exact ok_c hq rfl | exact ok_w hq hw | exact ok_w (by omega) (by omega) | exact ok_s (by omega) (by omega) | exact ok_c (by omega) rfl | assumption) rfl (by decide) (by decide) ?_
      skip
      refine v_iconst hC (pc := 269) (v := 1) (by decide) dX7_nextToken_269 ?_
      refine v_iadd hC (pc := 270) dX7_nextToken_270 ?_
      refine v_putI hC (pc := 271) dX7_nextToken_271 fs_X7_100 rfl (by first | rfl | exact ok_c hq rfl | exact ok_w hq hw | exact ok_w (by omega) (by omega) | exact ok_s (by omega) (by omega) | exact ok_c (by omega) rfl | assumption) rfl (by decide) (by decide) ?_
      refine v_vret hC hX (pc := 274) dX7_nextToken_274 ?_
      exact ⟨rfl, Fr6_up (Fr6_nf _ (Fr6_up hF (by decide))) (by decide), Or.inl ⟨hb, by rw [upI_k _ _ _ _ _ (by decide)]; exact nfH_17 _ _, by rw [upI_k _ _ _ _ _ (by decide), nfH_18]; simp (decide := true) only [upI_k]; exact hq4⟩⟩
    refine v_aload_n hC (pc := 243) (k := 0) 1 rfl dX7_nextToken_243 ?_
    refine v_iconst hC (pc := 244) (v := 3) (by decide) dX7_nextToken_244 ?_
    refine v_putI hC (pc := 245) dX7_nextToken_245 fs_X7_119 rfl (by first | rfl | exact ok_c hq rfl | exact ok_w hq hw | exact ok_w (by omega) (by omega) | exact ok_s (by omega) (by omega) | exact ok_c (by omega) rfl | assumption) rfl (by decide) (by decide) ?_
    refine v_aload_n hC (pc := 248) (k := 0) 1 rfl dX7_nextToken_248 ?_
    refine v_iload_n hC (pc := 249) (k := 1) 0 rfl dX7_nextToken_249 ?_
    refine v_bipush hC (pc := 250) (v := 59) (by decide +kernel) dX7_nextToken_250 ?_
    refine v_icmp_ne hC (pc := 252) (tgt := 259) dX7_nextToken_252 (by decide) (fun c_252 => ?_) (fun c_252 => ?_)
    · skip
      have hb : tB T t e := Or.inr ⟨hK3, fun z => c_252 (by rw [byF_lt hft]; exact z)⟩
      refine v_iconst hC (pc := 259) (v := 0) (by decide) dX7_nextToken_259 ?_
      exact G0 hb
    · skip
      have hb : ¬ tB T t e := fun z => z.elim (fun y => absurd (y.1.symm.trans hK3) (by decide)) (fun y => y.2 (by rw [byF_lt hft] at c_252; exact c_252))
      refine v_iconst hC (pc := 255) (v := 1) (by decide) dX7_nextToken_255 ?_
      refine v_goto hC (pc := 256) (tgt := 260) dX7_nextToken_256 (by decide) ?_
      exact G1 hb
  have l4 : tK T t e = 1 → ∀ (n p : Nat) (u : HP), t + 1 ≤ p + n → tF T t e ≤ p → p ≤ t → Fr6 h u → u.1 (3, 0, 0) 17 = 0 → u.1 (3, 0, 0) 13 = nI p → u.1 (3, 0, 0) 14 = nI (tF T t e) → u.1 (3, 0, 0) 15 = 1 → txR (leB T) t p = tE T t e → V X G 2 82 [(1, vi (byF T t (tF T t e))), (0, vr (3, 0, 0))] [] u := by
    intro hK1 n
    induction n with
    | zero => intro p u h1 h2 h3; exact absurd h1 (by omega)
    | succ n ih =>
      intro p u h1 h2 h3 hF hq7 hq3 hq4 hq5 hs
      refine v_aload_n hC (pc := 82) (k := 0) 1 rfl dX7_nextToken_82 ?_
      refine v_aload_n hC (pc := 83) (k := 0) 1 rfl dX7_nextToken_83 ?_
      refine v_getI hC (pc := 84) dX7_nextToken_84 fl_X7_100 rfl (by first | rfl | exact ok_c hq rfl | exact ok_w hq hw | exact ok_w (by omega) (by omega) | exact ok_s (by omega) (by omega) | exact ok_c (by omega) rfl | assumption) rfl (by decide) (by decide) ?_
      rw [hq3]
      refine v_callV hC (pc := 87) (As := [_]) dX7_nextToken_87 rfl (m_byteT _ _ (d := d - 1) (by omega) _ (p := p) ht ((hF.2.2 12 (by decide)).trans htp) ((hF.1 (3, 0, 12) (by decide)).trans hT) (by omega)) cv_X7_103 rfl (by decide) rfl (by first | rfl | exact ok_c hq rfl | exact ok_w hq hw | exact ok_w (by omega) (by omega) | exact ok_s (by omega) (by omega) | exact ok_c (by omega) rfl | assumption) (Nat.le_of_ble_eq_true rfl) (by omega) (fun r h' hr => ?_)
      obtain ⟨he9, rfl⟩ := hr
      rw [he9]
      clear he9 h'
      show V _ _ _ (87 + 3) _ (_ :: _) _
      refine v_i2l hC (pc := 90) dX7_nextToken_90 ?_
      refine v_ldc2 hC (pc := 91) k_X7_122 dX7_nextToken_91 ?_
      refine v_ldc2 hC (pc := 94) k_X7_124 dX7_nextToken_94 ?_
      refine v_callS hC (pc := 97) (As := [_, _, _]) dX7_nextToken_97 rfl (m_in _ _ (d := d - 1) (by omega) _ (byF T t p) 97 122) cs_X7_84 (Nat.le_of_ble_eq_true rfl) (by omega) (fun r h' hr => ?_)
      obtain ⟨he9, rfl⟩ := hr
      rw [he9]
      clear he9 h'
      show V _ _ _ (97 + 3) _ (_ :: _) _
      refine v_ifb_eq hC (pc := 100) (tgt := 274) dX7_nextToken_100 (by decide) (fun c_100 => ?_) (fun c_100 => ?_)
      · skip
        have hpE : p = tE T t e := by
          rw [← hs]
          refine (txR_e (fun hp => decide_eq_false ?_)).symm
          rw [byF_lt hp] at c_100
          exact c_100
        refine v_vret hC hX (pc := 274) dX7_nextToken_274 ?_
        exact ⟨rfl, hF, Or.inr ⟨fun z => z.elim (fun y => absurd (y.1.symm.trans hK1) (by decide)) (fun y => absurd (y.1.symm.trans hK1) (by decide)), hq7, by rw [hq3, hpE], hq4, by rw [hq5, hK1]; rfl, fun z => absurd (hK1.symm.trans z) (by decide)⟩⟩
      · skip
        have hp : p < t := Nat.lt_of_not_le (fun z => by rw [byF_ge (by omega)] at c_100; exact absurd c_100 (by decide))
        rw [byF_lt hp] at c_100
        refine v_aload_n hC (pc := 103) (k := 0) 1 rfl dX7_nextToken_103 ?_
        refine v_dup hC (pc := 104) rfl dX7_nextToken_104 ?_
        refine v_getI hC (pc := 105) dX7_nextToken_105 fl_X7_100 rfl (by first | rfl | exact ok_c hq rfl | exact ok_w hq hw | exact ok_w (by omega) (by omega) | exact ok_s (by omega) (by omega) | exact ok_c (by omega) rfl | assumption) rfl (by decide) (by decide) ?_
        rw [hq3]
        refine v_iconst hC (pc := 108) (v := 1) (by decide) dX7_nextToken_108 ?_
        refine v_iadd hC (pc := 109) dX7_nextToken_109 ?_
        rw [nI_1]
        refine v_putI hC (pc := 110) dX7_nextToken_110 fs_X7_100 rfl (by first | rfl | exact ok_c hq rfl | exact ok_w hq hw | exact ok_w (by omega) (by omega) | exact ok_s (by omega) (by omega) | exact ok_c (by omega) rfl | assumption) rfl (by decide) (by decide) ?_
        refine v_goto hC (pc := 113) (tgt := 82) dX7_nextToken_113 (by decide) ?_
        exact ih (p + 1) _ (by omega) (by omega) (by omega) (Fr6_up hF (by decide)) (by rw [upI_k _ _ _ _ _ (by decide)]; exact hq7) (upI_i _ _ _ _) (by rw [upI_k _ _ _ _ _ (by decide)]; exact hq4) (by rw [upI_k _ _ _ _ _ (by decide)]; exact hq5) (by rw [← hs]; exact (txR_s hp (decide_eq_true c_100)).symm)
  have l5b : tK T t e = 2 → ∀ u : HP, Fr6 h u → u.1 (3, 0, 0) 17 = 0 → u.1 (3, 0, 0) 13 = nI (tE T t e) → u.1 (3, 0, 0) 14 = nI (tF T t e) → u.1 (3, 0, 0) 15 = 2 → u.1 (3, 0, 0) 16 = vlF T (tF T t e) (min (tE T t e - tF T t e) 2) → V X G 2 217 [(1, vi (byF T t (tF T t e))), (0, vr (3, 0, 0))] [] u := by
    intro hK2 u hF hq7 hq3 hq4 hq5 hq6
    have hfE : tF T t e ≤ tE T t e := (tE_b het).1
    have hE2 : tE T t e ≤ t := (tE_b het).2
    have H1 : ¬ tB T t e → V X G 2 236 [(1, vi (byF T t (tF T t e))), (0, vr (3, 0, 0))] [vi 1, vr (3, 0, 0)] u := by
      intro hb
      refine v_iconst hC (pc := 236) (v := 1) (by decide) dX7_nextToken_236 ?_
      refine v_callV hC (pc := 237) (As := [_, _]) dX7_nextToken_237 rfl (nd_1 _ _ (d := d - 1) (by omega) _ _) cv_X7_133 rfl (by decide) rfl (by first | rfl | exact ok_c hq rfl | exact ok_w hq hw | exact ok_w (by omega) (by omega) | exact ok_s (by omega) (by omega) | exact ok_c (by omega) rfl | assumption) (Nat.le_of_ble_eq_true rfl) (by omega) (fun r h' hr => ?_)
      obtain ⟨he9, rfl⟩ := hr
      rw [he9]
      clear he9 h'
      show V _ _ _ (237 + 3) _ _ _
      refine v_goto hC (pc := 240) (tgt := 274) dX7_nextToken_240 (by decide) ?_
      refine v_vret hC hX (pc := 274) dX7_nextToken_274 ?_
      exact ⟨rfl, hF, Or.inr ⟨hb, hq7, hq3, hq4, by rw [hq5, hK2]; rfl, fun _ => by rw [hq6, Nat.min_eq_left (Nat.le_of_not_lt (fun z => hb (Or.inl ⟨hK2, z⟩)))]; rfl⟩⟩
    have H0 : tB T t e → V X G 2 236 [(1, vi (byF T t (tF T t e))), (0, vr (3, 0, 0))] [vi 0, vr (3, 0, 0)] u := by
      intro hb
      refine v_iconst hC (pc := 236) (v := 1) (by decide) dX7_nextToken_236 ?_
      refine v_callV hC (pc := 237) (As := [_, _]) dX7_nextToken_237 rfl (nd_0 _ _ (d := d - 1) (by omega) _ _ hq7) cv_X7_133 rfl (by decide) rfl (by first | rfl | exact ok_c hq rfl | exact ok_w hq hw | exact ok_w (by omega) (by omega) | exact ok_s (by omega) (by omega) | exact ok_c (by omega) rfl | assumption) (Nat.le_of_ble_eq_true rfl) (by omega) (fun r h' hr => ?_)
      obtain ⟨he9, rfl⟩ := hr
      rw [he9]
      clear he9 h'
      show V _ _ _ (237 + 3) _ _ _
      refine v_goto hC (pc := 240) (tgt := 274) dX7_nextToken_240 (by decide) ?_
      refine v_vret hC hX (pc := 274) dX7_nextToken_274 ?_
      exact ⟨rfl, Fr6_nf _ hF, Or.inl ⟨hb, nfH_17 _ _, (nfH_18 _ _).trans hq4⟩⟩
    refine v_aload_n hC (pc := 217) (k := 0) 1 rfl dX7_nextToken_217 ?_
    refine v_aload_n hC (pc := 218) (k := 0) 1 rfl dX7_nextToken_218 ?_
    refine v_getI hC (pc := 219) dX7_nextToken_219 fl_X7_100 rfl (by first | rfl | exact ok_c hq rfl | exact ok_w hq hw | exact ok_w (by omega) (by omega) | exact ok_s (by omega) (by omega) | exact ok_c (by omega) rfl | assumption) rfl (by decide) (by decide) ?_
    refine v_aload_n hC (pc := 222) (k := 0) 1 rfl dX7_nextToken_222 ?_
    refine v_getI hC (pc := 223) dX7_nextToken_223 fl_X7_94 rfl (by first | rfl | exact ok_c hq rfl | exact ok_w hq hw | exact ok_w (by omega) (by omega) | exact ok_s (by omega) (by omega) | exact ok_c (by omega) rfl | assumption) rfl (by decide) (by decide) ?_
    rw [hq3, hq4]
    refine v_isub hC (pc := 226) dX7_nextToken_226 ?_
    refine v_iconst hC (pc := 227) (v := 2) (by decide) dX7_nextToken_227 ?_
    rw [pk_sub hfE]
    refine v_icmp_gt hC (pc := 228) (tgt := 235) dX7_nextToken_228 (by decide) (fun c_228 => ?_) (fun c_228 => ?_)
    · skip
      have hb : tB T t e := Or.inl ⟨hK2, (nI_ltI (by decide) (by omega)).mp c_228⟩
      refine v_iconst hC (pc := 235) (v := 0) (by decide) dX7_nextToken_235 ?_
      exact H0 hb
    · skip
      have hb : ¬ tB T t e := fun z => z.elim (fun y => c_228 (nI_lt y.2 (by omega))) (fun y => absurd (y.1.symm.trans hK2) (by decide))
      refine v_iconst hC (pc := 231) (v := 1) (by decide) dX7_nextToken_231 ?_
      refine v_goto hC (pc := 232) (tgt := 236) dX7_nextToken_232 (by decide) ?_
      exact H1 hb
  have l5 : tK T t e = 2 → ∀ (n p : Nat) (u : HP), t + 1 ≤ p + n → tF T t e ≤ p → p ≤ t → Fr6 h u → u.1 (3, 0, 0) 17 = 0 → u.1 (3, 0, 0) 13 = nI p → u.1 (3, 0, 0) 14 = nI (tF T t e) → u.1 (3, 0, 0) 15 = 2 → u.1 (3, 0, 0) 16 = vlF T (tF T t e) (min (p - tF T t e) 2) → txR (fiB T) t p = tE T t e → V X G 2 140 [(1, vi (byF T t (tF T t e))), (0, vr (3, 0, 0))] [] u := by
    intro hK2
    have l5b := l5b hK2
    intro n
    induction n with
    | zero => intro p u h1 h2 h3; exact absurd h1 (by omega)
    | succ n ih =>
      intro p u h1 hfp h3 hF hq7 hq3 hq4 hq5 hq6 hs
      refine v_aload_n hC (pc := 140) (k := 0) 1 rfl dX7_nextToken_140 ?_
      refine v_aload_n hC (pc := 141) (k := 0) 1 rfl dX7_nextToken_141 ?_
      refine v_getI hC (pc := 142) dX7_nextToken_142 fl_X7_100 rfl (by first | rfl | exact ok_c hq rfl | exact ok_w hq hw | exact ok_w (by omega) (by omega) | exact ok_s (by omega) (by omega) | exact ok_c (by omega) rfl | assumption) rfl (by decide) (by decide) ?_
      rw [hq3]
      refine v_callV hC (pc := 145) (As := [_]) dX7_nextToken_145 rfl (m_byteT _ _ (d := d - 1) (by omega) _ (p := p) ht ((hF.2.2 12 (by decide)).trans htp) ((hF.1 (3, 0, 12) (by decide)).trans hT) (by omega)) cv_X7_103 rfl (by decide) rfl (by first | rfl | exact ok_c hq rfl | exact ok_w hq hw | exact ok_w (by omega) (by omega) | exact ok_s (by omega) (by omega) | exact ok_c (by omega) rfl | assumption) (Nat.le_of_ble_eq_true rfl) (by omega) (fun r h' hr => ?_)
      obtain ⟨he9, rfl⟩ := hr
      rw [he9]
      clear he9 h'
      show V _ _ _ (145 + 3) _ (_ :: _) _
      refine v_i2l hC (pc := 148) dX7_nextToken_148 ?_
      refine v_ldc2 hC (pc := 149) k_X7_126 dX7_nextToken_149 ?_
      refine v_ldc2 hC (pc := 152) k_X7_128 dX7_nextToken_152 ?_
      refine v_callS hC (pc := 155) (As := [_, _, _]) dX7_nextToken_155 rfl (m_in _ _ (d := d - 1) (by omega) _ (byF T t p) 48 57) cs_X7_84 (Nat.le_of_ble_eq_true rfl) (by omega) (fun r h' hr => ?_)
      obtain ⟨he9, rfl⟩ := hr
      rw [he9]
      clear he9 h'
      show V _ _ _ (155 + 3) _ (_ :: _) _
      refine v_ifb_eq hC (pc := 158) (tgt := 217) dX7_nextToken_158 (by decide) (fun c_158 => ?_) (fun c_158 => ?_)
      · skip
        have hpE : p = tE T t e := by
          rw [← hs]
          refine (txR_e (fun hp => decide_eq_false ?_)).symm
          rw [byF_lt hp] at c_158
          exact c_158
        exact l5b u hF hq7 (hpE ▸ hq3) hq4 hq5 (hpE ▸ hq6)
      · skip
        have hp : p < t := Nat.lt_of_not_le (fun z => by rw [byF_ge (by omega)] at c_158; exact absurd c_158 (by decide))
        rw [byF_lt hp] at c_158
        refine v_aload_n hC (pc := 161) (k := 0) 1 rfl dX7_nextToken_161 ?_
        refine v_aload_n hC (pc := 162) (k := 0) 1 rfl dX7_nextToken_162 ?_
        refine v_getI hC (pc := 163) dX7_nextToken_163 fl_X7_100 rfl (by first | rfl | exact ok_c hq rfl | exact ok_w hq hw | exact ok_w (by omega) (by omega) | exact ok_s (by omega) (by omega) | exact ok_c (by omega) rfl | assumption) rfl (by decide) (by decide) ?_
        refine v_aload_n hC (pc := 166) (k := 0) 1 rfl dX7_nextToken_166 ?_
        refine v_getI hC (pc := 167) dX7_nextToken_167 fl_X7_94 rfl (by first | rfl | exact ok_c hq rfl | exact ok_w hq hw | exact ok_w (by omega) (by omega) | exact ok_s (by omega) (by omega) | exact ok_c (by omega) rfl | assumption) rfl (by decide) (by decide) ?_
        rw [hq3, hq4]
        refine v_isub hC (pc := 170) dX7_nextToken_170 ?_
        refine v_iconst hC (pc := 171) (v := 2) (by decide) dX7_nextToken_171 ?_
        rw [pk_sub hfp]
        refine v_icmp_ge hC (pc := 172) (tgt := 197) dX7_nextToken_172 (by decide) (fun c_172 => ?_) (fun c_172 => ?_)
        · skip
          have hn2 : 2 ≤ p - tF T t e := (nI_leI (by decide) (by omega)).mp c_172
          refine v_aload_n hC (pc := 197) (k := 0) 1 rfl dX7_nextToken_197 ?_
          refine v_getI hC (pc := 198) dX7_nextToken_198 fl_X7_130 rfl (by first | rfl | exact ok_c hq rfl | exact ok_w hq hw | exact ok_w (by omega) (by omega) | exact ok_s (by omega) (by omega) | exact ok_c (by omega) rfl | assumption) rfl (by decide) (by decide) ?_
          try rw [hq6]
          refine v_putI hC (pc := 201) dX7_nextToken_201 fs_X7_130 rfl (by first | rfl | exact ok_c hq rfl | exact ok_w hq hw | exact ok_w (by omega) (by omega) | exact ok_s (by omega) (by omega) | exact ok_c (by omega) rfl | assumption) rfl (by decide) (by decide) ?_
          refine v_aload_n hC (pc := 204) (k := 0) 1 rfl dX7_nextToken_204 ?_
          refine v_dup hC (pc := 205) rfl dX7_nextToken_205 ?_
          refine v_getI hC (pc := 206) dX7_nextToken_206 fl_X7_100 rfl (by first | rfl | exact ok_c hq rfl | exact ok_w hq hw | exact ok_w (by omega) (by omega) | exact ok_s (by omega) (by omega) | exact ok_c (by omega) rfl | assumption) rfl (by decide) (by decide) ?_
          try simp (decide := true) only [upI_i, upI_k, hq3]
          refine v_iconst hC (pc := 209) (v := 1) (by decide) dX7_nextToken_209 ?_
          refine v_iadd hC (pc := 210) dX7_nextToken_210 ?_
          rw [nI_1]
          refine v_putI hC (pc := 211) dX7_nextToken_211 fs_X7_100 rfl (by first | rfl | exact ok_c hq rfl | exact ok_w hq hw | exact ok_w (by omega) (by omega) | exact ok_s (by omega) (by omega) | exact ok_c (by omega) rfl | assumption) rfl (by decide) (by decide) ?_
          refine v_goto hC (pc := 214) (tgt := 140) dX7_nextToken_214 (by decide) ?_
          refine ih (p + 1) _ (by omega) (by omega) (by omega) (Fr6_up (Fr6_up hF (by decide)) (by decide)) (by simp (decide := true) only [upI_k]; exact hq7) (upI_i _ _ _ _) (by simp (decide := true) only [upI_k]; exact hq4) (by simp (decide := true) only [upI_k]; exact hq5) ?_ (by rw [← hs]; exact (txR_s hp (decide_eq_true c_158)).symm)
          simp (decide := true) only [upI_k, upI_i]
          first | (rw [Nat.min_eq_right (show 2 ≤ p - tF T t e by omega), Nat.min_eq_right (show 2 ≤ p + 1 - tF T t e by omega)]; done) | (rw [Nat.min_eq_left (show p - tF T t e ≤ 2 by omega), Nat.min_eq_left (show p + 1 - tF T t e ≤ 2 by omega), show p + 1 - tF T t e = (p - tF T t e) + 1 by omega, vlF_s, show tF T t e + (p - tF T t e) = p by omega, byF_lt hp])
        · skip
          have hn2 : p - tF T t e < 2 := Nat.lt_of_not_le (fun z => c_172 (nI_le z (by omega)))
          refine v_bipush hC (pc := 175) (v := 10) (by decide +kernel) dX7_nextToken_175 ?_
          refine v_aload_n hC (pc := 177) (k := 0) 1 rfl dX7_nextToken_177 ?_
          refine v_getI hC (pc := 178) dX7_nextToken_178 fl_X7_130 rfl (by first | rfl | exact ok_c hq rfl | exact ok_w hq hw | exact ok_w (by omega) (by omega) | exact ok_s (by omega) (by omega) | exact ok_c (by omega) rfl | assumption) rfl (by decide) (by decide) ?_
          rw [hq6]
          refine v_imul hC (pc := 181) dX7_nextToken_181 ?_
          refine v_aload_n hC (pc := 182) (k := 0) 1 rfl dX7_nextToken_182 ?_
          refine v_aload_n hC (pc := 183) (k := 0) 1 rfl dX7_nextToken_183 ?_
          refine v_getI hC (pc := 184) dX7_nextToken_184 fl_X7_100 rfl (by first | rfl | exact ok_c hq rfl | exact ok_w hq hw | exact ok_w (by omega) (by omega) | exact ok_s (by omega) (by omega) | exact ok_c (by omega) rfl | assumption) rfl (by decide) (by decide) ?_
          rw [hq3]
          refine v_callV hC (pc := 187) (As := [_]) dX7_nextToken_187 rfl (m_byteT _ _ (d := d - 1) (by omega) _ (p := p) ht ((hF.2.2 12 (by decide)).trans htp) ((hF.1 (3, 0, 12) (by decide)).trans hT) (by omega)) cv_X7_103 rfl (by decide) rfl (by first | rfl | exact ok_c hq rfl | exact ok_w hq hw | exact ok_w (by omega) (by omega) | exact ok_s (by omega) (by omega) | exact ok_c (by omega) rfl | assumption) (Nat.le_of_ble_eq_true rfl) (by omega) (fun r h' hr => ?_)
          obtain ⟨he9, rfl⟩ := hr
          rw [he9]
          clear he9 h'
          show V _ _ _ (187 + 3) _ (_ :: _) _
          refine v_iadd hC (pc := 190) dX7_nextToken_190 ?_
          refine v_bipush hC (pc := 191) (v := 48) (by decide +kernel) dX7_nextToken_191 ?_
          refine v_isub hC (pc := 193) dX7_nextToken_193 ?_
          refine v_goto hC (pc := 194) (tgt := 201) dX7_nextToken_194 (by decide) ?_
          try rw [hq6]
          refine v_putI hC (pc := 201) dX7_nextToken_201 fs_X7_130 rfl (by first | rfl | exact ok_c hq rfl | exact ok_w hq hw | exact ok_w (by omega) (by omega) | exact ok_s (by omega) (by omega) | exact ok_c (by omega) rfl | assumption) rfl (by decide) (by decide) ?_
          refine v_aload_n hC (pc := 204) (k := 0) 1 rfl dX7_nextToken_204 ?_
          refine v_dup hC (pc := 205) rfl dX7_nextToken_205 ?_
          refine v_getI hC (pc := 206) dX7_nextToken_206 fl_X7_100 rfl (by first | rfl | exact ok_c hq rfl | exact ok_w hq hw | exact ok_w (by omega) (by omega) | exact ok_s (by omega) (by omega) | exact ok_c (by omega) rfl | assumption) rfl (by decide) (by decide) ?_
          try simp (decide := true) only [upI_i, upI_k, hq3]
          refine v_iconst hC (pc := 209) (v := 1) (by decide) dX7_nextToken_209 ?_
          refine v_iadd hC (pc := 210) dX7_nextToken_210 ?_
          rw [nI_1]
          refine v_putI hC (pc := 211) dX7_nextToken_211 fs_X7_100 rfl (by first | rfl | exact ok_c hq rfl | exact ok_w hq hw | exact ok_w (by omega) (by omega) | exact ok_s (by omega) (by omega) | exact ok_c (by omega) rfl | assumption) rfl (by decide) (by decide) ?_
          refine v_goto hC (pc := 214) (tgt := 140) dX7_nextToken_214 (by decide) ?_
          refine ih (p + 1) _ (by omega) (by omega) (by omega) (Fr6_up (Fr6_up hF (by decide)) (by decide)) (by simp (decide := true) only [upI_k]; exact hq7) (upI_i _ _ _ _) (by simp (decide := true) only [upI_k]; exact hq4) (by simp (decide := true) only [upI_k]; exact hq5) ?_ (by rw [← hs]; exact (txR_s hp (decide_eq_true c_158)).symm)
          simp (decide := true) only [upI_k, upI_i]
          first | (rw [Nat.min_eq_right (show 2 ≤ p - tF T t e by omega), Nat.min_eq_right (show 2 ≤ p + 1 - tF T t e by omega)]; done) | (rw [Nat.min_eq_left (show p - tF T t e ≤ 2 by omega), Nat.min_eq_left (show p + 1 - tF T t e ≤ 2 by omega), show p + 1 - tF T t e = (p - tF T t e) + 1 by omega, vlF_s, show tF T t e + (p - tF T t e) = p by omega, byF_lt hp])
  have l3 : ∀ u : HP, Fr6 h u → u.1 (3, 0, 0) 17 = 0 → u.1 (3, 0, 0) 13 = nI (tF T t e) → u.1 (3, 0, 0) 14 = nI (tF T t e) → V X G 2 42 [(0, vr (3, 0, 0))] [] u := by
    intro u hF hq7 hq3 hq4
    have hft2 : tF T t e ≤ t := (tF_b het).2
    refine v_aload_n hC (pc := 42) (k := 0) 0 rfl dX7_nextToken_42 ?_
    refine v_aload_n hC (pc := 43) (k := 0) 0 rfl dX7_nextToken_43 ?_
    refine v_getI hC (pc := 44) dX7_nextToken_44 fl_X7_100 rfl (by first | rfl | exact ok_c hq rfl | exact ok_w hq hw | exact ok_w (by omega) (by omega) | exact ok_s (by omega) (by omega) | exact ok_c (by omega) rfl | assumption) rfl (by decide) (by decide) ?_
    rw [hq3]
    refine v_callV hC (pc := 47) (As := [_]) dX7_nextToken_47 rfl (m_byteT _ _ (d := d - 1) (by omega) _ (p := (tF T t e)) ht ((hF.2.2 12 (by decide)).trans htp) ((hF.1 (3, 0, 12) (by decide)).trans hT) (by omega)) cv_X7_103 rfl (by decide) rfl (by first | rfl | exact ok_c hq rfl | exact ok_w hq hw | exact ok_w (by omega) (by omega) | exact ok_s (by omega) (by omega) | exact ok_c (by omega) rfl | assumption) (Nat.le_of_ble_eq_true rfl) (by omega) (fun r h' hr => ?_)
    obtain ⟨he9, rfl⟩ := hr
    rw [he9]
    clear he9 h'
    show V _ _ _ (47 + 3) _ (_ :: _) _
    refine v_istore_n hC (pc := 50) (l' := [(1, _), (0, _)]) dX7_nextToken_50 (by decide) rfl ?_
    refine v_iload_n hC (pc := 51) (k := 1) 0 rfl dX7_nextToken_51 ?_
    refine v_if_ge hC (pc := 52) (tgt := 63) dX7_nextToken_52 (by decide) (fun c_52 => ?_) (fun c_52 => ?_)
    · skip
      have hft : tF T t e < t := Nat.lt_of_not_le (fun z => by rw [byF_ge (by omega)] at c_52; exact absurd c_52 (by decide))
      refine v_iload_n hC (pc := 63) (k := 1) 0 rfl dX7_nextToken_63 ?_
      refine v_i2l hC (pc := 64) dX7_nextToken_64 ?_
      refine v_ldc2 hC (pc := 65) k_X7_122 dX7_nextToken_65 ?_
      refine v_ldc2 hC (pc := 68) k_X7_124 dX7_nextToken_68 ?_
      refine v_callS hC (pc := 71) (As := [_, _, _]) dX7_nextToken_71 rfl (m_in _ _ (d := d - 1) (by omega) _ (byF T t (tF T t e)) 97 122) cs_X7_84 (Nat.le_of_ble_eq_true rfl) (by omega) (fun r h' hr => ?_)
      obtain ⟨he9, rfl⟩ := hr
      rw [he9]
      clear he9 h'
      show V _ _ _ (71 + 3) _ (_ :: _) _
      refine v_ifb_eq hC (pc := 74) (tgt := 116) dX7_nextToken_74 (by decide) (fun c_74 => ?_) (fun c_74 => ?_)
      · skip
        have hle : ¬ leB T (tF T t e) = true := by rw [byF_lt hft] at c_74; unfold leB; rw [decide_eq_false c_74]; decide
        refine v_iload_n hC (pc := 116) (k := 1) 0 rfl dX7_nextToken_116 ?_
        refine v_i2l hC (pc := 117) dX7_nextToken_117 ?_
        refine v_ldc2 hC (pc := 118) k_X7_126 dX7_nextToken_118 ?_
        refine v_ldc2 hC (pc := 121) k_X7_128 dX7_nextToken_121 ?_
        refine v_callS hC (pc := 124) (As := [_, _, _]) dX7_nextToken_124 rfl (m_in _ _ (d := d - 1) (by omega) _ (byF T t (tF T t e)) 48 57) cs_X7_84 (Nat.le_of_ble_eq_true rfl) (by omega) (fun r h' hr => ?_)
        obtain ⟨he9, rfl⟩ := hr
        rw [he9]
        clear he9 h'
        show V _ _ _ (124 + 3) _ (_ :: _) _
        refine v_ifb_eq hC (pc := 127) (tgt := 243) dX7_nextToken_127 (by decide) (fun c_127 => ?_) (fun c_127 => ?_)
        · skip
          have hfi : ¬ fiB T (tF T t e) = true := by rw [byF_lt hft] at c_127; unfold fiB; rw [decide_eq_false c_127]; decide
          refine l6 u hF hq7 hq3 hq4 hft ?_
          unfold tK; rw [if_neg (by omega), if_neg hle, if_neg hfi]
        · skip
          have hfi : fiB T (tF T t e) = true := by rw [byF_lt hft] at c_127; exact decide_eq_true c_127
          refine v_aload_n hC (pc := 130) (k := 0) 1 rfl dX7_nextToken_130 ?_
          refine v_iconst hC (pc := 131) (v := 2) (by decide) dX7_nextToken_131 ?_
          refine v_putI hC (pc := 132) dX7_nextToken_132 fs_X7_119 rfl (by first | rfl | exact ok_c hq rfl | exact ok_w hq hw | exact ok_w (by omega) (by omega) | exact ok_s (by omega) (by omega) | exact ok_c (by omega) rfl | assumption) rfl (by decide) (by decide) ?_
          refine v_aload_n hC (pc := 135) (k := 0) 1 rfl dX7_nextToken_135 ?_
          refine v_iconst hC (pc := 136) (v := 0) (by decide) dX7_nextToken_136 ?_
          refine v_putI hC (pc := 137) dX7_nextToken_137 fs_X7_130 rfl (by first | rfl | exact ok_c hq rfl | exact ok_w hq hw | exact ok_w (by omega) (by omega) | exact ok_s (by omega) (by omega) | exact ok_c (by omega) rfl | assumption) rfl (by decide) (by decide) ?_
          refine l5 ?_ 161 (tF T t e) _ (by omega) (Nat.le_refl _) hft2 (Fr6_up (Fr6_up hF (by decide)) (by decide)) (by simp (decide := true) only [upI_k]; exact hq7) (by simp (decide := true) only [upI_k]; exact hq3) (by simp (decide := true) only [upI_k]; exact hq4) (by simp (decide := true) only [upI_k, upI_i]) (by rw [upI_i, Nat.sub_self]; rfl) ?_
          · unfold tK; rw [if_neg (by omega), if_neg hle, if_pos hfi]
          · unfold tE; rw [if_neg (by omega), if_neg hle, if_pos hfi]
      · skip
        have hle : leB T (tF T t e) = true := by rw [byF_lt hft] at c_74; exact decide_eq_true c_74
        refine v_aload_n hC (pc := 77) (k := 0) 1 rfl dX7_nextToken_77 ?_
        refine v_iconst hC (pc := 78) (v := 1) (by decide) dX7_nextToken_78 ?_
        refine v_putI hC (pc := 79) dX7_nextToken_79 fs_X7_119 rfl (by first | rfl | exact ok_c hq rfl | exact ok_w hq hw | exact ok_w (by omega) (by omega) | exact ok_s (by omega) (by omega) | exact ok_c (by omega) rfl | assumption) rfl (by decide) (by decide) ?_
        refine l4 ?_ 161 (tF T t e) _ (by omega) (Nat.le_refl _) hft2 (Fr6_up hF (by decide)) (by simp (decide := true) only [upI_k]; exact hq7) (by simp (decide := true) only [upI_k]; exact hq3) (by simp (decide := true) only [upI_k]; exact hq4) (upI_i _ _ _ _) ?_
        · unfold tK; rw [if_neg (by omega), if_pos hle]
        · unfold tE; rw [if_neg (by omega), if_pos hle]
    · skip
      have hend : t ≤ tF T t e := Nat.le_of_not_lt (fun z => by rw [byF_lt z] at c_52; exact c_52 (Int32.not_lt.mp (hT0 _ z)))
      refine v_aload_n hC (pc := 55) (k := 0) 1 rfl dX7_nextToken_55 ?_
      refine v_iconst hC (pc := 56) (v := 0) (by decide) dX7_nextToken_56 ?_
      refine v_putI hC (pc := 57) dX7_nextToken_57 fs_X7_119 rfl (by first | rfl | exact ok_c hq rfl | exact ok_w hq hw | exact ok_w (by omega) (by omega) | exact ok_s (by omega) (by omega) | exact ok_c (by omega) rfl | assumption) rfl (by decide) (by decide) ?_
      refine v_goto hC (pc := 60) (tgt := 274) dX7_nextToken_60 (by decide) ?_
      refine v_vret hC hX (pc := 274) dX7_nextToken_274 ?_
      have hK0 : tK T t e = 0 := if_pos hend
      have hE0 : tE T t e = tF T t e := if_pos hend
      exact ⟨rfl, Fr6_up hF (by decide), Or.inr ⟨fun z => z.elim (fun y => absurd (y.1.symm.trans hK0) (by decide)) (fun y => absurd (y.1.symm.trans hK0) (by decide)), by simp (decide := true) only [upI_k]; exact hq7, by simp (decide := true) only [upI_k]; rw [hq3, hE0], by simp (decide := true) only [upI_k]; exact hq4, by rw [upI_i, hK0]; rfl, fun z => absurd (hK0.symm.trans z) (by decide)⟩⟩
  have l2 : ∀ u : HP, Fr6 h u → u.1 (3, 0, 0) 17 = 0 → u.1 (3, 0, 0) 13 = nI (tF T t e) → V X G 2 34 [(0, vr (3, 0, 0))] [] u := by
    intro u hF hq7 hq3
    refine v_aload_n hC (pc := 34) (k := 0) 0 rfl dX7_nextToken_34 ?_
    refine v_aload_n hC (pc := 35) (k := 0) 0 rfl dX7_nextToken_35 ?_
    refine v_getI hC (pc := 36) dX7_nextToken_36 fl_X7_100 rfl (by first | rfl | exact ok_c hq rfl | exact ok_w hq hw | exact ok_w (by omega) (by omega) | exact ok_s (by omega) (by omega) | exact ok_c (by omega) rfl | assumption) rfl (by decide) (by decide) ?_
    rw [hq3]
    refine v_putI hC (pc := 39) dX7_nextToken_39 fs_X7_94 rfl (by first | rfl | exact ok_c hq rfl | exact ok_w hq hw | exact ok_w (by omega) (by omega) | exact ok_s (by omega) (by omega) | exact ok_c (by omega) rfl | assumption) rfl (by decide) (by decide) ?_
    exact l3 _ (Fr6_up hF (by decide)) (by simp (decide := true) only [upI_k]; exact hq7) (by simp (decide := true) only [upI_k]; exact hq3) (upI_i _ _ _ _)
  have l1 : ∀ (n p : Nat) (u : HP), t + 1 ≤ p + n → p ≤ t → Fr6 h u → u.1 (3, 0, 0) 17 = 0 → u.1 (3, 0, 0) 13 = nI p → txR (spB T) t p = tF T t e → V X G 2 8 [(0, vr (3, 0, 0))] [] u := by
    intro n
    induction n with
    | zero => intro p u h1 h2; exact absurd h1 (by omega)
    | succ n ih =>
      intro p u h1 h2 hF hq7 hq3 hs
      refine v_aload_n hC (pc := 8) (k := 0) 0 rfl dX7_nextToken_8 ?_
      refine v_aload_n hC (pc := 9) (k := 0) 0 rfl dX7_nextToken_9 ?_
      refine v_getI hC (pc := 10) dX7_nextToken_10 fl_X7_100 rfl (by first | rfl | exact ok_c hq rfl | exact ok_w hq hw | exact ok_w (by omega) (by omega) | exact ok_s (by omega) (by omega) | exact ok_c (by omega) rfl | assumption) rfl (by decide) (by decide) ?_
      rw [hq3]
      refine v_callV hC (pc := 13) (As := [_]) dX7_nextToken_13 rfl (m_byteT _ _ (d := d - 1) (by omega) _ (p := p) ht ((hF.2.2 12 (by decide)).trans htp) ((hF.1 (3, 0, 12) (by decide)).trans hT) (by omega)) cv_X7_103 rfl (by decide) rfl (by first | rfl | exact ok_c hq rfl | exact ok_w hq hw | exact ok_w (by omega) (by omega) | exact ok_s (by omega) (by omega) | exact ok_c (by omega) rfl | assumption) (Nat.le_of_ble_eq_true rfl) (by omega) (fun r h' hr => ?_)
      obtain ⟨he9, rfl⟩ := hr
      rw [he9]
      clear he9 h'
      show V _ _ _ (13 + 3) _ (_ :: _) _
      refine v_bipush hC (pc := 16) (v := 32) (by decide +kernel) dX7_nextToken_16 ?_
      refine v_icmp_ne hC (pc := 18) (tgt := 34) dX7_nextToken_18 (by decide) (fun c_18 => ?_) (fun c_18 => ?_)
      · skip
        have hpf : p = tF T t e := by
          rw [← hs]
          refine (txR_e (fun hp => decide_eq_false ?_)).symm
          rw [byF_lt hp] at c_18
          exact c_18
        exact l2 u hF hq7 (hpf ▸ hq3)
      · skip
        have hp : p < t := Nat.lt_of_not_le (fun z => by rw [byF_ge (by omega)] at c_18; exact absurd c_18 (by decide))
        rw [byF_lt hp] at c_18
        refine v_aload_n hC (pc := 21) (k := 0) 0 rfl dX7_nextToken_21 ?_
        refine v_dup hC (pc := 22) rfl dX7_nextToken_22 ?_
        refine v_getI hC (pc := 23) dX7_nextToken_23 fl_X7_100 rfl (by first | rfl | exact ok_c hq rfl | exact ok_w hq hw | exact ok_w (by omega) (by omega) | exact ok_s (by omega) (by omega) | exact ok_c (by omega) rfl | assumption) rfl (by decide) (by decide) ?_
        rw [hq3]
        refine v_iconst hC (pc := 26) (v := 1) (by decide) dX7_nextToken_26 ?_
        refine v_iadd hC (pc := 27) dX7_nextToken_27 ?_
        rw [nI_1]
        refine v_putI hC (pc := 28) dX7_nextToken_28 fs_X7_100 rfl (by first | rfl | exact ok_c hq rfl | exact ok_w hq hw | exact ok_w (by omega) (by omega) | exact ok_s (by omega) (by omega) | exact ok_c (by omega) rfl | assumption) rfl (by decide) (by decide) ?_
        refine v_goto hC (pc := 31) (tgt := 8) dX7_nextToken_31 (by decide) ?_
        exact ih (p + 1) _ (by omega) (by omega) (Fr6_up hF (by decide)) (by simp (decide := true) only [upI_k]; exact hq7) (upI_i _ _ _ _) (by rw [← hs]; exact (txR_s hp (decide_eq_true c_18)).symm)
  refine v_aload_n hC (pc := 0) (k := 0) 0 rfl dX7_nextToken_0 ?_
  refine v_getI hC (pc := 1) dX7_nextToken_1 fl_X7_91 rfl (by first | rfl | exact ok_c hq rfl | exact ok_w hq hw | exact ok_w (by omega) (by omega) | exact ok_s (by omega) (by omega) | exact ok_c (by omega) rfl | assumption) rfl (by decide) (by decide) ?_
  rw [hf0]
  refine v_if_le hC (pc := 4) (tgt := 8) dX7_nextToken_4 (by decide) (fun c_4 => ?_) (fun c_4 => ?_)
  · skip
    exact l1 161 e h (by omega) het (Fr6_r h) hf0 hp0 rfl
  · exact absurd (by decide) c_4

set_option maxRecDepth 20000 in
set_option maxHeartbeats 2000000 in
theorem m_nextToken_f (l9 : Launch) (G : WT) {d : Nat} (hd : 2 ≤ d) (h : HP) (hf0 : 0 < h.1 (3, 0, 0) 17) : MS l9 G yX7_nextToken cX7_nextToken 2 none d [vr (3, 0, 0)] h (fun r h1 => h1 = h ∧ r = none) := by
  refine MS_of (by decide +kernel) (Nat.le_of_ble_eq_true rfl) (fun X hC hX => ?_)
  show V X G 2 0 _ [] _
  refine v_aload_n hC (pc := 0) (k := 0) 0 rfl dX7_nextToken_0 ?_
  refine v_getI hC (pc := 1) dX7_nextToken_1 fl_X7_91 rfl (by first | rfl | exact ok_c hq rfl | exact ok_w hq hw | exact ok_w (by omega) (by omega) | exact ok_s (by omega) (by omega) | exact ok_c (by omega) rfl | assumption) rfl (by decide) (by decide) ?_
  refine v_if_le hC (pc := 4) (tgt := 8) dX7_nextToken_4 (by decide) (fun c_4 => ?_) (fun c_4 => ?_)
  · exact absurd hf0 (Int32.not_lt.mpr c_4)
  · skip
    refine v_vret hC hX (pc := 7) dX7_nextToken_7 ?_
    exact ⟨rfl, rfl⟩

