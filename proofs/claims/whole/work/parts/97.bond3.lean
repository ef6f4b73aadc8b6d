/-! THE BOND: single calls, written -/
theorem led_ld {h : HP} {q : Nat} {S : Nat → Int32} {nC nW nS : Nat} (C : CR h q S nC nW nS) {c s : Nat} (hc : c < 8) (hs : s < 2) (hour kp sg : Int32) : ledF (h.1 (0, q, 6)) sg (nI c) (nI s) hour kp = ldM S c s hour kp sg := by
  unfold ledF ldM
  have e : ((¬ hour - hour / 24 * 24 < 12) ∧ kp = 0 ∧ ¬ (sg >>> (nI c &&& 31)) &&& 1 = 1) ↔ ((¬ hour - hour / 24 * 24 < 12) ∧ kp = 0 ∧ (sg >>> (nI c &&& 31)) &&& 1 = 0) := by
    rcases and1 (sg >>> (nI c &&& 31)) with z | z
    · rw [z]; exact ⟨fun y => ⟨y.1, y.2.1, rfl⟩, fun y => ⟨y.1, y.2.1, by decide⟩⟩
    · rw [z]; exact ⟨fun y => absurd rfl y.2.2, fun y => absurd y.2.2 (by decide)⟩
  by_cases hp : (¬ hour - hour / 24 * 24 < 12) ∧ kp = 0 ∧ (sg >>> (nI c &&& 31)) &&& 1 = 0
  · rw [if_pos (e.mpr hp), if_pos hp]
    rcases (show s = 0 ∨ s = 1 by omega) with rfl | rfl
    · have := CR_sF C hc (s := 1) (by decide)
      rw [show 8 * (1 - 0) + c = 0 + 8 * 1 + c by omega]; exact this
    · have := CR_sF C hc (s := 0) (by decide)
      rw [show 8 * (1 - 1) + c = 0 + 8 * 0 + c by omega]; exact this
  · rw [if_neg (fun z => hp (e.mp z)), if_neg hp, CR_sF C hc hs]
    rw [show 0 + 8 * s + c = 8 * s + c by omega]
theorem com_go {h : HP} {q : Nat} {S : Nat → Int32} {nC nW nS : Nat} (C : CR h q S nC nW nS) {c s : Nat} (hc : c < 8) (hs : s < 2) (hour kp : Int32) : comF (h.1 (0, q, 6)) (h.1 (0, q, 0) 1) (nI c) (nI s) hour kp = goM S c s hour kp := by
  unfold comF goM
  rw [CR_16 C, led_ld C hc hs]
/-- one place of the row written by both -/
theorem SM_put {l9 : Launch} {G : WT} {y y2 : MethodName} {cc cc2 : ByteArray} {nL nL2 d : Nat} {av : List PV} {h : HP} {nC nW nS : Nat} (I : InvD h nC nW nS) {p : Nat} (hp : p < 80) {x : Int32} (hok : okV nC nW nS p x) (hl : lv nW nS p) (hg : GL (upd (h.1 (3, 0, 1)) p x) nW) {i : PId} {k : Nat} (hs : src 0 p = (i, k)) {v : Int32} (h1 : MS l9 G y cc nL (some .int) d (vr (1, 0, 0) :: av) h (fun r h1 => r = some (vi v) ∧ h1 = upI h i k x)) (h2 : (upI h i k x).1 (3, 0, 0) = h.1 (3, 0, 0) → (upI h i k x).1 (3, 0, 1) = h.1 (3, 0, 1) → MS l9 G y2 cc2 nL2 (some .int) d (vr (3, 0, 0) :: av) (upI h i k x) (fun r h2 => r = some (vi v) ∧ h2 = upI (upI h i k x) (3, 0, 1) p x)) : SM l9 G y cc nL y2 cc2 nL2 d av h := by
  have hi : isC 0 i := by
    have := src_C 0 p
    rw [hs] at this; exact this
  have hne : ∀ j : PId, j.1 = 3 → j ≠ i := fun j hj e => by
    have := hi.1
    rw [← e] at this; omega
  exact SM_up h1 (MS.mono (h2 (upI_ne _ _ _ (hne _ rfl)) (upI_ne _ _ _ (hne _ rfl))) (fun r u z => ⟨z.1, nC, nW, nS, by rw [z.2]; exact Inv_up I hp hok hl.1 hg hs⟩))
theorem glw {nW w : Nat} (hw : w < 4) {f : Nat} (h3 : ¬ f = 3) (h5 : ¬ f = 5) (h6 : f < 6) : ∀ v, v < nW → ¬ 18 + 6 * w + f = 18 + 6 * v + 3 ∧ ¬ 18 + 6 * w + f = 18 + 6 * v + 5 := fun v hv => by omega
theorem one_b (x : Int32) : oneF (bI (x &&& 1 = 1)) = x &&& 1 := by
  rcases and1 x with z | z
  · rw [z]; rfl
  · rw [z]; rfl
theorem one01 {x : Int32} (h : x = 0 ∨ x = 1) : oneF x = x := by rcases h with rfl | rfl <;> rfl
theorem flg01 {x : Int32} (h : x = 0 ∨ x = 1) : flgF x = x := by rcases h with rfl | rfl <;> rfl
theorem ng_eq {A B : Int32} (h : A = B) : B = A := h.symm
theorem gl_sw (a b c d : Int32) : (b + c) + (a + d) = (a + c) + (b + d) := by
  rw [Int32.add_assoc, Int32.add_assoc, ← Int32.add_assoc c a d, Int32.add_comm c a, Int32.add_assoc a c d, ← Int32.add_assoc b a (c + d), Int32.add_comm b a, Int32.add_assoc a b (c + d), ← Int32.add_assoc b c d, Int32.add_comm b c, Int32.add_assoc c b d]
set_option maxRecDepth 20000 in
set_option maxHeartbeats 2000000 in
theorem s_gloves (l9 : Launch) (G : WT) {d : Nat} (hd : 10 ≤ d) (h : HP) (hI : Inv h) (x : Int32)  : SM l9 G yX6_gloves cX6_gloves 2 yX7_gloves cX7_gloves 5 d [vi x] h := by
  obtain ⟨nC, nW, nS, I⟩ := hI
  have e : ∀ k, k < 4 → h.1 (0, 0, 8) k = h.1 (3, 0, 1) (43 + k) := fun k hk => CR_g I.cr hk
  by_cases hb : ¬ x < 0 ∧ ¬ 2 < x
  · have hx : x = nI 0 ∨ x = nI 1 ∨ x = nI 2 := by
      obtain ⟨k, hk, rfl⟩ := nI_ofl (n := 2) (by decide) (c := x) hb
      rcases (show k = 0 ∨ k = 1 ∨ k = 2 by omega) with rfl | rfl | rfl
      · exact Or.inl rfl
      · exact Or.inr (Or.inl rfl)
      · exact Or.inr (Or.inr rfl)
    rcases hx with rfl | rfl | rfl
    · refine SM_ro (k_gloves_0 l9 G (d := d) (by omega) h) (MS.mono (m_gloves_ok l9 G (d := d) (by omega) h _ hb) (fun r u z => ⟨?_, by rw [z.1]; exact ⟨nC, nW, nS, I⟩⟩))
      rw [z.2, e _ (by split <;> decide), e (2 + 0) (by decide), CR_17 I.cr]
      unfold glvF
      by_cases hp : ¬ h.1 (3, 0, 1) 17 - h.1 (3, 0, 1) 17 / 24 * 24 < 12
      · rw [if_pos hp, bI_t hp]; rfl
      · rw [if_neg hp, bI_f hp]; rfl
    · refine SM_ro (k_gloves_1 l9 G (d := d) (by omega) h) (MS.mono (m_gloves_ok l9 G (d := d) (by omega) h _ hb) (fun r u z => ⟨?_, by rw [z.1]; exact ⟨nC, nW, nS, I⟩⟩))
      rw [z.2, e _ (by split <;> decide), e (2 + 1) (by decide), CR_17 I.cr]
      unfold glvF
      by_cases hp : ¬ h.1 (3, 0, 1) 17 - h.1 (3, 0, 1) 17 / 24 * 24 < 12
      · rw [if_pos hp, if_pos hp, bI_t hp]; rfl
      · rw [if_neg hp, if_neg hp, bI_f hp]; rfl
    · refine SM_ro (k_gloves_2 l9 G (d := d) (by omega) h) (MS.mono (m_gloves_ok l9 G (d := d) (by omega) h _ hb) (fun r u z => ⟨?_, by rw [z.1]; exact ⟨nC, nW, nS, I⟩⟩))
      rw [z.2, e _ (by split <;> decide), e (2 + 0) (by decide), e _ (by split <;> decide), e (2 + 1) (by decide)]
      unfold glvF
      rw [if_neg (show ¬ nI 2 = 0 by decide), if_neg (show ¬ nI 2 = 1 by decide)]
      by_cases hp : ¬ h.1 (3, 0, 1) 17 - h.1 (3, 0, 1) 17 / 24 * 24 < 12
      · rw [if_pos hp, if_pos hp]
        show some (vi ((h.1 (3, 0, 1) 44 + h.1 (3, 0, 1) 45) + (h.1 (3, 0, 1) 43 + h.1 (3, 0, 1) 46))) = some (vi ((h.1 (3, 0, 1) 43 + h.1 (3, 0, 1) 45) + (h.1 (3, 0, 1) 44 + h.1 (3, 0, 1) 46)))
        exact congrArg (fun z => some (vi z)) (gl_sw _ _ _ _)
      · rw [if_neg hp, if_neg hp]; rfl
  · refine SM_bb ⟨nC, nW, nS, I⟩ (k_gloves_n l9 G (d := d) (by omega) h _ ?_) (m_gloves_bad l9 G (d := d) (by omega) h _ hb)
    rw [Int32.lt_iff_toInt_lt, Int32.lt_iff_toInt_lt, Int32.toInt_zero, show (2 : Int32).toInt = 2 from rfl] at hb
    omega

set_option maxRecDepth 20000 in
set_option maxHeartbeats 2000000 in
theorem s_leads (l9 : Launch) (G : WT) {d : Nat} (hd : 10 ≤ d) (h : HP) (hI : Inv h) (a : Int32) (b : Int32) (t : Int32)  : SM l9 G yX6_leads cX6_leads 4 yX7_leads cX7_leads 4 d [vi a, vi b, vi t] h := by
  obtain ⟨nC, nW, nS, I⟩ := hI
  by_cases hb : (¬ a < 0 ∧ ¬ nI nC ≤ a) ∧ (b = 0 ∨ b = 1) ∧ ¬ t < 0 ∧ ¬ 24 ≤ t
  · have h8 := I.ro.c8
    obtain ⟨c, hc, rfl⟩ := nI_ofk (by omega) hb.1
    obtain ⟨s, hs, rfl⟩ := nI_pt hb.2.1
    obtain ⟨t, ht, rfl⟩ := nI_ofk (n := 24) (by decide) hb.2.2
    exact SM_ro (k_leads_ok l9 G (d := d) (by omega) h I.ro.c8 I.cr.c0 hc hs ht) (MS.mono (m_leads_ok l9 G (d := d) (by omega) h I.ro.c8 I.b3 hc hs ht) (fun r u z => ⟨by rw [z.1, led_ld I.cr (by omega) hs, CR_16 I.cr], by rw [z.2]; exact ⟨nC, nW, nS, Inv_scr I (scr_st h)⟩⟩))
  · exact SM_bb ⟨nC, nW, nS, I⟩ (k_leads_bad l9 G (d := d) (by omega) h I.ro.c8 I.cr.c0 _ _ _ hb) (m_leads_bad l9 G (d := d) (by omega) h I.ro.c8 I.b3 _ _ _ hb)

set_option maxRecDepth 20000 in
set_option maxHeartbeats 2000000 in
theorem s_street (l9 : Launch) (G : WT) {d : Nat} (hd : 10 ≤ d) (h : HP) (hI : Inv h) (a : Int32) (b : Int32) (t : Int32)  : SM l9 G yX6_street cX6_street 5 yX7_street cX7_street 4 d [vi a, vi b, vi t] h := by
  obtain ⟨nC, nW, nS, I⟩ := hI
  by_cases hb : (¬ a < 0 ∧ ¬ nI nC ≤ a) ∧ (b = 0 ∨ b = 1) ∧ (t = -4 ∨ ¬ t < 0 ∧ ¬ nI nC ≤ t)
  · have h8 := I.ro.c8
    obtain ⟨c, hc, rfl⟩ := nI_ofk (by omega) hb.1
    obtain ⟨s, hs, rfl⟩ := nI_pt hb.2.1
    have hto : t = -4 ∨ ∃ p, p < nC ∧ t = nI p := hb.2.2.elim Or.inl (fun z => Or.inr (nI_ofk (by omega) z))
    refine SM_put I (p := 0 + 8 * s + c) (by omega) (okV_s (by omega) (by omega) hto) ⟨by omega, by omega⟩ (GL_o I.ro.w4 I.ro.gl (fun w hw => by omega)) (src_s (by omega) hs) (v := h.1 (3, 0, 1) (0 + 8 * s + c)) (MS.mono (k_street_ok l9 G (d := d) (by omega) h I.ro.c8 I.cr.c0 hc hs hto) (fun r u z => ⟨by rw [z.1, CR_sF I.cr (by omega) hs], ?_⟩)) (fun e0 e1 => MS.mono (m_street_ok l9 G (d := d) (by omega) (upI h (0, 0, 6) (2 * c + s) t) I.ro.c8 (by rw [e0]; exact I.b3) hc hs hto) (fun r u z => ⟨by rw [z.1, e1], z.2⟩))
    rw [z.2, n2, if_pos (show ¬ nI (2 * c + s) < 0 ∧ ¬ (16 : Int32) ≤ nI (2 * c + s) from in_of (n := 16) (by omega) (by decide)), nI_clamp (by omega)]
  · exact SM_bb ⟨nC, nW, nS, I⟩ (k_street_bad l9 G (d := d) (by omega) h I.ro.c8 I.cr.c0 _ _ _ hb) (m_street_bad l9 G (d := d) (by omega) h I.ro.c8 I.b3 _ _ _ hb)

set_option maxRecDepth 20000 in
set_option maxHeartbeats 2000000 in
theorem s_sign (l9 : Launch) (G : WT) {d : Nat} (hd : 10 ≤ d) (h : HP) (hI : Inv h) (a : Int32) (b : Int32) (hbb : b = 0 ∨ b = 1) : SM l9 G yX6_sign cX6_sign 4 yX7_sign cX7_sign 4 d [vi a, vi b] h := by
  obtain ⟨nC, nW, nS, I⟩ := hI
  by_cases hb : ¬ a < 0 ∧ ¬ nI nC ≤ a
  · have h8 := I.ro.c8
    obtain ⟨c, hc, rfl⟩ := nI_ofk (by omega) hb
    rcases hbb with rfl | rfl
    · exact SM_put I (p := 16) (by decide) okV_16 ⟨by omega, by omega⟩ (GL_o I.ro.w4 I.ro.gl (fun w hw => by omega)) rfl (v := (h.1 (3, 0, 1) 16 >>> (nI c &&& 31)) &&& 1) (MS.mono (k_sign_off l9 G (d := d) (by omega) h I.ro.c8 I.cr.c0 hc) (fun r u z => ⟨by rw [z.1, one_b, CR_16 I.cr], z.2⟩)) (fun e0 e1 => MS.mono (m_sign_off l9 G (d := d) (by omega) (upI h (0, 0, 0) 1 _) I.ro.c8 (by rw [e0]; exact I.b3) hc) (fun r u z => ⟨by rw [z.1, e1], by rw [z.2, e1, CR_16 I.cr]⟩))
    · exact SM_put I (p := 16) (by decide) okV_16 ⟨by omega, by omega⟩ (GL_o I.ro.w4 I.ro.gl (fun w hw => by omega)) rfl (v := (h.1 (3, 0, 1) 16 >>> (nI c &&& 31)) &&& 1) (MS.mono (k_sign_on l9 G (d := d) (by omega) h I.ro.c8 I.cr.c0 hc) (fun r u z => ⟨by rw [z.1, one_b, CR_16 I.cr], z.2⟩)) (fun e0 e1 => MS.mono (m_sign_on l9 G (d := d) (by omega) (upI h (0, 0, 0) 1 _) I.ro.c8 (by rw [e0]; exact I.b3) hc) (fun r u z => ⟨by rw [z.1, e1], by rw [z.2, e1, CR_16 I.cr]⟩))
  · exact SM_bb ⟨nC, nW, nS, I⟩ (k_sign_bad l9 G (d := d) (by omega) h I.ro.c8 I.cr.c0 _ _ hb) (m_sign_bad l9 G (d := d) (by omega) h I.ro.c8 I.b3 _ _ hb)

set_option maxRecDepth 20000 in
set_option maxHeartbeats 2000000 in
theorem s_clock (l9 : Launch) (G : WT) {d : Nat} (hd : 10 ≤ d) (h : HP) (hI : Inv h) (t : Int32)  : SM l9 G yX6_clock cX6_clock 3 yX7_clock cX7_clock 2 d [vi t] h := by
  obtain ⟨nC, nW, nS, I⟩ := hI
  by_cases hb : ¬ t < 0 ∧ ¬ 24 ≤ t
  · obtain ⟨t, ht, rfl⟩ := nI_ofk (n := 24) (by decide) hb
    exact SM_put I (p := 17) (by decide) (okV_17 (by omega)) ⟨by omega, by omega⟩ (GL_o I.ro.w4 I.ro.gl (fun w hw => by omega)) rfl (k_clock_ok l9 G (d := d) (by omega) h ht) (fun e0 e1 => MS.mono (m_clock_ok l9 G (d := d) (by omega) (upI h (0, 0, 0) 2 _) ht) (fun r u z => ⟨by rw [z.1, e1, CR_17 I.cr], z.2⟩))
  · exact SM_bb ⟨nC, nW, nS, I⟩ (k_clock_bad l9 G (d := d) (by omega) h _ hb) (m_clock_bad l9 G (d := d) (by omega) h _ hb)

set_option maxRecDepth 20000 in
set_option maxHeartbeats 2000000 in
theorem s_put (l9 : Launch) (G : WT) {d : Nat} (hd : 10 ≤ d) (h : HP) (hI : Inv h) (a : Int32) (b : Int32)  : SM l9 G yX6_put cX6_put 5 yX7_put cX7_put 3 d [vi a, vi b] h := by
  obtain ⟨nC, nW, nS, I⟩ := hI
  by_cases hb : (¬ a < 0 ∧ ¬ nI nW ≤ a) ∧ ¬ b < 0 ∧ ¬ nI nC ≤ b
  · have h8 := I.ro.c8
    have h4 := I.ro.w4
    obtain ⟨w, hw, rfl⟩ := nI_ofk (by omega) hb.1
    obtain ⟨e0, e1, e2, e3, e4, e5⟩ := CR_w I.cr I.ro.w4 hw
    obtain ⟨c, hc, rfl⟩ := nI_ofk (by omega) hb.2
    exact SM_put I (p := 18 + 6 * w + 0) (i := (6, 0, w)) (k := 0) (by omega) (okV_w (by omega) (by omega) (fun _ => ⟨fun _ => ⟨c, hc, rfl⟩, by omega, by omega⟩)) ⟨fun _ _ => by omega, by omega⟩ (GL_o I.ro.w4 I.ro.gl (glw (by omega) (by decide) (by decide) (by decide))) (src_w (by omega) (by decide)) (v := h.1 (3, 0, 1) (18 + 6 * w + 0)) (MS.mono (k_put_ok l9 G (d := d) (by omega) h I.ro.c8 I.cr.c0 I.ro.w4 I.cr.c4 hw hc) (fun r u z => ⟨by rw [z.1, e0], z.2⟩)) (fun q0 q1 => MS.mono (m_put_ok l9 G (d := d) (by omega) (upI h (6, 0, w) 0 (nI c)) I.ro.c8 (by rw [q0]; exact I.b3) I.ro.w4 (by rw [q0]; exact I.b4) hw hc) (fun r u z => ⟨by rw [z.1, q1], z.2⟩))
  · exact SM_bb ⟨nC, nW, nS, I⟩ (k_put_bad l9 G (d := d) (by omega) h I.ro.c8 I.cr.c0 I.ro.w4 I.cr.c4 _ _ hb) (m_put_bad l9 G (d := d) (by omega) h I.ro.c8 I.b3 I.ro.w4 I.b4 _ _ hb)

set_option maxRecDepth 20000 in
set_option maxHeartbeats 2000000 in
theorem s_keeps (l9 : Launch) (G : WT) {d : Nat} (hd : 10 ≤ d) (h : HP) (hI : Inv h) (a : Int32) (b : Int32) (hbb : b = 0 ∨ b = 1) : SM l9 G yX6_keeps cX6_keeps 5 yX7_keeps cX7_keeps 3 d [vi a, vi b] h := by
  obtain ⟨nC, nW, nS, I⟩ := hI
  by_cases hb : ¬ a < 0 ∧ ¬ nI nW ≤ a
  · have h4 := I.ro.w4
    obtain ⟨w, hw, rfl⟩ := nI_ofk (by omega) hb
    obtain ⟨e0, e1, e2, e3, e4, e5⟩ := CR_w I.cr I.ro.w4 hw
    exact SM_put I (p := 18 + 6 * w + 2) (i := (6, 0, w)) (k := 2) (by omega) (okV_w (by omega) (by omega) (fun _ => ⟨by omega, by omega, fun _ => hbb⟩)) ⟨fun _ _ => by omega, by omega⟩ (GL_o I.ro.w4 I.ro.gl (glw (by omega) (by decide) (by decide) (by decide))) (src_w (by omega) (by decide)) (v := h.1 (3, 0, 1) (18 + 6 * w + 2)) (MS.mono (k_keeps_ok l9 G (d := d) (by omega) h I.ro.w4 I.cr.c4 hw b hbb) (fun r u z => ⟨by rw [z.1, e2, one01 (RO_k I.ro hw)], z.2⟩)) (fun q0 q1 => MS.mono (m_keeps_ok l9 G (d := d) (by omega) (upI h (6, 0, w) 2 b) I.ro.w4 (by rw [q0]; exact I.b4) hw b) (fun r u z => ⟨by rw [z.1, q1], by rw [z.2, flg01 hbb]⟩))
  · exact SM_bb ⟨nC, nW, nS, I⟩ (k_keeps_bad l9 G (d := d) (by omega) h I.ro.w4 I.cr.c4 _ _ hb) (m_keeps_bad l9 G (d := d) (by omega) h I.ro.w4 I.b4 _ _ hb)

set_option maxRecDepth 20000 in
set_option maxHeartbeats 2000000 in
theorem s_buy (l9 : Launch) (G : WT) {d : Nat} (hd : 10 ≤ d) (h : HP) (hI : Inv h) (a : Int32) (b : Int32)  : SM l9 G yX6_buy cX6_buy 4 yX7_buy cX7_buy 3 d [vi a, vi b] h := by
  obtain ⟨nC, nW, nS, I⟩ := hI
  by_cases hb : (¬ a < 0 ∧ ¬ 3 < a) ∧ ¬ b < 0 ∧ ¬ 9 < b
  · obtain ⟨k, hk, rfl⟩ := nI_ofl (n := 3) (by decide) hb.1
    obtain ⟨n, hn, rfl⟩ := nI_ofl (n := 9) (by decide) hb.2
    exact SM_put I (p := 43 + k) (by omega) (okV_g (by omega) hn) ⟨by omega, by omega⟩ (GL_o I.ro.w4 I.ro.gl (fun w hw => by have := I.ro.w4; omega)) (src_g (by omega)) (k_buy_ok l9 G (d := d) (by omega) h (by omega) (by omega)) (fun e0 e1 => MS.mono (m_buy_ok l9 G (d := d) (by omega) (upI h (0, 0, 8) k _) (by omega) (by omega)) (fun r u z => ⟨by rw [z.1, e1, CR_g I.cr (by omega)], z.2⟩))
  · exact SM_bb ⟨nC, nW, nS, I⟩ (k_buy_bad l9 G (d := d) (by omega) h _ _ hb) (m_buy_bad l9 G (d := d) (by omega) h _ _ hb)
