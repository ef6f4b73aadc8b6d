/-! THE BOND: single calls, read -/
theorem src_s {q c s : Nat} (hc : c < 8) (hs : s < 2) : src q (0 + 8 * s + c) = ((0, q, 6), 2 * c + s) := by
  unfold src
  rcases (show s = 0 ∨ s = 1 by omega) with rfl | rfl
  · rw [if_pos (by omega)]; exact Prod.ext rfl (show 2 * (0 + 8 * 0 + c) = _ by omega)
  · rw [if_neg (by omega), if_pos (by omega)]; exact Prod.ext rfl (show 2 * (0 + 8 * 1 + c - 8) + 1 = _ by omega)
theorem src_w {q w f : Nat} (hw : w < 4) (hf : f < 6) : src q (18 + 6 * w + f) = ((6, q, w), if f = 3 then 4 else if f = 4 then 3 else f) := by
  unfold src
  rw [if_neg (by omega), if_neg (by omega), if_neg (by omega), if_neg (by omega), if_pos (by omega), show (18 + 6 * w + f - 18) / 6 = w by omega, show (18 + 6 * w + f - 18) % 6 = f by omega]
theorem src_g {q g : Nat} (hg : g < 4) : src q (43 + g) = ((0, q, 8), g) := by
  unfold src
  rw [if_neg (by omega), if_neg (by omega), if_neg (by omega), if_neg (by omega), if_neg (by omega), if_neg (by omega), if_pos (by omega), show 43 + g - 43 = g by omega]
theorem src_e {q k f : Nat} (hk : k < 8) (hf : f < 4) : src q (48 + 4 * k + f) = ((0, q, 9 + f), k) := by
  unfold src
  rw [if_neg (by omega), if_neg (by omega), if_neg (by omega), if_neg (by omega), if_neg (by omega), if_neg (by omega), if_neg (by omega), if_neg (by omega), show (48 + 4 * k + f - 48) % 4 = f by omega, show (48 + 4 * k + f - 48) / 4 = k by omega]
section CR
variable {h : HP} {q : Nat} {S : Nat → Int32} {nC nW nS : Nat}
theorem CR_s (C : CR h q S nC nW nS) {c s : Nat} (hc : c < 8) (hs : s < 2) : h.1 (0, q, 6) (2 * c + s) = S (0 + 8 * s + c) := by
  have := C.at_ (0 + 8 * s + c) (by omega) ⟨by omega, by omega⟩
  rw [src_s hc hs] at this; exact this
theorem CR_w (C : CR h q S nC nW nS) (h4 : nW ≤ 4) {w : Nat} (hw : w < nW) : WC h q S w := by
  have e : ∀ f, f < 6 → h.1 (6, q, w) (if f = 3 then 4 else if f = 4 then 3 else f) = S (18 + 6 * w + f) := fun f hf => by
    have := C.at_ (18 + 6 * w + f) (by omega) ⟨fun _ _ => by omega, by omega⟩
    rw [src_w (by omega) hf] at this; exact this
  exact ⟨e 0 (by decide), e 1 (by decide), e 2 (by decide), e 4 (by decide), e 3 (by decide), e 5 (by decide)⟩
theorem CR_g (C : CR h q S nC nW nS) {g : Nat} (hg : g < 4) : h.1 (0, q, 8) g = S (43 + g) := by
  have := C.at_ (43 + g) (by omega) ⟨by omega, by omega⟩
  rw [src_g hg] at this; exact this
theorem CR_16 (C : CR h q S nC nW nS) : h.1 (0, q, 0) 1 = S 16 := C.at_ 16 (by decide) ⟨by omega, by omega⟩
theorem CR_17 (C : CR h q S nC nW nS) : h.1 (0, q, 0) 2 = S 17 := C.at_ 17 (by decide) ⟨by omega, by omega⟩
theorem CR_42 (C : CR h q S nC nW nS) : h.1 (0, q, 0) 3 = S 42 := C.at_ 42 (by decide) ⟨by omega, by omega⟩
theorem CR_47 (C : CR h q S nC nW nS) : h.1 (0, q, 0) 5 = S 47 := C.at_ 47 (by decide) ⟨by omega, by omega⟩
theorem CR_e (C : CR h q S nC nW nS) (h8 : nS ≤ 8) {k f : Nat} (hk : k < nS) (hf : f < 4) : h.1 (0, q, 9 + f) k = S (48 + 4 * k + f) := by
  have := C.at_ (48 + 4 * k + f) (by omega) ⟨by omega, fun _ => by omega⟩
  rw [src_e (by omega) hf] at this; exact this
end CR
section RO
variable {S : Nat → Int32} {nC nW nS : Nat}
theorem RO_s (R : RO S nC nW nS) {c s : Nat} (hc : c < nC) (hs : s < 2) : S (8 * s + c) = -4 ∨ ∃ p, p < nC ∧ S (8 * s + c) = nI p := by
  have := R.c8
  rcases (R.ok (8 * s + c) (by omega)).1 (by omega) with z | z
  · exact z.2
  · exact Or.inl z.2
theorem RO_wfS (R : RO S nC nW nS) : wfS S nC := fun _ _ hc hs => RO_s R hc hs
theorem RO_s4 (R : RO S nC nW nS) {c s : Nat} (hc : nC ≤ c) (h8 : c < 8) (hs : s < 2) : S (8 * s + c) = -4 := by
  rcases (R.ok (8 * s + c) (by omega)).1 (by omega) with z | z
  · omega
  · exact z.2
theorem RO_t (R : RO S nC nW nS) : ∃ t, t < 1000 ∧ S 17 = nI t := (R.ok 17 (by decide)).2.2.1 rfl
theorem RO_p (R : RO S nC nW nS) {w : Nat} (hw : w < nW) : ∃ p, p < nC ∧ S (18 + 6 * w + 0) = nI p := by
  have := R.w4
  exact ((R.ok (18 + 6 * w + 0) (by omega)).2.2.2.1 (by omega) (by omega) (by omega)).1 (by omega)
theorem RO_wfW (R : RO S nC nW nS) : wfW S nC nW := fun _ hw => RO_p R hw
theorem RO_h (R : RO S nC nW nS) {w : Nat} (hw : w < nW) : S (18 + 6 * w + 1) = 0 ∨ S (18 + 6 * w + 1) = 1 := by
  have := R.w4
  exact ((R.ok (18 + 6 * w + 1) (by omega)).2.2.2.1 (by omega) (by omega) (by omega)).2.1 (by omega)
theorem RO_k (R : RO S nC nW nS) {w : Nat} (hw : w < nW) : S (18 + 6 * w + 2) = 0 ∨ S (18 + 6 * w + 2) = 1 := by
  have := R.w4
  exact ((R.ok (18 + 6 * w + 2) (by omega)).2.2.2.1 (by omega) (by omega) (by omega)).2.2 (by omega)
theorem RO_g (R : RO S nC nW nS) {g : Nat} (hg : g < 4) : ∃ x, x ≤ 9 ∧ S (43 + g) = nI x := (R.ok (43 + g) (by omega)).2.2.2.2.1 (by omega) (by omega)
theorem RO_n (R : RO S nC nW nS) : S 47 = nI nS := (R.ok 47 (by decide)).2.2.2.2.2.1 rfl
theorem RO_l (R : RO S nC nW nS) {w : Nat} (hw : w < nW) : ∃ n, n ≤ 10 ∧ S (18 + 6 * w + 3) = nI n := by
  obtain ⟨g, m, h1, h2, h3⟩ := R.gl w hw
  exact ⟨g + m, h1, h3⟩
theorem GL_o (h4 : nW ≤ 4) (hg : GL S nW) {p : Nat} {x : Int32} (hp : ∀ w, w < nW → ¬ p = 18 + 6 * w + 3 ∧ ¬ p = 18 + 6 * w + 5) : GL (upd S p x) nW := fun w hw => by
  rw [updo (fun e => (hp w hw).2 e.symm), updo (fun e => (hp w hw).1 e.symm)]; exact hg w hw
/-- a place that the row's other rules do not speak of -/
theorem okV_w {k : Nat} {v : Int32} (h1 : 18 ≤ k) (h2 : k < 42) (hz : (k - 18) / 6 < nW → ((k - 18) % 6 = 0 → ∃ p, p < nC ∧ v = nI p) ∧ ((k - 18) % 6 = 1 → v = 0 ∨ v = 1) ∧ ((k - 18) % 6 = 2 → v = 0 ∨ v = 1)) : okV nC nW nS k v := ⟨by omega, by omega, by omega, fun _ _ => hz, by omega, by omega, by omega⟩
theorem okV_s {k : Nat} {v : Int32} (h1 : k < 16) (h2 : k % 8 < nC) (hv : v = -4 ∨ ∃ p, p < nC ∧ v = nI p) : okV nC nW nS k v := ⟨fun _ => Or.inl ⟨h2, hv⟩, by omega, by omega, by omega, by omega, by omega, by omega⟩
theorem okV_16 {v : Int32} : okV nC nW nS 16 v := ⟨by omega, fun _ => trivial, by omega, by omega, by omega, by omega, by omega⟩
theorem okV_17 {t : Nat} (ht : t < 1000) : okV nC nW nS 17 (nI t) := ⟨by omega, by omega, fun _ => ⟨t, ht, rfl⟩, by omega, by omega, by omega, by omega⟩
theorem okV_42 {v : Int32} : okV nC nW nS 42 v := ⟨by omega, by omega, by omega, by omega, by omega, by omega, by omega⟩
theorem okV_g {g n : Nat} (hg : g < 4) (hn : n ≤ 9) : okV nC nW nS (43 + g) (nI n) := ⟨by omega, by omega, by omega, by omega, fun _ _ => ⟨n, hn, rfl⟩, by omega, by omega⟩
end RO
theorem CR_sF {h : HP} {q : Nat} {S : Nat → Int32} {nC nW nS : Nat} (C : CR h q S nC nW nS) {c s : Nat} (hc : c < 8) (hs : s < 2) : strF (h.1 (0, q, 6)) (2 * nI c + nI s) = S (0 + 8 * s + c) := by
  have e : 2 * nI c + nI s = nI (2 * c + s) := by rw [show (2 : Int32) = nI 2 from rfl, pk_mul, nI_add]
  unfold strF
  rw [e, if_pos (show ¬ nI (2 * c + s) < 0 ∧ ¬ (16 : Int32) ≤ nI (2 * c + s) from in_of (n := 16) (by omega) (by decide)), nI_clamp (by omega)]
  exact CR_s C hc hs
theorem n2 {c s : Nat} : 2 * nI c + nI s = nI (2 * c + s) := by rw [show (2 : Int32) = nI 2 from rfl, pk_mul, nI_add]
set_option maxRecDepth 20000 in
set_option maxHeartbeats 2000000 in
theorem s_fault (l9 : Launch) (G : WT) {d : Nat} (hd : 10 ≤ d) (h : HP) (hI : Inv h)   : SM l9 G yX6_fault cX6_fault 1 yX7_fault cX7_fault 1 d [] h := by
  obtain ⟨nC, nW, nS, I⟩ := hI
  exact SM_ro (k_fault l9 G (d := d) (by omega) h) (MS.mono (m_fault l9 G (d := d) (by omega) h) (fun r u z => ⟨by rw [z.2, I.ft.1], by rw [z.1]; exact ⟨nC, nW, nS, I⟩⟩))

set_option maxRecDepth 20000 in
set_option maxHeartbeats 2000000 in
theorem s_torn (l9 : Launch) (G : WT) {d : Nat} (hd : 10 ≤ d) (h : HP) (hI : Inv h)   : SM l9 G yX6_torn cX6_torn 1 yX7_torn cX7_torn 1 d [] h := by
  obtain ⟨nC, nW, nS, I⟩ := hI
  exact SM_ro (k_torn l9 G (d := d) (by omega) h) (MS.mono (m_torn l9 G (d := d) (by omega) h) (fun r u z => ⟨by rw [z.2, I.ft.2], by rw [z.1]; exact ⟨nC, nW, nS, I⟩⟩))

set_option maxRecDepth 20000 in
set_option maxHeartbeats 2000000 in
theorem s_rule (l9 : Launch) (G : WT) {d : Nat} (hd : 10 ≤ d) (h : HP) (hI : Inv h) (x : Int32)  : SM l9 G yX6_rule cX6_rule 2 yX7_rule cX7_rule 2 d [vi x] h := by
  obtain ⟨nC, nW, nS, I⟩ := hI
  refine SM_ro (k_rule l9 G (d := d) (by omega) h x) (MS.mono (m_rule l9 G (d := d) (by omega) h x) (fun r u z => ⟨?_, by rw [z.1]; exact ⟨nC, nW, nS, I⟩⟩))
  rw [z.2, I.b3, I.b4, I.cr.c0, I.cr.c4, CR_17 I.cr, CR_16 I.cr, CR_42 I.cr]
  rfl

set_option maxRecDepth 20000 in
set_option maxHeartbeats 2000000 in
theorem s_corner (l9 : Launch) (G : WT) {d : Nat} (hd : 10 ≤ d) (h : HP) (hI : Inv h) (a : Int32) (b : Int32)  : SM l9 G yX6_corner cX6_corner 3 yX7_corner cX7_corner 3 d [vi a, vi b] h := by
  obtain ⟨nC, nW, nS, I⟩ := hI
  by_cases hb : (¬ a < 0 ∧ ¬ nI nC ≤ a) ∧ (b = 0 ∨ b = 1)
  · have h8 := I.ro.c8
    obtain ⟨c, hc, rfl⟩ := nI_ofk (by omega) hb.1
    obtain ⟨s, hs, rfl⟩ := nI_pt hb.2
    exact SM_ro (k_corner_ok l9 G (d := d) (by omega) h I.ro.c8 I.cr.c0 hc hs) (MS.mono (m_corner_ok l9 G (d := d) (by omega) h I.ro.c8 I.b3 hc hs) (fun r u z => ⟨by rw [z.2, CR_sF I.cr (by omega) hs], by rw [z.1]; exact ⟨nC, nW, nS, I⟩⟩))
  · exact SM_bb ⟨nC, nW, nS, I⟩ (k_corner_bad l9 G (d := d) (by omega) h I.ro.c8 I.cr.c0 _ _ hb) (m_corner_bad l9 G (d := d) (by omega) h I.ro.c8 I.b3 _ _ hb)

set_option maxRecDepth 20000 in
set_option maxHeartbeats 2000000 in
theorem s_walker (l9 : Launch) (G : WT) {d : Nat} (hd : 10 ≤ d) (h : HP) (hI : Inv h) (a : Int32) (x : Int32)  : SM l9 G yX6_walker cX6_walker 4 yX7_walker cX7_walker 3 d [vi a, vi x] h := by
  obtain ⟨nC, nW, nS, I⟩ := hI
  by_cases hb : ¬ a < 0 ∧ ¬ nI nW ≤ a
  · have h4 := I.ro.w4
    obtain ⟨w, hw, rfl⟩ := nI_ofk (by omega) hb
    obtain ⟨e0, e1, e2, e3, e4, e5⟩ := CR_w I.cr I.ro.w4 hw
    refine SM_ro (k_walker_ok l9 G (d := d) (by omega) h I.ro.w4 I.cr.c4 hw x) (MS.mono (m_walker_ok l9 G (d := d) (by omega) h I.ro.w4 I.b4 hw x) (fun r u z => ⟨?_, by rw [z.2]; exact ⟨nC, nW, nS, Inv_scr I (scr_st h)⟩⟩))
    rw [z.1, e0, e1, e2, e4, e5, CR_17 I.cr]
    have : oneF (h.1 (3, 0, 1) (18 + 6 * w + 2)) = h.1 (3, 0, 1) (18 + 6 * w + 2) := by
      rcases RO_k I.ro hw with z | z
      · rw [z]; rfl
      · rw [z]; rfl
    rw [this]
  · exact SM_bb ⟨nC, nW, nS, I⟩ (k_walker_bad l9 G (d := d) (by omega) h I.ro.w4 I.cr.c4 _ _ hb) (m_walker_bad l9 G (d := d) (by omega) h I.ro.w4 I.b4 _ _ hb)

set_option maxRecDepth 20000 in
set_option maxHeartbeats 2000000 in
theorem s_letter (l9 : Launch) (G : WT) {d : Nat} (hd : 10 ≤ d) (h : HP) (hI : Inv h) (a : Int32) (b : Int32)  : SM l9 G yX6_letter cX6_letter 4 yX7_letter cX7_letter 4 d [vi a, vi b] h := by
  obtain ⟨nC, nW, nS, I⟩ := hI
  by_cases hb : ¬ a < 0 ∧ ¬ nI nW ≤ a
  · have h4 := I.ro.w4
    obtain ⟨w, hw, rfl⟩ := nI_ofk (by omega) hb
    obtain ⟨e0, e1, e2, e3, e4, e5⟩ := CR_w I.cr I.ro.w4 hw
    obtain ⟨n, hn, hl⟩ := RO_l I.ro hw
    by_cases hb2 : ¬ b < 0 ∧ ¬ nI n ≤ b
    · obtain ⟨i, hi, rfl⟩ := nI_ofk (by omega) hb2
      exact SM_ro (k_letter_ok l9 G (d := d) (by omega) h I.ro.w4 I.cr.c4 hw (e4.trans hl) (by omega) hi) (MS.mono (m_letter_ok l9 G (d := d) (by omega) h I.ro.w4 I.b4 hw hl (by omega) hi) (fun r u z => ⟨by rw [z.2, e3], by rw [z.1]; exact ⟨nC, nW, nS, I⟩⟩))
    · refine SM_bb ⟨nC, nW, nS, I⟩ (k_letter_n l9 G (d := d) (by omega) h I.ro.w4 I.cr.c4 _ hw (e4.trans hl) hb2) (m_letter_bad l9 G (d := d) (by omega) h I.ro.w4 I.b4 _ _ (fun w hw => ?_) (fun z => ?_))
      · obtain ⟨n, h1, h2⟩ := RO_l I.ro hw
        exact ⟨n, by omega, h2⟩
      · obtain ⟨n2, z1, z2, z3⟩ := z.2
        rw [nI_clamp (show w < 2 ^ 31 by omega), hl] at z2
        exact hb2 (by rw [z2]; exact z3)
  · refine SM_bb ⟨nC, nW, nS, I⟩ (k_letter_bad l9 G (d := d) (by omega) h I.ro.w4 I.cr.c4 _ _ hb) (m_letter_bad l9 G (d := d) (by omega) h I.ro.w4 I.b4 _ _ (fun w hw => ?_) (fun z => hb z.1))
    obtain ⟨n, h1, h2⟩ := RO_l I.ro hw
    exact ⟨n, by omega, h2⟩
