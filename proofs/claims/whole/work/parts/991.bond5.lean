/-! THE BOND: see, feed, end -/
def eqAt (h : HP) (p : Nat) (v : Int32) : Prop := h.1 (src 0 p).1 (src 0 p).2 = v ∧ h.1 (3, 0, 1) p = v
theorem src_n3 (p : Nat) : ¬ (src 0 p).1 = (3, 0, 1) := fun e => by
  have := src_C 0 p
  rw [e] at this; exact absurd this.1 (by decide)
theorem eqAt_i {h : HP} {p : Nat} {x : Int32} {i : PId} {k : Nat} (hs : src 0 p = (i, k)) : eqAt (upI (upI h i k x) (3, 0, 1) p x) p x := by
  have h3 := src_n3 p
  unfold eqAt
  rw [hs] at h3 ⊢
  exact ⟨(if_neg (fun z => h3 z.1)).trans (if_pos ⟨rfl, rfl⟩), if_pos ⟨rfl, rfl⟩⟩
theorem eqAt_o {h : HP} {p p2 : Nat} {v x : Int32} {i : PId} {k : Nat} (e : eqAt h p v) (hs : src 0 p2 = (i, k)) (hne : ¬ p = p2) (h1 : p < 80) (h2 : p2 < 80) : eqAt (upI (upI h i k x) (3, 0, 1) p2 x) p v := by
  have h3 := src_n3 p
  have h4 := src_n3 p2
  rw [hs] at h4
  unfold eqAt
  exact ⟨((if_neg (fun z => h3 z.1)).trans (if_neg (fun z => hne (src_inj h1 h2 (by rw [hs]; exact Prod.ext z.1 z.2))))).trans e.1, ((if_neg (fun z => hne z.2)).trans (if_neg (fun z => h4 z.1.symm))).trans e.2⟩
theorem okV_e {nC nW nS k f : Nat} {v : Int32} (h : f = 1 → ∃ n, n ≤ 10 ∧ v = nI n) (hf : f < 4) : okV nC nW nS (48 + 4 * k + f) v := ⟨by omega, by omega, by omega, by omega, by omega, by omega, fun _ _ z => h (by omega)⟩
theorem GL_e {S : Nat → Int32} {nW k f : Nat} {x : Int32} (h4 : nW ≤ 4) (hg : GL S nW) : GL (upd S (48 + 4 * k + f) x) nW := GL_o h4 hg (fun w hw => by omega)
theorem Inv_see {h : HP} {nC nW nS : Nat} (I : InvD h nC nW nS) (h8 : nS < 8) {a b c : Int32} (n : Nat) (hn : n ≤ 10) : InvD (upI (upI (upI (upI (upI (upI (upI (upI (upI (upI h (0, 0, 9) nS a) (3, 0, 1) (48 + 4 * nS + 0) a) (0, 0, 10) nS (nI n)) (3, 0, 1) (48 + 4 * nS + 1) (nI n)) (0, 0, 11) nS b) (3, 0, 1) (48 + 4 * nS + 2) b) (0, 0, 12) nS c) (3, 0, 1) (48 + 4 * nS + 3) c) (0, 0, 0) 5 (nI (nS + 1))) (3, 0, 1) 47 (nI (nS + 1))) nC nW (nS + 1) := by
  have h4 := I.ro.w4
  have s0 : src 0 (48 + 4 * nS + 0) = ((0, 0, 9), nS) := src_e h8 (by decide)
  have s1 : src 0 (48 + 4 * nS + 1) = ((0, 0, 10), nS) := src_e h8 (by decide)
  have s2 : src 0 (48 + 4 * nS + 2) = ((0, 0, 11), nS) := src_e h8 (by decide)
  have s3 : src 0 (48 + 4 * nS + 3) = ((0, 0, 12), nS) := src_e h8 (by decide)
  have Q1 := Inv_up I (x := a) (by omega) (okV_e (fun z => absurd z (by decide)) (by decide)) (by omega) (GL_e h4 I.ro.gl) s0
  have Q2 := Inv_up Q1 (x := nI n) (by omega) (okV_e (fun _ => ⟨n, hn, rfl⟩) (by decide)) (by omega) (GL_e h4 Q1.ro.gl) s1
  have Q3 := Inv_up Q2 (x := b) (by omega) (okV_e (fun z => absurd z (by decide)) (by decide)) (by omega) (GL_e h4 Q2.ro.gl) s2
  have Q4 := Inv_up Q3 (x := c) (by omega) (okV_e (fun z => absurd z (by decide)) (by decide)) (by omega) (GL_e h4 Q3.ro.gl) s3
  refine Inv_47 Q4 (by omega) (fun k f z1 z2 z3 => ?_)
  have hk : k = nS := by omega
  subst hk
  have r0 := eqAt_o (eqAt_o (eqAt_o (eqAt_i (h := h) (x := a) s0) s1 (by omega) (by omega) (by omega) (x := nI n)) s2 (by omega) (by omega) (by omega) (x := b)) s3 (by omega) (by omega) (by omega) (x := c)
  have r1 := eqAt_o (eqAt_o (eqAt_i (h := upI (upI h (0, 0, 9) k a) (3, 0, 1) (48 + 4 * k + 0) a) (x := nI n) s1) s2 (by omega) (by omega) (by omega) (x := b)) s3 (by omega) (by omega) (by omega) (x := c)
  have r2 := eqAt_o (eqAt_i (h := upI (upI (upI (upI h (0, 0, 9) k a) (3, 0, 1) (48 + 4 * k + 0) a) (0, 0, 10) k (nI n)) (3, 0, 1) (48 + 4 * k + 1) (nI n)) (x := b) s2) s3 (by omega) (by omega) (by omega) (x := c)
  have r3 := eqAt_i (h := upI (upI (upI (upI (upI (upI h (0, 0, 9) k a) (3, 0, 1) (48 + 4 * k + 0) a) (0, 0, 10) k (nI n)) (3, 0, 1) (48 + 4 * k + 1) (nI n)) (0, 0, 11) k b) (3, 0, 1) (48 + 4 * k + 2) b) (x := c) s3
  unfold eqAt at r0 r1 r2 r3
  rw [s0] at r0
  rw [s1] at r1
  rw [s2] at r2
  rw [s3] at r3
  rcases (show f = 0 ∨ f = 1 ∨ f = 2 ∨ f = 3 by omega) with rfl | rfl | rfl | rfl
  · exact ⟨r0.1.trans r0.2.symm, fun z => absurd z (by decide)⟩
  · exact ⟨r1.1.trans r1.2.symm, fun _ => ⟨n, hn, r1.2⟩⟩
  · exact ⟨r2.1.trans r2.2.symm, fun z => absurd z (by decide)⟩
  · exact ⟨r3.1.trans r3.2.symm, fun z => absurd z (by decide)⟩
theorem ne_sh {k k2 j : Nat} (h : ¬ k2 = k) : ¬ ((2, k2, j) : PId) = (2, k, j) := fun e => h (congrArg (fun z : PId => z.2.1) e)
set_option maxRecDepth 20000 in
set_option maxHeartbeats 2000000 in
theorem s_see (l9 : Launch) (G : WT) {d : Nat} (hd : 10 ≤ d) (h : HP) (hI : Inv h) (a : Int32) (b : Int32) (c : Int32) (e : Int32)  : SM l9 G yX6_see cX6_see 5 yX7_see cX7_see 6 d [vi a, vi b, vi c, vi e] h := by
  obtain ⟨nC, nW, nS, I⟩ := hI
  have h4 := I.ro.w4
  have h8 := I.ro.s8
  have hc8 := I.ro.c8
  by_cases hb : (¬ a < 0 ∧ ¬ nI nW ≤ a) ∧ (¬ b < 0 ∧ ¬ 10 < b) ∧ ¬ c < 0 ∧ ¬ nI nC ≤ c
  · obtain ⟨w, hw, rfl⟩ := nI_ofk (by omega) hb.1
    obtain ⟨n, hn, rfl⟩ := nI_ofl (n := 10) (by decide) hb.2.1
    obtain ⟨p, hp, rfl⟩ := nI_ofk (by omega) hb.2.2
    by_cases hs : nS < 8
    · refine SM_up (k_see_ok l9 G (d := d) (by omega) h I.ro.c8 I.cr.c0 I.ro.w4 I.cr.c4 ((CR_47 I.cr).trans (RO_n I.ro)) hs hw hn hp e) (MS.mono (m_see_ok l9 G (d := d) (by omega) (upI (upI (upI (upI (upI h (0, 0, 9) nS (nI w)) (0, 0, 10) nS (nI n)) (0, 0, 11) nS (nI p)) (0, 0, 12) nS (oneF e)) (0, 0, 0) 5 (nI (nS + 1))) I.ro.c8 I.b3 I.ro.w4 I.b4 (RO_n I.ro) hs hw hn hp e) (fun r u z => ⟨z.1, nC, nW, nS + 1, ?_⟩))
      rw [z.2]
      have Q := Inv_see I hs (a := nI w) (b := nI p) (c := oneF e) n hn
      simp only [cm0] at Q ⊢
      exact Q
    · have h9 : nS = 8 := by omega
      subst h9
      exact SM_bb ⟨nC, nW, 8, I⟩ (k_see_full l9 G (d := d) (by omega) h I.ro.c8 I.cr.c0 I.ro.w4 I.cr.c4 ((CR_47 I.cr).trans (RO_n I.ro)) hw hn hp e) (m_see_full l9 G (d := d) (by omega) h I.ro.c8 I.b3 I.ro.w4 I.b4 (RO_n I.ro) hw hn hp e)
  · exact SM_bb ⟨nC, nW, nS, I⟩ (k_see_bad l9 G (d := d) (by omega) h I.ro.c8 I.cr.c0 I.ro.w4 I.cr.c4 _ _ _ _ hb) (m_see_bad l9 G (d := d) (by omega) h I.ro.c8 I.b3 I.ro.w4 I.b4 _ _ _ _ hb)

set_option maxRecDepth 20000 in
set_option maxHeartbeats 2000000 in
theorem s_feed (l9 : Launch) (G : WT) {d : Nat} (hd : 10 ≤ d) (h : HP) (hI : Inv h) (a : Int32)  : SM l9 G yX6_feed cX6_feed 2 yX7_feed cX7_feed 2 d [vi a] h := by
  obtain ⟨nC, nW, nS, I⟩ := hI
  obtain ⟨t1, t, t2, t3, t4, t5⟩ := I.tp
  by_cases hb : ¬ a < 0 ∧ ¬ 127 < a
  · by_cases ht : t < 160
    · refine SM_up (k_feed_ok l9 G (d := d) (by omega) h t3 ht a hb) (MS.mono (m_feed_ok l9 G (d := d) (by omega) (upI (upI h (1, 0, 3) t a) (1, 0, 2) 1 (nI (t + 1))) t4 ht a hb) (fun r u z => ⟨z.1, nC, nW, nS, ?_⟩))
      rw [z.2]
      have eT : ∀ j, (upI (upI (upI (upI h (1, 0, 3) t a) (1, 0, 2) 1 (nI (t + 1))) (3, 0, 12) t a) (3, 0, 0) 12 (nI (t + 1))).1 (1, 0, 3) j = if j = t then a else h.1 (1, 0, 3) j := fun j => by
        show (if (1, 0, 3) = ((1, 0, 3) : PId) ∧ j = t then a else h.1 (1, 0, 3) j) = _
        by_cases q : j = t
        · rw [if_pos ⟨rfl, q⟩, if_pos q]
        · rw [if_neg (fun z => q z.2), if_neg q]
      refine Inv_tp I (fun i a b c d => ?_) (fun k hk => if_neg (fun z => hk z.2)) ⟨?_, t + 1, by omega, rfl, rfl, fun j hj => ?_⟩
      · rw [upI_ne _ _ _ d, upI_ne _ _ _ c, upI_ne _ _ _ a, upI_ne _ _ _ b]
      · funext j
        rw [eT]
        show _ = (if (3, 0, 12) = ((3, 0, 12) : PId) ∧ j = t then a else h.1 (3, 0, 12) j)
        by_cases q : j = t
        · rw [if_pos q]; exact (if_pos ⟨rfl, q⟩).symm
        · rw [if_neg q, t1]; exact (if_neg (fun z => q z.2)).symm
      · rw [eT]
        by_cases q : j = t
        · rw [if_pos q]; exact hb.1
        · rw [if_neg q]; exact t5 j (by omega)
    · have h9 : t = 160 := by omega
      subst h9
      exact SM_bb ⟨nC, nW, nS, I⟩ (k_feed_full l9 G (d := d) (by omega) h t3 a hb) (m_feed_full l9 G (d := d) (by omega) h t4 a hb)
  · exact SM_bb ⟨nC, nW, nS, I⟩ (k_feed_bad l9 G (d := d) (by omega) h a hb) (m_feed_bad l9 G (d := d) (by omega) h a hb)

set_option maxRecDepth 20000 in
set_option maxHeartbeats 2000000 in
theorem s_end (l9 : Launch) (G : WT) {d : Nat} (hd : 10 ≤ d) (h : HP) (hI : Inv h) (a : Int32)  : SM l9 G yX6_end cX6_end 3 yX7_end cX7_end 3 d [vi a] h := by
  obtain ⟨nC, nW, nS, I⟩ := hI
  obtain ⟨t1, t, t2, t3, t4, t5⟩ := I.tp
  by_cases hb : ¬ a < 0 ∧ ¬ nI t < a
  · obtain ⟨n, hn, rfl⟩ := nI_ofl (by omega) hb
    refine SM_up (k_end_ok l9 G (d := d) (by omega) h t3 t2 hn) (MS.mono (m_end_ok l9 G (d := d) (by omega) (upI h (1, 0, 2) 1 (nI n)) t4 hn t2) (fun r u z => ⟨z.1, nC, nW, nS, ?_⟩))
    rw [z.2]
    refine Inv_tp I (fun i a b c d => ?_) (fun k hk => if_neg (fun z => hk z.2)) ⟨t1, n, by omega, rfl, rfl, fun j hj => t5 j (by omega)⟩
    rw [upI_ne _ _ _ d, upI_ne _ _ _ a]
  · exact SM_bb ⟨nC, nW, nS, I⟩ (k_end_bad l9 G (d := d) (by omega) h t3 a hb) (m_end_bad l9 G (d := d) (by omega) h t4 a hb)
