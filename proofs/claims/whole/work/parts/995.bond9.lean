/-! THE BOND: reach, when, signs, meet -/
theorem bitF_Bs {nC : Nat} (h8 : nC ≤ 8) (x : Int32) : Bs (bitF (nI nC) x) (fun p => p < nC ∧ x = nI p) := by
  unfold bitF
  by_cases q : ¬ x < 0 ∧ ¬ nI nC ≤ x
  · rw [if_pos q]
    obtain ⟨k, hk, rfl⟩ := nI_ofk (by omega) q
    exact Bs_congr (Bs_one (by omega)) (fun p => ⟨fun e => by rw [e]; exact ⟨hk, rfl⟩, fun z => nI_ij z.2.symm (by omega) (by omega)⟩)
  · rw [if_neg q]
    exact Bs_congr Bs_0 (fun p => ⟨False.elim, fun z => q (by rw [z.2]; exact in_of z.1 (by omega))⟩)
section WT
variable {h : HP} {q : Nat} {A : Nat → Int32} {nC nW nS : Nat}
theorem wit_W (C : CR h q A nC nW nS) (R : RO A nC nW nS) {b : Int32} {F : Nat → Prop} (hb : Bs b F) : Bs (witW (h.1 (0, q, 6)) nC b) (suP A nC F) := by
  have h8 := R.c8
  have key : ∀ n, n ≤ nC → Bs (itN (witS (h.1 (0, q, 6)) (nI nC) b) n b) (fun p => F p ∨ ∃ c, c < n ∧ F c ∧ p < nC ∧ Ed A c p) := by
    intro n
    induction n with
    | zero => exact fun _ => Bs_congr hb (fun p => ⟨Or.inl, fun z => z.elim id (fun ⟨c, hc, _⟩ => absurd hc (Nat.not_lt_zero _))⟩)
    | succ n ih =>
      intro hn
      have ih := ih (by omega)
      rw [itN_s]
      generalize itN (witS (h.1 (0, q, 6)) (nI nC) b) n b = m at ih ⊢
      have e0 : strF (h.1 (0, q, 6)) (2 * nI n + 0) = A (0 + 8 * 0 + n) := CR_sF C (by omega) (s := 0) (by decide)
      have e1 : strF (h.1 (0, q, 6)) (2 * nI n + 1) = A (0 + 8 * 1 + n) := CR_sF C (by omega) (s := 1) (by decide)
      unfold witS
      by_cases t : (b >>> (nI n &&& 31)) &&& 1 = 1
      · rw [if_pos t, e0, e1]
        have hF := (Bs_tst hb (show n < 32 by omega)).mp t
        refine Bs_congr (Bs_or ih (Bs_or (bitF_Bs h8 _) (bitF_Bs h8 _))) (fun p => ⟨fun z => ?_, fun z => ?_⟩)
        · rcases z with (z | ⟨c, z1, z2, z3, z4⟩) | (⟨z1, z2⟩ | ⟨z1, z2⟩)
          · exact Or.inl z
          · exact Or.inr ⟨c, by omega, z2, z3, z4⟩
          · exact Or.inr ⟨n, by omega, hF, z1, 0, by decide, by rw [← z2, show 8 * 0 + n = 0 + 8 * 0 + n by omega]⟩
          · exact Or.inr ⟨n, by omega, hF, z1, 1, by decide, by rw [← z2, show 8 * 1 + n = 0 + 8 * 1 + n by omega]⟩
        · rcases z with z | ⟨c, z1, z2, z3, s, z4, z5⟩
          · exact Or.inl (Or.inl z)
          · rcases Nat.lt_or_ge c n with y | y
            · exact Or.inl (Or.inr ⟨c, y, z2, z3, s, z4, z5⟩)
            · have ec : c = n := by omega
              subst ec
              rcases (show s = 0 ∨ s = 1 by omega) with rfl | rfl
              · exact Or.inr (Or.inl ⟨z3, by rw [← z5, show 0 + 8 * 0 + c = 8 * 0 + c by omega]⟩)
              · exact Or.inr (Or.inr ⟨z3, by rw [← z5, show 0 + 8 * 1 + c = 8 * 1 + c by omega]⟩)
      · rw [if_neg t]
        refine Bs_congr ih (fun p => ⟨fun z => ?_, fun z => ?_⟩)
        · rcases z with z | ⟨c, z1, z2, z3, z4⟩
          · exact Or.inl z
          · exact Or.inr ⟨c, by omega, z2, z3, z4⟩
        · rcases z with z | ⟨c, z1, z2, z3, z4⟩
          · exact Or.inl z
          · rcases Nat.lt_or_ge c n with y | y
            · exact Or.inr ⟨c, y, z2, z3, z4⟩
            · have ec : c = n := by omega
              subst ec
              exact absurd ((Bs_tst hb (show c < 32 by omega)).mpr z2) t
  exact key nC (Nat.le_refl _)
theorem wit_F (C : CR h q A nC nW nS) (R : RO A nC nW nS) {a : Nat} (ha : a < 8) (n : Nat) : Bs (witF (h.1 (0, q, 6)) nC n (1 <<< (nI a &&& 31))) (wa A nC a n) := by
  unfold witF
  induction n with
  | zero => exact Bs_congr (Bs_one (by omega)) (fun p => wa_0)
  | succ n ih => exact Bs_congr (wit_W C R ih) su_wa
theorem wa_lt {a n p : Nat} (ha : a < nC) (z : wa A nC a n p) : p < nC := by
  obtain ⟨j, hj, w⟩ := z
  cases j with
  | zero => rw [show p = a from w]; exact ha
  | succ j =>
    obtain ⟨c, _, _, hp, _⟩ := w
    exact hp
theorem dis_wa (C : CR h q A nC nW nS) (R : RO A nC nW nS) {a b : Nat} (ha : a < nC) (hb : b < nC) (n : Nat) : disF (h.1 (0, q, 6)) nC (nI a) (nI b) n ↔ wa A nC a n b := by
  have h8 := R.c8
  unfold disF
  have e : bitF (nI nC) (nI a) = 1 <<< (nI a &&& 31) := if_pos (in_of ha (by omega))
  rw [e]
  have := Bs_nz (Bs_and (wit_F C R (show a < 8 by omega) n) (bitF_Bs h8 (nI b)))
  rw [this]
  refine ⟨fun z => ?_, fun z y => y b ⟨z, hb, rfl⟩⟩
  by_cases q : wa A nC a n b
  · exact q
  · exact absurd (fun p (y : wa A nC a n p ∧ p < nC ∧ nI b = nI p) => q (by rw [nI_ij y.2.2 (by omega) (by omega)]; exact y.1)) z
theorem wa_mono {a n m p : Nat} (h : n ≤ m) (z : wa A nC a n p) : wa A nC a m p := by
  obtain ⟨j, hj, w⟩ := z
  exact ⟨j, by omega, w⟩
end WT
theorem mtP_wa {h : HP} {A : Nat → Int32} {nC nW nS w v pw pv : Nat} (C : CR h 0 A nC nW nS) (R : RO A nC nW nS) (e : h.1 (6, 0, w) 0 = nI pw) (f : h.1 (6, 0, v) 0 = nI pv) (hpw : pw < nC) (hpv : pv < nC) (n : Nat) : mtP h nC w v n ↔ ∃ c, c < nC ∧ wa A nC pw n c ∧ wa A nC pv n c := by
  have h8 := R.c8
  unfold mtP mtC
  rw [e, f]
  have := Bs_nz (Bs_and (wit_F C R (show pw < 8 by omega) n) (wit_F C R (show pv < 8 by omega) n))
  rw [this]
  refine ⟨fun z => ?_, fun ⟨c, hc, z1, z2⟩ y => y c ⟨z1, z2⟩⟩
  by_cases q : ∃ c, c < nC ∧ wa A nC pw n c ∧ wa A nC pv n c
  · exact q
  · exact absurd (fun p (y : wa A nC pw n p ∧ wa A nC pv n p) => q ⟨p, wa_lt hpw y.1, y⟩) z
theorem mtC_b {h : HP} {A : Nat → Int32} {nC nW nS w v pw pv : Nat} (C : CR h 0 A nC nW nS) (R : RO A nC nW nS) (e : h.1 (6, 0, w) 0 = nI pw) (f : h.1 (6, 0, v) 0 = nI pv) (hpw : pw < nC) (hpv : pv < nC) (n : Nat) {c : Nat} (hc : c < 8) : ((mtC h nC w n &&& mtC h nC v n) >>> (nI c &&& 31)) &&& 1 = 1 ↔ wa A nC pw n c ∧ wa A nC pv n c := by
  have h8 := R.c8
  unfold mtC
  rw [e, f]
  exact Bs_tst (Bs_and (wit_F C R (show pw < 8 by omega) n) (wit_F C R (show pv < 8 by omega) n)) (by omega)
set_option maxRecDepth 20000 in
set_option maxHeartbeats 2000000 in
theorem s_reach (l9 : Launch) (G : WT) {d : Nat} (hd : 10 ≤ d) (h : HP) (hI : Inv h) (a : Int32) (b : Int32) (c : Int32)  : SM l9 G yX6_reach cX6_reach 4 yX7_reach cX7_reach 4 d [vi a, vi b, vi c] h := by
  obtain ⟨nC, nW, nS, I⟩ := hI
  by_cases hb : (¬ a < 0 ∧ ¬ nI nC ≤ a) ∧ (¬ b < 0 ∧ ¬ 24 ≤ b) ∧ ¬ c < 0 ∧ ¬ 24 < c
  · have h8 := I.ro.c8
    obtain ⟨p, hp, rfl⟩ := nI_ofk (by omega) hb.1
    obtain ⟨t, ht, rfl⟩ := nI_ofk (n := 24) (by decide) hb.2.1
    obtain ⟨n, hn, rfl⟩ := nI_ofl (n := 24) (by decide) hb.2.2
    refine SM_ro (k_reach_ok l9 G (d := d) (by omega) h I.ro.c8 I.cr.c0 hp ht hn) (MS.mono (m_reach_ok l9 G (d := d) (by omega) h I.ro.c8 I.b3 (RO_wfS I.ro) hp ht hn) (fun r u z => ⟨?_, nC, nW, nS, Inv_scr I z.1⟩))
    obtain ⟨v, e, hB⟩ := z.2
    rw [e, Bs_eq hB (wit_F (CA I) (RA I) (by omega) n)]
  · exact SM_bb ⟨nC, nW, nS, I⟩ (k_reach_bad l9 G (d := d) (by omega) h I.ro.c8 I.cr.c0 _ _ _ hb) (m_reach_bad l9 G (d := d) (by omega) h I.ro.c8 I.b3 _ _ _ hb)

set_option maxRecDepth 20000 in
set_option maxHeartbeats 2000000 in
theorem s_when (l9 : Launch) (G : WT) {d : Nat} (hd : 10 ≤ d) (h : HP) (hI : Inv h) (a : Int32) (b : Int32) (x : Int32)  : SM l9 G yX6_when cX6_when 5 yX7_when cX7_when 8 d [vi a, vi b, vi x] h := by
  obtain ⟨nC, nW, nS, I⟩ := hI
  by_cases hb : (¬ a < 0 ∧ ¬ nI nC ≤ a) ∧ (¬ b < 0 ∧ ¬ nI nC ≤ b) ∧ (x = 0 ∨ x = 1)
  · have h8 := I.ro.c8
    obtain ⟨p, hp, rfl⟩ := nI_ofk (by omega) hb.1
    obtain ⟨q, hq, rfl⟩ := nI_ofk (by omega) hb.2.1
    have dw := fun n => dis_wa (CA I) (RA I) hp hq n
    obtain ⟨x, hx, rfl⟩ := nI_pt hb.2.2
    rcases fst_ex (Q := fun n => wa ((stH h).1 (3, 0, 2)) nC p n q) (N := 24) with ⟨n, h1, h2, h3⟩ | h0
    · refine SM_ro (k_when_g l9 G (d := d) (by omega) h I.ro.c8 I.cr.c0 hp hq hx (n := n) ⟨h1, (dw n).mpr h2⟩ (fun j hj z => h3 j hj ((dw j).mp z))) (MS.mono (m_when_ok l9 G (d := d) (by omega) h I.ro.c8 I.b3 (RO_wfS I.ro) hp hq hx) (fun r u z => ⟨?_, nC, nW, nS, Inv_scr I z.1⟩))
      rcases z.2 with ⟨D, z1, z2, z3, e⟩ | ⟨e, z0⟩
      · rw [e, fst_eq (Q := fun n => wa ((stH h).1 (3, 0, 2)) nC p n q) z2 z3 h2 h3]
      · exact absurd h2 (z0 n h1)
    · refine SM_ro (k_when_n l9 G (d := d) (by omega) h I.ro.c8 I.cr.c0 hp hq hx (fun j hj z => h0 j hj ((dw j).mp z))) (MS.mono (m_when_ok l9 G (d := d) (by omega) h I.ro.c8 I.b3 (RO_wfS I.ro) hp hq hx) (fun r u z => ⟨?_, nC, nW, nS, Inv_scr I z.1⟩))
      rcases z.2 with ⟨D, z1, z2, z3, e⟩ | ⟨e, z0⟩
      · exact absurd z2 (h0 D z1)
      · exact e
  · exact SM_bb ⟨nC, nW, nS, I⟩ (k_when_bad l9 G (d := d) (by omega) h I.ro.c8 I.cr.c0 _ _ _ hb) (m_when_bad l9 G (d := d) (by omega) h I.ro.c8 I.b3 _ _ _ hb)

set_option maxRecDepth 20000 in
set_option maxHeartbeats 2000000 in
theorem s_signs (l9 : Launch) (G : WT) {d : Nat} (hd : 10 ≤ d) (h : HP) (hI : Inv h) (a : Int32) (b : Int32) (c : Int32)  : SM l9 G yX6_signs cX6_signs 5 yX7_signs cX7_signs 8 d [vi a, vi b, vi c] h := by
  obtain ⟨nC, nW, nS, I⟩ := hI
  by_cases hb : (¬ a < 0 ∧ ¬ nI nC ≤ a) ∧ (¬ b < 0 ∧ ¬ nI nC ≤ b) ∧ ¬ c < 1 ∧ ¬ 24 < c
  · have h8 := I.ro.c8
    obtain ⟨p, hp, rfl⟩ := nI_ofk (by omega) hb.1
    obtain ⟨q, hq, rfl⟩ := nI_ofk (by omega) hb.2.1
    have dw := fun n => dis_wa (CA I) (RA I) hp hq n
    have hc0 : ¬ c < 0 := fun z => hb.2.2.1 (by
      rw [Int32.lt_iff_toInt_lt] at z ⊢
      rw [Int32.toInt_zero] at z
      rw [show (1 : Int32).toInt = 1 from rfl]
      omega)
    obtain ⟨m, hm, rfl⟩ := nI_ofl (n := 24) (by decide) ⟨hc0, hb.2.2.2⟩
    have hm1 : 1 ≤ m := by
      rcases Nat.eq_zero_or_pos m with z | z
      · subst z; exact absurd (by decide : nI 0 < 1) hb.2.2.1
      · exact z
    rcases fst_ex (Q := fun n => wa ((stH h).1 (3, 0, 2)) nC p n q) (N := 24) with ⟨n, h1, h2, h3⟩ | h0
    · refine SM_ro (k_signs_g l9 G (d := d) (by omega) h I.ro.c8 I.cr.c0 hp hq hm1 hm (n := n) ⟨h1, (dw n).mpr h2⟩ (fun j hj z => h3 j hj ((dw j).mp z))) (MS.mono (m_signs_ok l9 G (d := d) (by omega) h I.ro.c8 I.b3 (RO_wfS I.ro) hp hq hm1 hm) (fun r u z => ⟨?_, nC, nW, nS, Inv_scr I z.1⟩))
      by_cases hnm : n ≤ m
      · rw [if_pos hnm]
        rcases z.2 with ⟨z1, e⟩ | ⟨z1, e⟩
        · exact e
        · exact absurd (wa_mono hnm h2) z1
      · rw [if_neg hnm]
        rcases z.2 with ⟨z1, e⟩ | ⟨z1, e⟩
        · exact absurd z1 (h3 m (by omega))
        · exact e
    · refine SM_ro (k_signs_n l9 G (d := d) (by omega) h I.ro.c8 I.cr.c0 hp hq hm1 hm (fun j hj z => h0 j hj ((dw j).mp z))) (MS.mono (m_signs_ok l9 G (d := d) (by omega) h I.ro.c8 I.b3 (RO_wfS I.ro) hp hq hm1 hm) (fun r u z => ⟨?_, nC, nW, nS, Inv_scr I z.1⟩))
      rcases z.2 with ⟨z1, e⟩ | ⟨z1, e⟩
      · exact absurd z1 (h0 m hm)
      · exact e
  · exact SM_bb ⟨nC, nW, nS, I⟩ (k_signs_bad l9 G (d := d) (by omega) h I.ro.c8 I.cr.c0 _ _ _ hb) (m_signs_bad l9 G (d := d) (by omega) h I.ro.c8 I.b3 _ _ _ hb)

set_option maxRecDepth 20000 in
set_option maxHeartbeats 2000000 in
theorem s_meet (l9 : Launch) (G : WT) {d : Nat} (hd : 10 ≤ d) (h : HP) (hI : Inv h) (a : Int32) (b : Int32) (x : Int32)  : SM l9 G yX6_meet cX6_meet 7 yX7_meet cX7_meet 8 d [vi a, vi b, vi x] h := by
  obtain ⟨nC, nW, nS, I⟩ := hI
  by_cases hb : (¬ a < 0 ∧ ¬ nI nW ≤ a) ∧ (¬ b < 0 ∧ ¬ nI nW ≤ b) ∧ (¬ a = b) ∧ (x = 0 ∨ x = 1)
  · have h4 := I.ro.w4
    have h8 := I.ro.c8
    obtain ⟨w, hw, rfl⟩ := nI_ofk (by omega) hb.1
    obtain ⟨v, hv, rfl⟩ := nI_ofk (by omega) hb.2.1
    have hne : ¬ w = v := fun e => hb.2.2.1 (by rw [e])
    obtain ⟨pw, hpw, hpw2⟩ := RO_p I.ro hw
    obtain ⟨pv, hpv, hpv2⟩ := RO_p I.ro hv
    have ew := (CR_w I.cr I.ro.w4 hw).1.trans hpw2
    have ev := (CR_w I.cr I.ro.w4 hv).1.trans hpv2
    have mp := fun n => mtP_wa (CA I) (RA I) ew ev hpw hpv n
    have mb := fun n c (hc : c < 8) => mtC_b (CA I) (RA I) ew ev hpw hpv n hc
    rcases hb.2.2.2 with rfl | rfl
    · refine SM_det I (k_meet_0 l9 G (d := d) (by omega) h I.ro.c8 I.cr.c0 I.ro.w4 I.cr.c4 hw hv hne) (fun r z => ?_) (MS.mono (m_meet_ok l9 G (d := d) (by omega) h I.ro.c8 I.b3 I.ro.w4 I.b4 (RO_wfS I.ro) hw hv hne (x := 0) (by decide) ((stA h (by omega)).trans hpw2) ((stA h (by omega)).trans hpv2) hpw hpv) (fun r u z => z)) (fun r r2 z y => ?_)
      · rcases z with ⟨n, _, _, _, e⟩ | ⟨e, _⟩
        · exact ⟨_, e⟩
        · exact ⟨_, e⟩
      · rcases z with ⟨n, h1, h2, h3, e⟩ | ⟨e, h0⟩
        · rcases y with ⟨k, g1, c, g2, g3, g4, g5, g6, g⟩ | ⟨g, g0⟩
          · have hk : n = k := fst_eq (Q := mtP h nC w v) h2 h3 ((mp k).mpr ⟨c, g2, g3, g4⟩) (fun m hm z => by
              obtain ⟨c9, y1, y2⟩ := (mp m).mp z
              exact g6 m hm c9 y1 y2)
            rw [e, g, hk]; rfl
          · obtain ⟨c9, y1, y2⟩ := (mp n).mp h2
            exact absurd y2 (g0 n h1 c9 y1)
        · rcases y with ⟨k, g1, c, g2, g3, g4, g5, g6, g⟩ | ⟨g, g0⟩
          · exact absurd ((mp k).mpr ⟨c, g2, g3, g4⟩) (h0 k g1)
          · rw [e, g]
    · refine SM_det I (k_meet_1 l9 G (d := d) (by omega) h I.ro.c8 I.cr.c0 I.ro.w4 I.cr.c4 hw hv hne) (fun r z => ?_) (MS.mono (m_meet_ok l9 G (d := d) (by omega) h I.ro.c8 I.b3 I.ro.w4 I.b4 (RO_wfS I.ro) hw hv hne (x := 1) (by decide) ((stA h (by omega)).trans hpw2) ((stA h (by omega)).trans hpv2) hpw hpv) (fun r u z => z)) (fun r r2 z y => ?_)
      · rcases z with ⟨n, _, _, _, (⟨i, _, e, _⟩ | ⟨e, _⟩)⟩ | ⟨e, _⟩
        · exact ⟨_, e⟩
        · exact ⟨_, e⟩
        · exact ⟨_, e⟩
      · rcases z with ⟨n, h1, h2, h3, z⟩ | ⟨e, h0⟩
        · rcases y with ⟨k, g1, c, g2, g3, g4, g5, g6, g⟩ | ⟨g, g0⟩
          · have hk : n = k := fst_eq (Q := mtP h nC w v) h2 h3 ((mp k).mpr ⟨c, g2, g3, g4⟩) (fun m hm z => by
              obtain ⟨c9, y1, y2⟩ := (mp m).mp z
              exact g6 m hm c9 y1 y2)
            subst hk
            rcases z with ⟨i, i1, e, i2, i3⟩ | ⟨e, i0⟩
            · have hc : i = c := fst_eq (Q := fun c => wa ((stH h).1 (3, 0, 2)) nC pw n c ∧ wa ((stH h).1 (3, 0, 2)) nC pv n c) ((mb n i i1).mp i2) (fun m hm z => i3 m hm ((mb n m (by omega)).mpr z)) ⟨g3, g4⟩ g5
              rw [e, g, hc]; rfl
            · exact absurd ((mb n c (by omega)).mpr ⟨g3, g4⟩) (i0 c (by omega))
          · obtain ⟨c9, y1, y2⟩ := (mp n).mp h2
            exact absurd y2 (g0 n h1 c9 y1)
        · rcases y with ⟨k, g1, c, g2, g3, g4, g5, g6, g⟩ | ⟨g, g0⟩
          · exact absurd ((mp k).mpr ⟨c, g2, g3, g4⟩) (h0 k g1)
          · rw [e, g]
  · exact SM_bb ⟨nC, nW, nS, I⟩ (k_meet_bad l9 G (d := d) (by omega) h I.ro.w4 I.cr.c4 _ _ _ hb) (m_meet_bad l9 G (d := d) (by omega) h I.ro.w4 I.b4 _ _ _ hb)
