/-! THE BOND: read -/
set_option maxRecDepth 20000 in
set_option maxHeartbeats 2000000 in
theorem s_read (l9 : Launch) (G : WT) {d : Nat} (hd : 10 ≤ d) (h : HP) (hI : Inv h) (a : Int32) (b : Int32) (f : Int32) (n : Int32)  : SM l9 G yX6_read cX6_read 9 yX7_read cX7_read 11 d [vi a, vi b, vi f, vi n] h := by
  obtain ⟨nC, nW, nS, I⟩ := hI
  by_cases hb : ((¬ a < 0 ∧ ¬ 3 < a) ∧ ¬ b < 0 ∧ ¬ 2 < b) ∧ ¬ n < 0 ∧ ¬ 20 < n
  · obtain ⟨k, hk, rfl⟩ := nI_ofl (n := 3) (by decide) hb.1.1
    obtain ⟨l, hl, rfl⟩ := nI_ofl (n := 2) (by decide) hb.1.2
    obtain ⟨n0, hn0, rfl⟩ := nI_ofl (n := 20) (by decide) hb.2
    have h4 := I.ro.w4
    have h8 := I.ro.c8
    have zero : ∀ X : Int32, whoF (h.1 (2, k, 0) 2) (h.1 (2, k, 0) 1) (nI l) f n0 = nI 0 → (if 0 = n0 then 0 else fltF (h.1 (2, k, 0) 2) (h.1 (2, k, 0) 1) (nI l)) = X → (∀ u : HP, u.1 (3, 0, 25) = h.1 (3, 0, 25) → MS l9 G yX7_read cX7_read 11 (some .int) d [vr (3, 0, 0), vi (nI k), vi (nI l), vi f, vi (nI n0)] u (fun r h1 => r = some (vi 0) ∧ ∃ u1, scr u u1 ∧ h1 = upI u1 (3, 0, 0) 27 X)) → SM l9 G yX6_read cX6_read 9 yX7_read cX7_read 11 d [vi (nI k), vi (nI l), vi f, vi (nI n0)] h := by
      intro X h1 h2 h3
      refine SM_up (v := 0) (u := upI h (1, 0, 0) 9 X) (MS.mono (k_read_ok l9 G (d := d) (by omega) h I.ro.c8 I.cr.c0 I.ro.w4 I.cr.c4 (show k < 4 by omega) (show l < 3 by omega) hn0 f (show 0 ≤ 20 by decide) h1) (fun r u z => ?_)) (MS.mono (h3 _ (upI_ne _ _ _ (by decide))) (fun r u z => ⟨z.1, nC, nW, nS, ?_⟩))
      · rcases z with ⟨i, hi, _⟩ | ⟨_, e1, e2⟩
        · exact absurd hi (Nat.not_lt_zero _)
        · exact ⟨e1, by rw [e2, h2]; rfl⟩
      · obtain ⟨u1, s1, rfl⟩ := z.2
        refine Inv_f9 I (x := X) (fun i a b c => ?_) (fun j => ?_) (fun j => ?_)
        · rw [upI_ne _ _ _ c, s1.1 i a, upI_ne _ _ _ b]
        · rw [upI_ne _ _ _ (by decide), s1.1 _ (by decide), upI_at]
        · rw [upI_at, scr_0 s1, upI_ne _ _ _ (by decide)]
    rcases Nat.eq_zero_or_pos n0 with q0 | q0
    · subst q0
      refine zero 0 ?_ (if_pos rfl) (fun u _ => m_read_0 l9 G (d := d) (by omega) u (by omega) (by omega) f)
      unfold whoF
      split <;> rfl
    rcases I.sh k (by omega) with z | ⟨l2, z0, z1, z2, z3, z4, z5, z6, z7⟩
    · refine zero 1 ?_ ?_ (fun u e => m_read_null l9 G (d := d) (by omega) u (by omega) (by omega) q0 hn0 f (by rw [e]; exact z.1))
      · unfold whoF; rw [if_pos (Or.inl z.2)]; rfl
      · rw [if_neg (by omega)]; unfold fltF; rw [if_pos z.2]
    by_cases ql : l2 = l
    · subst ql
      by_cases qf : f < 0
      · refine zero 2 ?_ ?_ (fun u e => m_read_neg l9 G (d := d) (by omega) u (by omega) (by omega) q0 hn0 f (by rw [e]; exact z3) qf)
        · unfold whoF; rw [if_pos (Or.inr (Or.inr qf))]; rfl
        · rw [if_neg (by omega)]; unfold fltF; rw [z6, if_neg (nI_pos (by omega)), if_pos z4.symm]
      · have ef : ∃ f0, f0 < 2 ^ 31 ∧ f = nI f0 := by
          rw [Int32.lt_iff_toInt_lt, Int32.toInt_zero] at qf
          have hlt := Int32.toInt_lt f
          refine ⟨f.toInt.toNat, by omega, Int32.toInt_inj.mp ?_⟩
          rw [nI_toInt (by omega)]
          omega
        obtain ⟨f0, hf0, rfl⟩ := ef
        obtain ⟨m, m1, m2, m3, m4⟩ := who_n (z := z0) z2 hf0 n0 hn0
        have hwh : whoF (h.1 (2, k, 0) 2) (h.1 (2, k, 0) 1) (nI l2) (nI f0) n0 = nI m := by
          unfold whoF
          rw [z6, z4, if_neg (fun y => y.elim (nI_pos (by omega)) (fun y => y.elim (fun y => y rfl) (nI_pos (by omega))))]
          exact m2
        have hX : (if m = n0 then 0 else fltF (h.1 (2, k, 0) 2) (h.1 (2, k, 0) 1) (nI l2)) = if m = n0 then (0 : Int32) else 2 := by
          unfold fltF
          rw [z6, z4, if_neg (nI_pos (by omega)), if_pos rfl]
        have A := k_read_ok l9 G (d := d) (by omega) h I.ro.c8 I.cr.c0 I.ro.w4 I.cr.c4 (show k < 4 by omega) (show l2 < 3 by omega) hn0 (nI f0) (show m ≤ 20 by omega) hwh
        rw [hX] at A
        have ok : ∀ i, i < m → (okR h k (nI f0) nC nW i ↔ rdK h k f0 nC nW i) := fun i hi => by
          obtain ⟨c1, c2⟩ := cel_n z2 z7 (m3 i hi)
          unfold okR rdK
          rw [c1, c2]
        have hpl : ∀ w, w < nW → ¬ h.1 (3, 0, 1) (18 + 6 * w + 0) < 0 := fun w hw => by
          obtain ⟨p, hp, e⟩ := RO_p I.ro hw
          rw [e]; exact nI_pos (by omega)
        refine ⟨fun v u => (∃ i, i < m ∧ ¬ okR h k (nI f0) nC nW i ∧ (∀ j, j < i → okR h k (nI f0) nC nW j) ∧ v = -20 - nI i ∧ u = h) ∨ ((∀ j, j < m → okR h k (nI f0) nC nW j) ∧ v = nI m ∧ u = upI (ptC h k (nI f0) m) (1, 0, 0) 9 (if m = n0 then 0 else 2)), MS.mono A (fun r u z => ?_), fun v u z => ?_⟩
        · rcases z with ⟨i, i1, i2, i3, e, e2⟩ | ⟨i1, e, e2⟩
          · exact ⟨_, e, Or.inl ⟨i, i1, i2, i3, rfl, e2⟩⟩
          · exact ⟨_, e, Or.inr ⟨i1, rfl, e2⟩⟩
        · rcases z with ⟨i, i1, i2, i3, rfl, rfl⟩ | ⟨i1, rfl, rfl⟩
          · refine MS.mono (m_read_go l9 G (d := d) (by omega) u I.ro.c8 I.b3 I.ro.w4 I.b4 (show k < 4 by omega) (show l2 < 3 by omega) hn0 hf0 z3 z5 z2 m1 m3 m4 hpl) (fun r u2 y => ?_)
            rcases y with ⟨y1, _⟩ | ⟨i', j1, j2, j3, e, s1⟩
            · exact absurd ((ok i i1).mpr (y1 i i1)) i2
            · have : i = i' := fst_eq (Q := fun i => i < m ∧ ¬ okR u k (nI f0) nC nW i) ⟨i1, i2⟩ (fun j hj y => y.2 (i3 j hj)) ⟨j1, fun y => j2 ((ok i' j1).mp y)⟩ (fun j hj y => y.2 ((ok j y.1).mpr (j3 j hj)))
              rw [this]
              exact ⟨e, nC, nW, nS, Inv_scr I s1⟩
          · obtain ⟨Q, g⟩ := rd_all I z2 z7 m3 (fun i hi => (ok i hi).mp (i1 i hi)) m (Nat.le_refl _)
            have gU : ∀ i : PId, i.1 = 3 → (upI (ptC h k (nI f0) m) (1, 0, 0) 9 (if m = n0 then 0 else 2)).1 i = h.1 i := fun i hi => by
              rw [upI_ne _ _ _ (fun e => by rw [e] at hi; exact absurd hi (by decide)), g i (fun y => by have := y.1; omega)]
            have e0 := gU (3, 0, 0) rfl
            have e1 := gU (3, 0, 1) rfl
            have e25 := gU (3, 0, 25) rfl
            have e26 := gU (3, 0, 26) rfl
            have e27 := gU (3, 0, 27) rfl
            have ece : ∀ i, ceF (upI (ptC h k (nI f0) m) (1, 0, 0) 9 (if m = n0 then 0 else 2)) k f0 i = ceF h k f0 i := fun i => by unfold ceF; rw [e27]
            have ecg : ∀ i, ceG (upI (ptC h k (nI f0) m) (1, 0, 0) 9 (if m = n0 then 0 else 2)) k f0 i = ceG h k f0 i := fun i => by unfold ceG; rw [e27]
            have erd : rdS (upI (ptC h k (nI f0) m) (1, 0, 0) 9 (if m = n0 then 0 else 2)) k f0 m = rdS h k f0 m := by
              unfold rdS
              rw [e1]
              exact itN_cong (fun j S _ => by rw [ece, ecg]) rfl
            refine MS.mono (m_read_go l9 G (d := d) (by omega) (upI (ptC h k (nI f0) m) (1, 0, 0) 9 (if m = n0 then 0 else 2)) h8 (by rw [e0]; exact I.b3) h4 (by rw [e0]; exact I.b4) (show k < 4 by omega) (show l2 < 3 by omega) hn0 hf0 (by rw [e25]; exact z3) (by rw [e26]; exact z5) z2 m1 m3 m4 (by rw [e1]; exact hpl)) (fun r u2 y => ?_)
            rcases y with ⟨y1, e, u1, s1, rfl⟩ | ⟨i', j1, j2, j3, e, s1⟩
            · refine ⟨e, nC, nW, nS, ?_⟩
              rw [erd] at s1
              refine Inv_f9 Q (x := if m = n0 then 0 else 2) (fun i a b c => ?_) (fun j => ?_) (fun j => ?_)
              · rw [upI_ne _ _ _ c, s1.1 i a]
                by_cases e9 : i = (3, 0, 1)
                · rw [e9, upR_same, upR_same]
                · rw [upR_ne _ _ e9, upR_ne _ _ e9, upI_ne _ _ _ b]
              · rw [upI_ne _ _ _ (by decide), s1.1 _ (by decide), upR_ne _ _ (by decide), upR_ne _ _ (by decide), upI_at]
              · rw [upI_at, scr_0 s1, upR_ne _ _ (by decide), upR_ne _ _ (by decide), upI_ne _ _ _ (by decide)]
            · refine absurd ?_ j2
              have := (ok i' j1).mp (i1 i' j1)
              unfold rdK at this ⊢
              rw [ece, ecg]; exact this
    · have hne : ¬ nI l = nI l2 := fun e => ql (nI_ij e (by omega) (by omega)).symm
      refine zero 3 ?_ ?_ (fun u e => m_read_cast l9 G (d := d) (by omega) u (by omega) (by omega) q0 hn0 f (by rw [e, z3]; exact nI_n4 (by omega)) (by rw [e, z3]; exact fun y => hne y.symm))
      · unfold whoF; rw [z4, if_pos (Or.inr (Or.inl hne))]; rfl
      · rw [if_neg (by omega)]; unfold fltF; rw [z6, z4, if_neg (nI_pos (by omega)), if_neg hne]
  · exact SM_bb ⟨nC, nW, nS, I⟩ (k_read_bad l9 G (d := d) (by omega) h _ _ _ _ hb) (m_read_bad l9 G (d := d) (by omega) h _ _ _ _ hb)
