/-! THE READER OF THE CLASS: lines -/
theorem wd_hd : ∀ i, i < 8 → ∀ j, j < 8 → (wdL i).getD 0 0 = (wdL j).getD 0 0 → i = j := by decide +kernel
theorem wd_ne : ∀ i, i < 8 → 0 < (wdL i).length := by decide
theorem isL_u {T : Nat → Int32} {t e i j : Nat} (hi : i < 8) (hj : j < 8) (h1 : isL T t e (wdL i)) (h2 : isL T t e (wdL j)) : i = j := by
  have a1 := (byL_iff _ _ _ _).mp h1.2 0 (wd_ne i hi)
  have a2 := (byL_iff _ _ _ _).mp h2.2 0 (wd_ne j hj)
  exact wd_hd i hi j hj (a1.symm.trans a2)
/-- the line's number, by the class's own -/
def cmN : Nat → Nat := fun i => [2, 0, 1, 5, 3, 6, 7, 4].getD i 8
theorem lr_of {T : Nat → Int32} {t e i : Nat} (hi : i < 8) (h : isL T t e (wdL i)) : lrN T t e = cmN i := by
  have q : ∀ j, j < 8 → j ≠ i → ¬ isL T t e (wdL j) := fun j hj hne z => hne (isL_u hj hi z h)
  unfold lrN
  rcases (show i = 0 ∨ i = 1 ∨ i = 2 ∨ i = 3 ∨ i = 4 ∨ i = 5 ∨ i = 6 ∨ i = 7 by omega) with e9 | e9 | e9 | e9 | e9 | e9 | e9 | e9 <;> subst e9
  · rw [iteP_f (q 1 (by decide) (by decide)), iteP_f (q 2 (by decide) (by decide)), iteP_t h]; rfl
  · rw [iteP_t h]; rfl
  · rw [iteP_f (q 1 (by decide) (by decide)), iteP_t h]; rfl
  · rw [iteP_f (q 1 (by decide) (by decide)), iteP_f (q 2 (by decide) (by decide)), iteP_f (q 0 (by decide) (by decide)), iteP_f (q 4 (by decide) (by decide)), iteP_f (q 7 (by decide) (by decide)), iteP_t h]; rfl
  · rw [iteP_f (q 1 (by decide) (by decide)), iteP_f (q 2 (by decide) (by decide)), iteP_f (q 0 (by decide) (by decide)), iteP_t h]; rfl
  · rw [iteP_f (q 1 (by decide) (by decide)), iteP_f (q 2 (by decide) (by decide)), iteP_f (q 0 (by decide) (by decide)), iteP_f (q 4 (by decide) (by decide)), iteP_f (q 7 (by decide) (by decide)), iteP_f (q 3 (by decide) (by decide)), iteP_t h]; rfl
  · rw [iteP_f (q 1 (by decide) (by decide)), iteP_f (q 2 (by decide) (by decide)), iteP_f (q 0 (by decide) (by decide)), iteP_f (q 4 (by decide) (by decide)), iteP_f (q 7 (by decide) (by decide)), iteP_f (q 3 (by decide) (by decide)), iteP_f (q 5 (by decide) (by decide)), iteP_t h]; rfl
  · rw [iteP_f (q 1 (by decide) (by decide)), iteP_f (q 2 (by decide) (by decide)), iteP_f (q 0 (by decide) (by decide)), iteP_f (q 4 (by decide) (by decide)), iteP_t h]; rfl
theorem lr_no {T : Nat → Int32} {t e : Nat} (q : ∀ j, j < 8 → ¬ isL T t e (wdL j)) : lrN T t e = 8 := by
  unfold lrN
  rw [iteP_f (q 1 (by decide)), iteP_f (q 2 (by decide)), iteP_f (q 0 (by decide)), iteP_f (q 4 (by decide)), iteP_f (q 7 (by decide)), iteP_f (q 3 (by decide)), iteP_f (q 5 (by decide)), iteP_f (q 6 (by decide))]
section TX
variable (T : Nat → Int32) (t : Nat)
/-- a line from its word on, but for the sign behind it -/
noncomputable def tkS (a : PA) : Sum PE PA := iteP (kkN T t a.1 = 8) (.inl (2, tF T t a.1)) (iteP (6 ≤ kkN T t a.1 ∧ ¬ a.2 81 < 4) (.inl (5, tF T t a.1)) (iteP (2 ≤ kkN T t a.1 ∧ kkN T t a.1 ≤ 4) (iteP ((a.2 82 >>> (nI (kkN T t a.1) &&& 31)) &&& 1 = 0) (linK T t (kkN T t a.1) (tE T t a.1, upd a.2 82 (a.2 82 ||| (1 <<< (nI (kkN T t a.1) &&& 31))))) (.inl (4, tF T t a.1))) (linK T t (kkN T t a.1) (tE T t a.1, a.2))))
end TX
section TX
variable {T : Nat → Int32} {t : Nat}
theorem knd3 (c : PA) : bdE (chkS T t (tK T t c.1 = 3) 2 c) (advS T t) = kndS T t 3 c := by
  unfold chkS
  rcases Classical.em (tB T t c.1) with hb | hb
  · rw [iteP_t hb, kndS_b hb]; rfl
  · rw [iteP_f hb]
    by_cases hk : tK T t c.1 = 3
    · rw [iteP_t hk, bdE_r, kndS_g hb hk]
      unfold advS
      rw [iteP_f hb]
    · rw [iteP_f hk, bdE_l, kndS_n hb hk]
theorem tl_knd (k : Nat) (b : PA) : tlS T t k b = bdE (linK T t k b) (kndS T t 3) := by
  unfold tlS
  rw [bd_as]
  congr 1
  funext c
  exact knd3 c
theorem lin_tk (a : PA) : linS T t a = bdE (tkS T t a) (kndS T t 3) := by
  unfold linS tkS
  rcases Classical.em (kkN T t a.1 = 8) with h8 | h8
  · rw [iteP_t h8, iteP_t h8]; rfl
  · rw [iteP_f h8, iteP_f h8]
    rcases Classical.em (6 ≤ kkN T t a.1 ∧ ¬ a.2 81 < 4) with h5 | h5
    · rw [iteP_t h5, iteP_t h5]; rfl
    · rw [iteP_f h5, iteP_f h5]
      rcases Classical.em (2 ≤ kkN T t a.1 ∧ kkN T t a.1 ≤ 4) with h24 | h24
      · rw [iteP_t h24, iteP_t h24]
        rcases Classical.em ((a.2 82 >>> (nI (kkN T t a.1) &&& 31)) &&& 1 = 0) with hq | hq
        · rw [iteP_t hq, iteP_t hq]; exact tl_knd _ _
        · rw [iteP_f hq, iteP_f hq]; rfl
      · rw [iteP_f h24, iteP_f h24]; exact tl_knd _ _
theorem tk_8 {a : PA} (h : kkN T t a.1 = 8) : tkS T t a = .inl (2, tF T t a.1) := by unfold tkS; rw [iteP_t h]
theorem tk_told {a : PA} {k : Nat} (h : kkN T t a.1 = k) (hk : 2 ≤ k ∧ k ≤ 4) : tkS T t a = iteP ((a.2 82 >>> (nI k &&& 31)) &&& 1 = 0) (linK T t k (tE T t a.1, upd a.2 82 (a.2 82 ||| (1 <<< (nI k &&& 31))))) (.inl (4, tF T t a.1)) := by
  unfold tkS
  rw [h, iteP_f (show ¬ k = 8 by omega), iteP_f (show ¬ (6 ≤ k ∧ ¬ a.2 81 < 4) by omega), iteP_t hk]
theorem tk_plain {a : PA} {k : Nat} (h : kkN T t a.1 = k) (hk : k < 2 ∨ k = 5) : tkS T t a = linK T t k (tE T t a.1, a.2) := by
  unfold tkS
  rw [h, iteP_f (show ¬ k = 8 by omega), iteP_f (show ¬ (6 ≤ k ∧ ¬ a.2 81 < 4) by omega), iteP_f (show ¬ (2 ≤ k ∧ k ≤ 4) by omega)]
theorem tk_walk {a : PA} {k : Nat} (h : kkN T t a.1 = k) (hk : k = 6 ∨ k = 7) : tkS T t a = iteP (a.2 81 < 4) (linK T t k (tE T t a.1, a.2)) (.inl (5, tF T t a.1)) := by
  unfold tkS
  rw [h, iteP_f (show ¬ k = 8 by omega)]
  rcases Classical.em (a.2 81 < 4) with q | q
  · rw [iteP_f (show ¬ (6 ≤ k ∧ ¬ a.2 81 < 4) from fun z => z.2 q), iteP_f (show ¬ (2 ≤ k ∧ k ≤ 4) by omega), iteP_t q]
  · rw [iteP_t (show 6 ≤ k ∧ ¬ a.2 81 < 4 from ⟨by omega, q⟩), iteP_f q]
end TX
theorem t_low_i (l9 : Launch) (G : WT) {d : Nat} (hd : 6 ≤ d) (h : HP) {T : Nat → Int32} {t e : Nat} (ht : t ≤ 160) (htp : h.1 (1, 0, 2) 1 = nI t) (hT : h.1 (1, 0, 3) = T) (hq5 : h.1 (1, 0, 2) 5 = nI (tE T t e)) (hq7 : h.1 (1, 0, 2) 7 = nI (tF T t e)) (het : e ≤ t) {i : Nat} (hi : i < 8) (hw : isL T t e (wdL i)) : MS l9 G yX2_lineOfWord cX2_lineOfWord 2 (some .int) d [vr (1, 0, 2)] h (fun r h1 => h1 = h ∧ r = some (vi (nI i))) :=
  MS.mono (t_lineOfWord l9 G hd h ht htp hT hq5 hq7 het) (fun r h1 z => by
    obtain ⟨z1, ⟨j, z2, z3, z4, -⟩ | ⟨-, z3⟩⟩ := z
    · exact ⟨z1, by rw [z3, isL_u z2 hi z4 hw]⟩
    · exact absurd hw (z3 i hi))
theorem t_low_n (l9 : Launch) (G : WT) {d : Nat} (hd : 6 ≤ d) (h : HP) {T : Nat → Int32} {t e : Nat} (ht : t ≤ 160) (htp : h.1 (1, 0, 2) 1 = nI t) (hT : h.1 (1, 0, 3) = T) (hq5 : h.1 (1, 0, 2) 5 = nI (tE T t e)) (hq7 : h.1 (1, 0, 2) 7 = nI (tF T t e)) (het : e ≤ t) (hw : ∀ j, j < 8 → ¬ isL T t e (wdL j)) : MS l9 G yX2_lineOfWord cX2_lineOfWord 2 (some .int) d [vr (1, 0, 2)] h (fun r h1 => h1 = h ∧ r = some (vi (-1))) :=
  MS.mono (t_lineOfWord l9 G hd h ht htp hT hq5 hq7 het) (fun r h1 z => by
    obtain ⟨z1, ⟨j, z2, z3, z4, -⟩ | ⟨z3, -⟩⟩ := z
    · exact absurd z4 (hw j z2)
    · exact ⟨z1, z3⟩)
theorem TKP_r {t : Nat} {h0 h1 : HP} {x : Sum PE PA} {r : Option PV} (h : TKP t h0 h1 x r) : ∃ v, r = some (vi v) ∧ (v = 0 ∨ v = 1) := by
  rcases x with e | b
  · exact ⟨0, h.1, Or.inl rfl⟩
  · exact ⟨1, h.1, Or.inr rfl⟩
set_option maxRecDepth 20000 in
set_option maxHeartbeats 2000000 in
theorem t_takeLine (l9 : Launch) (G : WT) {d : Nat} (hd : 8 ≤ d) {T : Nat → Int32} {t : Nat} {h0 : HP} (ht : t ≤ 160) (htp : h0.1 (1, 0, 2) 1 = nI t) (hT : h0.1 (1, 0, 3) = T) (hT0 : ∀ j, j < t → ¬ T j < 0) (h : HP) {a : PA} (hS : CSt t h0 h (tE T t a.1, a.2)) (hq7 : h.1 (1, 0, 2) 7 = nI (tF T t a.1)) (hq6 : h.1 (1, 0, 2) 6 = kC (tK T t a.1)) (ha : a.1 ≤ t) (hW : WD a.2) : MS l9 G yX2_takeLine cX2_takeLine 2 (some .boolean) d [vr (1, 0, 2)] h (fun r h1 => TKP t h0 h1 (tkS T t a) r) := by
  refine MS_of (by decide +kernel) (Nat.le_of_ble_eq_true rfl) (fun X hC hX => ?_)
  show V X G 2 0 _ [] _
  obtain ⟨hE, he, hDd, hDt, hz, hp⟩ := id hS
  obtain ⟨n, hn4, hn81, -⟩ := id hW.1
  have hlw6 : linK T t 6 (tE T t a.1, a.2) = wlkS T t n 0 (tE T t a.1, a.2) := by
    show wlkS T t (a.2 81).toNatClampNeg 0 _ = _
    rw [hn81, nI_clamp (show n < 2 ^ 31 by omega)]
  have hlw7 : linK T t 7 (tE T t a.1, a.2) = wlkS T t n 1 (tE T t a.1, a.2) := by
    show wlkS T t (a.2 81).toNatClampNeg 1 _ = _
    rw [hn81, nI_clamp (show n < 2 ^ 31 by omega)]
  by_cases hk : tK T t a.1 = 1
  · by_cases hex : ∃ i, i < 8 ∧ isL T t a.1 (wdL i)
    · obtain ⟨i, hi, hwi⟩ := hex
      rcases (show i = 0 ∨ i = 1 ∨ i = 2 ∨ i = 3 ∨ i = 4 ∨ i = 5 ∨ i = 6 ∨ i = 7 by omega) with e9 | e9 | e9 | e9 | e9 | e9 | e9 | e9 <;> subst e9
      · have hkk : kkN T t a.1 = 2 := (iteP_t hk).trans (lr_of (i := 0) (by decide) hwi)
        refine v_aload_n hC (pc := 0) (k := 0) 0 rfl dX2_takeLine_0 ?_
        refine v_getI hC (pc := 1) dX2_takeLine_1 fl_X2_48 rfl (by first | rfl | exact ok_c hq rfl | exact ok_w hq hw | exact ok_w (by omega) (by omega) | exact ok_s (by omega) (by omega) | exact ok_c (by omega) rfl | assumption) rfl (by decide) (by decide) ?_
        rw [hq6]
        refine v_iconst hC (pc := 4) (v := 1) (by decide) dX2_takeLine_4 ?_
        refine v_icmp_ne hC (pc := 5) (tgt := 15) dX2_takeLine_5 (by decide) (fun c_5 => ?_) (fun c_5 => ?_)
        · exact absurd ((kC_eq (K := 1) (tK_le T t a.1) (by decide) (by decide)).mpr hk) c_5
        · skip
          refine v_aload_n hC (pc := 8) (k := 0) 0 rfl dX2_takeLine_8 ?_
          refine v_callV hC (pc := 9) (As := []) dX2_takeLine_9 rfl (t_low_i _ _ (d := d - 1) (by omega) _ ht (hE.2.2 1 (by decide) |>.trans htp) ((hE.1 (1, 0, 3) (by decide) (by decide) nC3).trans hT) hp hq7 ha (i := 0) (by decide) hwi) cv_X2_114 rfl (by decide) rfl (by first | rfl | exact ok_c hq rfl | exact ok_w hq hw | exact ok_w (by omega) (by omega) | exact ok_s (by omega) (by omega) | exact ok_c (by omega) rfl | assumption) (Nat.le_of_ble_eq_true rfl) (by omega) (fun r h' hr => ?_)
          obtain ⟨he9, rfl⟩ := hr
          rw [he9]
          clear he9 h'
          show V _ _ _ (9 + 3) _ (_ :: _) _
          refine v_goto hC (pc := 12) (tgt := 16) dX2_takeLine_12 (by decide) ?_
          refine v_istore_n hC (pc := 16) (l' := [(1, _), (0, _)]) dX2_takeLine_16 (by decide) rfl ?_
          refine v_iload_n hC (pc := 17) (k := 1) 0 rfl dX2_takeLine_17 ?_
          refine v_tabIn hC (pc := 18) (tgt := 64) dX2_takeLine_18 (by decide) (by decide) (off := 46) (by decide) (by decide) ?_
          refine v_aload_n hC (pc := 64) (k := 0) 1 rfl dX2_takeLine_64 ?_
          refine v_callV hC (pc := 65) (As := []) dX2_takeLine_65 rfl (t_takeCity _ _ (d := d - 1) (by omega) ht htp hT hT0 _ hS hq7 hW.2.1.1) cv_X2_117 rfl (by decide) rfl (by first | rfl | exact ok_c hq rfl | exact ok_w hq hw | exact ok_w (by omega) (by omega) | exact ok_s (by omega) (by omega) | exact ok_c (by omega) rfl | assumption) (Nat.le_of_ble_eq_true rfl) (by omega) (fun r h' hr => ?_)
          have hr2 : TKP t h0 h' (tkS T t a) r := by
            rw [tk_told hkk (by decide)]
            exact hr
          obtain ⟨v9, rfl, hv9⟩ := TKP_r hr2
          clear hr
          show V _ _ _ (65 + 3) _ (_ :: _) _
          refine v_zret hC hX (pc := 68) dX2_takeLine_68 (nar_b hv9) ?_
          exact hr2
      · have hkk : kkN T t a.1 = 0 := (iteP_t hk).trans (lr_of (i := 1) (by decide) hwi)
        refine v_aload_n hC (pc := 0) (k := 0) 0 rfl dX2_takeLine_0 ?_
        refine v_getI hC (pc := 1) dX2_takeLine_1 fl_X2_48 rfl (by first | rfl | exact ok_c hq rfl | exact ok_w hq hw | exact ok_w (by omega) (by omega) | exact ok_s (by omega) (by omega) | exact ok_c (by omega) rfl | assumption) rfl (by decide) (by decide) ?_
        rw [hq6]
        refine v_iconst hC (pc := 4) (v := 1) (by decide) dX2_takeLine_4 ?_
        refine v_icmp_ne hC (pc := 5) (tgt := 15) dX2_takeLine_5 (by decide) (fun c_5 => ?_) (fun c_5 => ?_)
        · exact absurd ((kC_eq (K := 1) (tK_le T t a.1) (by decide) (by decide)).mpr hk) c_5
        · skip
          refine v_aload_n hC (pc := 8) (k := 0) 0 rfl dX2_takeLine_8 ?_
          refine v_callV hC (pc := 9) (As := []) dX2_takeLine_9 rfl (t_low_i _ _ (d := d - 1) (by omega) _ ht (hE.2.2 1 (by decide) |>.trans htp) ((hE.1 (1, 0, 3) (by decide) (by decide) nC3).trans hT) hp hq7 ha (i := 1) (by decide) hwi) cv_X2_114 rfl (by decide) rfl (by first | rfl | exact ok_c hq rfl | exact ok_w hq hw | exact ok_w (by omega) (by omega) | exact ok_s (by omega) (by omega) | exact ok_c (by omega) rfl | assumption) (Nat.le_of_ble_eq_true rfl) (by omega) (fun r h' hr => ?_)
          obtain ⟨he9, rfl⟩ := hr
          rw [he9]
          clear he9 h'
          show V _ _ _ (9 + 3) _ (_ :: _) _
          refine v_goto hC (pc := 12) (tgt := 16) dX2_takeLine_12 (by decide) ?_
          refine v_istore_n hC (pc := 16) (l' := [(1, _), (0, _)]) dX2_takeLine_16 (by decide) rfl ?_
          refine v_iload_n hC (pc := 17) (k := 1) 0 rfl dX2_takeLine_17 ?_
          refine v_tabIn hC (pc := 18) (tgt := 69) dX2_takeLine_18 (by decide) (by decide) (off := 51) (by decide) (by decide) ?_
          refine v_aload_n hC (pc := 69) (k := 0) 1 rfl dX2_takeLine_69 ?_
          refine v_iload_n hC (pc := 70) (k := 1) 0 rfl dX2_takeLine_70 ?_
          refine v_iconst hC (pc := 71) (v := 0) (by decide) dX2_takeLine_71 ?_
          refine v_callV hC (pc := 72) (As := [_, _]) dX2_takeLine_72 rfl (t_takeStreet _ _ (d := d - 1) (by omega) ht htp hT hT0 _ hS hq7 (s := 0) (by decide)) cv_X2_120 rfl (by decide) rfl (by first | rfl | exact ok_c hq rfl | exact ok_w hq hw | exact ok_w (by omega) (by omega) | exact ok_s (by omega) (by omega) | exact ok_c (by omega) rfl | assumption) (Nat.le_of_ble_eq_true rfl) (by omega) (fun r h' hr => ?_)
          have hr2 : TKP t h0 h' (tkS T t a) r := by
            rw [tk_plain hkk (by decide)]
            exact hr
          obtain ⟨v9, rfl, hv9⟩ := TKP_r hr2
          clear hr
          show V _ _ _ (72 + 3) _ (_ :: _) _
          refine v_zret hC hX (pc := 75) dX2_takeLine_75 (nar_b hv9) ?_
          exact hr2
      · have hkk : kkN T t a.1 = 1 := (iteP_t hk).trans (lr_of (i := 2) (by decide) hwi)
        refine v_aload_n hC (pc := 0) (k := 0) 0 rfl dX2_takeLine_0 ?_
        refine v_getI hC (pc := 1) dX2_takeLine_1 fl_X2_48 rfl (by first | rfl | exact ok_c hq rfl | exact ok_w hq hw | exact ok_w (by omega) (by omega) | exact ok_s (by omega) (by omega) | exact ok_c (by omega) rfl | assumption) rfl (by decide) (by decide) ?_
        rw [hq6]
        refine v_iconst hC (pc := 4) (v := 1) (by decide) dX2_takeLine_4 ?_
        refine v_icmp_ne hC (pc := 5) (tgt := 15) dX2_takeLine_5 (by decide) (fun c_5 => ?_) (fun c_5 => ?_)
        · exact absurd ((kC_eq (K := 1) (tK_le T t a.1) (by decide) (by decide)).mpr hk) c_5
        · skip
          refine v_aload_n hC (pc := 8) (k := 0) 0 rfl dX2_takeLine_8 ?_
          refine v_callV hC (pc := 9) (As := []) dX2_takeLine_9 rfl (t_low_i _ _ (d := d - 1) (by omega) _ ht (hE.2.2 1 (by decide) |>.trans htp) ((hE.1 (1, 0, 3) (by decide) (by decide) nC3).trans hT) hp hq7 ha (i := 2) (by decide) hwi) cv_X2_114 rfl (by decide) rfl (by first | rfl | exact ok_c hq rfl | exact ok_w hq hw | exact ok_w (by omega) (by omega) | exact ok_s (by omega) (by omega) | exact ok_c (by omega) rfl | assumption) (Nat.le_of_ble_eq_true rfl) (by omega) (fun r h' hr => ?_)
          obtain ⟨he9, rfl⟩ := hr
          rw [he9]
          clear he9 h'
          show V _ _ _ (9 + 3) _ (_ :: _) _
          refine v_goto hC (pc := 12) (tgt := 16) dX2_takeLine_12 (by decide) ?_
          refine v_istore_n hC (pc := 16) (l' := [(1, _), (0, _)]) dX2_takeLine_16 (by decide) rfl ?_
          refine v_iload_n hC (pc := 17) (k := 1) 0 rfl dX2_takeLine_17 ?_
          refine v_tabIn hC (pc := 18) (tgt := 76) dX2_takeLine_18 (by decide) (by decide) (off := 58) (by decide) (by decide) ?_
          refine v_aload_n hC (pc := 76) (k := 0) 1 rfl dX2_takeLine_76 ?_
          refine v_iload_n hC (pc := 77) (k := 1) 0 rfl dX2_takeLine_77 ?_
          refine v_iconst hC (pc := 78) (v := 1) (by decide) dX2_takeLine_78 ?_
          refine v_callV hC (pc := 79) (As := [_, _]) dX2_takeLine_79 rfl (t_takeStreet _ _ (d := d - 1) (by omega) ht htp hT hT0 _ hS hq7 (s := 1) (by decide)) cv_X2_120 rfl (by decide) rfl (by first | rfl | exact ok_c hq rfl | exact ok_w hq hw | exact ok_w (by omega) (by omega) | exact ok_s (by omega) (by omega) | exact ok_c (by omega) rfl | assumption) (Nat.le_of_ble_eq_true rfl) (by omega) (fun r h' hr => ?_)
          have hr2 : TKP t h0 h' (tkS T t a) r := by
            rw [tk_plain hkk (by decide)]
            exact hr
          obtain ⟨v9, rfl, hv9⟩ := TKP_r hr2
          clear hr
          show V _ _ _ (79 + 3) _ (_ :: _) _
          refine v_zret hC hX (pc := 82) dX2_takeLine_82 (nar_b hv9) ?_
          exact hr2
      · have hkk : kkN T t a.1 = 5 := (iteP_t hk).trans (lr_of (i := 3) (by decide) hwi)
        refine v_aload_n hC (pc := 0) (k := 0) 0 rfl dX2_takeLine_0 ?_
        refine v_getI hC (pc := 1) dX2_takeLine_1 fl_X2_48 rfl (by first | rfl | exact ok_c hq rfl | exact ok_w hq hw | exact ok_w (by omega) (by omega) | exact ok_s (by omega) (by omega) | exact ok_c (by omega) rfl | assumption) rfl (by decide) (by decide) ?_
        rw [hq6]
        refine v_iconst hC (pc := 4) (v := 1) (by decide) dX2_takeLine_4 ?_
        refine v_icmp_ne hC (pc := 5) (tgt := 15) dX2_takeLine_5 (by decide) (fun c_5 => ?_) (fun c_5 => ?_)
        · exact absurd ((kC_eq (K := 1) (tK_le T t a.1) (by decide) (by decide)).mpr hk) c_5
        · skip
          refine v_aload_n hC (pc := 8) (k := 0) 0 rfl dX2_takeLine_8 ?_
          refine v_callV hC (pc := 9) (As := []) dX2_takeLine_9 rfl (t_low_i _ _ (d := d - 1) (by omega) _ ht (hE.2.2 1 (by decide) |>.trans htp) ((hE.1 (1, 0, 3) (by decide) (by decide) nC3).trans hT) hp hq7 ha (i := 3) (by decide) hwi) cv_X2_114 rfl (by decide) rfl (by first | rfl | exact ok_c hq rfl | exact ok_w hq hw | exact ok_w (by omega) (by omega) | exact ok_s (by omega) (by omega) | exact ok_c (by omega) rfl | assumption) (Nat.le_of_ble_eq_true rfl) (by omega) (fun r h' hr => ?_)
          obtain ⟨he9, rfl⟩ := hr
          rw [he9]
          clear he9 h'
          show V _ _ _ (9 + 3) _ (_ :: _) _
          refine v_goto hC (pc := 12) (tgt := 16) dX2_takeLine_12 (by decide) ?_
          refine v_istore_n hC (pc := 16) (l' := [(1, _), (0, _)]) dX2_takeLine_16 (by decide) rfl ?_
          refine v_iload_n hC (pc := 17) (k := 1) 0 rfl dX2_takeLine_17 ?_
          refine v_tabIn hC (pc := 18) (tgt := 83) dX2_takeLine_18 (by decide) (by decide) (off := 65) (by decide) (by decide) ?_
          refine v_aload_n hC (pc := 83) (k := 0) 1 rfl dX2_takeLine_83 ?_
          refine v_callV hC (pc := 84) (As := []) dX2_takeLine_84 rfl (t_takeSign _ _ (d := d - 1) (by omega) ht htp hT hT0 _ hS hq7) cv_X2_123 rfl (by decide) rfl (by first | rfl | exact ok_c hq rfl | exact ok_w hq hw | exact ok_w (by omega) (by omega) | exact ok_s (by omega) (by omega) | exact ok_c (by omega) rfl | assumption) (Nat.le_of_ble_eq_true rfl) (by omega) (fun r h' hr => ?_)
          have hr2 : TKP t h0 h' (tkS T t a) r := by
            rw [tk_plain hkk (by decide)]
            exact hr
          obtain ⟨v9, rfl, hv9⟩ := TKP_r hr2
          clear hr
          show V _ _ _ (84 + 3) _ (_ :: _) _
          refine v_zret hC hX (pc := 87) dX2_takeLine_87 (nar_b hv9) ?_
          exact hr2
      · have hkk : kkN T t a.1 = 3 := (iteP_t hk).trans (lr_of (i := 4) (by decide) hwi)
        refine v_aload_n hC (pc := 0) (k := 0) 0 rfl dX2_takeLine_0 ?_
        refine v_getI hC (pc := 1) dX2_takeLine_1 fl_X2_48 rfl (by first | rfl | exact ok_c hq rfl | exact ok_w hq hw | exact ok_w (by omega) (by omega) | exact ok_s (by omega) (by omega) | exact ok_c (by omega) rfl | assumption) rfl (by decide) (by decide) ?_
        rw [hq6]
        refine v_iconst hC (pc := 4) (v := 1) (by decide) dX2_takeLine_4 ?_
        refine v_icmp_ne hC (pc := 5) (tgt := 15) dX2_takeLine_5 (by decide) (fun c_5 => ?_) (fun c_5 => ?_)
        · exact absurd ((kC_eq (K := 1) (tK_le T t a.1) (by decide) (by decide)).mpr hk) c_5
        · skip
          refine v_aload_n hC (pc := 8) (k := 0) 0 rfl dX2_takeLine_8 ?_
          refine v_callV hC (pc := 9) (As := []) dX2_takeLine_9 rfl (t_low_i _ _ (d := d - 1) (by omega) _ ht (hE.2.2 1 (by decide) |>.trans htp) ((hE.1 (1, 0, 3) (by decide) (by decide) nC3).trans hT) hp hq7 ha (i := 4) (by decide) hwi) cv_X2_114 rfl (by decide) rfl (by first | rfl | exact ok_c hq rfl | exact ok_w hq hw | exact ok_w (by omega) (by omega) | exact ok_s (by omega) (by omega) | exact ok_c (by omega) rfl | assumption) (Nat.le_of_ble_eq_true rfl) (by omega) (fun r h' hr => ?_)
          obtain ⟨he9, rfl⟩ := hr
          rw [he9]
          clear he9 h'
          show V _ _ _ (9 + 3) _ (_ :: _) _
          refine v_goto hC (pc := 12) (tgt := 16) dX2_takeLine_12 (by decide) ?_
          refine v_istore_n hC (pc := 16) (l' := [(1, _), (0, _)]) dX2_takeLine_16 (by decide) rfl ?_
          refine v_iload_n hC (pc := 17) (k := 1) 0 rfl dX2_takeLine_17 ?_
          refine v_tabIn hC (pc := 18) (tgt := 88) dX2_takeLine_18 (by decide) (by decide) (off := 70) (by decide) (by decide) ?_
          refine v_aload_n hC (pc := 88) (k := 0) 1 rfl dX2_takeLine_88 ?_
          refine v_callV hC (pc := 89) (As := []) dX2_takeLine_89 rfl (t_takeHour _ _ (d := d - 1) (by omega) ht htp hT hT0 _ hS hq7 hW.2.1.1) cv_X2_126 rfl (by decide) rfl (by first | rfl | exact ok_c hq rfl | exact ok_w hq hw | exact ok_w (by omega) (by omega) | exact ok_s (by omega) (by omega) | exact ok_c (by omega) rfl | assumption) (Nat.le_of_ble_eq_true rfl) (by omega) (fun r h' hr => ?_)
          have hr2 : TKP t h0 h' (tkS T t a) r := by
            rw [tk_told hkk (by decide)]
            exact hr
          obtain ⟨v9, rfl, hv9⟩ := TKP_r hr2
          clear hr
          show V _ _ _ (89 + 3) _ (_ :: _) _
          refine v_zret hC hX (pc := 92) dX2_takeLine_92 (nar_b hv9) ?_
          exact hr2
      · have hkk : kkN T t a.1 = 6 := (iteP_t hk).trans (lr_of (i := 5) (by decide) hwi)
        refine v_aload_n hC (pc := 0) (k := 0) 0 rfl dX2_takeLine_0 ?_
        refine v_getI hC (pc := 1) dX2_takeLine_1 fl_X2_48 rfl (by first | rfl | exact ok_c hq rfl | exact ok_w hq hw | exact ok_w (by omega) (by omega) | exact ok_s (by omega) (by omega) | exact ok_c (by omega) rfl | assumption) rfl (by decide) (by decide) ?_
        rw [hq6]
        refine v_iconst hC (pc := 4) (v := 1) (by decide) dX2_takeLine_4 ?_
        refine v_icmp_ne hC (pc := 5) (tgt := 15) dX2_takeLine_5 (by decide) (fun c_5 => ?_) (fun c_5 => ?_)
        · exact absurd ((kC_eq (K := 1) (tK_le T t a.1) (by decide) (by decide)).mpr hk) c_5
        · skip
          refine v_aload_n hC (pc := 8) (k := 0) 0 rfl dX2_takeLine_8 ?_
          refine v_callV hC (pc := 9) (As := []) dX2_takeLine_9 rfl (t_low_i _ _ (d := d - 1) (by omega) _ ht (hE.2.2 1 (by decide) |>.trans htp) ((hE.1 (1, 0, 3) (by decide) (by decide) nC3).trans hT) hp hq7 ha (i := 5) (by decide) hwi) cv_X2_114 rfl (by decide) rfl (by first | rfl | exact ok_c hq rfl | exact ok_w hq hw | exact ok_w (by omega) (by omega) | exact ok_s (by omega) (by omega) | exact ok_c (by omega) rfl | assumption) (Nat.le_of_ble_eq_true rfl) (by omega) (fun r h' hr => ?_)
          obtain ⟨he9, rfl⟩ := hr
          rw [he9]
          clear he9 h'
          show V _ _ _ (9 + 3) _ (_ :: _) _
          refine v_goto hC (pc := 12) (tgt := 16) dX2_takeLine_12 (by decide) ?_
          refine v_istore_n hC (pc := 16) (l' := [(1, _), (0, _)]) dX2_takeLine_16 (by decide) rfl ?_
          refine v_iload_n hC (pc := 17) (k := 1) 0 rfl dX2_takeLine_17 ?_
          refine v_tabIn hC (pc := 18) (tgt := 93) dX2_takeLine_18 (by decide) (by decide) (off := 75) (by decide) (by decide) ?_
          refine v_aload_n hC (pc := 93) (k := 0) 1 rfl dX2_takeLine_93 ?_
          refine v_iconst hC (pc := 94) (v := 0) (by decide) dX2_takeLine_94 ?_
          refine v_callV hC (pc := 95) (As := [_]) dX2_takeLine_95 rfl (t_takeWalker _ _ (d := d - 1) (by omega) ht htp hT hT0 _ hS hq7 hn4 hn81 (Or.inl rfl)) cv_X2_129 rfl (by decide) rfl (by first | rfl | exact ok_c hq rfl | exact ok_w hq hw | exact ok_w (by omega) (by omega) | exact ok_s (by omega) (by omega) | exact ok_c (by omega) rfl | assumption) (Nat.le_of_ble_eq_true rfl) (by omega) (fun r h' hr => ?_)
          have hr2 : TKP t h0 h' (tkS T t a) r := by
            rw [tk_walk hkk (by decide), hlw6]
            exact hr
          obtain ⟨v9, rfl, hv9⟩ := TKP_r hr2
          clear hr
          show V _ _ _ (95 + 3) _ (_ :: _) _
          refine v_zret hC hX (pc := 98) dX2_takeLine_98 (nar_b hv9) ?_
          exact hr2
      · have hkk : kkN T t a.1 = 7 := (iteP_t hk).trans (lr_of (i := 6) (by decide) hwi)
        refine v_aload_n hC (pc := 0) (k := 0) 0 rfl dX2_takeLine_0 ?_
        refine v_getI hC (pc := 1) dX2_takeLine_1 fl_X2_48 rfl (by first | rfl | exact ok_c hq rfl | exact ok_w hq hw | exact ok_w (by omega) (by omega) | exact ok_s (by omega) (by omega) | exact ok_c (by omega) rfl | assumption) rfl (by decide) (by decide) ?_
        rw [hq6]
        refine v_iconst hC (pc := 4) (v := 1) (by decide) dX2_takeLine_4 ?_
        refine v_icmp_ne hC (pc := 5) (tgt := 15) dX2_takeLine_5 (by decide) (fun c_5 => ?_) (fun c_5 => ?_)
        · exact absurd ((kC_eq (K := 1) (tK_le T t a.1) (by decide) (by decide)).mpr hk) c_5
        · skip
          refine v_aload_n hC (pc := 8) (k := 0) 0 rfl dX2_takeLine_8 ?_
          refine v_callV hC (pc := 9) (As := []) dX2_takeLine_9 rfl (t_low_i _ _ (d := d - 1) (by omega) _ ht (hE.2.2 1 (by decide) |>.trans htp) ((hE.1 (1, 0, 3) (by decide) (by decide) nC3).trans hT) hp hq7 ha (i := 6) (by decide) hwi) cv_X2_114 rfl (by decide) rfl (by first | rfl | exact ok_c hq rfl | exact ok_w hq hw | exact ok_w (by omega) (by omega) | exact ok_s (by omega) (by omega) | exact ok_c (by omega) rfl | assumption) (Nat.le_of_ble_eq_true rfl) (by omega) (fun r h' hr => ?_)
          obtain ⟨he9, rfl⟩ := hr
          rw [he9]
          clear he9 h'
          show V _ _ _ (9 + 3) _ (_ :: _) _
          refine v_goto hC (pc := 12) (tgt := 16) dX2_takeLine_12 (by decide) ?_
          refine v_istore_n hC (pc := 16) (l' := [(1, _), (0, _)]) dX2_takeLine_16 (by decide) rfl ?_
          refine v_iload_n hC (pc := 17) (k := 1) 0 rfl dX2_takeLine_17 ?_
          refine v_tabIn hC (pc := 18) (tgt := 99) dX2_takeLine_18 (by decide) (by decide) (off := 81) (by decide) (by decide) ?_
          refine v_aload_n hC (pc := 99) (k := 0) 1 rfl dX2_takeLine_99 ?_
          refine v_iconst hC (pc := 100) (v := 1) (by decide) dX2_takeLine_100 ?_
          refine v_callV hC (pc := 101) (As := [_]) dX2_takeLine_101 rfl (t_takeWalker _ _ (d := d - 1) (by omega) ht htp hT hT0 _ hS hq7 hn4 hn81 (Or.inr rfl)) cv_X2_129 rfl (by decide) rfl (by first | rfl | exact ok_c hq rfl | exact ok_w hq hw | exact ok_w (by omega) (by omega) | exact ok_s (by omega) (by omega) | exact ok_c (by omega) rfl | assumption) (Nat.le_of_ble_eq_true rfl) (by omega) (fun r h' hr => ?_)
          have hr2 : TKP t h0 h' (tkS T t a) r := by
            rw [tk_walk hkk (by decide), hlw7]
            exact hr
          obtain ⟨v9, rfl, hv9⟩ := TKP_r hr2
          clear hr
          show V _ _ _ (101 + 3) _ (_ :: _) _
          refine v_zret hC hX (pc := 104) dX2_takeLine_104 (nar_b hv9) ?_
          exact hr2
      · have hkk : kkN T t a.1 = 4 := (iteP_t hk).trans (lr_of (i := 7) (by decide) hwi)
        refine v_aload_n hC (pc := 0) (k := 0) 0 rfl dX2_takeLine_0 ?_
        refine v_getI hC (pc := 1) dX2_takeLine_1 fl_X2_48 rfl (by first | rfl | exact ok_c hq rfl | exact ok_w hq hw | exact ok_w (by omega) (by omega) | exact ok_s (by omega) (by omega) | exact ok_c (by omega) rfl | assumption) rfl (by decide) (by decide) ?_
        rw [hq6]
        refine v_iconst hC (pc := 4) (v := 1) (by decide) dX2_takeLine_4 ?_
        refine v_icmp_ne hC (pc := 5) (tgt := 15) dX2_takeLine_5 (by decide) (fun c_5 => ?_) (fun c_5 => ?_)
        · exact absurd ((kC_eq (K := 1) (tK_le T t a.1) (by decide) (by decide)).mpr hk) c_5
        · skip
          refine v_aload_n hC (pc := 8) (k := 0) 0 rfl dX2_takeLine_8 ?_
          refine v_callV hC (pc := 9) (As := []) dX2_takeLine_9 rfl (t_low_i _ _ (d := d - 1) (by omega) _ ht (hE.2.2 1 (by decide) |>.trans htp) ((hE.1 (1, 0, 3) (by decide) (by decide) nC3).trans hT) hp hq7 ha (i := 7) (by decide) hwi) cv_X2_114 rfl (by decide) rfl (by first | rfl | exact ok_c hq rfl | exact ok_w hq hw | exact ok_w (by omega) (by omega) | exact ok_s (by omega) (by omega) | exact ok_c (by omega) rfl | assumption) (Nat.le_of_ble_eq_true rfl) (by omega) (fun r h' hr => ?_)
          obtain ⟨he9, rfl⟩ := hr
          rw [he9]
          clear he9 h'
          show V _ _ _ (9 + 3) _ (_ :: _) _
          refine v_goto hC (pc := 12) (tgt := 16) dX2_takeLine_12 (by decide) ?_
          refine v_istore_n hC (pc := 16) (l' := [(1, _), (0, _)]) dX2_takeLine_16 (by decide) rfl ?_
          refine v_iload_n hC (pc := 17) (k := 1) 0 rfl dX2_takeLine_17 ?_
          refine v_tabIn hC (pc := 18) (tgt := 105) dX2_takeLine_18 (by decide) (by decide) (off := 87) (by decide) (by decide) ?_
          refine v_aload_n hC (pc := 105) (k := 0) 1 rfl dX2_takeLine_105 ?_
          refine v_callV hC (pc := 106) (As := []) dX2_takeLine_106 rfl (t_takeGloves _ _ (d := d - 1) (by omega) ht htp hT hT0 _ hS hq7 hW.2.1.1) cv_X2_133 rfl (by decide) rfl (by first | rfl | exact ok_c hq rfl | exact ok_w hq hw | exact ok_w (by omega) (by omega) | exact ok_s (by omega) (by omega) | exact ok_c (by omega) rfl | assumption) (Nat.le_of_ble_eq_true rfl) (by omega) (fun r h' hr => ?_)
          have hr2 : TKP t h0 h' (tkS T t a) r := by
            rw [tk_told hkk (by decide)]
            exact hr
          obtain ⟨v9, rfl, hv9⟩ := TKP_r hr2
          clear hr
          show V _ _ _ (106 + 3) _ (_ :: _) _
          refine v_zret hC hX (pc := 109) dX2_takeLine_109 (nar_b hv9) ?_
          exact hr2
    · have hw : ∀ j, j < 8 → ¬ isL T t a.1 (wdL j) := fun j hj z => hex ⟨j, hj, z⟩
      refine v_aload_n hC (pc := 0) (k := 0) 0 rfl dX2_takeLine_0 ?_
      refine v_getI hC (pc := 1) dX2_takeLine_1 fl_X2_48 rfl (by first | rfl | exact ok_c hq rfl | exact ok_w hq hw | exact ok_w (by omega) (by omega) | exact ok_s (by omega) (by omega) | exact ok_c (by omega) rfl | assumption) rfl (by decide) (by decide) ?_
      rw [hq6]
      refine v_iconst hC (pc := 4) (v := 1) (by decide) dX2_takeLine_4 ?_
      refine v_icmp_ne hC (pc := 5) (tgt := 15) dX2_takeLine_5 (by decide) (fun c_5 => ?_) (fun c_5 => ?_)
      · exact absurd ((kC_eq (K := 1) (tK_le T t a.1) (by decide) (by decide)).mpr hk) c_5
      · skip
        refine v_aload_n hC (pc := 8) (k := 0) 0 rfl dX2_takeLine_8 ?_
        refine v_callV hC (pc := 9) (As := []) dX2_takeLine_9 rfl (t_low_n _ _ (d := d - 1) (by omega) _ ht (hE.2.2 1 (by decide) |>.trans htp) ((hE.1 (1, 0, 3) (by decide) (by decide) nC3).trans hT) hp hq7 ha hw) cv_X2_114 rfl (by decide) rfl (by first | rfl | exact ok_c hq rfl | exact ok_w hq hw | exact ok_w (by omega) (by omega) | exact ok_s (by omega) (by omega) | exact ok_c (by omega) rfl | assumption) (Nat.le_of_ble_eq_true rfl) (by omega) (fun r h' hr => ?_)
        obtain ⟨he9, rfl⟩ := hr
        rw [he9]
        clear he9 h'
        show V _ _ _ (9 + 3) _ (_ :: _) _
        refine v_goto hC (pc := 12) (tgt := 16) dX2_takeLine_12 (by decide) ?_
        refine v_istore_n hC (pc := 16) (l' := [(1, _), (0, _)]) dX2_takeLine_16 (by decide) rfl ?_
        refine v_iload_n hC (pc := 17) (k := 1) 0 rfl dX2_takeLine_17 ?_
        refine v_tabOut hC (pc := 18) (tgt := 110) dX2_takeLine_18 (by decide +kernel) (by decide) ?_
        refine v_aload_n hC (pc := 110) (k := 0) 1 rfl dX2_takeLine_110 ?_
        refine v_iconst hC (pc := 111) (v := 2) (by decide) dX2_takeLine_111 ?_
        refine v_aload_n hC (pc := 112) (k := 0) 1 rfl dX2_takeLine_112 ?_
        refine v_getI hC (pc := 113) dX2_takeLine_113 fl_X2_72 rfl (by first | rfl | exact ok_c hq rfl | exact ok_w hq hw | exact ok_w (by omega) (by omega) | exact ok_s (by omega) (by omega) | exact ok_c (by omega) rfl | assumption) rfl (by decide) (by decide) ?_
        refine v_callV hC (pc := 116) (As := [_, _]) dX2_takeLine_116 rfl (t_refuse _ _ (d := d - 1) (by omega) _ _ _) cv_X2_64 rfl (by decide) rfl (by first | rfl | exact ok_c hq rfl | exact ok_w hq hw | exact ok_w (by omega) (by omega) | exact ok_s (by omega) (by omega) | exact ok_c (by omega) rfl | assumption) (Nat.le_of_ble_eq_true rfl) (by omega) (fun r h' hr => ?_)
        obtain ⟨he9, rfl⟩ := hr
        rw [he9]
        clear he9 h'
        show V _ _ _ (116 + 3) _ (_ :: _) _
        refine v_zret hC hX (pc := 119) dX2_takeLine_119 (nar_b (by first | exact Or.inl rfl | exact Or.inr rfl | exact bI_01 _)) ?_
        rw [tk_8 (show kkN T t a.1 = 8 from (iteP_t hk).trans (lr_no hw))]
        exact ⟨rfl, CE_F hE (FrR_rf (FrR_r h)), rfH_2 _ _ _, (rfH_3 _ _ _).trans hq7⟩
  · skip
    refine v_aload_n hC (pc := 0) (k := 0) 0 rfl dX2_takeLine_0 ?_
    refine v_getI hC (pc := 1) dX2_takeLine_1 fl_X2_48 rfl (by first | rfl | exact ok_c hq rfl | exact ok_w hq hw | exact ok_w (by omega) (by omega) | exact ok_s (by omega) (by omega) | exact ok_c (by omega) rfl | assumption) rfl (by decide) (by decide) ?_
    rw [hq6]
    refine v_iconst hC (pc := 4) (v := 1) (by decide) dX2_takeLine_4 ?_
    refine v_icmp_ne hC (pc := 5) (tgt := 15) dX2_takeLine_5 (by decide) (fun c_5 => ?_) (fun c_5 => ?_)
    · skip
      refine v_iconst hC (pc := 15) (v := (-1)) (by decide) dX2_takeLine_15 ?_
      refine v_istore_n hC (pc := 16) (l' := [(1, _), (0, _)]) dX2_takeLine_16 (by decide) rfl ?_
      refine v_iload_n hC (pc := 17) (k := 1) 0 rfl dX2_takeLine_17 ?_
      refine v_tabOut hC (pc := 18) (tgt := 110) dX2_takeLine_18 (by decide +kernel) (by decide) ?_
      refine v_aload_n hC (pc := 110) (k := 0) 1 rfl dX2_takeLine_110 ?_
      refine v_iconst hC (pc := 111) (v := 2) (by decide) dX2_takeLine_111 ?_
      refine v_aload_n hC (pc := 112) (k := 0) 1 rfl dX2_takeLine_112 ?_
      refine v_getI hC (pc := 113) dX2_takeLine_113 fl_X2_72 rfl (by first | rfl | exact ok_c hq rfl | exact ok_w hq hw | exact ok_w (by omega) (by omega) | exact ok_s (by omega) (by omega) | exact ok_c (by omega) rfl | assumption) rfl (by decide) (by decide) ?_
      refine v_callV hC (pc := 116) (As := [_, _]) dX2_takeLine_116 rfl (t_refuse _ _ (d := d - 1) (by omega) _ _ _) cv_X2_64 rfl (by decide) rfl (by first | rfl | exact ok_c hq rfl | exact ok_w hq hw | exact ok_w (by omega) (by omega) | exact ok_s (by omega) (by omega) | exact ok_c (by omega) rfl | assumption) (Nat.le_of_ble_eq_true rfl) (by omega) (fun r h' hr => ?_)
      obtain ⟨he9, rfl⟩ := hr
      rw [he9]
      clear he9 h'
      show V _ _ _ (116 + 3) _ (_ :: _) _
      refine v_zret hC hX (pc := 119) dX2_takeLine_119 (nar_b (by first | exact Or.inl rfl | exact Or.inr rfl | exact bI_01 _)) ?_
      rw [tk_8 (show kkN T t a.1 = 8 from iteP_f hk)]
      exact ⟨rfl, CE_F hE (FrR_rf (FrR_r h)), rfH_2 _ _ _, (rfH_3 _ _ _).trans hq7⟩
    · exact absurd ((kC_eq (K := 1) (tK_le T t a.1) (by decide) (by decide)).mp c_5) hk

