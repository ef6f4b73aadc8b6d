/-! THE TEXT: streets and routes, as the reference reads them -/
section TX
variable (T : Nat → Int32) (t : Nat)
noncomputable def strS (s : Nat) (a : PA) : Sum PE PA := mpE (bdE (mpE (corS T t (a.2 (83 + s)) a) (fun D => upd D (83 + s) (D (83 + s) ||| (1 <<< (tV T t a.1 &&& 31))))) (corS T t 0)) (fun D => upd D (8 * s + (tV T t a.1).toNatClampNeg) (tV T t (tE T t a.1)))
/-- all letters of a route are such -/
def lrP (a : PA) : Prop := ∀ i, i < tE T t a.1 - tF T t a.1 → T (tF T t a.1 + i) = 108 ∨ T (tF T t a.1 + i) = 114
def rtN (f n : Nat) : Int32 := itN (fun i a => a ||| (bI (T (f + i) = 114) <<< (nI i &&& 31))) n 0
noncomputable def rouS (a : PA) : Sum PE PA := iteP (tB T t a.1) (.inl (1, tF T t a.1)) (iteP (tK T t a.1 = 1) (iteP (tE T t a.1 - tF T t a.1 ≤ 10) (iteP (lrP T t a) (.inr (tE T t a.1, a.2)) (.inl (3, tF T t a.1))) (.inl (3, tF T t a.1))) (.inl (2, tF T t a.1)))
end TX
theorem rsp_mp {T : Nat → Int32} {t : Nat} {g : PA → Sum PE PA} {f : PA → (Nat → Int32) → (Nat → Int32)} (h : rspE T t g) : rspE T t (fun a => mpE (g a) (f a)) := fun a z => by
  show mpE (g a) (f a) = _
  rw [h a z]; rfl
theorem rsp_str (T : Nat → Int32) (t s : Nat) : rspE T t (strS T t s) := fun a z => by
  unfold strS
  rw [rsp_cor T t _ a z]; rfl
theorem rsp_rou (T : Nat → Int32) (t : Nat) : rspE T t (rouS T t) := fun _ h => iteP_t h
theorem cor_pos {T : Nat → Int32} {t : Nat} {s : Int32} {a b : PA} (h : corS T t s a = .inr b) : b.1 = tE T t a.1 ∧ ¬ tB T t a.1 := by
  unfold corS at h
  rcases Classical.em (tB T t a.1) with hb | hb
  · rw [rsp_num T t 0 7 a hb] at h; cases h
  · refine ⟨?_, hb⟩
    by_cases hk : tK T t a.1 = 2
    · by_cases hv : ¬ tV T t a.1 < 0 ∧ ¬ 7 < tV T t a.1
      · rw [numS_o hb hk hv] at h
        change iteP _ _ _ = _ at h
        rcases Classical.em ((s >>> (tV T t a.1 &&& 31)) &&& 1 = 0) with q | q
        · rw [iteP_t q] at h; cases h; rfl
        · rw [iteP_f q] at h; cases h
      · rw [numS_r hb hk hv] at h; cases h
    · rw [numS_s hb hk] at h; cases h
/-- the state behind a change, a fault having come -/
theorem RS_mf {T : Nat → Int32} {t : Nat} {h0 h u : HP} {x : Sum PE PA} (f : (Nat → Int32) → (Nat → Int32)) (hx : RS T t h0 h x) (hf : ¬ h.1 (3, 0, 0) 17 = 0) (hE : RE h0 u) (h17 : u.1 (3, 0, 0) 17 = h.1 (3, 0, 0) 17) (h18 : u.1 (3, 0, 0) 18 = h.1 (3, 0, 0) 18) : RS T t h0 u (mpE x f) := by
  rcases x with e | a
  · exact ⟨hE, h17.trans hx.2.1, hx.2.2.1, h18.trans hx.2.2.2⟩
  · rcases hx with ⟨z1, z2⟩ | z
    · exact Or.inl ⟨z1, hE, h17.trans z2.2.1, z2.2.2.1, h18.trans z2.2.2.2⟩
    · exact absurd z.2.2.2.2.1 hf
theorem GoS_tc {T : Nat → Int32} {t : Nat} {h0 h : HP} {a : PA} (hG : GoS T t h0 h a) {s : Nat} (hs : s < 2) : h.1 (3, 0, 10) s = a.2 (83 + s) := by
  rcases (show s = 0 ∨ s = 1 by omega) with rfl | rfl
  · exact hG.2.2.2.1.2.2.2.2.1
  · exact hG.2.2.2.1.2.2.2.2.2.1
theorem m_corX (l9 : Launch) (G : WT) {d : Nat} (hd : 3 ≤ d) {T : Nat → Int32} {t : Nat} {h0 : HP} (ht : t ≤ 160) (htp : h0.1 (3, 0, 0) 12 = nI t) (hT : h0.1 (3, 0, 12) = T) (hT0 : ∀ j, j < t → ¬ T j < 0) (h : HP) (x : Sum PE PA) (hx : RS T t h0 h x) (some9 : Int32) : MS l9 G yX7_readCornerBut cX7_readCornerBut 3 (some .int) d [vr (3, 0, 0), vi some9] h (fun r h1 => ∃ c, c < 8 ∧ r = some (vi (nI c)) ∧ RS T t h0 h1 (bdE x (corS T t some9)) ∧ ∀ a, x = .inr a → ∀ b, corS T t some9 a = .inr b → nI c = tV T t a.1) := m_cor l9 G hd ht htp hT hT0 h hx some9
theorem street_k {T : Nat → Int32} {t : Nat} {h0 h u1 : HP} {x : Sum PE PA} {s c : Nat} (hs : s < 2) (hc8 : c < 8) (hx : RS T t h0 h x) (hx1 : RS T t h0 u1 (bdE x (corS T t (h.1 (3, 0, 10) s)))) (hv1 : ∀ a, x = .inr a → ∀ b, corS T t (h.1 (3, 0, 10) s) a = .inr b → nI c = tV T t a.1) : bdE (mpE (bdE x (corS T t (h.1 (3, 0, 10) s))) (fun D => upd D (83 + s) (u1.1 (3, 0, 10) s ||| 1 <<< (nI c &&& 31)))) (corS T t 0) = bdE x (fun a => bdE (mpE (corS T t (a.2 (83 + s)) a) (fun D => upd D (83 + s) (D (83 + s) ||| (1 <<< (tV T t a.1 &&& 31))))) (corS T t 0)) := by
  rcases x with e9 | a
  · rfl
  · rcases Classical.em (tB T t a.1) with hb | hb
    · show bdE (mpE (corS T t _ a) _) _ = bdE (mpE (corS T t _ a) _) _
      rw [rsp_cor T t _ a hb, rsp_cor T t _ a hb]; rfl
    · have hG := hx.elim (fun z => absurd z.1 hb) id
      show bdE (mpE (corS T t _ a) _) _ = bdE (mpE (corS T t _ a) _) _
      rw [GoS_tc hG hs] at hx1 hv1 ⊢
      change RS T t h0 u1 (corS T t _ a) at hx1
      cases hcc : corS T t (a.2 (83 + s)) a with
      | inl e9 => rfl
      | inr b =>
        rw [hcc] at hx1
        show corS T t 0 (b.1, _) = corS T t 0 (b.1, _)
        rcases hx1 with ⟨z1, _⟩ | z
        · have r9 := fun D => rsp_cor T t 0 (b.1, D) z1
          simp only [r9]
        · rw [GoS_tc z hs, hv1 a rfl b hcc]
theorem street_f {T : Nat → Int32} {t : Nat} {h0 h u1 u2 : HP} {x : Sum PE PA} {s c e : Nat} (hs : s < 2) (hc8 : c < 8) (he8 : e < 8) (hx : RS T t h0 h x) (hx1 : RS T t h0 u1 (bdE x (corS T t (h.1 (3, 0, 10) s)))) (hv1 : ∀ a, x = .inr a → ∀ b, corS T t (h.1 (3, 0, 10) s) a = .inr b → nI c = tV T t a.1) (hx2 : RS T t h0 u2 (bdE (mpE (bdE x (corS T t (h.1 (3, 0, 10) s))) (fun D => upd D (83 + s) (u1.1 (3, 0, 10) s ||| 1 <<< (nI c &&& 31)))) (corS T t 0))) (hf : ¬ u2.1 (3, 0, 0) 17 = 0) (k : Nat) (v : Int32) : RS T t h0 (upI u2 (3, 0, 6) k v) (bdE x (strS T t s)) := by
  rw [street_k hs hc8 hx hx1 hv1] at hx2
  have q : (upI u2 (3, 0, 6) k v).1 (3, 0, 0) = u2.1 (3, 0, 0) := upI_ne _ _ _ (by decide)
  rcases x with e9 | a
  · exact RS_mf (fun D => D) hx2 hf (RE_d (RS_RE hx2)) (by rw [q]) (by rw [q])
  · exact RS_mf (fun D => upd D (8 * s + (tV T t a.1).toNatClampNeg) (tV T t (tE T t a.1))) hx2 hf (RE_d (RS_RE hx2)) (by rw [q]) (by rw [q])
theorem street_g {T : Nat → Int32} {t : Nat} {h0 h u1 u2 : HP} {x : Sum PE PA} {s c e : Nat} (hs : s < 2) (hc8 : c < 8) (he8 : e < 8) (hx : RS T t h0 h x) (hx1 : RS T t h0 u1 (bdE x (corS T t (h.1 (3, 0, 10) s)))) (hv1 : ∀ a, x = .inr a → ∀ b, corS T t (h.1 (3, 0, 10) s) a = .inr b → nI c = tV T t a.1) (hx2 : RS T t h0 u2 (bdE (mpE (bdE x (corS T t (h.1 (3, 0, 10) s))) (fun D => upd D (83 + s) (u1.1 (3, 0, 10) s ||| 1 <<< (nI c &&& 31)))) (corS T t 0))) (hv2 : ∀ a, (mpE (bdE x (corS T t (h.1 (3, 0, 10) s))) (fun D => upd D (83 + s) (u1.1 (3, 0, 10) s ||| 1 <<< (nI c &&& 31)))) = .inr a → ∀ b, corS T t 0 a = .inr b → nI e = tV T t a.1) (hf : u2.1 (3, 0, 0) 17 = 0) : RS T t h0 (upI u2 (3, 0, 6) (0 + 8 * s + c) (nI e)) (bdE x (strS T t s)) := by
  have key := street_k hs hc8 hx hx1 hv1
  obtain ⟨b2, e2, -⟩ := RS_g hx2 hf
  have hfin := RS_dr (k := 0 + 8 * s + c) (by omega) (nI e) hx2
  rw [key] at hfin
  rcases x with e9 | a
  · cases e2
  · show RS T t h0 _ (mpE _ (fun D => upd D (8 * s + (tV T t a.1).toNatClampNeg) (tV T t (tE T t a.1))))
    change bdE (mpE (corS T t _ a) _) _ = _ at e2
    cases hcc : corS T t (h.1 (3, 0, 10) s) a with
    | inl e9 => rw [hcc] at e2; cases e2
    | inr b =>
      have ec : nI c = tV T t a.1 := hv1 a rfl b hcc
      have ee : nI e = tV T t (tE T t a.1) := by
        rw [← (cor_pos hcc).1]
        rw [hcc] at e2
        refine hv2 (b.1, upd b.2 (83 + s) (u1.1 (3, 0, 10) s ||| 1 <<< (nI c &&& 31))) ?_ b2 e2
        show mpE (corS T t _ a) _ = _
        rw [hcc]; rfl
      have eF : (fun D => upd D (8 * s + (tV T t a.1).toNatClampNeg) (tV T t (tE T t a.1))) = (fun D => upd D (0 + 8 * s + c) (nI e)) := by
        rw [← ee, ← ec, nI_clamp (show c < 2 ^ 31 by omega), Nat.zero_add]
      rw [eF]
      exact hfin
set_option maxRecDepth 20000 in
set_option maxHeartbeats 2000000 in
theorem m_readStreet (l9 : Launch) (G : WT) {d : Nat} (hd : 4 ≤ d) {T : Nat → Int32} {t : Nat} {h0 : HP} (ht : t ≤ 160) (htp : h0.1 (3, 0, 0) 12 = nI t) (hT : h0.1 (3, 0, 12) = T) (hT0 : ∀ j, j < t → ¬ T j < 0) (h : HP) {x : Sum PE PA} (hx : RS T t h0 h x) {s : Nat} (hs : s < 2) : MS l9 G yX7_readStreet cX7_readStreet 4 none d [vr (3, 0, 0), vi (nI s)] h (fun r h1 => r = none ∧ RS T t h0 h1 (bdE x (strS T t s))) := by
  refine MS_of (by decide +kernel) (Nat.le_of_ble_eq_true rfl) (fun X hC hX => ?_)
  show V X G 4 0 _ [] _
  refine v_aload_n hC (pc := 0) (k := 0) 0 rfl dX7_readStreet_0 ?_
  refine v_aload_n hC (pc := 1) (k := 0) 0 rfl dX7_readStreet_1 ?_
  refine v_getR hC (pc := 2) dX7_readStreet_2 fl_X7_23 rfl (by first | rfl | exact ok_c hq rfl | exact ok_w hq hw | exact ok_w (by omega) (by omega) | exact ok_s (by omega) (by omega) | exact ok_c (by omega) rfl | assumption) rfl (by decide) (by decide) rfl ?_
  refine v_iload_n hC (pc := 5) (k := 1) 1 rfl dX7_readStreet_5 ?_
  try simp only [nL_0, nL_1, nL_2, nL_3, nL_4, nL_5, nL_6, nL_8, nL_16, nL_17, nL_18, nL_40, nL_42, nL_43, nL_47, nL_48, nL_64, nL_80, pk_mul, nI_add]
  refine v_iald hC (pc := 6) dX7_readStreet_6 rfl (by first | rfl | exact ok_c hq rfl | exact ok_w hq hw | exact ok_w (by omega) (by omega) | exact ok_s (by omega) (by omega) | exact ok_c (by omega) rfl | assumption) (vp_nat (by omega) (by decide)) ?_
  rw [nI_clamp (show s < 2 ^ 31 by omega)]
  refine v_callV hC (pc := 7) (As := [_]) dX7_readStreet_7 rfl (m_corX _ _ (d := d - 1) (by omega) ht htp hT hT0 _ (x) (hx) (h.1 (3, 0, 10) s)) cv_X7_144 rfl (by decide) rfl (by first | rfl | exact ok_c hq rfl | exact ok_w hq hw | exact ok_w (by omega) (by omega) | exact ok_s (by omega) (by omega) | exact ok_c (by omega) rfl | assumption) (Nat.le_of_ble_eq_true rfl) (by omega) (fun r h' hr => ?_)
  obtain ⟨c, hc8, rfl, hx1, hv1⟩ := hr
  generalize h' = u1 at hx1 ⊢
  show V _ _ _ (7 + 3) _ (_ :: _) _
  refine v_istore_n hC (pc := 10) (l' := [(2, _), (0, _), (1, _)]) dX7_readStreet_10 (by decide) rfl ?_
  refine v_aload_n hC (pc := 11) (k := 0) 1 rfl dX7_readStreet_11 ?_
  refine v_getR hC (pc := 12) dX7_readStreet_12 fl_X7_23 rfl (by first | rfl | exact ok_c hq rfl | exact ok_w hq hw | exact ok_w (by omega) (by omega) | exact ok_s (by omega) (by omega) | exact ok_c (by omega) rfl | assumption) rfl (by decide) (by decide) rfl ?_
  refine v_iload_n hC (pc := 15) (k := 1) 2 rfl dX7_readStreet_15 ?_
  refine v_dup2 hC (pc := 16) dX7_readStreet_16 ?_
  try simp only [nL_0, nL_1, nL_2, nL_3, nL_4, nL_5, nL_6, nL_8, nL_16, nL_17, nL_18, nL_40, nL_42, nL_43, nL_47, nL_48, nL_64, nL_80, pk_mul, nI_add]
  refine v_iald hC (pc := 17) dX7_readStreet_17 rfl (by first | rfl | exact ok_c hq rfl | exact ok_w hq hw | exact ok_w (by omega) (by omega) | exact ok_s (by omega) (by omega) | exact ok_c (by omega) rfl | assumption) (vp_nat (by omega) (by decide)) ?_
  rw [nI_clamp (show s < 2 ^ 31 by omega)]
  refine v_iconst hC (pc := 18) (v := 1) (by decide) dX7_readStreet_18 ?_
  refine v_iload_n hC (pc := 19) (k := 2) 0 rfl dX7_readStreet_19 ?_
  refine v_ishl hC (pc := 20) dX7_readStreet_20 ?_
  refine v_ior hC (pc := 21) dX7_readStreet_21 ?_
  try simp only [nL_0, nL_1, nL_2, nL_3, nL_4, nL_5, nL_6, nL_8, nL_16, nL_17, nL_18, nL_40, nL_42, nL_43, nL_47, nL_48, nL_64, nL_80, pk_mul, nI_add]
  refine v_iast hC (pc := 22) dX7_readStreet_22 rfl (by first | rfl | exact ok_c hq rfl | exact ok_w hq hw | exact ok_w (by omega) (by omega) | exact ok_s (by omega) (by omega) | exact ok_c (by omega) rfl | assumption) (vp_nat (by omega) (by decide)) ?_
  rw [nI_clamp (show s < 2 ^ 31 by omega)]
  refine v_aload_n hC (pc := 23) (k := 0) 1 rfl dX7_readStreet_23 ?_
  refine v_iconst hC (pc := 24) (v := 0) (by decide) dX7_readStreet_24 ?_
  refine v_callV hC (pc := 25) (As := [_]) dX7_readStreet_25 rfl (m_corX _ _ (d := d - 1) (by omega) ht htp hT hT0 _ (mpE (bdE x (corS T t (h.1 (3, 0, 10) s))) (fun D => upd D (83 + s) (u1.1 (3, 0, 10) s ||| 1 <<< (nI c &&& 31)))) (RS_tc hs _ hx1) (0)) cv_X7_144 rfl (by decide) rfl (by first | rfl | exact ok_c hq rfl | exact ok_w hq hw | exact ok_w (by omega) (by omega) | exact ok_s (by omega) (by omega) | exact ok_c (by omega) rfl | assumption) (Nat.le_of_ble_eq_true rfl) (by omega) (fun r h' hr => ?_)
  obtain ⟨e, he8, rfl, hx2, hv2⟩ := hr
  generalize h' = u2 at hx2 ⊢
  show V _ _ _ (25 + 3) _ (_ :: _) _
  refine v_istore_n hC (pc := 28) (l' := [(3, _), (2, _), (0, _), (1, _)]) dX7_readStreet_28 (by decide) rfl ?_
  refine v_aload_n hC (pc := 29) (k := 0) 2 rfl dX7_readStreet_29 ?_
  refine v_getR hC (pc := 30) dX7_readStreet_30 fl_X7_20 rfl (by first | rfl | exact ok_c hq rfl | exact ok_w hq hw | exact ok_w (by omega) (by omega) | exact ok_s (by omega) (by omega) | exact ok_c (by omega) rfl | assumption) rfl (by decide) (by decide) rfl ?_
  refine v_iconst hC (pc := 33) (v := 0) (by decide) dX7_readStreet_33 ?_
  refine v_bipush hC (pc := 34) (v := 8) (by decide +kernel) dX7_readStreet_34 ?_
  refine v_iload_n hC (pc := 36) (k := 1) 3 rfl dX7_readStreet_36 ?_
  refine v_imul hC (pc := 37) dX7_readStreet_37 ?_
  refine v_iadd hC (pc := 38) dX7_readStreet_38 ?_
  refine v_iload_n hC (pc := 39) (k := 2) 1 rfl dX7_readStreet_39 ?_
  refine v_iadd hC (pc := 40) dX7_readStreet_40 ?_
  refine v_aload_n hC (pc := 41) (k := 0) 2 rfl dX7_readStreet_41 ?_
  refine v_getI hC (pc := 42) dX7_readStreet_42 fl_X7_91 rfl (by first | rfl | exact ok_c hq rfl | exact ok_w hq hw | exact ok_w (by omega) (by omega) | exact ok_s (by omega) (by omega) | exact ok_c (by omega) rfl | assumption) rfl (by decide) (by decide) ?_
  refine v_if_ne hC (pc := 45) (tgt := 52) dX7_readStreet_45 (by decide) (fun c_45 => ?_) (fun c_45 => ?_)
  · skip
    refine v_bipush hC (pc := 52) (v := (-4)) (by decide +kernel) dX7_readStreet_52 ?_
    try simp only [nL_0, nL_1, nL_2, nL_3, nL_4, nL_5, nL_6, nL_8, nL_16, nL_17, nL_18, nL_40, nL_42, nL_43, nL_47, nL_48, nL_64, nL_80, pk_mul, nI_add]
    refine v_iast hC (pc := 54) dX7_readStreet_54 rfl (by first | rfl | exact ok_c hq rfl | exact ok_w hq hw | exact ok_w (by omega) (by omega) | exact ok_s (by omega) (by omega) | exact ok_c (by omega) rfl | assumption) (vp_nat (by omega) (by decide)) ?_
    rw [nI_clamp (show 0 + 8 * s + c < 2 ^ 31 by omega)]
    refine v_vret hC hX (pc := 55) dX7_readStreet_55 ?_
    first | exact ⟨rfl, street_f hs hc8 he8 hx hx1 hv1 hx2 c_45 _ _⟩ | exact ⟨rfl, street_g hs hc8 he8 hx hx1 hv1 hx2 hv2 c_45⟩
  · skip
    refine v_iload_n hC (pc := 48) (k := 3) 0 rfl dX7_readStreet_48 ?_
    refine v_goto hC (pc := 49) (tgt := 54) dX7_readStreet_49 (by decide) ?_
    try simp only [nL_0, nL_1, nL_2, nL_3, nL_4, nL_5, nL_6, nL_8, nL_16, nL_17, nL_18, nL_40, nL_42, nL_43, nL_47, nL_48, nL_64, nL_80, pk_mul, nI_add]
    refine v_iast hC (pc := 54) dX7_readStreet_54 rfl (by first | rfl | exact ok_c hq rfl | exact ok_w hq hw | exact ok_w (by omega) (by omega) | exact ok_s (by omega) (by omega) | exact ok_c (by omega) rfl | assumption) (vp_nat (by omega) (by decide)) ?_
    rw [nI_clamp (show 0 + 8 * s + c < 2 ^ 31 by omega)]
    refine v_vret hC hX (pc := 55) dX7_readStreet_55 ?_
    first | exact ⟨rfl, street_f hs hc8 he8 hx hx1 hv1 hx2 c_45 _ _⟩ | exact ⟨rfl, street_g hs hc8 he8 hx hx1 hv1 hx2 hv2 c_45⟩

theorem rt_t {T : Nat → Int32} {f i : Nat} (h : T (f + i) = 114) : rtN T f i ||| (flgF 1 <<< (nI i &&& 31)) = rtN T f (i + 1) := by
  show _ = rtN T f i ||| (bI (T (f + i) = 114) <<< (nI i &&& 31))
  rw [bI_t h]; rfl
theorem rt_f {T : Nat → Int32} {f i : Nat} (h : ¬ T (f + i) = 114) : rtN T f i ||| (flgF 0 <<< (nI i &&& 31)) = rtN T f (i + 1) := by
  show _ = rtN T f i ||| (bI (T (f + i) = 114) <<< (nI i &&& 31))
  rw [bI_f h]; rfl
set_option maxRecDepth 20000 in
set_option maxHeartbeats 2000000 in
theorem m_readRoute (l9 : Launch) (G : WT) {d : Nat} (hd : 3 ≤ d) {T : Nat → Int32} {t : Nat} {h0 : HP} (ht : t ≤ 160) (htp : h0.1 (3, 0, 0) 12 = nI t) (hT : h0.1 (3, 0, 12) = T) (hT0 : ∀ j, j < t → ¬ T j < 0) (h : HP) {x : Sum PE PA} (hx : RS T t h0 h x) : MS l9 G yX7_readRoute cX7_readRoute 5 (some .int) d [vr (3, 0, 0)] h (fun r h1 => ∃ v, r = some (vi v) ∧ RS T t h0 h1 (bdE x (rouS T t)) ∧ ∀ a, x = .inr a → ∀ b, rouS T t a = .inr b → v = rtN T (tF T t a.1) (tE T t a.1 - tF T t a.1)) := by
  refine MS_of (by decide +kernel) (Nat.le_of_ble_eq_true rfl) (fun X hC hX => ?_)
  show V X G 5 0 _ [] _
  by_cases hf0 : h.1 (3, 0, 0) 17 = 0
  · obtain ⟨a, rfl, hG⟩ := RS_g hx hf0
    obtain ⟨g1, g2, g3, g4, g5, g6, g7, g8, g9⟩ := id hG
    have hfE : tF T t a.1 ≤ tE T t a.1 := (tE_b g3).1
    have hE2 : tE T t a.1 ≤ t := (tE_b g3).2
    by_cases hk : tK T t a.1 = 1
    · by_cases hn : tE T t a.1 - tF T t a.1 ≤ 10
      · have OKX : lrP T t a → V X G 5 136 [(3, vi (nI (tE T t a.1 - tF T t a.1))), (2, vi (nI (tE T t a.1 - tF T t a.1))), (1, vi (rtN T (tF T t a.1) (tE T t a.1 - tF T t a.1))), (0, vr (3, 0, 0))] [] h := by
          intro hal
          refine v_aload_n hC (pc := 136) (k := 0) 3 rfl dX7_readRoute_136 ?_
          refine v_callV hC (pc := 137) (As := []) dX7_readRoute_137 rfl (m_nextToken _ _ (d := d - 1) (by omega) _ (T := T) (t := t) (e := tE T t a.1) ht ((g1).2.2 12 (by decide) |>.trans htp) (((g1).1 (3, 0, 12) (by decide) (by decide) (by decide)).trans hT) hT0 hf0 g6 hE2) cv_X7_141 rfl (by decide) rfl (by first | rfl | exact ok_c hq rfl | exact ok_w hq hw | exact ok_w (by omega) (by omega) | exact ok_s (by omega) (by omega) | exact ok_c (by omega) rfl | assumption) (Nat.le_of_ble_eq_true rfl) (by omega) (fun r h' hr => ?_)
          obtain ⟨rfl, hu⟩ := hr
          show V _ _ _ (137 + 3) _ _ _
          refine v_iload_n hC (pc := 140) (k := 1) 2 rfl dX7_readRoute_140 ?_
          refine v_iret hC hX (pc := 141) dX7_readRoute_141 ?_
          have e9 : rouS T t a = .inr (tE T t a.1, a.2) := by unfold rouS; rw [iteP_f g2, iteP_t hk, iteP_t hn, iteP_t hal]
          refine ⟨_, rfl, ?_, fun a9 ha b hb => ?_⟩
          · show RS T t h0 _ (rouS T t a)
            rw [e9]
            exact RS_tok g1 g4 hE2 hu
          · cases ha; rfl
        have BADX : ¬ lrP T t a → ∀ (i : Nat) (b : Int32), V X G 5 62 [(3, vi (nI i)), (2, vi (nI (tE T t a.1 - tF T t a.1))), (1, vi b), (0, vr (3, 0, 0))] [] (nfH h 3) := by
          intro hnl i b
          refine v_iload_n hC (pc := 62) (k := 3) 0 rfl dX7_readRoute_62 ?_
          refine v_iload_n hC (pc := 63) (k := 2) 1 rfl dX7_readRoute_63 ?_
          refine v_icmp_ge hC (pc := 64) (tgt := 136) dX7_readRoute_64 (by decide) (fun c_64 => ?_) (fun c_64 => ?_)
          · skip
            refine v_aload_n hC (pc := 136) (k := 0) 3 rfl dX7_readRoute_136 ?_
            refine v_callV hC (pc := 137) (As := []) dX7_readRoute_137 rfl (m_nextToken_f _ _ (d := d - 1) (by omega) _ (by rw [nfH_17]; decide)) cv_X7_141 rfl (by decide) rfl (by first | rfl | exact ok_c hq rfl | exact ok_w hq hw | exact ok_w (by omega) (by omega) | exact ok_s (by omega) (by omega) | exact ok_c (by omega) rfl | assumption) (Nat.le_of_ble_eq_true rfl) (by omega) (fun r h' hr => ?_)
            obtain ⟨he9, rfl⟩ := hr
            rw [he9]
            clear he9 h'
            show V _ _ _ (137 + 3) _ _ _
            refine v_iload_n hC (pc := 140) (k := 1) 2 rfl dX7_readRoute_140 ?_
            refine v_iret hC hX (pc := 141) dX7_readRoute_141 ?_
            have e9 : rouS T t a = .inl (3, tF T t a.1) := by unfold rouS; rw [iteP_f g2, iteP_t hk, iteP_t hn, iteP_f hnl]
            refine ⟨_, rfl, ?_, fun a9 ha b hb => ?_⟩
            · show RS T t h0 _ (rouS T t a)
              rw [e9]
              exact GoS_nf hG (by decide)
            · cases ha; rw [e9] at hb; cases hb
          · skip
            refine v_aload_n hC (pc := 67) (k := 0) 3 rfl dX7_readRoute_67 ?_
            refine v_getI hC (pc := 68) dX7_readRoute_68 fl_X7_91 rfl (by first | rfl | exact ok_c hq rfl | exact ok_w hq hw | exact ok_w (by omega) (by omega) | exact ok_s (by omega) (by omega) | exact ok_c (by omega) rfl | assumption) rfl (by decide) (by decide) ?_
            rw [nfH_17]
            refine v_if_ne hC (pc := 71) (tgt := 136) dX7_readRoute_71 (by decide) (fun c_71 => ?_) (fun c_71 => ?_)
            · skip
              refine v_aload_n hC (pc := 136) (k := 0) 3 rfl dX7_readRoute_136 ?_
              refine v_callV hC (pc := 137) (As := []) dX7_readRoute_137 rfl (m_nextToken_f _ _ (d := d - 1) (by omega) _ (by rw [nfH_17]; decide)) cv_X7_141 rfl (by decide) rfl (by first | rfl | exact ok_c hq rfl | exact ok_w hq hw | exact ok_w (by omega) (by omega) | exact ok_s (by omega) (by omega) | exact ok_c (by omega) rfl | assumption) (Nat.le_of_ble_eq_true rfl) (by omega) (fun r h' hr => ?_)
              obtain ⟨he9, rfl⟩ := hr
              rw [he9]
              clear he9 h'
              show V _ _ _ (137 + 3) _ _ _
              refine v_iload_n hC (pc := 140) (k := 1) 2 rfl dX7_readRoute_140 ?_
              refine v_iret hC hX (pc := 141) dX7_readRoute_141 ?_
              have e9 : rouS T t a = .inl (3, tF T t a.1) := by unfold rouS; rw [iteP_f g2, iteP_t hk, iteP_t hn, iteP_f hnl]
              refine ⟨_, rfl, ?_, fun a9 ha b hb => ?_⟩
              · show RS T t h0 _ (rouS T t a)
                rw [e9]
                exact GoS_nf hG (by decide)
              · cases ha; rw [e9] at hb; cases hb
            · exact absurd c_71 (by decide)
        have BL : ∀ i, i < tE T t a.1 - tF T t a.1 → tF T t a.1 + i < t → ¬ (T (tF T t a.1 + i) = 108 ∨ T (tF T t a.1 + i) = 114) → V X G 5 105 [(4, vi (byF T t (tF T t a.1 + i))), (3, vi (nI i)), (2, vi (nI (tE T t a.1 - tF T t a.1))), (1, vi (rtN T (tF T t a.1) i)), (0, vr (3, 0, 0))] [vr (3, 0, 0)] h := by
          intro i hi hit hgl
          have B110 : ∀ H9 : HP, V X G 5 62 [(3, vi (nI (i + 1))), (2, vi (nI (tE T t a.1 - tF T t a.1))), (1, vi (rtN T (tF T t a.1) (i + 1))), (0, vr (3, 0, 0))] [] H9 → V X G 5 110 [(4, vi (byF T t (tF T t a.1 + i))), (3, vi (nI i)), (2, vi (nI (tE T t a.1 - tF T t a.1))), (1, vi (rtN T (tF T t a.1) i)), (0, vr (3, 0, 0))] [] H9 := by
            intro H9 k9
            refine v_iload_n hC (pc := 110) (k := 1) 3 rfl dX7_readRoute_110 ?_
            refine v_iload hC (pc := 111) 0 rfl dX7_readRoute_111 ?_
            refine v_bipush hC (pc := 113) (v := 114) (by decide +kernel) dX7_readRoute_113 ?_
            refine v_icmp_ne hC (pc := 115) (tgt := 122) dX7_readRoute_115 (by decide) (fun c_115 => ?_) (fun c_115 => ?_)
            · skip
              refine v_iconst hC (pc := 122) (v := 0) (by decide) dX7_readRoute_122 ?_
              refine v_callS hC (pc := 123) (As := [_]) dX7_readRoute_123 rfl (m_flag _ _ (d := d - 1) (by omega) _ _) cs_X7_147 (Nat.le_of_ble_eq_true rfl) (by omega) (fun r h' hr => ?_)
              obtain ⟨he9, rfl⟩ := hr
              rw [he9]
              clear he9 h'
              show V _ _ _ (123 + 3) _ (_ :: _) _
              refine v_iload_n hC (pc := 126) (k := 3) 1 rfl dX7_readRoute_126 ?_
              refine v_ishl hC (pc := 127) dX7_readRoute_127 ?_
              refine v_ior hC (pc := 128) dX7_readRoute_128 ?_
              refine v_istore_n hC (pc := 129) (l' := [(1, _), (4, _), (3, _), (2, _), (0, _)]) dX7_readRoute_129 (by decide) rfl ?_
              refine v_iinc hC (pc := 130) (l' := [(3, _), (1, _), (4, _), (2, _), (0, _)]) 2 (v := nI (i + 1)) dX7_readRoute_130 rfl (nI_inc i) (by decide) rfl ?_
              refine v_goto hC (pc := 133) (tgt := 62) dX7_readRoute_133 (by decide) ?_
              refine v_loc (l' := [(3, _), (2, _), (1, _), (0, _)]) [0, 3, 1, 4] rfl ?_
              first | (rw [rt_t (show T (tF T t a.1 + i) = 114 by rw [byF_lt hit] at c_115; exact c_115)]; exact k9) | (rw [rt_f (show ¬ T (tF T t a.1 + i) = 114 by rw [byF_lt hit] at c_115; exact c_115)]; exact k9)
            · skip
              refine v_iconst hC (pc := 118) (v := 1) (by decide) dX7_readRoute_118 ?_
              refine v_goto hC (pc := 119) (tgt := 123) dX7_readRoute_119 (by decide) ?_
              refine v_callS hC (pc := 123) (As := [_]) dX7_readRoute_123 rfl (m_flag _ _ (d := d - 1) (by omega) _ _) cs_X7_147 (Nat.le_of_ble_eq_true rfl) (by omega) (fun r h' hr => ?_)
              obtain ⟨he9, rfl⟩ := hr
              rw [he9]
              clear he9 h'
              show V _ _ _ (123 + 3) _ (_ :: _) _
              refine v_iload_n hC (pc := 126) (k := 3) 1 rfl dX7_readRoute_126 ?_
              refine v_ishl hC (pc := 127) dX7_readRoute_127 ?_
              refine v_ior hC (pc := 128) dX7_readRoute_128 ?_
              refine v_istore_n hC (pc := 129) (l' := [(1, _), (4, _), (3, _), (2, _), (0, _)]) dX7_readRoute_129 (by decide) rfl ?_
              refine v_iinc hC (pc := 130) (l' := [(3, _), (1, _), (4, _), (2, _), (0, _)]) 2 (v := nI (i + 1)) dX7_readRoute_130 rfl (nI_inc i) (by decide) rfl ?_
              refine v_goto hC (pc := 133) (tgt := 62) dX7_readRoute_133 (by decide) ?_
              refine v_loc (l' := [(3, _), (2, _), (1, _), (0, _)]) [0, 3, 1, 4] rfl ?_
              first | (rw [rt_t (show T (tF T t a.1 + i) = 114 by rw [byF_lt hit] at c_115; exact c_115)]; exact k9) | (rw [rt_f (show ¬ T (tF T t a.1 + i) = 114 by rw [byF_lt hit] at c_115; exact c_115)]; exact k9)
          refine v_iconst hC (pc := 105) (v := 0) (by decide) dX7_readRoute_105 ?_
          refine v_iconst hC (pc := 106) (v := 3) (by decide) dX7_readRoute_106 ?_
          refine v_callV hC (pc := 107) (As := [_, _]) dX7_readRoute_107 rfl (nd_0 _ _ (d := d - 1) (by omega) _ _ hf0) cv_X7_133 rfl (by decide) rfl (by first | rfl | exact ok_c hq rfl | exact ok_w hq hw | exact ok_w (by omega) (by omega) | exact ok_s (by omega) (by omega) | exact ok_c (by omega) rfl | assumption) (Nat.le_of_ble_eq_true rfl) (by omega) (fun r h' hr => ?_)
          obtain ⟨he9, rfl⟩ := hr
          rw [he9]
          clear he9 h'
          show V _ _ _ (107 + 3) _ _ _
          exact B110 _ (BADX (fun z => hgl (z i hi)) _ _)
        have GL : ∀ i, i < tE T t a.1 - tF T t a.1 → tF T t a.1 + i < t → (∀ j, j < i → (T (tF T t a.1 + j) = 108 ∨ T (tF T t a.1 + j) = 114)) → (∀ i', i' = i + 1 → (∀ j, j < i' → (T (tF T t a.1 + j) = 108 ∨ T (tF T t a.1 + j) = 114)) → V X G 5 62 [(3, vi (nI i')), (2, vi (nI (tE T t a.1 - tF T t a.1))), (1, vi (rtN T (tF T t a.1) i')), (0, vr (3, 0, 0))] [] h) → (T (tF T t a.1 + i) = 108 ∨ T (tF T t a.1 + i) = 114) → V X G 5 101 [(4, vi (byF T t (tF T t a.1 + i))), (3, vi (nI i)), (2, vi (nI (tE T t a.1 - tF T t a.1))), (1, vi (rtN T (tF T t a.1) i)), (0, vr (3, 0, 0))] [vr (3, 0, 0)] h := by
          intro i hi hit hl ih hgl
          have B110 : ∀ H9 : HP, V X G 5 62 [(3, vi (nI (i + 1))), (2, vi (nI (tE T t a.1 - tF T t a.1))), (1, vi (rtN T (tF T t a.1) (i + 1))), (0, vr (3, 0, 0))] [] H9 → V X G 5 110 [(4, vi (byF T t (tF T t a.1 + i))), (3, vi (nI i)), (2, vi (nI (tE T t a.1 - tF T t a.1))), (1, vi (rtN T (tF T t a.1) i)), (0, vr (3, 0, 0))] [] H9 := by
            intro H9 k9
            refine v_iload_n hC (pc := 110) (k := 1) 3 rfl dX7_readRoute_110 ?_
            refine v_iload hC (pc := 111) 0 rfl dX7_readRoute_111 ?_
            refine v_bipush hC (pc := 113) (v := 114) (by decide +kernel) dX7_readRoute_113 ?_
            refine v_icmp_ne hC (pc := 115) (tgt := 122) dX7_readRoute_115 (by decide) (fun c_115 => ?_) (fun c_115 => ?_)
            · skip
              refine v_iconst hC (pc := 122) (v := 0) (by decide) dX7_readRoute_122 ?_
              refine v_callS hC (pc := 123) (As := [_]) dX7_readRoute_123 rfl (m_flag _ _ (d := d - 1) (by omega) _ _) cs_X7_147 (Nat.le_of_ble_eq_true rfl) (by omega) (fun r h' hr => ?_)
              obtain ⟨he9, rfl⟩ := hr
              rw [he9]
              clear he9 h'
              show V _ _ _ (123 + 3) _ (_ :: _) _
              refine v_iload_n hC (pc := 126) (k := 3) 1 rfl dX7_readRoute_126 ?_
              refine v_ishl hC (pc := 127) dX7_readRoute_127 ?_
              refine v_ior hC (pc := 128) dX7_readRoute_128 ?_
              refine v_istore_n hC (pc := 129) (l' := [(1, _), (4, _), (3, _), (2, _), (0, _)]) dX7_readRoute_129 (by decide) rfl ?_
              refine v_iinc hC (pc := 130) (l' := [(3, _), (1, _), (4, _), (2, _), (0, _)]) 2 (v := nI (i + 1)) dX7_readRoute_130 rfl (nI_inc i) (by decide) rfl ?_
              refine v_goto hC (pc := 133) (tgt := 62) dX7_readRoute_133 (by decide) ?_
              refine v_loc (l' := [(3, _), (2, _), (1, _), (0, _)]) [0, 3, 1, 4] rfl ?_
              first | (rw [rt_t (show T (tF T t a.1 + i) = 114 by rw [byF_lt hit] at c_115; exact c_115)]; exact k9) | (rw [rt_f (show ¬ T (tF T t a.1 + i) = 114 by rw [byF_lt hit] at c_115; exact c_115)]; exact k9)
            · skip
              refine v_iconst hC (pc := 118) (v := 1) (by decide) dX7_readRoute_118 ?_
              refine v_goto hC (pc := 119) (tgt := 123) dX7_readRoute_119 (by decide) ?_
              refine v_callS hC (pc := 123) (As := [_]) dX7_readRoute_123 rfl (m_flag _ _ (d := d - 1) (by omega) _ _) cs_X7_147 (Nat.le_of_ble_eq_true rfl) (by omega) (fun r h' hr => ?_)
              obtain ⟨he9, rfl⟩ := hr
              rw [he9]
              clear he9 h'
              show V _ _ _ (123 + 3) _ (_ :: _) _
              refine v_iload_n hC (pc := 126) (k := 3) 1 rfl dX7_readRoute_126 ?_
              refine v_ishl hC (pc := 127) dX7_readRoute_127 ?_
              refine v_ior hC (pc := 128) dX7_readRoute_128 ?_
              refine v_istore_n hC (pc := 129) (l' := [(1, _), (4, _), (3, _), (2, _), (0, _)]) dX7_readRoute_129 (by decide) rfl ?_
              refine v_iinc hC (pc := 130) (l' := [(3, _), (1, _), (4, _), (2, _), (0, _)]) 2 (v := nI (i + 1)) dX7_readRoute_130 rfl (nI_inc i) (by decide) rfl ?_
              refine v_goto hC (pc := 133) (tgt := 62) dX7_readRoute_133 (by decide) ?_
              refine v_loc (l' := [(3, _), (2, _), (1, _), (0, _)]) [0, 3, 1, 4] rfl ?_
              first | (rw [rt_t (show T (tF T t a.1 + i) = 114 by rw [byF_lt hit] at c_115; exact c_115)]; exact k9) | (rw [rt_f (show ¬ T (tF T t a.1 + i) = 114 by rw [byF_lt hit] at c_115; exact c_115)]; exact k9)
          refine v_iconst hC (pc := 101) (v := 1) (by decide) dX7_readRoute_101 ?_
          refine v_goto hC (pc := 102) (tgt := 106) dX7_readRoute_102 (by decide) ?_
          refine v_iconst hC (pc := 106) (v := 3) (by decide) dX7_readRoute_106 ?_
          refine v_callV hC (pc := 107) (As := [_, _]) dX7_readRoute_107 rfl (nd_1 _ _ (d := d - 1) (by omega) _ _) cv_X7_133 rfl (by decide) rfl (by first | rfl | exact ok_c hq rfl | exact ok_w hq hw | exact ok_w (by omega) (by omega) | exact ok_s (by omega) (by omega) | exact ok_c (by omega) rfl | assumption) (Nat.le_of_ble_eq_true rfl) (by omega) (fun r h' hr => ?_)
          obtain ⟨he9, rfl⟩ := hr
          rw [he9]
          clear he9 h'
          show V _ _ _ (107 + 3) _ _ _
          refine B110 h (ih (i + 1) rfl (fun j hj => ?_))
          rcases (show j < i ∨ j = i by omega) with q | rfl
          · exact hl j q
          · exact hgl
        have LOOP : ∀ (n i : Nat), i ≤ tE T t a.1 - tF T t a.1 → tE T t a.1 - tF T t a.1 + 1 ≤ i + n → (∀ j, j < i → (T (tF T t a.1 + j) = 108 ∨ T (tF T t a.1 + j) = 114)) → V X G 5 62 [(3, vi (nI i)), (2, vi (nI (tE T t a.1 - tF T t a.1))), (1, vi (rtN T (tF T t a.1) i)), (0, vr (3, 0, 0))] [] h := by
          intro n
          induction n with
          | zero => intro i h1 h2; exact absurd h2 (by omega)
          | succ n ih =>
            intro i h1 h2 hl
            refine v_iload_n hC (pc := 62) (k := 3) 0 rfl dX7_readRoute_62 ?_
            refine v_iload_n hC (pc := 63) (k := 2) 1 rfl dX7_readRoute_63 ?_
            refine v_icmp_ge hC (pc := 64) (tgt := 136) dX7_readRoute_64 (by decide) (fun c_64 => ?_) (fun c_64 => ?_)
            · skip
              have hi : i = tE T t a.1 - tF T t a.1 := lp_ex c_64 h1 (by omega)
              subst hi
              exact OKX hl
            · skip
              have hi : i < tE T t a.1 - tF T t a.1 := lp_in c_64 h1 (by omega)
              have hit : tF T t a.1 + i < t := by omega
              refine v_aload_n hC (pc := 67) (k := 0) 3 rfl dX7_readRoute_67 ?_
              refine v_getI hC (pc := 68) dX7_readRoute_68 fl_X7_91 rfl (by first | rfl | exact ok_c hq rfl | exact ok_w hq hw | exact ok_w (by omega) (by omega) | exact ok_s (by omega) (by omega) | exact ok_c (by omega) rfl | assumption) rfl (by decide) (by decide) ?_
              refine v_if_ne hC (pc := 71) (tgt := 136) dX7_readRoute_71 (by decide) (fun c_71 => ?_) (fun c_71 => ?_)
              · exact absurd hf0 c_71
              · skip
                refine v_aload_n hC (pc := 74) (k := 0) 3 rfl dX7_readRoute_74 ?_
                refine v_aload_n hC (pc := 75) (k := 0) 3 rfl dX7_readRoute_75 ?_
                refine v_getI hC (pc := 76) dX7_readRoute_76 fl_X7_94 rfl (by first | rfl | exact ok_c hq rfl | exact ok_w hq hw | exact ok_w (by omega) (by omega) | exact ok_s (by omega) (by omega) | exact ok_c (by omega) rfl | assumption) rfl (by decide) (by decide) ?_
                rw [g7]
                refine v_iload_n hC (pc := 79) (k := 3) 0 rfl dX7_readRoute_79 ?_
                refine v_iadd hC (pc := 80) dX7_readRoute_80 ?_
                rw [nI_add]
                refine v_callV hC (pc := 81) (As := [_]) dX7_readRoute_81 rfl (m_byteT _ _ (d := d - 1) (by omega) _ (p := tF T t a.1 + i) ht ((g1.2.2 12 (by decide)).trans htp) ((g1.1 (3, 0, 12) (by decide) (by decide) (by decide)).trans hT) (by omega)) cv_X7_103 rfl (by decide) rfl (by first | rfl | exact ok_c hq rfl | exact ok_w hq hw | exact ok_w (by omega) (by omega) | exact ok_s (by omega) (by omega) | exact ok_c (by omega) rfl | assumption) (Nat.le_of_ble_eq_true rfl) (by omega) (fun r h' hr => ?_)
                obtain ⟨he9, rfl⟩ := hr
                rw [he9]
                clear he9 h'
                show V _ _ _ (81 + 3) _ (_ :: _) _
                refine v_istore hC (pc := 84) (l' := [(4, _), (3, _), (2, _), (1, _), (0, _)]) dX7_readRoute_84 (by decide) rfl ?_
                refine v_aload_n hC (pc := 86) (k := 0) 4 rfl dX7_readRoute_86 ?_
                refine v_iload hC (pc := 87) 0 rfl dX7_readRoute_87 ?_
                refine v_bipush hC (pc := 89) (v := 108) (by decide +kernel) dX7_readRoute_89 ?_
                refine v_icmp_eq hC (pc := 91) (tgt := 101) dX7_readRoute_91 (by decide) (fun c_91 => ?_) (fun c_91 => ?_)
                · skip
                  refine GL i hi hit hl (fun i' e9 hl9 => ih i' (by omega) (by omega) hl9) ?_
                  first | exact Or.inl (by rw [byF_lt hit] at c_91; exact c_91) | exact Or.inr (by rw [byF_lt hit] at c_98; exact c_98)
                · skip
                  refine v_iload hC (pc := 94) 0 rfl dX7_readRoute_94 ?_
                  refine v_bipush hC (pc := 96) (v := 114) (by decide +kernel) dX7_readRoute_96 ?_
                  refine v_icmp_ne hC (pc := 98) (tgt := 105) dX7_readRoute_98 (by decide) (fun c_98 => ?_) (fun c_98 => ?_)
                  · skip
                    refine BL i hi hit (fun z => z.elim (fun y => c_91 (by rw [byF_lt hit]; exact y)) (fun y => c_98 (by rw [byF_lt hit]; exact y)))
                  · skip
                    refine GL i hi hit hl (fun i' e9 hl9 => ih i' (by omega) (by omega) hl9) ?_
                    first | exact Or.inl (by rw [byF_lt hit] at c_91; exact c_91) | exact Or.inr (by rw [byF_lt hit] at c_98; exact c_98)
        refine v_iconst hC (pc := 0) (v := 0) (by decide) dX7_readRoute_0 ?_
        refine v_istore_n hC (pc := 1) (l' := [(1, _), (0, _)]) dX7_readRoute_1 (by decide) rfl ?_
        refine v_aload_n hC (pc := 2) (k := 0) 1 rfl dX7_readRoute_2 ?_
        refine v_getI hC (pc := 3) dX7_readRoute_3 fl_X7_91 rfl (by first | rfl | exact ok_c hq rfl | exact ok_w hq hw | exact ok_w (by omega) (by omega) | exact ok_s (by omega) (by omega) | exact ok_c (by omega) rfl | assumption) rfl (by decide) (by decide) ?_
        refine v_if_ne hC (pc := 6) (tgt := 27) dX7_readRoute_6 (by decide) (fun c_6 => ?_) (fun c_6 => ?_)
        · exact absurd hf0 c_6
        · skip
          refine v_aload_n hC (pc := 9) (k := 0) 1 rfl dX7_readRoute_9 ?_
          refine v_aload_n hC (pc := 10) (k := 0) 1 rfl dX7_readRoute_10 ?_
          refine v_getI hC (pc := 11) dX7_readRoute_11 fl_X7_119 rfl (by first | rfl | exact ok_c hq rfl | exact ok_w hq hw | exact ok_w (by omega) (by omega) | exact ok_s (by omega) (by omega) | exact ok_c (by omega) rfl | assumption) rfl (by decide) (by decide) ?_
          refine v_iconst hC (pc := 14) (v := 1) (by decide) dX7_readRoute_14 ?_
          refine v_icmp_ne hC (pc := 15) (tgt := 22) dX7_readRoute_15 (by decide) (fun c_15 => ?_) (fun c_15 => ?_)
          · exact absurd (by rw [g8, hk]; rfl) c_15
          · skip
            refine v_iconst hC (pc := 18) (v := 1) (by decide) dX7_readRoute_18 ?_
            refine v_goto hC (pc := 19) (tgt := 23) dX7_readRoute_19 (by decide) ?_
            refine v_iconst hC (pc := 23) (v := 2) (by decide) dX7_readRoute_23 ?_
            refine v_callV hC (pc := 24) (As := [_, _]) dX7_readRoute_24 rfl (nd_1 _ _ (d := d - 1) (by omega) _ _) cv_X7_133 rfl (by decide) rfl (by first | rfl | exact ok_c hq rfl | exact ok_w hq hw | exact ok_w (by omega) (by omega) | exact ok_s (by omega) (by omega) | exact ok_c (by omega) rfl | assumption) (Nat.le_of_ble_eq_true rfl) (by omega) (fun r h' hr => ?_)
            obtain ⟨he9, rfl⟩ := hr
            rw [he9]
            clear he9 h'
            show V _ _ _ (24 + 3) _ _ _
            refine v_aload_n hC (pc := 27) (k := 0) 1 rfl dX7_readRoute_27 ?_
            refine v_getI hC (pc := 28) dX7_readRoute_28 fl_X7_100 rfl (by first | rfl | exact ok_c hq rfl | exact ok_w hq hw | exact ok_w (by omega) (by omega) | exact ok_s (by omega) (by omega) | exact ok_c (by omega) rfl | assumption) rfl (by decide) (by decide) ?_
            refine v_aload_n hC (pc := 31) (k := 0) 1 rfl dX7_readRoute_31 ?_
            refine v_getI hC (pc := 32) dX7_readRoute_32 fl_X7_94 rfl (by first | rfl | exact ok_c hq rfl | exact ok_w hq hw | exact ok_w (by omega) (by omega) | exact ok_s (by omega) (by omega) | exact ok_c (by omega) rfl | assumption) rfl (by decide) (by decide) ?_
            refine v_isub hC (pc := 35) dX7_readRoute_35 ?_
            rw [g6, g7, pk_sub hfE]
            refine v_istore_n hC (pc := 36) (l' := [(2, _), (1, _), (0, _)]) dX7_readRoute_36 (by decide) rfl ?_
            refine v_aload_n hC (pc := 37) (k := 0) 2 rfl dX7_readRoute_37 ?_
            refine v_getI hC (pc := 38) dX7_readRoute_38 fl_X7_91 rfl (by first | rfl | exact ok_c hq rfl | exact ok_w hq hw | exact ok_w (by omega) (by omega) | exact ok_s (by omega) (by omega) | exact ok_c (by omega) rfl | assumption) rfl (by decide) (by decide) ?_
            refine v_if_ne hC (pc := 41) (tgt := 60) dX7_readRoute_41 (by decide) (fun c_41 => ?_) (fun c_41 => ?_)
            · exact absurd hf0 c_41
            · skip
              refine v_aload_n hC (pc := 44) (k := 0) 2 rfl dX7_readRoute_44 ?_
              refine v_iload_n hC (pc := 45) (k := 2) 0 rfl dX7_readRoute_45 ?_
              refine v_bipush hC (pc := 46) (v := 10) (by decide +kernel) dX7_readRoute_46 ?_
              refine v_icmp_gt hC (pc := 48) (tgt := 55) dX7_readRoute_48 (by decide) (fun c_48 => ?_) (fun c_48 => ?_)
              · exact absurd c_48 (nI_nlt (show tE T t a.1 - tF T t a.1 ≤ 10 by omega) (by decide))
              · skip
                refine v_iconst hC (pc := 51) (v := 1) (by decide) dX7_readRoute_51 ?_
                refine v_goto hC (pc := 52) (tgt := 56) dX7_readRoute_52 (by decide) ?_
                refine v_iconst hC (pc := 56) (v := 3) (by decide) dX7_readRoute_56 ?_
                refine v_callV hC (pc := 57) (As := [_, _]) dX7_readRoute_57 rfl (nd_1 _ _ (d := d - 1) (by omega) _ _) cv_X7_133 rfl (by decide) rfl (by first | rfl | exact ok_c hq rfl | exact ok_w hq hw | exact ok_w (by omega) (by omega) | exact ok_s (by omega) (by omega) | exact ok_c (by omega) rfl | assumption) (Nat.le_of_ble_eq_true rfl) (by omega) (fun r h' hr => ?_)
                obtain ⟨he9, rfl⟩ := hr
                rw [he9]
                clear he9 h'
                show V _ _ _ (57 + 3) _ _ _
                refine v_iconst hC (pc := 60) (v := 0) (by decide) dX7_readRoute_60 ?_
                refine v_istore_n hC (pc := 61) (l' := [(3, _), (2, _), (1, _), (0, _)]) dX7_readRoute_61 (by decide) rfl ?_
                exact LOOP 161 0 (Nat.zero_le _) (by omega) (fun j hj => absurd hj (Nat.not_lt_zero _))
      · skip
        refine v_iconst hC (pc := 0) (v := 0) (by decide) dX7_readRoute_0 ?_
        refine v_istore_n hC (pc := 1) (l' := [(1, _), (0, _)]) dX7_readRoute_1 (by decide) rfl ?_
        refine v_aload_n hC (pc := 2) (k := 0) 1 rfl dX7_readRoute_2 ?_
        refine v_getI hC (pc := 3) dX7_readRoute_3 fl_X7_91 rfl (by first | rfl | exact ok_c hq rfl | exact ok_w hq hw | exact ok_w (by omega) (by omega) | exact ok_s (by omega) (by omega) | exact ok_c (by omega) rfl | assumption) rfl (by decide) (by decide) ?_
        refine v_if_ne hC (pc := 6) (tgt := 27) dX7_readRoute_6 (by decide) (fun c_6 => ?_) (fun c_6 => ?_)
        · exact absurd hf0 c_6
        · skip
          refine v_aload_n hC (pc := 9) (k := 0) 1 rfl dX7_readRoute_9 ?_
          refine v_aload_n hC (pc := 10) (k := 0) 1 rfl dX7_readRoute_10 ?_
          refine v_getI hC (pc := 11) dX7_readRoute_11 fl_X7_119 rfl (by first | rfl | exact ok_c hq rfl | exact ok_w hq hw | exact ok_w (by omega) (by omega) | exact ok_s (by omega) (by omega) | exact ok_c (by omega) rfl | assumption) rfl (by decide) (by decide) ?_
          refine v_iconst hC (pc := 14) (v := 1) (by decide) dX7_readRoute_14 ?_
          refine v_icmp_ne hC (pc := 15) (tgt := 22) dX7_readRoute_15 (by decide) (fun c_15 => ?_) (fun c_15 => ?_)
          · exact absurd (by rw [g8, hk]; rfl) c_15
          · skip
            refine v_iconst hC (pc := 18) (v := 1) (by decide) dX7_readRoute_18 ?_
            refine v_goto hC (pc := 19) (tgt := 23) dX7_readRoute_19 (by decide) ?_
            refine v_iconst hC (pc := 23) (v := 2) (by decide) dX7_readRoute_23 ?_
            refine v_callV hC (pc := 24) (As := [_, _]) dX7_readRoute_24 rfl (nd_1 _ _ (d := d - 1) (by omega) _ _) cv_X7_133 rfl (by decide) rfl (by first | rfl | exact ok_c hq rfl | exact ok_w hq hw | exact ok_w (by omega) (by omega) | exact ok_s (by omega) (by omega) | exact ok_c (by omega) rfl | assumption) (Nat.le_of_ble_eq_true rfl) (by omega) (fun r h' hr => ?_)
            obtain ⟨he9, rfl⟩ := hr
            rw [he9]
            clear he9 h'
            show V _ _ _ (24 + 3) _ _ _
            refine v_aload_n hC (pc := 27) (k := 0) 1 rfl dX7_readRoute_27 ?_
            refine v_getI hC (pc := 28) dX7_readRoute_28 fl_X7_100 rfl (by first | rfl | exact ok_c hq rfl | exact ok_w hq hw | exact ok_w (by omega) (by omega) | exact ok_s (by omega) (by omega) | exact ok_c (by omega) rfl | assumption) rfl (by decide) (by decide) ?_
            refine v_aload_n hC (pc := 31) (k := 0) 1 rfl dX7_readRoute_31 ?_
            refine v_getI hC (pc := 32) dX7_readRoute_32 fl_X7_94 rfl (by first | rfl | exact ok_c hq rfl | exact ok_w hq hw | exact ok_w (by omega) (by omega) | exact ok_s (by omega) (by omega) | exact ok_c (by omega) rfl | assumption) rfl (by decide) (by decide) ?_
            refine v_isub hC (pc := 35) dX7_readRoute_35 ?_
            rw [g6, g7, pk_sub hfE]
            refine v_istore_n hC (pc := 36) (l' := [(2, _), (1, _), (0, _)]) dX7_readRoute_36 (by decide) rfl ?_
            refine v_aload_n hC (pc := 37) (k := 0) 2 rfl dX7_readRoute_37 ?_
            refine v_getI hC (pc := 38) dX7_readRoute_38 fl_X7_91 rfl (by first | rfl | exact ok_c hq rfl | exact ok_w hq hw | exact ok_w (by omega) (by omega) | exact ok_s (by omega) (by omega) | exact ok_c (by omega) rfl | assumption) rfl (by decide) (by decide) ?_
            refine v_if_ne hC (pc := 41) (tgt := 60) dX7_readRoute_41 (by decide) (fun c_41 => ?_) (fun c_41 => ?_)
            · exact absurd hf0 c_41
            · skip
              refine v_aload_n hC (pc := 44) (k := 0) 2 rfl dX7_readRoute_44 ?_
              refine v_iload_n hC (pc := 45) (k := 2) 0 rfl dX7_readRoute_45 ?_
              refine v_bipush hC (pc := 46) (v := 10) (by decide +kernel) dX7_readRoute_46 ?_
              refine v_icmp_gt hC (pc := 48) (tgt := 55) dX7_readRoute_48 (by decide) (fun c_48 => ?_) (fun c_48 => ?_)
              · skip
                refine v_iconst hC (pc := 55) (v := 0) (by decide) dX7_readRoute_55 ?_
                refine v_iconst hC (pc := 56) (v := 3) (by decide) dX7_readRoute_56 ?_
                refine v_callV hC (pc := 57) (As := [_, _]) dX7_readRoute_57 rfl (nd_0 _ _ (d := d - 1) (by omega) _ _ hf0) cv_X7_133 rfl (by decide) rfl (by first | rfl | exact ok_c hq rfl | exact ok_w hq hw | exact ok_w (by omega) (by omega) | exact ok_s (by omega) (by omega) | exact ok_c (by omega) rfl | assumption) (Nat.le_of_ble_eq_true rfl) (by omega) (fun r h' hr => ?_)
                obtain ⟨he9, rfl⟩ := hr
                rw [he9]
                clear he9 h'
                show V _ _ _ (57 + 3) _ _ _
                refine v_iconst hC (pc := 60) (v := 0) (by decide) dX7_readRoute_60 ?_
                refine v_istore_n hC (pc := 61) (l' := [(3, _), (2, _), (1, _), (0, _)]) dX7_readRoute_61 (by decide) rfl ?_
                refine v_iload_n hC (pc := 62) (k := 3) 0 rfl dX7_readRoute_62 ?_
                refine v_iload_n hC (pc := 63) (k := 2) 1 rfl dX7_readRoute_63 ?_
                refine v_icmp_ge hC (pc := 64) (tgt := 136) dX7_readRoute_64 (by decide) (fun c_64 => ?_) (fun c_64 => ?_)
                · skip
                  refine v_aload_n hC (pc := 136) (k := 0) 3 rfl dX7_readRoute_136 ?_
                  refine v_callV hC (pc := 137) (As := []) dX7_readRoute_137 rfl (m_nextToken_f _ _ (d := d - 1) (by omega) _ (by rw [nfH_17]; decide)) cv_X7_141 rfl (by decide) rfl (by first | rfl | exact ok_c hq rfl | exact ok_w hq hw | exact ok_w (by omega) (by omega) | exact ok_s (by omega) (by omega) | exact ok_c (by omega) rfl | assumption) (Nat.le_of_ble_eq_true rfl) (by omega) (fun r h' hr => ?_)
                  obtain ⟨he9, rfl⟩ := hr
                  rw [he9]
                  clear he9 h'
                  show V _ _ _ (137 + 3) _ _ _
                  refine v_iload_n hC (pc := 140) (k := 1) 2 rfl dX7_readRoute_140 ?_
                  refine v_iret hC hX (pc := 141) dX7_readRoute_141 ?_
                  have e9 : rouS T t a = .inl (3, tF T t a.1) := by unfold rouS; rw [iteP_f g2, iteP_t hk, iteP_f hn]
                  refine ⟨_, rfl, ?_, fun a9 ha b hb => ?_⟩
                  · show RS T t h0 _ (rouS T t a)
                    rw [e9]
                    exact GoS_nf hG (by decide)
                  · cases ha; rw [e9] at hb; cases hb
                · skip
                  refine v_aload_n hC (pc := 67) (k := 0) 3 rfl dX7_readRoute_67 ?_
                  refine v_getI hC (pc := 68) dX7_readRoute_68 fl_X7_91 rfl (by first | rfl | exact ok_c hq rfl | exact ok_w hq hw | exact ok_w (by omega) (by omega) | exact ok_s (by omega) (by omega) | exact ok_c (by omega) rfl | assumption) rfl (by decide) (by decide) ?_
                  rw [nfH_17]
                  refine v_if_ne hC (pc := 71) (tgt := 136) dX7_readRoute_71 (by decide) (fun c_71 => ?_) (fun c_71 => ?_)
                  · skip
                    refine v_aload_n hC (pc := 136) (k := 0) 3 rfl dX7_readRoute_136 ?_
                    refine v_callV hC (pc := 137) (As := []) dX7_readRoute_137 rfl (m_nextToken_f _ _ (d := d - 1) (by omega) _ (by rw [nfH_17]; decide)) cv_X7_141 rfl (by decide) rfl (by first | rfl | exact ok_c hq rfl | exact ok_w hq hw | exact ok_w (by omega) (by omega) | exact ok_s (by omega) (by omega) | exact ok_c (by omega) rfl | assumption) (Nat.le_of_ble_eq_true rfl) (by omega) (fun r h' hr => ?_)
                    obtain ⟨he9, rfl⟩ := hr
                    rw [he9]
                    clear he9 h'
                    show V _ _ _ (137 + 3) _ _ _
                    refine v_iload_n hC (pc := 140) (k := 1) 2 rfl dX7_readRoute_140 ?_
                    refine v_iret hC hX (pc := 141) dX7_readRoute_141 ?_
                    have e9 : rouS T t a = .inl (3, tF T t a.1) := by unfold rouS; rw [iteP_f g2, iteP_t hk, iteP_f hn]
                    refine ⟨_, rfl, ?_, fun a9 ha b hb => ?_⟩
                    · show RS T t h0 _ (rouS T t a)
                      rw [e9]
                      exact GoS_nf hG (by decide)
                    · cases ha; rw [e9] at hb; cases hb
                  · exact absurd c_71 (by decide)
              · exact absurd (nI_lt (show 10 < tE T t a.1 - tF T t a.1 by omega) (by omega)) c_48
    · skip
      refine v_iconst hC (pc := 0) (v := 0) (by decide) dX7_readRoute_0 ?_
      refine v_istore_n hC (pc := 1) (l' := [(1, _), (0, _)]) dX7_readRoute_1 (by decide) rfl ?_
      refine v_aload_n hC (pc := 2) (k := 0) 1 rfl dX7_readRoute_2 ?_
      refine v_getI hC (pc := 3) dX7_readRoute_3 fl_X7_91 rfl (by first | rfl | exact ok_c hq rfl | exact ok_w hq hw | exact ok_w (by omega) (by omega) | exact ok_s (by omega) (by omega) | exact ok_c (by omega) rfl | assumption) rfl (by decide) (by decide) ?_
      refine v_if_ne hC (pc := 6) (tgt := 27) dX7_readRoute_6 (by decide) (fun c_6 => ?_) (fun c_6 => ?_)
      · exact absurd hf0 c_6
      · skip
        refine v_aload_n hC (pc := 9) (k := 0) 1 rfl dX7_readRoute_9 ?_
        refine v_aload_n hC (pc := 10) (k := 0) 1 rfl dX7_readRoute_10 ?_
        refine v_getI hC (pc := 11) dX7_readRoute_11 fl_X7_119 rfl (by first | rfl | exact ok_c hq rfl | exact ok_w hq hw | exact ok_w (by omega) (by omega) | exact ok_s (by omega) (by omega) | exact ok_c (by omega) rfl | assumption) rfl (by decide) (by decide) ?_
        refine v_iconst hC (pc := 14) (v := 1) (by decide) dX7_readRoute_14 ?_
        refine v_icmp_ne hC (pc := 15) (tgt := 22) dX7_readRoute_15 (by decide) (fun c_15 => ?_) (fun c_15 => ?_)
        · skip
          refine v_iconst hC (pc := 22) (v := 0) (by decide) dX7_readRoute_22 ?_
          refine v_iconst hC (pc := 23) (v := 2) (by decide) dX7_readRoute_23 ?_
          refine v_callV hC (pc := 24) (As := [_, _]) dX7_readRoute_24 rfl (nd_0 _ _ (d := d - 1) (by omega) _ _ hf0) cv_X7_133 rfl (by decide) rfl (by first | rfl | exact ok_c hq rfl | exact ok_w hq hw | exact ok_w (by omega) (by omega) | exact ok_s (by omega) (by omega) | exact ok_c (by omega) rfl | assumption) (Nat.le_of_ble_eq_true rfl) (by omega) (fun r h' hr => ?_)
          obtain ⟨he9, rfl⟩ := hr
          rw [he9]
          clear he9 h'
          show V _ _ _ (24 + 3) _ _ _
          refine v_aload_n hC (pc := 27) (k := 0) 1 rfl dX7_readRoute_27 ?_
          refine v_getI hC (pc := 28) dX7_readRoute_28 fl_X7_100 rfl (by first | rfl | exact ok_c hq rfl | exact ok_w hq hw | exact ok_w (by omega) (by omega) | exact ok_s (by omega) (by omega) | exact ok_c (by omega) rfl | assumption) rfl (by decide) (by decide) ?_
          refine v_aload_n hC (pc := 31) (k := 0) 1 rfl dX7_readRoute_31 ?_
          refine v_getI hC (pc := 32) dX7_readRoute_32 fl_X7_94 rfl (by first | rfl | exact ok_c hq rfl | exact ok_w hq hw | exact ok_w (by omega) (by omega) | exact ok_s (by omega) (by omega) | exact ok_c (by omega) rfl | assumption) rfl (by decide) (by decide) ?_
          refine v_isub hC (pc := 35) dX7_readRoute_35 ?_
          refine v_istore_n hC (pc := 36) (l' := [(2, _), (1, _), (0, _)]) dX7_readRoute_36 (by decide) rfl ?_
          refine v_aload_n hC (pc := 37) (k := 0) 2 rfl dX7_readRoute_37 ?_
          refine v_getI hC (pc := 38) dX7_readRoute_38 fl_X7_91 rfl (by first | rfl | exact ok_c hq rfl | exact ok_w hq hw | exact ok_w (by omega) (by omega) | exact ok_s (by omega) (by omega) | exact ok_c (by omega) rfl | assumption) rfl (by decide) (by decide) ?_
          rw [nfH_17]
          refine v_if_ne hC (pc := 41) (tgt := 60) dX7_readRoute_41 (by decide) (fun c_41 => ?_) (fun c_41 => ?_)
          · skip
            refine v_iconst hC (pc := 60) (v := 0) (by decide) dX7_readRoute_60 ?_
            refine v_istore_n hC (pc := 61) (l' := [(3, _), (2, _), (1, _), (0, _)]) dX7_readRoute_61 (by decide) rfl ?_
            refine v_iload_n hC (pc := 62) (k := 3) 0 rfl dX7_readRoute_62 ?_
            refine v_iload_n hC (pc := 63) (k := 2) 1 rfl dX7_readRoute_63 ?_
            refine v_icmp_ge hC (pc := 64) (tgt := 136) dX7_readRoute_64 (by decide) (fun c_64 => ?_) (fun c_64 => ?_)
            · skip
              refine v_aload_n hC (pc := 136) (k := 0) 3 rfl dX7_readRoute_136 ?_
              refine v_callV hC (pc := 137) (As := []) dX7_readRoute_137 rfl (m_nextToken_f _ _ (d := d - 1) (by omega) _ (by rw [nfH_17]; decide)) cv_X7_141 rfl (by decide) rfl (by first | rfl | exact ok_c hq rfl | exact ok_w hq hw | exact ok_w (by omega) (by omega) | exact ok_s (by omega) (by omega) | exact ok_c (by omega) rfl | assumption) (Nat.le_of_ble_eq_true rfl) (by omega) (fun r h' hr => ?_)
              obtain ⟨he9, rfl⟩ := hr
              rw [he9]
              clear he9 h'
              show V _ _ _ (137 + 3) _ _ _
              refine v_iload_n hC (pc := 140) (k := 1) 2 rfl dX7_readRoute_140 ?_
              refine v_iret hC hX (pc := 141) dX7_readRoute_141 ?_
              have e9 : rouS T t a = .inl (2, tF T t a.1) := by unfold rouS; rw [iteP_f g2, iteP_f hk]
              refine ⟨_, rfl, ?_, fun a9 ha b hb => ?_⟩
              · show RS T t h0 _ (rouS T t a)
                rw [e9]
                exact GoS_nf hG (by decide)
              · cases ha; rw [e9] at hb; cases hb
            · skip
              refine v_aload_n hC (pc := 67) (k := 0) 3 rfl dX7_readRoute_67 ?_
              refine v_getI hC (pc := 68) dX7_readRoute_68 fl_X7_91 rfl (by first | rfl | exact ok_c hq rfl | exact ok_w hq hw | exact ok_w (by omega) (by omega) | exact ok_s (by omega) (by omega) | exact ok_c (by omega) rfl | assumption) rfl (by decide) (by decide) ?_
              rw [nfH_17]
              refine v_if_ne hC (pc := 71) (tgt := 136) dX7_readRoute_71 (by decide) (fun c_71 => ?_) (fun c_71 => ?_)
              · skip
                refine v_aload_n hC (pc := 136) (k := 0) 3 rfl dX7_readRoute_136 ?_
                refine v_callV hC (pc := 137) (As := []) dX7_readRoute_137 rfl (m_nextToken_f _ _ (d := d - 1) (by omega) _ (by rw [nfH_17]; decide)) cv_X7_141 rfl (by decide) rfl (by first | rfl | exact ok_c hq rfl | exact ok_w hq hw | exact ok_w (by omega) (by omega) | exact ok_s (by omega) (by omega) | exact ok_c (by omega) rfl | assumption) (Nat.le_of_ble_eq_true rfl) (by omega) (fun r h' hr => ?_)
                obtain ⟨he9, rfl⟩ := hr
                rw [he9]
                clear he9 h'
                show V _ _ _ (137 + 3) _ _ _
                refine v_iload_n hC (pc := 140) (k := 1) 2 rfl dX7_readRoute_140 ?_
                refine v_iret hC hX (pc := 141) dX7_readRoute_141 ?_
                have e9 : rouS T t a = .inl (2, tF T t a.1) := by unfold rouS; rw [iteP_f g2, iteP_f hk]
                refine ⟨_, rfl, ?_, fun a9 ha b hb => ?_⟩
                · show RS T t h0 _ (rouS T t a)
                  rw [e9]
                  exact GoS_nf hG (by decide)
                · cases ha; rw [e9] at hb; cases hb
              · exact absurd c_71 (by decide)
          · exact absurd c_41 (by decide)
        · exact absurd c_15 (fun z => hk ((nI_eq (by have : tK T t a.1 ≤ 3 := tK_le _ _ _; omega) (by decide)).mp (g8.symm.trans z)))
  · skip
    refine v_iconst hC (pc := 0) (v := 0) (by decide) dX7_readRoute_0 ?_
    refine v_istore_n hC (pc := 1) (l' := [(1, _), (0, _)]) dX7_readRoute_1 (by decide) rfl ?_
    refine v_aload_n hC (pc := 2) (k := 0) 1 rfl dX7_readRoute_2 ?_
    refine v_getI hC (pc := 3) dX7_readRoute_3 fl_X7_91 rfl (by first | rfl | exact ok_c hq rfl | exact ok_w hq hw | exact ok_w (by omega) (by omega) | exact ok_s (by omega) (by omega) | exact ok_c (by omega) rfl | assumption) rfl (by decide) (by decide) ?_
    refine v_if_ne hC (pc := 6) (tgt := 27) dX7_readRoute_6 (by decide) (fun c_6 => ?_) (fun c_6 => ?_)
    · skip
      refine v_aload_n hC (pc := 27) (k := 0) 1 rfl dX7_readRoute_27 ?_
      refine v_getI hC (pc := 28) dX7_readRoute_28 fl_X7_100 rfl (by first | rfl | exact ok_c hq rfl | exact ok_w hq hw | exact ok_w (by omega) (by omega) | exact ok_s (by omega) (by omega) | exact ok_c (by omega) rfl | assumption) rfl (by decide) (by decide) ?_
      refine v_aload_n hC (pc := 31) (k := 0) 1 rfl dX7_readRoute_31 ?_
      refine v_getI hC (pc := 32) dX7_readRoute_32 fl_X7_94 rfl (by first | rfl | exact ok_c hq rfl | exact ok_w hq hw | exact ok_w (by omega) (by omega) | exact ok_s (by omega) (by omega) | exact ok_c (by omega) rfl | assumption) rfl (by decide) (by decide) ?_
      refine v_isub hC (pc := 35) dX7_readRoute_35 ?_
      refine v_istore_n hC (pc := 36) (l' := [(2, _), (1, _), (0, _)]) dX7_readRoute_36 (by decide) rfl ?_
      refine v_aload_n hC (pc := 37) (k := 0) 2 rfl dX7_readRoute_37 ?_
      refine v_getI hC (pc := 38) dX7_readRoute_38 fl_X7_91 rfl (by first | rfl | exact ok_c hq rfl | exact ok_w hq hw | exact ok_w (by omega) (by omega) | exact ok_s (by omega) (by omega) | exact ok_c (by omega) rfl | assumption) rfl (by decide) (by decide) ?_
      refine v_if_ne hC (pc := 41) (tgt := 60) dX7_readRoute_41 (by decide) (fun c_41 => ?_) (fun c_41 => ?_)
      · skip
        refine v_iconst hC (pc := 60) (v := 0) (by decide) dX7_readRoute_60 ?_
        refine v_istore_n hC (pc := 61) (l' := [(3, _), (2, _), (1, _), (0, _)]) dX7_readRoute_61 (by decide) rfl ?_
        refine v_iload_n hC (pc := 62) (k := 3) 0 rfl dX7_readRoute_62 ?_
        refine v_iload_n hC (pc := 63) (k := 2) 1 rfl dX7_readRoute_63 ?_
        refine v_icmp_ge hC (pc := 64) (tgt := 136) dX7_readRoute_64 (by decide) (fun c_64 => ?_) (fun c_64 => ?_)
        · skip
          refine v_aload_n hC (pc := 136) (k := 0) 3 rfl dX7_readRoute_136 ?_
          refine v_callV hC (pc := 137) (As := []) dX7_readRoute_137 rfl (m_nextToken_f _ _ (d := d - 1) (by omega) _ (RS_fp hx hf0)) cv_X7_141 rfl (by decide) rfl (by first | rfl | exact ok_c hq rfl | exact ok_w hq hw | exact ok_w (by omega) (by omega) | exact ok_s (by omega) (by omega) | exact ok_c (by omega) rfl | assumption) (Nat.le_of_ble_eq_true rfl) (by omega) (fun r h' hr => ?_)
          obtain ⟨he9, rfl⟩ := hr
          rw [he9]
          clear he9 h'
          show V _ _ _ (137 + 3) _ _ _
          refine v_iload_n hC (pc := 140) (k := 1) 2 rfl dX7_readRoute_140 ?_
          refine v_iret hC hX (pc := 141) dX7_readRoute_141 ?_
          refine ⟨0, rfl, RS_f hx (rsp_rou T t) hf0 (RS_RE hx) rfl rfl, fun a ha b hb => ?_⟩
          subst ha
          rcases hx with ⟨z, _⟩ | z
          · rw [rsp_rou T t a z] at hb; cases hb
          · exact absurd z.2.2.2.2.1 hf0
        · skip
          refine v_aload_n hC (pc := 67) (k := 0) 3 rfl dX7_readRoute_67 ?_
          refine v_getI hC (pc := 68) dX7_readRoute_68 fl_X7_91 rfl (by first | rfl | exact ok_c hq rfl | exact ok_w hq hw | exact ok_w (by omega) (by omega) | exact ok_s (by omega) (by omega) | exact ok_c (by omega) rfl | assumption) rfl (by decide) (by decide) ?_
          refine v_if_ne hC (pc := 71) (tgt := 136) dX7_readRoute_71 (by decide) (fun c_71 => ?_) (fun c_71 => ?_)
          · skip
            refine v_aload_n hC (pc := 136) (k := 0) 3 rfl dX7_readRoute_136 ?_
            refine v_callV hC (pc := 137) (As := []) dX7_readRoute_137 rfl (m_nextToken_f _ _ (d := d - 1) (by omega) _ (RS_fp hx hf0)) cv_X7_141 rfl (by decide) rfl (by first | rfl | exact ok_c hq rfl | exact ok_w hq hw | exact ok_w (by omega) (by omega) | exact ok_s (by omega) (by omega) | exact ok_c (by omega) rfl | assumption) (Nat.le_of_ble_eq_true rfl) (by omega) (fun r h' hr => ?_)
            obtain ⟨he9, rfl⟩ := hr
            rw [he9]
            clear he9 h'
            show V _ _ _ (137 + 3) _ _ _
            refine v_iload_n hC (pc := 140) (k := 1) 2 rfl dX7_readRoute_140 ?_
            refine v_iret hC hX (pc := 141) dX7_readRoute_141 ?_
            refine ⟨0, rfl, RS_f hx (rsp_rou T t) hf0 (RS_RE hx) rfl rfl, fun a ha b hb => ?_⟩
            subst ha
            rcases hx with ⟨z, _⟩ | z
            · rw [rsp_rou T t a z] at hb; cases hb
            · exact absurd z.2.2.2.2.1 hf0
          · exact absurd c_71 hf0
      · exact absurd c_41 hf0
    · exact absurd c_6 hf0

