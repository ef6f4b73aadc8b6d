/-! THE REFERENCE: way, both -/
theorem rc0 {L : Nat → Nat → Nat → Option Nat} (hL : ∀ c s hr t, L c s hr = some t → t < 8) {hr ohr a g n : Nat} (ha : a < 8) : rchF L hr ohr a n g ↔ cnF L hr ohr g n 0 (a * 8 + a) := by
  have e := rch_cn hL ha (hr := hr) (ohr := ohr) (g := g) (m := n) (k := 0)
  rw [Nat.zero_add] at e
  rw [e]
  constructor
  · rintro ⟨p, z1, z2⟩
    have z : p = a * 8 + a := z1
    rw [← z]; exact z2
  · intro z
    exact ⟨_, rfl, z⟩
noncomputable def ltV (L : Nat → Nat → Nat → Option Nat) (hr ohr a g n i : Nat) : Int32 := if i < n then nI (ltF L hr ohr g n i (curF L hr ohr g n a i)) else -4
/-- shortest ways: how many letters, or the letter i -/
noncomputable def wyR (L : Nat → Nat → Nat → Option Nat) (hr ohr a b : Nat) (f : Nat → Int32) (r : Option PV) : Prop := (∃ n, n ≤ 24 ∧ rchF L hr ohr a n (b * 8 + b) ∧ (∀ m, m < n → ¬ rchF L hr ohr a m (b * 8 + b)) ∧ r = some (vi (f n))) ∨ (r = some (vi (-4)) ∧ ∀ m, m ≤ 24 → ¬ rchF L hr ohr a m (b * 8 + b))
theorem m_letterOf2 (l9 : Launch) (G : WT) {d : Nat} (hd : 5 ≤ d) (h : HP) {nC : Nat} (hn8 : nC ≤ 8) (hnc : h.1 (3, 0, 0) 3 = nI nC) {A : Nat → Int32} (hA : h.1 (3, 0, 2) = A) (hS : wfS A nC) {sg : Int32} (hsg : A 16 = sg) {a b m i hr ohr : Nat} (ha8 : a < 8) (hm : m ≤ 24) (hi : i < 1000) (hcn0 : cnF (LM A sg nC) hr ohr (b * 8 + b) m 0 (a * 8 + a)) (hcan : ∀ j, j ≤ m → ∀ p, p < 64 → h.1 (3, 0, 22) (64 * j + p) = bP (cnF (LM A sg nC) hr ohr (b * 8 + b) (m - j) j p)) : MS l9 G yX7_letterOf cX7_letterOf 10 (some .int) d [vr (3, 0, 0), vi (nI a), vi (nI hr), vi (nI ohr), vi (nI m), vi (nI i)] h (fun r h1 => h1 = h ∧ r = some (vi (ltV (LM A sg nC) hr ohr a (b * 8 + b) m i))) := by
  unfold ltV
  by_cases e : i < m
  · rw [if_pos e]; exact m_letterOf l9 G hd h hn8 hnc hA hS hsg ha8 hm e hcn0 hcan
  · rw [if_neg e]; exact m_letterOf_n l9 G hd h hi (by omega)
theorem stH_wfS {h : HP} {nC : Nat} (h8 : nC ≤ 8) (hS : wfS (h.1 (3, 0, 1)) nC) : wfS ((stH h).1 (3, 0, 2)) nC := fun c s hc hs => by
  rw [stH_at h (by omega)]
  exact hS c s hc hs
set_option maxRecDepth 20000 in
set_option maxHeartbeats 2000000 in
theorem m_wayOf_0 (l9 : Launch) (G : WT) {d : Nat} (hd : 6 ≤ d) (h : HP) {nC : Nat} (hn8 : nC ≤ 8) (hnc : h.1 (3, 0, 0) 3 = nI nC) (hS : wfS (h.1 (3, 0, 1)) nC) {a b hr0 ohr : Nat} (hac : a < nC) (hbc : b < nC) (hh : hr0 < 24) (hohr : ohr < 1000) : MS l9 G yX7_wayOf cX7_wayOf 7 (some .int) d [vr (3, 0, 0), vi (nI a), vi (nI b), vi (nI hr0), vi (nI ohr), vi 0] h (fun r h1 => scr h h1 ∧ wyR (LM ((stH h).1 (3, 0, 2)) (((stH h).1 (3, 0, 2)) 16) nC) hr0 ohr a b (fun n => nI n) r) := by
  refine MS_of (by decide +kernel) (Nat.le_of_ble_eq_true rfl) (fun X hC hX => ?_)
  show V X G 7 0 _ [] _
  refine v_aload_n hC (pc := 0) (k := 0) 0 rfl dX7_wayOf_0 ?_
  refine v_iload_n hC (pc := 1) (k := 1) 1 rfl dX7_wayOf_1 ?_
  refine v_callV hC (pc := 2) (As := [_]) dX7_wayOf_2 rfl (m_isCorner_t _ _ (d := d - 1) (by omega) _ (c := a) (by assumption) hn8 hnc) cv_X7_210 rfl (by decide) rfl (by first | rfl | exact ok_c hq rfl | exact ok_w hq hw | exact ok_w (by omega) (by omega) | exact ok_s (by omega) (by omega) | exact ok_c (by omega) rfl | assumption) (Nat.le_of_ble_eq_true rfl) (by omega) (fun r h' hr => ?_)
  obtain ⟨he9, rfl⟩ := hr
  rw [he9]
  clear he9 h'
  show V _ _ _ (2 + 3) _ (_ :: _) _
  refine v_if_eq hC (pc := 5) (tgt := 43) dX7_wayOf_5 (by decide) (fun c_5 => ?_) (fun c_5 => ?_)
  · exact absurd c_5 (by decide)
  · skip
    refine v_aload_n hC (pc := 8) (k := 0) 0 rfl dX7_wayOf_8 ?_
    refine v_iload_n hC (pc := 9) (k := 2) 2 rfl dX7_wayOf_9 ?_
    refine v_callV hC (pc := 10) (As := [_]) dX7_wayOf_10 rfl (m_isCorner_t _ _ (d := d - 1) (by omega) _ (c := b) (by assumption) hn8 hnc) cv_X7_210 rfl (by decide) rfl (by first | rfl | exact ok_c hq rfl | exact ok_w hq hw | exact ok_w (by omega) (by omega) | exact ok_s (by omega) (by omega) | exact ok_c (by omega) rfl | assumption) (Nat.le_of_ble_eq_true rfl) (by omega) (fun r h' hr => ?_)
    obtain ⟨he9, rfl⟩ := hr
    rw [he9]
    clear he9 h'
    show V _ _ _ (10 + 3) _ (_ :: _) _
    refine v_if_eq hC (pc := 13) (tgt := 43) dX7_wayOf_13 (by decide) (fun c_13 => ?_) (fun c_13 => ?_)
    · exact absurd c_13 (by decide)
    · skip
      refine v_iload_n hC (pc := 16) (k := 3) 3 rfl dX7_wayOf_16 ?_
      refine v_callS hC (pc := 17) (As := [_]) dX7_wayOf_17 rfl (m_isHour_t _ _ (d := d - 1) (by omega) _ (s := hr0) (by assumption)) cs_X7_225 (Nat.le_of_ble_eq_true rfl) (by omega) (fun r h' hr => ?_)
      obtain ⟨he9, rfl⟩ := hr
      rw [he9]
      clear he9 h'
      show V _ _ _ (17 + 3) _ (_ :: _) _
      refine v_if_eq hC (pc := 20) (tgt := 43) dX7_wayOf_20 (by decide) (fun c_20 => ?_) (fun c_20 => ?_)
      · exact absurd c_20 (by decide)
      · skip
        refine v_iload hC (pc := 23) 5 rfl dX7_wayOf_23 ?_
        refine v_if_eq hC (pc := 25) (tgt := 45) dX7_wayOf_25 (by decide) (fun c_25 => ?_) (fun c_25 => ?_)
        · skip
          refine v_aload_n hC (pc := 45) (k := 0) 0 rfl dX7_wayOf_45 ?_
          refine v_callV hC (pc := 46) (As := []) dX7_wayOf_46 rfl (m_starts _ _ (d := d - 1) (by omega) _) cv_X7_219 rfl (by decide) rfl (by first | rfl | exact ok_c hq rfl | exact ok_w hq hw | exact ok_w (by omega) (by omega) | exact ok_s (by omega) (by omega) | exact ok_c (by omega) rfl | assumption) (Nat.le_of_ble_eq_true rfl) (by omega) (fun r h' hr => ?_)
          obtain ⟨rfl, rfl⟩ := hr
          refine v_heap (show _ = stH h from rfl) ?_
          show V _ _ _ (46 + 3) _ _ _
          refine v_aload_n hC (pc := 49) (k := 0) 0 rfl dX7_wayOf_49 ?_
          refine v_iload_n hC (pc := 50) (k := 1) 1 rfl dX7_wayOf_50 ?_
          refine v_iload_n hC (pc := 51) (k := 2) 2 rfl dX7_wayOf_51 ?_
          refine v_iload_n hC (pc := 52) (k := 3) 3 rfl dX7_wayOf_52 ?_
          refine v_iload hC (pc := 53) 4 rfl dX7_wayOf_53 ?_
          refine v_callV hC (pc := 55) (As := [_, _, _, _]) dX7_wayOf_55 rfl (m_shortest _ _ (d := d - 1) (by omega) _ hn8 (by rw [stH_o h (by decide)]; exact hnc) (A := ((stH h).1 (3, 0, 2))) rfl (stH_wfS hn8 hS) (sg := ((stH h).1 (3, 0, 2)) 16) rfl (a := a) (b := b) (hr := hr0) (ohr := ohr) (by omega) (by omega) (by omega) hohr) cv_X7_252 rfl (by decide) rfl (by first | rfl | exact ok_c hq rfl | exact ok_w hq hw | exact ok_w (by omega) (by omega) | exact ok_s (by omega) (by omega) | exact ok_c (by omega) rfl | assumption) (Nat.le_of_ble_eq_true rfl) (by omega) (fun r h' hr => ?_)
          obtain ⟨v, rfl, ha, haA, hv⟩ : ∃ v, r = some (vi v) ∧ scr (stH h) h' ∧ h'.1 (3, 0, 2) = ((stH h).1 (3, 0, 2)) ∧ ((∃ n, n ≤ 24 ∧ v = nI n ∧ cnF (LM ((stH h).1 (3, 0, 2)) (((stH h).1 (3, 0, 2)) 16) nC) hr0 ohr (b * 8 + b) n 0 (a * 8 + a) ∧ (∀ m, m < n → ¬ cnF (LM ((stH h).1 (3, 0, 2)) (((stH h).1 (3, 0, 2)) 16) nC) hr0 ohr (b * 8 + b) m 0 (a * 8 + a)) ∧ ∀ j, j ≤ n → ∀ p, p < 64 → h'.1 (3, 0, 22) (64 * j + p) = bP (cnF (LM ((stH h).1 (3, 0, 2)) (((stH h).1 (3, 0, 2)) 16) nC) hr0 ohr (b * 8 + b) (n - j) j p)) ∨ (v = -4 ∧ ∀ m, m ≤ 24 → ¬ cnF (LM ((stH h).1 (3, 0, 2)) (((stH h).1 (3, 0, 2)) 16) nC) hr0 ohr (b * 8 + b) m 0 (a * 8 + a))) := by
            rcases hr with ⟨n, hn, rfl, ha, haA, hcn, hno, hcan⟩ | ⟨rfl, ha, haA, hno⟩
            · exact ⟨_, rfl, ha, haA, Or.inl ⟨n, hn, rfl, hcn, hno, hcan⟩⟩
            · exact ⟨_, rfl, ha, haA, Or.inr ⟨rfl, hno⟩⟩
          show V _ _ _ (55 + 3) _ (_ :: _) _
          refine v_istore hC (pc := 58) (l' := [(6, _), (0, _), (1, _), (2, _), (3, _), (4, _), (5, _)]) dX7_wayOf_58 (by decide) rfl ?_
          refine v_iload hC (pc := 60) 0 rfl dX7_wayOf_60 ?_
          refine v_bipush hC (pc := 62) (v := (-4)) (by decide +kernel) dX7_wayOf_62 ?_
          refine v_icmp_eq hC (pc := 64) (tgt := 72) dX7_wayOf_64 (by decide) (fun c_64 => ?_) (fun c_64 => ?_)
          · skip
            refine v_iload hC (pc := 72) 0 rfl dX7_wayOf_72 ?_
            refine v_goto hC (pc := 74) (tgt := 92) dX7_wayOf_74 (by decide) ?_
            refine v_iret hC hX (pc := 92) dX7_wayOf_92 ?_
            have hL : ∀ c s hr t, (LM ((stH h).1 (3, 0, 2)) (((stH h).1 (3, 0, 2)) 16) nC) c s hr = some t → t < 8 := LM_lt hn8 (stH_wfS hn8 hS)
            refine ⟨scr_t (scr_st h) ha, ?_⟩
            rcases hv with ⟨n, hn, e, hcn, hno, hcan⟩ | ⟨e, hno⟩
            · exact Or.inl ⟨n, hn, (rc0 hL (by omega)).mpr hcn, fun m hm z => hno m hm ((rc0 hL (by omega)).mp z), by rw [e]⟩
            · exact Or.inr ⟨by rw [e], fun m hm z => hno m hm ((rc0 hL (by omega)).mp z)⟩
          · skip
            refine v_iload hC (pc := 67) 6 rfl dX7_wayOf_67 ?_
            refine v_if_ne hC (pc := 69) (tgt := 77) dX7_wayOf_69 (by decide) (fun c_69 => ?_) (fun c_69 => ?_)
            · exact absurd rfl c_69
            · skip
              refine v_iload hC (pc := 72) 0 rfl dX7_wayOf_72 ?_
              refine v_goto hC (pc := 74) (tgt := 92) dX7_wayOf_74 (by decide) ?_
              refine v_iret hC hX (pc := 92) dX7_wayOf_92 ?_
              have hL : ∀ c s hr t, (LM ((stH h).1 (3, 0, 2)) (((stH h).1 (3, 0, 2)) 16) nC) c s hr = some t → t < 8 := LM_lt hn8 (stH_wfS hn8 hS)
              refine ⟨scr_t (scr_st h) ha, ?_⟩
              rcases hv with ⟨n, hn, e, hcn, hno, hcan⟩ | ⟨e, hno⟩
              · exact Or.inl ⟨n, hn, (rc0 hL (by omega)).mpr hcn, fun m hm z => hno m hm ((rc0 hL (by omega)).mp z), by rw [e]⟩
              · exact Or.inr ⟨by rw [e], fun m hm z => hno m hm ((rc0 hL (by omega)).mp z)⟩
        · exact absurd rfl c_25

theorem nI_ge2 {a b : Nat} (h : a ≤ b) (hb : b < 2 ^ 31) : ¬ nI b < nI a := Int32.not_lt.mpr (nI_le h hb)
set_option maxRecDepth 20000 in
set_option maxHeartbeats 2000000 in
theorem m_wayOf_i (l9 : Launch) (G : WT) {d : Nat} (hd : 6 ≤ d) (h : HP) {nC : Nat} (hn8 : nC ≤ 8) (hnc : h.1 (3, 0, 0) 3 = nI nC) (hS : wfS (h.1 (3, 0, 1)) nC) {a b hr0 ohr : Nat} (hac : a < nC) (hbc : b < nC) (hh : hr0 < 24) (hohr : ohr < 1000) {i : Nat} (hi : i < 24) : MS l9 G yX7_wayOf cX7_wayOf 7 (some .int) d [vr (3, 0, 0), vi (nI a), vi (nI b), vi (nI hr0), vi (nI ohr), vi (nI (10 + i))] h (fun r h1 => scr h h1 ∧ wyR (LM ((stH h).1 (3, 0, 2)) (((stH h).1 (3, 0, 2)) 16) nC) hr0 ohr a b (fun n => ltV (LM ((stH h).1 (3, 0, 2)) (((stH h).1 (3, 0, 2)) 16) nC) hr0 ohr a (b * 8 + b) n i) r) := by
  refine MS_of (by decide +kernel) (Nat.le_of_ble_eq_true rfl) (fun X hC hX => ?_)
  show V X G 7 0 _ [] _
  have nz : ¬ nI (10 + i) = 0 := fun z => absurd ((nI_eq (show 10 + i < 2 ^ 31 by omega) (show 0 < 2 ^ 31 by decide)).mp z) (by omega)
  refine v_aload_n hC (pc := 0) (k := 0) 0 rfl dX7_wayOf_0 ?_
  refine v_iload_n hC (pc := 1) (k := 1) 1 rfl dX7_wayOf_1 ?_
  refine v_callV hC (pc := 2) (As := [_]) dX7_wayOf_2 rfl (m_isCorner_t _ _ (d := d - 1) (by omega) _ (c := a) (by assumption) hn8 hnc) cv_X7_210 rfl (by decide) rfl (by first | rfl | exact ok_c hq rfl | exact ok_w hq hw | exact ok_w (by omega) (by omega) | exact ok_s (by omega) (by omega) | exact ok_c (by omega) rfl | assumption) (Nat.le_of_ble_eq_true rfl) (by omega) (fun r h' hr => ?_)
  obtain ⟨he9, rfl⟩ := hr
  rw [he9]
  clear he9 h'
  show V _ _ _ (2 + 3) _ (_ :: _) _
  refine v_if_eq hC (pc := 5) (tgt := 43) dX7_wayOf_5 (by decide) (fun c_5 => ?_) (fun c_5 => ?_)
  · exact absurd c_5 (by decide)
  · skip
    refine v_aload_n hC (pc := 8) (k := 0) 0 rfl dX7_wayOf_8 ?_
    refine v_iload_n hC (pc := 9) (k := 2) 2 rfl dX7_wayOf_9 ?_
    refine v_callV hC (pc := 10) (As := [_]) dX7_wayOf_10 rfl (m_isCorner_t _ _ (d := d - 1) (by omega) _ (c := b) (by assumption) hn8 hnc) cv_X7_210 rfl (by decide) rfl (by first | rfl | exact ok_c hq rfl | exact ok_w hq hw | exact ok_w (by omega) (by omega) | exact ok_s (by omega) (by omega) | exact ok_c (by omega) rfl | assumption) (Nat.le_of_ble_eq_true rfl) (by omega) (fun r h' hr => ?_)
    obtain ⟨he9, rfl⟩ := hr
    rw [he9]
    clear he9 h'
    show V _ _ _ (10 + 3) _ (_ :: _) _
    refine v_if_eq hC (pc := 13) (tgt := 43) dX7_wayOf_13 (by decide) (fun c_13 => ?_) (fun c_13 => ?_)
    · exact absurd c_13 (by decide)
    · skip
      refine v_iload_n hC (pc := 16) (k := 3) 3 rfl dX7_wayOf_16 ?_
      refine v_callS hC (pc := 17) (As := [_]) dX7_wayOf_17 rfl (m_isHour_t _ _ (d := d - 1) (by omega) _ (s := hr0) (by assumption)) cs_X7_225 (Nat.le_of_ble_eq_true rfl) (by omega) (fun r h' hr => ?_)
      obtain ⟨he9, rfl⟩ := hr
      rw [he9]
      clear he9 h'
      show V _ _ _ (17 + 3) _ (_ :: _) _
      refine v_if_eq hC (pc := 20) (tgt := 43) dX7_wayOf_20 (by decide) (fun c_20 => ?_) (fun c_20 => ?_)
      · exact absurd c_20 (by decide)
      · skip
        refine v_iload hC (pc := 23) 5 rfl dX7_wayOf_23 ?_
        refine v_if_eq hC (pc := 25) (tgt := 45) dX7_wayOf_25 (by decide) (fun c_25 => ?_) (fun c_25 => ?_)
        · exact absurd c_25 nz
        · skip
          refine v_iload hC (pc := 28) 5 rfl dX7_wayOf_28 ?_
          refine v_i2l hC (pc := 30) dX7_wayOf_30 ?_
          refine v_ldc2 hC (pc := 31) k_X7_248 dX7_wayOf_31 ?_
          refine v_ldc2 hC (pc := 34) k_X7_250 dX7_wayOf_34 ?_
          refine v_callS hC (pc := 37) (As := [_, _, _]) dX7_wayOf_37 rfl (m_in_t _ _ (d := d - 1) (by omega) _ (nI (10 + i)) 10 33 ⟨nI_ge2 (show 10 ≤ 10 + i by omega) (by omega), nI_nlt (show 10 + i ≤ 33 by omega) (by decide)⟩) cs_X7_84 (Nat.le_of_ble_eq_true rfl) (by omega) (fun r h' hr => ?_)
          obtain ⟨he9, rfl⟩ := hr
          rw [he9]
          clear he9 h'
          show V _ _ _ (37 + 3) _ (_ :: _) _
          refine v_if_ne hC (pc := 40) (tgt := 45) dX7_wayOf_40 (by decide) (fun c_40 => ?_) (fun c_40 => ?_)
          · skip
            refine v_aload_n hC (pc := 45) (k := 0) 0 rfl dX7_wayOf_45 ?_
            refine v_callV hC (pc := 46) (As := []) dX7_wayOf_46 rfl (m_starts _ _ (d := d - 1) (by omega) _) cv_X7_219 rfl (by decide) rfl (by first | rfl | exact ok_c hq rfl | exact ok_w hq hw | exact ok_w (by omega) (by omega) | exact ok_s (by omega) (by omega) | exact ok_c (by omega) rfl | assumption) (Nat.le_of_ble_eq_true rfl) (by omega) (fun r h' hr => ?_)
            obtain ⟨rfl, rfl⟩ := hr
            refine v_heap (show _ = stH h from rfl) ?_
            show V _ _ _ (46 + 3) _ _ _
            refine v_aload_n hC (pc := 49) (k := 0) 0 rfl dX7_wayOf_49 ?_
            refine v_iload_n hC (pc := 50) (k := 1) 1 rfl dX7_wayOf_50 ?_
            refine v_iload_n hC (pc := 51) (k := 2) 2 rfl dX7_wayOf_51 ?_
            refine v_iload_n hC (pc := 52) (k := 3) 3 rfl dX7_wayOf_52 ?_
            refine v_iload hC (pc := 53) 4 rfl dX7_wayOf_53 ?_
            refine v_callV hC (pc := 55) (As := [_, _, _, _]) dX7_wayOf_55 rfl (m_shortest _ _ (d := d - 1) (by omega) _ hn8 (by rw [stH_o h (by decide)]; exact hnc) (A := ((stH h).1 (3, 0, 2))) rfl (stH_wfS hn8 hS) (sg := ((stH h).1 (3, 0, 2)) 16) rfl (a := a) (b := b) (hr := hr0) (ohr := ohr) (by omega) (by omega) (by omega) hohr) cv_X7_252 rfl (by decide) rfl (by first | rfl | exact ok_c hq rfl | exact ok_w hq hw | exact ok_w (by omega) (by omega) | exact ok_s (by omega) (by omega) | exact ok_c (by omega) rfl | assumption) (Nat.le_of_ble_eq_true rfl) (by omega) (fun r h' hr => ?_)
            obtain ⟨v, rfl, ha, haA, hv⟩ : ∃ v, r = some (vi v) ∧ scr (stH h) h' ∧ h'.1 (3, 0, 2) = ((stH h).1 (3, 0, 2)) ∧ ((∃ n, n ≤ 24 ∧ v = nI n ∧ cnF (LM ((stH h).1 (3, 0, 2)) (((stH h).1 (3, 0, 2)) 16) nC) hr0 ohr (b * 8 + b) n 0 (a * 8 + a) ∧ (∀ m, m < n → ¬ cnF (LM ((stH h).1 (3, 0, 2)) (((stH h).1 (3, 0, 2)) 16) nC) hr0 ohr (b * 8 + b) m 0 (a * 8 + a)) ∧ ∀ j, j ≤ n → ∀ p, p < 64 → h'.1 (3, 0, 22) (64 * j + p) = bP (cnF (LM ((stH h).1 (3, 0, 2)) (((stH h).1 (3, 0, 2)) 16) nC) hr0 ohr (b * 8 + b) (n - j) j p)) ∨ (v = -4 ∧ ∀ m, m ≤ 24 → ¬ cnF (LM ((stH h).1 (3, 0, 2)) (((stH h).1 (3, 0, 2)) 16) nC) hr0 ohr (b * 8 + b) m 0 (a * 8 + a))) := by
              rcases hr with ⟨n, hn, rfl, ha, haA, hcn, hno, hcan⟩ | ⟨rfl, ha, haA, hno⟩
              · exact ⟨_, rfl, ha, haA, Or.inl ⟨n, hn, rfl, hcn, hno, hcan⟩⟩
              · exact ⟨_, rfl, ha, haA, Or.inr ⟨rfl, hno⟩⟩
            show V _ _ _ (55 + 3) _ (_ :: _) _
            refine v_istore hC (pc := 58) (l' := [(6, _), (0, _), (1, _), (2, _), (3, _), (4, _), (5, _)]) dX7_wayOf_58 (by decide) rfl ?_
            refine v_iload hC (pc := 60) 0 rfl dX7_wayOf_60 ?_
            refine v_bipush hC (pc := 62) (v := (-4)) (by decide +kernel) dX7_wayOf_62 ?_
            refine v_icmp_eq hC (pc := 64) (tgt := 72) dX7_wayOf_64 (by decide) (fun c_64 => ?_) (fun c_64 => ?_)
            · skip
              refine v_iload hC (pc := 72) 0 rfl dX7_wayOf_72 ?_
              refine v_goto hC (pc := 74) (tgt := 92) dX7_wayOf_74 (by decide) ?_
              refine v_iret hC hX (pc := 92) dX7_wayOf_92 ?_
              first | (refine ⟨scr_t (scr_st h) ha, Or.inr ⟨by rw [c_64], ?_⟩⟩; rcases hv with ⟨n, hn, e, hcn, hno, hcan⟩ | ⟨e, hno⟩; exact absurd (e.symm.trans c_64) (nI_n4 (by omega)); exact fun m hm z => hno m hm ((rc0 (LM_lt hn8 (stH_wfS hn8 hS)) (by omega)).mp z)) | exact ⟨scr_t (scr_st h) ha, Or.inl ⟨n, hn, (rc0 (LM_lt hn8 (stH_wfS hn8 hS)) (by omega)).mpr hcn, fun m hm z => hno m hm ((rc0 (LM_lt hn8 (stH_wfS hn8 hS)) (by omega)).mp z), rfl⟩⟩
            · skip
              refine v_iload hC (pc := 67) 6 rfl dX7_wayOf_67 ?_
              refine v_if_ne hC (pc := 69) (tgt := 77) dX7_wayOf_69 (by decide) (fun c_69 => ?_) (fun c_69 => ?_)
              · skip
                obtain ⟨n, hn, rfl, hcn, hno, hcan⟩ := hv.resolve_right (fun z => c_64 z.1)
                refine v_aload_n hC (pc := 77) (k := 0) 1 rfl dX7_wayOf_77 ?_
                refine v_iload_n hC (pc := 78) (k := 1) 2 rfl dX7_wayOf_78 ?_
                refine v_iload_n hC (pc := 79) (k := 3) 4 rfl dX7_wayOf_79 ?_
                refine v_iload hC (pc := 80) 5 rfl dX7_wayOf_80 ?_
                refine v_iload hC (pc := 82) 0 rfl dX7_wayOf_82 ?_
                refine v_iload hC (pc := 84) 6 rfl dX7_wayOf_84 ?_
                refine v_bipush hC (pc := 86) (v := 10) (by decide +kernel) dX7_wayOf_86 ?_
                refine v_isub hC (pc := 88) dX7_wayOf_88 ?_
                rw [show nI (10 + i) - 10 = nI i from by rw [show (10 : Int32) = nI 10 from rfl, ← nI_add, Int32.add_comm, Int32.add_sub_cancel]]
                refine v_callV hC (pc := 89) (As := [_, _, _, _, _]) dX7_wayOf_89 rfl (m_letterOf2 _ _ (d := d - 1) (by omega) _ hn8 (by rw [ha.1 _ (by decide), stH_o h (by decide)]; exact hnc) haA (stH_wfS hn8 hS) (sg := ((stH h).1 (3, 0, 2)) 16) rfl (a := a) (b := b) (m := n) (i := i) (hr := hr0) (ohr := ohr) (by omega) hn (by omega) hcn hcan) cv_X7_256 rfl (by decide) rfl (by first | rfl | exact ok_c hq rfl | exact ok_w hq hw | exact ok_w (by omega) (by omega) | exact ok_s (by omega) (by omega) | exact ok_c (by omega) rfl | assumption) (Nat.le_of_ble_eq_true rfl) (by omega) (fun r h' hr => ?_)
                obtain ⟨he9, rfl⟩ := hr
                rw [he9]
                clear he9 h'
                show V _ _ _ (89 + 3) _ (_ :: _) _
                refine v_iret hC hX (pc := 92) dX7_wayOf_92 ?_
                first | (refine ⟨scr_t (scr_st h) ha, Or.inr ⟨by rw [c_64], ?_⟩⟩; rcases hv with ⟨n, hn, e, hcn, hno, hcan⟩ | ⟨e, hno⟩; exact absurd (e.symm.trans c_64) (nI_n4 (by omega)); exact fun m hm z => hno m hm ((rc0 (LM_lt hn8 (stH_wfS hn8 hS)) (by omega)).mp z)) | exact ⟨scr_t (scr_st h) ha, Or.inl ⟨n, hn, (rc0 (LM_lt hn8 (stH_wfS hn8 hS)) (by omega)).mpr hcn, fun m hm z => hno m hm ((rc0 (LM_lt hn8 (stH_wfS hn8 hS)) (by omega)).mp z), rfl⟩⟩
              · exact absurd c_69 nz
          · exact absurd c_40 (by decide)

set_option maxRecDepth 20000 in
set_option maxHeartbeats 2000000 in
theorem m_wayOf_bad (l9 : Launch) (G : WT) {d : Nat} (hd : 3 ≤ d) (h : HP) {nC : Nat} (hn8 : nC ≤ 8) (hnc : h.1 (3, 0, 0) 3 = nI nC) (a b t o x : Int32) (hbad : ¬ ((¬ a < 0 ∧ ¬ nI nC ≤ a) ∧ (¬ b < 0 ∧ ¬ nI nC ≤ b) ∧ (¬ t < 0 ∧ ¬ 24 ≤ t) ∧ (x = 0 ∨ ¬ x < 10 ∧ ¬ 33 < x))) : MS l9 G yX7_wayOf cX7_wayOf 7 (some .int) d [vr (3, 0, 0), vi a, vi b, vi t, vi o, vi x] h (fun r h1 => h1 = h ∧ r = some (vi (-1))) := by
  refine MS_of (by decide +kernel) (Nat.le_of_ble_eq_true rfl) (fun X hC hX => ?_)
  show V X G 7 0 _ [] _
  refine v_aload_n hC (pc := 0) (k := 0) 0 rfl dX7_wayOf_0 ?_
  refine v_iload_n hC (pc := 1) (k := 1) 1 rfl dX7_wayOf_1 ?_
  refine v_callV hC (pc := 2) (As := [_]) dX7_wayOf_2 rfl (m_isCorner _ _ (d := d - 1) (by omega) _ hn8 hnc _) cv_X7_210 rfl (by decide) rfl (by first | rfl | exact ok_c hq rfl | exact ok_w hq hw | exact ok_w (by omega) (by omega) | exact ok_s (by omega) (by omega) | exact ok_c (by omega) rfl | assumption) (Nat.le_of_ble_eq_true rfl) (by omega) (fun r h' hr => ?_)
  obtain ⟨he9, rfl⟩ := hr
  rw [he9]
  clear he9 h'
  show V _ _ _ (2 + 3) _ (_ :: _) _
  refine v_ifb_eq hC (pc := 5) (tgt := 43) dX7_wayOf_5 (by decide) (fun c_5 => ?_) (fun c_5 => ?_)
  · skip
    refine v_iconst hC (pc := 43) (v := (-1)) (by decide) dX7_wayOf_43 ?_
    refine v_iret hC hX (pc := 44) dX7_wayOf_44 ?_
    exact ⟨rfl, rfl⟩
  · skip
    refine v_aload_n hC (pc := 8) (k := 0) 0 rfl dX7_wayOf_8 ?_
    refine v_iload_n hC (pc := 9) (k := 2) 2 rfl dX7_wayOf_9 ?_
    refine v_callV hC (pc := 10) (As := [_]) dX7_wayOf_10 rfl (m_isCorner _ _ (d := d - 1) (by omega) _ hn8 hnc _) cv_X7_210 rfl (by decide) rfl (by first | rfl | exact ok_c hq rfl | exact ok_w hq hw | exact ok_w (by omega) (by omega) | exact ok_s (by omega) (by omega) | exact ok_c (by omega) rfl | assumption) (Nat.le_of_ble_eq_true rfl) (by omega) (fun r h' hr => ?_)
    obtain ⟨he9, rfl⟩ := hr
    rw [he9]
    clear he9 h'
    show V _ _ _ (10 + 3) _ (_ :: _) _
    refine v_ifb_eq hC (pc := 13) (tgt := 43) dX7_wayOf_13 (by decide) (fun c_13 => ?_) (fun c_13 => ?_)
    · skip
      refine v_iconst hC (pc := 43) (v := (-1)) (by decide) dX7_wayOf_43 ?_
      refine v_iret hC hX (pc := 44) dX7_wayOf_44 ?_
      exact ⟨rfl, rfl⟩
    · skip
      refine v_iload_n hC (pc := 16) (k := 3) 3 rfl dX7_wayOf_16 ?_
      refine v_callS hC (pc := 17) (As := [_]) dX7_wayOf_17 rfl (m_isHour _ _ (d := d - 1) (by omega) _ _) cs_X7_225 (Nat.le_of_ble_eq_true rfl) (by omega) (fun r h' hr => ?_)
      obtain ⟨he9, rfl⟩ := hr
      rw [he9]
      clear he9 h'
      show V _ _ _ (17 + 3) _ (_ :: _) _
      refine v_ifb_eq hC (pc := 20) (tgt := 43) dX7_wayOf_20 (by decide) (fun c_20 => ?_) (fun c_20 => ?_)
      · skip
        refine v_iconst hC (pc := 43) (v := (-1)) (by decide) dX7_wayOf_43 ?_
        refine v_iret hC hX (pc := 44) dX7_wayOf_44 ?_
        exact ⟨rfl, rfl⟩
      · skip
        refine v_iload hC (pc := 23) 5 rfl dX7_wayOf_23 ?_
        refine v_if_eq hC (pc := 25) (tgt := 45) dX7_wayOf_25 (by decide) (fun c_25 => ?_) (fun c_25 => ?_)
        · skip
          exact absurd (show _ ∧ _ ∧ _ ∧ _ from ⟨c_5, c_13, c_20, by first | exact Or.inl c_25 | exact Or.inr c_40⟩) hbad
        · skip
          refine v_iload hC (pc := 28) 5 rfl dX7_wayOf_28 ?_
          refine v_i2l hC (pc := 30) dX7_wayOf_30 ?_
          refine v_ldc2 hC (pc := 31) k_X7_248 dX7_wayOf_31 ?_
          refine v_ldc2 hC (pc := 34) k_X7_250 dX7_wayOf_34 ?_
          refine v_callS hC (pc := 37) (As := [_, _, _]) dX7_wayOf_37 rfl (m_in _ _ (d := d - 1) (by omega) _ x 10 33) cs_X7_84 (Nat.le_of_ble_eq_true rfl) (by omega) (fun r h' hr => ?_)
          obtain ⟨he9, rfl⟩ := hr
          rw [he9]
          clear he9 h'
          show V _ _ _ (37 + 3) _ (_ :: _) _
          refine v_ifb_ne hC (pc := 40) (tgt := 45) dX7_wayOf_40 (by decide) (fun c_40 => ?_) (fun c_40 => ?_)
          · skip
            exact absurd (show _ ∧ _ ∧ _ ∧ _ from ⟨c_5, c_13, c_20, by first | exact Or.inl c_25 | exact Or.inr c_40⟩) hbad
          · skip
            refine v_iconst hC (pc := 43) (v := (-1)) (by decide) dX7_wayOf_43 ?_
            refine v_iret hC hX (pc := 44) dX7_wayOf_44 ?_
            exact ⟨rfl, rfl⟩

theorem wyR_v {L : Nat → Nat → Nat → Option Nat} {hr ohr a b : Nat} {f : Nat → Int32} {r : Option PV} (h : wyR L hr ohr a b f r) : ∃ v, r = some (vi v) := by
  rcases h with ⟨n, _, _, _, e⟩ | ⟨e, _⟩
  · exact ⟨_, e⟩
  · exact ⟨_, e⟩
set_option maxRecDepth 20000 in
set_option maxHeartbeats 2000000 in
theorem m_way_0 (l9 : Launch) (G : WT) {d : Nat} (hd : 7 ≤ d) (h : HP) {nC : Nat} (hn8 : nC ≤ 8) (hnc : h.1 (3, 0, 0) 3 = nI nC) (hS : wfS (h.1 (3, 0, 1)) nC) {a b hr0 : Nat} (hac : a < nC) (hbc : b < nC) (hh : hr0 < 24) : MS l9 G yX7_way cX7_way 5 (some .int) d [vr (3, 0, 0), vi (nI a), vi (nI b), vi (nI hr0), vi 0] h (fun r h1 => scr h h1 ∧ wyR (LM ((stH h).1 (3, 0, 2)) (((stH h).1 (3, 0, 2)) 16) nC) hr0 hr0 a b (fun n => nI n) r) := by
  refine MS_of (by decide +kernel) (Nat.le_of_ble_eq_true rfl) (fun X hC hX => ?_)
  show V X G 5 0 _ [] _
  refine v_aload_n hC (pc := 0) (k := 0) 0 rfl dX7_way_0 ?_
  refine v_iload_n hC (pc := 1) (k := 1) 1 rfl dX7_way_1 ?_
  refine v_iload_n hC (pc := 2) (k := 2) 2 rfl dX7_way_2 ?_
  refine v_iload_n hC (pc := 3) (k := 3) 3 rfl dX7_way_3 ?_
  refine v_iload_n hC (pc := 4) (k := 3) 3 rfl dX7_way_4 ?_
  refine v_iload hC (pc := 5) 4 rfl dX7_way_5 ?_
  refine v_callV hC (pc := 7) (As := [_, _, _, _, _]) dX7_way_7 rfl (m_wayOf_0 _ _ (d := d - 1) (by omega) _ hn8 hnc hS (a := a) (b := b) (hr0 := hr0) (ohr := hr0) hac hbc hh (by omega)) cv_X7_260 rfl (by decide) rfl (by first | rfl | exact ok_c hq rfl | exact ok_w hq hw | exact ok_w (by omega) (by omega) | exact ok_s (by omega) (by omega) | exact ok_c (by omega) rfl | assumption) (Nat.le_of_ble_eq_true rfl) (by omega) (fun r h' hr => ?_)
  obtain ⟨hsc, hwy⟩ := hr
  obtain ⟨v, rfl⟩ := wyR_v hwy
  show V _ _ _ (7 + 3) _ (_ :: _) _
  refine v_iret hC hX (pc := 10) dX7_way_10 ?_
  exact ⟨hsc, hwy⟩

set_option maxRecDepth 20000 in
set_option maxHeartbeats 2000000 in
theorem m_way_i (l9 : Launch) (G : WT) {d : Nat} (hd : 7 ≤ d) (h : HP) {nC : Nat} (hn8 : nC ≤ 8) (hnc : h.1 (3, 0, 0) 3 = nI nC) (hS : wfS (h.1 (3, 0, 1)) nC) {a b hr0 : Nat} (hac : a < nC) (hbc : b < nC) (hh : hr0 < 24) {i : Nat} (hi : i < 24) : MS l9 G yX7_way cX7_way 5 (some .int) d [vr (3, 0, 0), vi (nI a), vi (nI b), vi (nI hr0), vi (nI (10 + i))] h (fun r h1 => scr h h1 ∧ wyR (LM ((stH h).1 (3, 0, 2)) (((stH h).1 (3, 0, 2)) 16) nC) hr0 hr0 a b (fun n => ltV (LM ((stH h).1 (3, 0, 2)) (((stH h).1 (3, 0, 2)) 16) nC) hr0 hr0 a (b * 8 + b) n i) r) := by
  refine MS_of (by decide +kernel) (Nat.le_of_ble_eq_true rfl) (fun X hC hX => ?_)
  show V X G 5 0 _ [] _
  refine v_aload_n hC (pc := 0) (k := 0) 0 rfl dX7_way_0 ?_
  refine v_iload_n hC (pc := 1) (k := 1) 1 rfl dX7_way_1 ?_
  refine v_iload_n hC (pc := 2) (k := 2) 2 rfl dX7_way_2 ?_
  refine v_iload_n hC (pc := 3) (k := 3) 3 rfl dX7_way_3 ?_
  refine v_iload_n hC (pc := 4) (k := 3) 3 rfl dX7_way_4 ?_
  refine v_iload hC (pc := 5) 4 rfl dX7_way_5 ?_
  refine v_callV hC (pc := 7) (As := [_, _, _, _, _]) dX7_way_7 rfl (m_wayOf_i _ _ (d := d - 1) (by omega) _ hn8 hnc hS (a := a) (b := b) (hr0 := hr0) (ohr := hr0) hac hbc hh (by omega) hi) cv_X7_260 rfl (by decide) rfl (by first | rfl | exact ok_c hq rfl | exact ok_w hq hw | exact ok_w (by omega) (by omega) | exact ok_s (by omega) (by omega) | exact ok_c (by omega) rfl | assumption) (Nat.le_of_ble_eq_true rfl) (by omega) (fun r h' hr => ?_)
  obtain ⟨hsc, hwy⟩ := hr
  obtain ⟨v, rfl⟩ := wyR_v hwy
  show V _ _ _ (7 + 3) _ (_ :: _) _
  refine v_iret hC hX (pc := 10) dX7_way_10 ?_
  exact ⟨hsc, hwy⟩

set_option maxRecDepth 20000 in
set_option maxHeartbeats 2000000 in
theorem m_way_bad (l9 : Launch) (G : WT) {d : Nat} (hd : 7 ≤ d) (h : HP) {nC : Nat} (hn8 : nC ≤ 8) (hnc : h.1 (3, 0, 0) 3 = nI nC) (a b t x : Int32) (hbad : ¬ ((¬ a < 0 ∧ ¬ nI nC ≤ a) ∧ (¬ b < 0 ∧ ¬ nI nC ≤ b) ∧ (¬ t < 0 ∧ ¬ 24 ≤ t) ∧ (x = 0 ∨ ¬ x < 10 ∧ ¬ 33 < x))) : MS l9 G yX7_way cX7_way 5 (some .int) d [vr (3, 0, 0), vi a, vi b, vi t, vi x] h (fun r h1 => h1 = h ∧ r = some (vi (-1))) := by
  refine MS_of (by decide +kernel) (Nat.le_of_ble_eq_true rfl) (fun X hC hX => ?_)
  show V X G 5 0 _ [] _
  refine v_aload_n hC (pc := 0) (k := 0) 0 rfl dX7_way_0 ?_
  refine v_iload_n hC (pc := 1) (k := 1) 1 rfl dX7_way_1 ?_
  refine v_iload_n hC (pc := 2) (k := 2) 2 rfl dX7_way_2 ?_
  refine v_iload_n hC (pc := 3) (k := 3) 3 rfl dX7_way_3 ?_
  refine v_iload_n hC (pc := 4) (k := 3) 3 rfl dX7_way_4 ?_
  refine v_iload hC (pc := 5) 4 rfl dX7_way_5 ?_
  refine v_callV hC (pc := 7) (As := [_, _, _, _, _]) dX7_way_7 rfl (m_wayOf_bad _ _ (d := d - 1) (by omega) _ hn8 hnc a b t _ x hbad) cv_X7_260 rfl (by decide) rfl (by first | rfl | exact ok_c hq rfl | exact ok_w hq hw | exact ok_w (by omega) (by omega) | exact ok_s (by omega) (by omega) | exact ok_c (by omega) rfl | assumption) (Nat.le_of_ble_eq_true rfl) (by omega) (fun r h' hr => ?_)
  obtain ⟨he9, rfl⟩ := hr
  rw [he9]
  clear he9 h'
  show V _ _ _ (7 + 3) _ (_ :: _) _
  refine v_iret hC hX (pc := 10) dX7_way_10 ?_
  exact ⟨rfl, rfl⟩

set_option maxRecDepth 20000 in
set_option maxHeartbeats 2000000 in
theorem m_both_0 (l9 : Launch) (G : WT) {d : Nat} (hd : 7 ≤ d) (h : HP) {nC : Nat} (hn8 : nC ≤ 8) (hnc : h.1 (3, 0, 0) 3 = nI nC) (hS : wfS (h.1 (3, 0, 1)) nC) {a b hr0 : Nat} (hac : a < nC) (hbc : b < nC) (hh : hr0 < 24) : MS l9 G yX7_both cX7_both 5 (some .int) d [vr (3, 0, 0), vi (nI a), vi (nI b), vi (nI hr0), vi 0] h (fun r h1 => scr h h1 ∧ wyR (LM ((stH h).1 (3, 0, 2)) (((stH h).1 (3, 0, 2)) 16) nC) hr0 (hr0 + 12) a b (fun n => nI n) r) := by
  refine MS_of (by decide +kernel) (Nat.le_of_ble_eq_true rfl) (fun X hC hX => ?_)
  show V X G 5 0 _ [] _
  refine v_aload_n hC (pc := 0) (k := 0) 0 rfl dX7_both_0 ?_
  refine v_iload_n hC (pc := 1) (k := 1) 1 rfl dX7_both_1 ?_
  refine v_iload_n hC (pc := 2) (k := 2) 2 rfl dX7_both_2 ?_
  refine v_iload_n hC (pc := 3) (k := 3) 3 rfl dX7_both_3 ?_
  refine v_iload_n hC (pc := 4) (k := 3) 3 rfl dX7_both_4 ?_
  refine v_bipush hC (pc := 5) (v := 12) (by decide +kernel) dX7_both_5 ?_
  refine v_iadd hC (pc := 7) dX7_both_7 ?_
  refine v_iload hC (pc := 8) 4 rfl dX7_both_8 ?_
  rw [show nI hr0 + 12 = nI (hr0 + 12) from by rw [show (12 : Int32) = nI 12 from rfl, nI_add]]
  refine v_callV hC (pc := 10) (As := [_, _, _, _, _]) dX7_both_10 rfl (m_wayOf_0 _ _ (d := d - 1) (by omega) _ hn8 hnc hS (a := a) (b := b) (hr0 := hr0) (ohr := (hr0 + 12)) hac hbc hh (by omega)) cv_X7_260 rfl (by decide) rfl (by first | rfl | exact ok_c hq rfl | exact ok_w hq hw | exact ok_w (by omega) (by omega) | exact ok_s (by omega) (by omega) | exact ok_c (by omega) rfl | assumption) (Nat.le_of_ble_eq_true rfl) (by omega) (fun r h' hr => ?_)
  obtain ⟨hsc, hwy⟩ := hr
  obtain ⟨v, rfl⟩ := wyR_v hwy
  show V _ _ _ (10 + 3) _ (_ :: _) _
  refine v_iret hC hX (pc := 13) dX7_both_13 ?_
  exact ⟨hsc, hwy⟩

set_option maxRecDepth 20000 in
set_option maxHeartbeats 2000000 in
theorem m_both_i (l9 : Launch) (G : WT) {d : Nat} (hd : 7 ≤ d) (h : HP) {nC : Nat} (hn8 : nC ≤ 8) (hnc : h.1 (3, 0, 0) 3 = nI nC) (hS : wfS (h.1 (3, 0, 1)) nC) {a b hr0 : Nat} (hac : a < nC) (hbc : b < nC) (hh : hr0 < 24) {i : Nat} (hi : i < 24) : MS l9 G yX7_both cX7_both 5 (some .int) d [vr (3, 0, 0), vi (nI a), vi (nI b), vi (nI hr0), vi (nI (10 + i))] h (fun r h1 => scr h h1 ∧ wyR (LM ((stH h).1 (3, 0, 2)) (((stH h).1 (3, 0, 2)) 16) nC) hr0 (hr0 + 12) a b (fun n => ltV (LM ((stH h).1 (3, 0, 2)) (((stH h).1 (3, 0, 2)) 16) nC) hr0 (hr0 + 12) a (b * 8 + b) n i) r) := by
  refine MS_of (by decide +kernel) (Nat.le_of_ble_eq_true rfl) (fun X hC hX => ?_)
  show V X G 5 0 _ [] _
  refine v_aload_n hC (pc := 0) (k := 0) 0 rfl dX7_both_0 ?_
  refine v_iload_n hC (pc := 1) (k := 1) 1 rfl dX7_both_1 ?_
  refine v_iload_n hC (pc := 2) (k := 2) 2 rfl dX7_both_2 ?_
  refine v_iload_n hC (pc := 3) (k := 3) 3 rfl dX7_both_3 ?_
  refine v_iload_n hC (pc := 4) (k := 3) 3 rfl dX7_both_4 ?_
  refine v_bipush hC (pc := 5) (v := 12) (by decide +kernel) dX7_both_5 ?_
  refine v_iadd hC (pc := 7) dX7_both_7 ?_
  refine v_iload hC (pc := 8) 4 rfl dX7_both_8 ?_
  rw [show nI hr0 + 12 = nI (hr0 + 12) from by rw [show (12 : Int32) = nI 12 from rfl, nI_add]]
  refine v_callV hC (pc := 10) (As := [_, _, _, _, _]) dX7_both_10 rfl (m_wayOf_i _ _ (d := d - 1) (by omega) _ hn8 hnc hS (a := a) (b := b) (hr0 := hr0) (ohr := (hr0 + 12)) hac hbc hh (by omega) hi) cv_X7_260 rfl (by decide) rfl (by first | rfl | exact ok_c hq rfl | exact ok_w hq hw | exact ok_w (by omega) (by omega) | exact ok_s (by omega) (by omega) | exact ok_c (by omega) rfl | assumption) (Nat.le_of_ble_eq_true rfl) (by omega) (fun r h' hr => ?_)
  obtain ⟨hsc, hwy⟩ := hr
  obtain ⟨v, rfl⟩ := wyR_v hwy
  show V _ _ _ (10 + 3) _ (_ :: _) _
  refine v_iret hC hX (pc := 13) dX7_both_13 ?_
  exact ⟨hsc, hwy⟩

set_option maxRecDepth 20000 in
set_option maxHeartbeats 2000000 in
theorem m_both_bad (l9 : Launch) (G : WT) {d : Nat} (hd : 7 ≤ d) (h : HP) {nC : Nat} (hn8 : nC ≤ 8) (hnc : h.1 (3, 0, 0) 3 = nI nC) (a b t x : Int32) (hbad : ¬ ((¬ a < 0 ∧ ¬ nI nC ≤ a) ∧ (¬ b < 0 ∧ ¬ nI nC ≤ b) ∧ (¬ t < 0 ∧ ¬ 24 ≤ t) ∧ (x = 0 ∨ ¬ x < 10 ∧ ¬ 33 < x))) : MS l9 G yX7_both cX7_both 5 (some .int) d [vr (3, 0, 0), vi a, vi b, vi t, vi x] h (fun r h1 => h1 = h ∧ r = some (vi (-1))) := by
  refine MS_of (by decide +kernel) (Nat.le_of_ble_eq_true rfl) (fun X hC hX => ?_)
  show V X G 5 0 _ [] _
  refine v_aload_n hC (pc := 0) (k := 0) 0 rfl dX7_both_0 ?_
  refine v_iload_n hC (pc := 1) (k := 1) 1 rfl dX7_both_1 ?_
  refine v_iload_n hC (pc := 2) (k := 2) 2 rfl dX7_both_2 ?_
  refine v_iload_n hC (pc := 3) (k := 3) 3 rfl dX7_both_3 ?_
  refine v_iload_n hC (pc := 4) (k := 3) 3 rfl dX7_both_4 ?_
  refine v_bipush hC (pc := 5) (v := 12) (by decide +kernel) dX7_both_5 ?_
  refine v_iadd hC (pc := 7) dX7_both_7 ?_
  refine v_iload hC (pc := 8) 4 rfl dX7_both_8 ?_
  refine v_callV hC (pc := 10) (As := [_, _, _, _, _]) dX7_both_10 rfl (m_wayOf_bad _ _ (d := d - 1) (by omega) _ hn8 hnc a b t _ x hbad) cv_X7_260 rfl (by decide) rfl (by first | rfl | exact ok_c hq rfl | exact ok_w hq hw | exact ok_w (by omega) (by omega) | exact ok_s (by omega) (by omega) | exact ok_c (by omega) rfl | assumption) (Nat.le_of_ble_eq_true rfl) (by omega) (fun r h' hr => ?_)
  obtain ⟨he9, rfl⟩ := hr
  rw [he9]
  clear he9 h'
  show V _ _ _ (10 + 3) _ (_ :: _) _
  refine v_iret hC hX (pc := 13) dX7_both_13 ?_
  exact ⟨rfl, rfl⟩

