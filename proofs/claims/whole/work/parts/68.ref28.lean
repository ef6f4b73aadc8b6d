/-! THE REFERENCE: the text, small words -/
noncomputable def ndH (h : HP) (good : Prop) (code : Int32) : HP := @ite HP (¬ good ∧ h.1 (3, 0, 0) 17 = 0) (Classical.propDecidable _) (upI (upI h (3, 0, 0) 17 code) (3, 0, 0) 18 (h.1 (3, 0, 0) 14)) h
/-- byte p of the tape -/
def byF (T : Nat → Int32) (t p : Nat) : Int32 := if p < t then T p else -1
set_option maxRecDepth 20000 in
set_option maxHeartbeats 2000000 in
theorem m_byteAt (l9 : Launch) (G : WT) {d : Nat} (hd : 1 ≤ d) (h : HP) {t p : Nat} (ht : t ≤ 160) (htp : h.1 (3, 0, 0) 12 = nI t) (hp : p < 1000) : MS l9 G yX7_byteAt cX7_byteAt 2 (some .int) d [vr (3, 0, 0), vi (nI p)] h (fun r h1 => h1 = h ∧ r = some (vi (byF (h.1 (3, 0, 12)) t p))) := by
  refine MS_of (by decide +kernel) (Nat.le_of_ble_eq_true rfl) (fun X hC hX => ?_)
  show V X G 2 0 _ [] _
  refine v_iload_n hC (pc := 0) (k := 1) 1 rfl dX7_byteAt_0 ?_
  refine v_aload_n hC (pc := 1) (k := 0) 0 rfl dX7_byteAt_1 ?_
  refine v_getI hC (pc := 2) dX7_byteAt_2 fl_X7_88 rfl (by first | rfl | exact ok_c hq rfl | exact ok_w hq hw | exact ok_w (by omega) (by omega) | exact ok_s (by omega) (by omega) | exact ok_c (by omega) rfl | assumption) rfl (by decide) (by decide) ?_
  rw [htp]
  refine v_icmp_ge hC (pc := 5) (tgt := 17) dX7_byteAt_5 (by decide) (fun c_5 => ?_) (fun c_5 => ?_)
  · skip
    refine v_iconst hC (pc := 17) (v := (-1)) (by decide) dX7_byteAt_17 ?_
    refine v_iret hC hX (pc := 18) dX7_byteAt_18 ?_
    refine ⟨rfl, ?_⟩
    unfold byF
    first | rw [if_pos (show p < t from Nat.lt_of_not_le (fun z => c_5 (nI_le z (by omega)))), nI_clamp (show p < 2 ^ 31 by omega)] | rw [if_neg (fun z => absurd c_5 (nI_ge z (by omega)))]
  · skip
    have hpt : p < t := Nat.lt_of_not_le (fun z => c_5 (nI_le z (by omega)))
    refine v_aload_n hC (pc := 8) (k := 0) 0 rfl dX7_byteAt_8 ?_
    refine v_getR hC (pc := 9) dX7_byteAt_9 fl_X7_26 rfl (by first | rfl | exact ok_c hq rfl | exact ok_w hq hw | exact ok_w (by omega) (by omega) | exact ok_s (by omega) (by omega) | exact ok_c (by omega) rfl | assumption) rfl (by decide) (by decide) rfl ?_
    refine v_iload_n hC (pc := 12) (k := 1) 1 rfl dX7_byteAt_12 ?_
    refine v_iald hC (pc := 13) dX7_byteAt_13 rfl (by first | rfl | exact ok_c hq rfl | exact ok_w hq hw | exact ok_w (by omega) (by omega) | exact ok_s (by omega) (by omega) | exact ok_c (by omega) rfl | assumption) (vp_nat (n := p) (by omega) (by decide)) ?_
    refine v_goto hC (pc := 14) (tgt := 18) dX7_byteAt_14 (by decide) ?_
    refine v_iret hC hX (pc := 18) dX7_byteAt_18 ?_
    refine ⟨rfl, ?_⟩
    unfold byF
    first | rw [if_pos (show p < t from Nat.lt_of_not_le (fun z => c_5 (nI_le z (by omega)))), nI_clamp (show p < 2 ^ 31 by omega)] | rw [if_neg (fun z => absurd c_5 (nI_ge z (by omega)))]

set_option maxRecDepth 20000 in
set_option maxHeartbeats 2000000 in
theorem m_needs0 (l9 : Launch) (G : WT) {d : Nat} (hd : 1 ≤ d) (h : HP) (good : Prop) (code : Int32) : MS l9 G yX7_needs0 cX7_needs0 3 none d [vr (3, 0, 0), vi (bP good), vi code] h (fun r h1 => r = none ∧ h1 = ndH h good code) := by
  refine MS_of (by decide +kernel) (Nat.le_of_ble_eq_true rfl) (fun X hC hX => ?_)
  show V X G 3 0 _ [] _
  refine v_iload_n hC (pc := 0) (k := 1) 1 rfl dX7_needs0_0 ?_
  refine v_if_ne hC (pc := 1) (tgt := 24) dX7_needs0_1 (by decide) (fun c_1 => ?_) (fun c_1 => ?_)
  · skip
    refine v_vret hC hX (pc := 24) dX7_needs0_24 ?_
    first
      | exact ⟨rfl, (if_pos ⟨fun z => absurd (bP_t z) (by rw [c_1]; decide), c_8⟩).symm⟩
      | exact ⟨rfl, (if_neg (fun z => c_8 z.2)).symm⟩
      | exact ⟨rfl, (if_neg (fun z => c_1 (bP_f z.1))).symm⟩
  · skip
    refine v_aload_n hC (pc := 4) (k := 0) 0 rfl dX7_needs0_4 ?_
    refine v_getI hC (pc := 5) dX7_needs0_5 fl_X7_91 rfl (by first | rfl | exact ok_c hq rfl | exact ok_w hq hw | exact ok_w (by omega) (by omega) | exact ok_s (by omega) (by omega) | exact ok_c (by omega) rfl | assumption) rfl (by decide) (by decide) ?_
    refine v_if_ne hC (pc := 8) (tgt := 24) dX7_needs0_8 (by decide) (fun c_8 => ?_) (fun c_8 => ?_)
    · skip
      refine v_vret hC hX (pc := 24) dX7_needs0_24 ?_
      first
        | exact ⟨rfl, (if_pos ⟨fun z => absurd (bP_t z) (by rw [c_1]; decide), c_8⟩).symm⟩
        | exact ⟨rfl, (if_neg (fun z => c_8 z.2)).symm⟩
        | exact ⟨rfl, (if_neg (fun z => c_1 (bP_f z.1))).symm⟩
    · skip
      refine v_aload_n hC (pc := 11) (k := 0) 0 rfl dX7_needs0_11 ?_
      refine v_iload_n hC (pc := 12) (k := 2) 2 rfl dX7_needs0_12 ?_
      refine v_putI hC (pc := 13) dX7_needs0_13 fs_X7_91 rfl (by first | rfl | exact ok_c hq rfl | exact ok_w hq hw | exact ok_w (by omega) (by omega) | exact ok_s (by omega) (by omega) | exact ok_c (by omega) rfl | assumption) rfl (by decide) (by decide) ?_
      refine v_aload_n hC (pc := 16) (k := 0) 0 rfl dX7_needs0_16 ?_
      refine v_aload_n hC (pc := 17) (k := 0) 0 rfl dX7_needs0_17 ?_
      refine v_getI hC (pc := 18) dX7_needs0_18 fl_X7_94 rfl (by first | rfl | exact ok_c hq rfl | exact ok_w hq hw | exact ok_w (by omega) (by omega) | exact ok_s (by omega) (by omega) | exact ok_c (by omega) rfl | assumption) rfl (by decide) (by decide) ?_
      refine v_putI hC (pc := 21) dX7_needs0_21 fs_X7_97 rfl (by first | rfl | exact ok_c hq rfl | exact ok_w hq hw | exact ok_w (by omega) (by omega) | exact ok_s (by omega) (by omega) | exact ok_c (by omega) rfl | assumption) rfl (by decide) (by decide) ?_
      refine v_vret hC hX (pc := 24) dX7_needs0_24 ?_
      first
        | exact ⟨rfl, (if_pos ⟨fun z => absurd (bP_t z) (by rw [c_1]; decide), c_8⟩).symm⟩
        | exact ⟨rfl, (if_neg (fun z => c_8 z.2)).symm⟩
        | exact ⟨rfl, (if_neg (fun z => c_1 (bP_f z.1))).symm⟩

