/-! THE TEXT: numbers and corners, as the reference reads them -/
theorem m_in_n (l9 : Launch) (G : WT) {d : Nat} (hd : 1 ≤ d) (h : HP) (x lo hi : Int32) (hx : ¬ (¬ x < lo ∧ ¬ hi < x)) : MS l9 G yX7_in cX7_in 6 (some .boolean) d [vl x.toInt64, vl lo.toInt64, vl hi.toInt64] h (fun r h1 => h1 = h ∧ r = some (vi 0)) := MS.mono (m_in l9 G hd h x lo hi) (fun r h9 z => ⟨z.1, by rw [z.2, bI_f hx]⟩)
section TX
variable {T : Nat → Int32} {t : Nat}
theorem numS_s {lo hi : Int32} {a : PA} (hb : ¬ tB T t a.1) (hk : ¬ tK T t a.1 = 2) : numS T t lo hi a = .inl (2, tF T t a.1) := by
  unfold numS; rw [iteP_f hb, iteP_f hk]
theorem numS_r {lo hi : Int32} {a : PA} (hb : ¬ tB T t a.1) (hk : tK T t a.1 = 2) (hv : ¬ (¬ tV T t a.1 < lo ∧ ¬ hi < tV T t a.1)) : numS T t lo hi a = .inl (3, tF T t a.1) := by
  unfold numS; rw [iteP_f hb, iteP_t hk, iteP_f hv]
theorem numS_o {lo hi : Int32} {a : PA} (hb : ¬ tB T t a.1) (hk : tK T t a.1 = 2) (hv : ¬ tV T t a.1 < lo ∧ ¬ hi < tV T t a.1) : numS T t lo hi a = .inr (tE T t a.1, a.2) := by
  unfold numS; rw [iteP_f hb, iteP_t hk, iteP_t hv]
end TX
set_option maxRecDepth 20000 in
set_option maxHeartbeats 2000000 in
theorem lk_f (l9 : Launch) (G : WT) {d : Nat} (hd : 2 ≤ d) (h : HP) (lo hi : Int32) (hf0 : ¬ h.1 (3, 0, 0) 17 = 0) : MS l9 G yX7_looked cX7_looked 3 (some .int) d [vr (3, 0, 0), vi lo, vi hi] h (fun r h1 => h1 = h ∧ r = some (vi 0)) := by
  refine MS_of (by decide +kernel) (Nat.le_of_ble_eq_true rfl) (fun X hC hX => ?_)
  show V X G 3 0 _ [] _
  refine v_aload_n hC (pc := 0) (k := 0) 0 rfl dX7_looked_0 ?_
  refine v_getI hC (pc := 1) dX7_looked_1 fl_X7_91 rfl (by first | rfl | exact ok_c hq rfl | exact ok_w hq hw | exact ok_w (by omega) (by omega) | exact ok_s (by omega) (by omega) | exact ok_c (by omega) rfl | assumption) rfl (by decide) (by decide) ?_
  refine v_if_ne hC (pc := 4) (tgt := 25) dX7_looked_4 (by decide) (fun c_4 => ?_) (fun c_4 => ?_)
  · skip
    refine v_aload_n hC (pc := 25) (k := 0) 0 rfl dX7_looked_25 ?_
    refine v_getI hC (pc := 26) dX7_looked_26 fl_X7_91 rfl (by first | rfl | exact ok_c hq rfl | exact ok_w hq hw | exact ok_w (by omega) (by omega) | exact ok_s (by omega) (by omega) | exact ok_c (by omega) rfl | assumption) rfl (by decide) (by decide) ?_
    refine v_if_ne hC (pc := 29) (tgt := 49) dX7_looked_29 (by decide) (fun c_29 => ?_) (fun c_29 => ?_)
    · skip
      refine v_aload_n hC (pc := 49) (k := 0) 0 rfl dX7_looked_49 ?_
      refine v_getI hC (pc := 50) dX7_looked_50 fl_X7_91 rfl (by first | rfl | exact ok_c hq rfl | exact ok_w hq hw | exact ok_w (by omega) (by omega) | exact ok_s (by omega) (by omega) | exact ok_c (by omega) rfl | assumption) rfl (by decide) (by decide) ?_
      refine v_if_ne hC (pc := 53) (tgt := 63) dX7_looked_53 (by decide) (fun c_53 => ?_) (fun c_53 => ?_)
      · skip
        refine v_iconst hC (pc := 63) (v := 0) (by decide) dX7_looked_63 ?_
        refine v_iret hC hX (pc := 64) dX7_looked_64 ?_
        exact ⟨rfl, rfl⟩
      · exact absurd c_53 hf0
    · exact absurd c_29 hf0
  · exact absurd c_4 hf0

set_option maxRecDepth 20000 in
set_option maxHeartbeats 2000000 in
theorem lk_s (l9 : Launch) (G : WT) {d : Nat} (hd : 2 ≤ d) (h : HP) (lo hi : Int32) (hf0 : h.1 (3, 0, 0) 17 = 0) (hs : ¬ h.1 (3, 0, 0) 15 = 2) : MS l9 G yX7_looked cX7_looked 3 (some .int) d [vr (3, 0, 0), vi lo, vi hi] h (fun r h1 => h1 = nfH h 2 ∧ r = some (vi 0)) := by
  refine MS_of (by decide +kernel) (Nat.le_of_ble_eq_true rfl) (fun X hC hX => ?_)
  show V X G 3 0 _ [] _
  refine v_aload_n hC (pc := 0) (k := 0) 0 rfl dX7_looked_0 ?_
  refine v_getI hC (pc := 1) dX7_looked_1 fl_X7_91 rfl (by first | rfl | exact ok_c hq rfl | exact ok_w hq hw | exact ok_w (by omega) (by omega) | exact ok_s (by omega) (by omega) | exact ok_c (by omega) rfl | assumption) rfl (by decide) (by decide) ?_
  refine v_if_ne hC (pc := 4) (tgt := 25) dX7_looked_4 (by decide) (fun c_4 => ?_) (fun c_4 => ?_)
  · exact absurd hf0 c_4
  · skip
    refine v_aload_n hC (pc := 7) (k := 0) 0 rfl dX7_looked_7 ?_
    refine v_aload_n hC (pc := 8) (k := 0) 0 rfl dX7_looked_8 ?_
    refine v_getI hC (pc := 9) dX7_looked_9 fl_X7_119 rfl (by first | rfl | exact ok_c hq rfl | exact ok_w hq hw | exact ok_w (by omega) (by omega) | exact ok_s (by omega) (by omega) | exact ok_c (by omega) rfl | assumption) rfl (by decide) (by decide) ?_
    refine v_iconst hC (pc := 12) (v := 2) (by decide) dX7_looked_12 ?_
    refine v_icmp_ne hC (pc := 13) (tgt := 20) dX7_looked_13 (by decide) (fun c_13 => ?_) (fun c_13 => ?_)
    · skip
      refine v_iconst hC (pc := 20) (v := 0) (by decide) dX7_looked_20 ?_
      refine v_iconst hC (pc := 21) (v := 2) (by decide) dX7_looked_21 ?_
      refine v_callV hC (pc := 22) (As := [_, _]) dX7_looked_22 rfl (nd_0 _ _ (d := d - 1) (by omega) _ _ hf0) cv_X7_133 rfl (by decide) rfl (by first | rfl | exact ok_c hq rfl | exact ok_w hq hw | exact ok_w (by omega) (by omega) | exact ok_s (by omega) (by omega) | exact ok_c (by omega) rfl | assumption) (Nat.le_of_ble_eq_true rfl) (by omega) (fun r h' hr => ?_)
      obtain ⟨he9, rfl⟩ := hr
      rw [he9]
      clear he9 h'
      show V _ _ _ (22 + 3) _ _ _
      refine v_aload_n hC (pc := 25) (k := 0) 0 rfl dX7_looked_25 ?_
      refine v_getI hC (pc := 26) dX7_looked_26 fl_X7_91 rfl (by first | rfl | exact ok_c hq rfl | exact ok_w hq hw | exact ok_w (by omega) (by omega) | exact ok_s (by omega) (by omega) | exact ok_c (by omega) rfl | assumption) rfl (by decide) (by decide) ?_
      rw [nfH_17]
      refine v_if_ne hC (pc := 29) (tgt := 49) dX7_looked_29 (by decide) (fun c_29 => ?_) (fun c_29 => ?_)
      · skip
        refine v_aload_n hC (pc := 49) (k := 0) 0 rfl dX7_looked_49 ?_
        refine v_getI hC (pc := 50) dX7_looked_50 fl_X7_91 rfl (by first | rfl | exact ok_c hq rfl | exact ok_w hq hw | exact ok_w (by omega) (by omega) | exact ok_s (by omega) (by omega) | exact ok_c (by omega) rfl | assumption) rfl (by decide) (by decide) ?_
        rw [nfH_17]
        refine v_if_ne hC (pc := 53) (tgt := 63) dX7_looked_53 (by decide) (fun c_53 => ?_) (fun c_53 => ?_)
        · skip
          refine v_iconst hC (pc := 63) (v := 0) (by decide) dX7_looked_63 ?_
          refine v_iret hC hX (pc := 64) dX7_looked_64 ?_
          exact ⟨rfl, rfl⟩
        · exact absurd c_53 (by decide)
      · exact absurd c_29 (by decide)
    · exact absurd c_13 hs

set_option maxRecDepth 20000 in
set_option maxHeartbeats 2000000 in
theorem lk_r (l9 : Launch) (G : WT) {d : Nat} (hd : 2 ≤ d) (h : HP) (lo hi : Int32) (hf0 : h.1 (3, 0, 0) 17 = 0) (hs : h.1 (3, 0, 0) 15 = 2) (hv : ¬ (¬ (h.1 (3, 0, 0) 16) < lo ∧ ¬ hi < (h.1 (3, 0, 0) 16))) : MS l9 G yX7_looked cX7_looked 3 (some .int) d [vr (3, 0, 0), vi lo, vi hi] h (fun r h1 => h1 = nfH h 3 ∧ r = some (vi 0)) := by
  refine MS_of (by decide +kernel) (Nat.le_of_ble_eq_true rfl) (fun X hC hX => ?_)
  show V X G 3 0 _ [] _
  refine v_aload_n hC (pc := 0) (k := 0) 0 rfl dX7_looked_0 ?_
  refine v_getI hC (pc := 1) dX7_looked_1 fl_X7_91 rfl (by first | rfl | exact ok_c hq rfl | exact ok_w hq hw | exact ok_w (by omega) (by omega) | exact ok_s (by omega) (by omega) | exact ok_c (by omega) rfl | assumption) rfl (by decide) (by decide) ?_
  refine v_if_ne hC (pc := 4) (tgt := 25) dX7_looked_4 (by decide) (fun c_4 => ?_) (fun c_4 => ?_)
  · exact absurd hf0 c_4
  · skip
    refine v_aload_n hC (pc := 7) (k := 0) 0 rfl dX7_looked_7 ?_
    refine v_aload_n hC (pc := 8) (k := 0) 0 rfl dX7_looked_8 ?_
    refine v_getI hC (pc := 9) dX7_looked_9 fl_X7_119 rfl (by first | rfl | exact ok_c hq rfl | exact ok_w hq hw | exact ok_w (by omega) (by omega) | exact ok_s (by omega) (by omega) | exact ok_c (by omega) rfl | assumption) rfl (by decide) (by decide) ?_
    refine v_iconst hC (pc := 12) (v := 2) (by decide) dX7_looked_12 ?_
    refine v_icmp_ne hC (pc := 13) (tgt := 20) dX7_looked_13 (by decide) (fun c_13 => ?_) (fun c_13 => ?_)
    · exact absurd hs c_13
    · skip
      refine v_iconst hC (pc := 16) (v := 1) (by decide) dX7_looked_16 ?_
      refine v_goto hC (pc := 17) (tgt := 21) dX7_looked_17 (by decide) ?_
      refine v_iconst hC (pc := 21) (v := 2) (by decide) dX7_looked_21 ?_
      refine v_callV hC (pc := 22) (As := [_, _]) dX7_looked_22 rfl (nd_1 _ _ (d := d - 1) (by omega) _ _) cv_X7_133 rfl (by decide) rfl (by first | rfl | exact ok_c hq rfl | exact ok_w hq hw | exact ok_w (by omega) (by omega) | exact ok_s (by omega) (by omega) | exact ok_c (by omega) rfl | assumption) (Nat.le_of_ble_eq_true rfl) (by omega) (fun r h' hr => ?_)
      obtain ⟨he9, rfl⟩ := hr
      rw [he9]
      clear he9 h'
      show V _ _ _ (22 + 3) _ _ _
      refine v_aload_n hC (pc := 25) (k := 0) 0 rfl dX7_looked_25 ?_
      refine v_getI hC (pc := 26) dX7_looked_26 fl_X7_91 rfl (by first | rfl | exact ok_c hq rfl | exact ok_w hq hw | exact ok_w (by omega) (by omega) | exact ok_s (by omega) (by omega) | exact ok_c (by omega) rfl | assumption) rfl (by decide) (by decide) ?_
      refine v_if_ne hC (pc := 29) (tgt := 49) dX7_looked_29 (by decide) (fun c_29 => ?_) (fun c_29 => ?_)
      · exact absurd hf0 c_29
      · skip
        refine v_aload_n hC (pc := 32) (k := 0) 0 rfl dX7_looked_32 ?_
        refine v_aload_n hC (pc := 33) (k := 0) 0 rfl dX7_looked_33 ?_
        refine v_getI hC (pc := 34) dX7_looked_34 fl_X7_130 rfl (by first | rfl | exact ok_c hq rfl | exact ok_w hq hw | exact ok_w (by omega) (by omega) | exact ok_s (by omega) (by omega) | exact ok_c (by omega) rfl | assumption) rfl (by decide) (by decide) ?_
        refine v_i2l hC (pc := 37) dX7_looked_37 ?_
        refine v_iload_n hC (pc := 38) (k := 1) 1 rfl dX7_looked_38 ?_
        refine v_i2l hC (pc := 39) dX7_looked_39 ?_
        refine v_iload_n hC (pc := 40) (k := 2) 2 rfl dX7_looked_40 ?_
        refine v_i2l hC (pc := 41) dX7_looked_41 ?_
        refine v_callS hC (pc := 42) (As := [_, _, _]) dX7_looked_42 rfl (m_in_n _ _ (d := d - 1) (by omega) _ _ lo hi hv) cs_X7_84 (Nat.le_of_ble_eq_true rfl) (by omega) (fun r h' hr => ?_)
        obtain ⟨he9, rfl⟩ := hr
        rw [he9]
        clear he9 h'
        show V _ _ _ (42 + 3) _ (_ :: _) _
        refine v_iconst hC (pc := 45) (v := 3) (by decide) dX7_looked_45 ?_
        refine v_callV hC (pc := 46) (As := [_, _]) dX7_looked_46 rfl (nd_0 _ _ (d := d - 1) (by omega) _ _ hf0) cv_X7_133 rfl (by decide) rfl (by first | rfl | exact ok_c hq rfl | exact ok_w hq hw | exact ok_w (by omega) (by omega) | exact ok_s (by omega) (by omega) | exact ok_c (by omega) rfl | assumption) (Nat.le_of_ble_eq_true rfl) (by omega) (fun r h' hr => ?_)
        obtain ⟨he9, rfl⟩ := hr
        rw [he9]
        clear he9 h'
        show V _ _ _ (46 + 3) _ _ _
        refine v_aload_n hC (pc := 49) (k := 0) 0 rfl dX7_looked_49 ?_
        refine v_getI hC (pc := 50) dX7_looked_50 fl_X7_91 rfl (by first | rfl | exact ok_c hq rfl | exact ok_w hq hw | exact ok_w (by omega) (by omega) | exact ok_s (by omega) (by omega) | exact ok_c (by omega) rfl | assumption) rfl (by decide) (by decide) ?_
        rw [nfH_17]
        refine v_if_ne hC (pc := 53) (tgt := 63) dX7_looked_53 (by decide) (fun c_53 => ?_) (fun c_53 => ?_)
        · skip
          refine v_iconst hC (pc := 63) (v := 0) (by decide) dX7_looked_63 ?_
          refine v_iret hC hX (pc := 64) dX7_looked_64 ?_
          exact ⟨rfl, rfl⟩
        · exact absurd c_53 (by decide)

set_option maxRecDepth 20000 in
set_option maxHeartbeats 2000000 in
theorem lk_o (l9 : Launch) (G : WT) {d : Nat} (hd : 2 ≤ d) (h : HP) (lo hi : Int32) (hf0 : h.1 (3, 0, 0) 17 = 0) (hs : h.1 (3, 0, 0) 15 = 2) (hv : ¬ (h.1 (3, 0, 0) 16) < lo ∧ ¬ hi < (h.1 (3, 0, 0) 16)) : MS l9 G yX7_looked cX7_looked 3 (some .int) d [vr (3, 0, 0), vi lo, vi hi] h (fun r h1 => h1 = h ∧ r = some (vi (h.1 (3, 0, 0) 16))) := by
  refine MS_of (by decide +kernel) (Nat.le_of_ble_eq_true rfl) (fun X hC hX => ?_)
  show V X G 3 0 _ [] _
  refine v_aload_n hC (pc := 0) (k := 0) 0 rfl dX7_looked_0 ?_
  refine v_getI hC (pc := 1) dX7_looked_1 fl_X7_91 rfl (by first | rfl | exact ok_c hq rfl | exact ok_w hq hw | exact ok_w (by omega) (by omega) | exact ok_s (by omega) (by omega) | exact ok_c (by omega) rfl | assumption) rfl (by decide) (by decide) ?_
  refine v_if_ne hC (pc := 4) (tgt := 25) dX7_looked_4 (by decide) (fun c_4 => ?_) (fun c_4 => ?_)
  · exact absurd hf0 c_4
  · skip
    refine v_aload_n hC (pc := 7) (k := 0) 0 rfl dX7_looked_7 ?_
    refine v_aload_n hC (pc := 8) (k := 0) 0 rfl dX7_looked_8 ?_
    refine v_getI hC (pc := 9) dX7_looked_9 fl_X7_119 rfl (by first | rfl | exact ok_c hq rfl | exact ok_w hq hw | exact ok_w (by omega) (by omega) | exact ok_s (by omega) (by omega) | exact ok_c (by omega) rfl | assumption) rfl (by decide) (by decide) ?_
    refine v_iconst hC (pc := 12) (v := 2) (by decide) dX7_looked_12 ?_
    refine v_icmp_ne hC (pc := 13) (tgt := 20) dX7_looked_13 (by decide) (fun c_13 => ?_) (fun c_13 => ?_)
    · exact absurd hs c_13
    · skip
      refine v_iconst hC (pc := 16) (v := 1) (by decide) dX7_looked_16 ?_
      refine v_goto hC (pc := 17) (tgt := 21) dX7_looked_17 (by decide) ?_
      refine v_iconst hC (pc := 21) (v := 2) (by decide) dX7_looked_21 ?_
      refine v_callV hC (pc := 22) (As := [_, _]) dX7_looked_22 rfl (nd_1 _ _ (d := d - 1) (by omega) _ _) cv_X7_133 rfl (by decide) rfl (by first | rfl | exact ok_c hq rfl | exact ok_w hq hw | exact ok_w (by omega) (by omega) | exact ok_s (by omega) (by omega) | exact ok_c (by omega) rfl | assumption) (Nat.le_of_ble_eq_true rfl) (by omega) (fun r h' hr => ?_)
      obtain ⟨he9, rfl⟩ := hr
      rw [he9]
      clear he9 h'
      show V _ _ _ (22 + 3) _ _ _
      refine v_aload_n hC (pc := 25) (k := 0) 0 rfl dX7_looked_25 ?_
      refine v_getI hC (pc := 26) dX7_looked_26 fl_X7_91 rfl (by first | rfl | exact ok_c hq rfl | exact ok_w hq hw | exact ok_w (by omega) (by omega) | exact ok_s (by omega) (by omega) | exact ok_c (by omega) rfl | assumption) rfl (by decide) (by decide) ?_
      refine v_if_ne hC (pc := 29) (tgt := 49) dX7_looked_29 (by decide) (fun c_29 => ?_) (fun c_29 => ?_)
      · exact absurd hf0 c_29
      · skip
        refine v_aload_n hC (pc := 32) (k := 0) 0 rfl dX7_looked_32 ?_
        refine v_aload_n hC (pc := 33) (k := 0) 0 rfl dX7_looked_33 ?_
        refine v_getI hC (pc := 34) dX7_looked_34 fl_X7_130 rfl (by first | rfl | exact ok_c hq rfl | exact ok_w hq hw | exact ok_w (by omega) (by omega) | exact ok_s (by omega) (by omega) | exact ok_c (by omega) rfl | assumption) rfl (by decide) (by decide) ?_
        refine v_i2l hC (pc := 37) dX7_looked_37 ?_
        refine v_iload_n hC (pc := 38) (k := 1) 1 rfl dX7_looked_38 ?_
        refine v_i2l hC (pc := 39) dX7_looked_39 ?_
        refine v_iload_n hC (pc := 40) (k := 2) 2 rfl dX7_looked_40 ?_
        refine v_i2l hC (pc := 41) dX7_looked_41 ?_
        refine v_callS hC (pc := 42) (As := [_, _, _]) dX7_looked_42 rfl (m_in_t _ _ (d := d - 1) (by omega) _ _ lo hi hv) cs_X7_84 (Nat.le_of_ble_eq_true rfl) (by omega) (fun r h' hr => ?_)
        obtain ⟨he9, rfl⟩ := hr
        rw [he9]
        clear he9 h'
        show V _ _ _ (42 + 3) _ (_ :: _) _
        refine v_iconst hC (pc := 45) (v := 3) (by decide) dX7_looked_45 ?_
        refine v_callV hC (pc := 46) (As := [_, _]) dX7_looked_46 rfl (nd_1 _ _ (d := d - 1) (by omega) _ _) cv_X7_133 rfl (by decide) rfl (by first | rfl | exact ok_c hq rfl | exact ok_w hq hw | exact ok_w (by omega) (by omega) | exact ok_s (by omega) (by omega) | exact ok_c (by omega) rfl | assumption) (Nat.le_of_ble_eq_true rfl) (by omega) (fun r h' hr => ?_)
        obtain ⟨he9, rfl⟩ := hr
        rw [he9]
        clear he9 h'
        show V _ _ _ (46 + 3) _ _ _
        refine v_aload_n hC (pc := 49) (k := 0) 0 rfl dX7_looked_49 ?_
        refine v_getI hC (pc := 50) dX7_looked_50 fl_X7_91 rfl (by first | rfl | exact ok_c hq rfl | exact ok_w hq hw | exact ok_w (by omega) (by omega) | exact ok_s (by omega) (by omega) | exact ok_c (by omega) rfl | assumption) rfl (by decide) (by decide) ?_
        refine v_if_ne hC (pc := 53) (tgt := 63) dX7_looked_53 (by decide) (fun c_53 => ?_) (fun c_53 => ?_)
        · exact absurd hf0 c_53
        · skip
          refine v_aload_n hC (pc := 56) (k := 0) 0 rfl dX7_looked_56 ?_
          refine v_getI hC (pc := 57) dX7_looked_57 fl_X7_130 rfl (by first | rfl | exact ok_c hq rfl | exact ok_w hq hw | exact ok_w (by omega) (by omega) | exact ok_s (by omega) (by omega) | exact ok_c (by omega) rfl | assumption) rfl (by decide) (by decide) ?_
          refine v_goto hC (pc := 60) (tgt := 64) dX7_looked_60 (by decide) ?_
          refine v_iret hC hX (pc := 64) dX7_looked_64 ?_
          exact ⟨rfl, rfl⟩

theorem tK_le (T : Nat → Int32) (t e : Nat) : tK T t e ≤ 3 := by
  unfold tK
  split
  · omega
  · split
    · omega
    · split <;> omega
set_option maxRecDepth 20000 in
set_option maxHeartbeats 2000000 in
theorem m_readNumber (l9 : Launch) (G : WT) {d : Nat} (hd : 3 ≤ d) {T : Nat → Int32} {t : Nat} {h0 : HP} (ht : t ≤ 160) (htp : h0.1 (3, 0, 0) 12 = nI t) (hT : h0.1 (3, 0, 12) = T) (hT0 : ∀ j, j < t → ¬ T j < 0) (h : HP) {x : Sum PE PA} (hx : RS T t h0 h x) (lo hi : Int32) : MS l9 G yX7_readNumber cX7_readNumber 4 (some .int) d [vr (3, 0, 0), vi lo, vi hi] h (fun r h1 => ∃ v, r = some (vi v) ∧ RS T t h0 h1 (bdE x (numS T t lo hi)) ∧ ∀ a, x = .inr a → ∀ b, numS T t lo hi a = .inr b → v = tV T t a.1) := by
  refine MS_of (by decide +kernel) (Nat.le_of_ble_eq_true rfl) (fun X hC hX => ?_)
  show V X G 4 0 _ [] _
  by_cases hf0 : h.1 (3, 0, 0) 17 = 0
  · obtain ⟨a, rfl, hG⟩ := RS_g hx hf0
    obtain ⟨g1, g2, g3, g4, g5, g6, g7, g8, g9⟩ := id hG
    by_cases hk : tK T t a.1 = 2
    · by_cases hv : ¬ tV T t a.1 < lo ∧ ¬ hi < tV T t a.1
      · skip
        refine v_aload_n hC (pc := 0) (k := 0) 0 rfl dX7_readNumber_0 ?_
        refine v_iload_n hC (pc := 1) (k := 1) 1 rfl dX7_readNumber_1 ?_
        refine v_iload_n hC (pc := 2) (k := 2) 2 rfl dX7_readNumber_2 ?_
        refine v_callV hC (pc := 3) (As := [_, _]) dX7_readNumber_3 rfl (lk_o _ _ (d := d - 1) (by omega) _ _ _ hf0 (by rw [g8, hk]; rfl) (by rw [g9 hk]; exact hv)) cv_X7_137 rfl (by decide) rfl (by first | rfl | exact ok_c hq rfl | exact ok_w hq hw | exact ok_w (by omega) (by omega) | exact ok_s (by omega) (by omega) | exact ok_c (by omega) rfl | assumption) (Nat.le_of_ble_eq_true rfl) (by omega) (fun r h' hr => ?_)
        obtain ⟨he9, rfl⟩ := hr
        rw [he9]
        clear he9 h'
        show V _ _ _ (3 + 3) _ (_ :: _) _
        refine v_istore_n hC (pc := 6) (l' := [(3, _), (0, _), (1, _), (2, _)]) dX7_readNumber_6 (by decide) rfl ?_
        refine v_aload_n hC (pc := 7) (k := 0) 1 rfl dX7_readNumber_7 ?_
        refine v_callV hC (pc := 8) (As := []) dX7_readNumber_8 rfl (m_nextToken _ _ (d := d - 1) (by omega) _ (T := T) (t := t) (e := tE T t a.1) ht ((g1).2.2 12 (by decide) |>.trans htp) (((g1).1 (3, 0, 12) (by decide) (by decide) (by decide)).trans hT) hT0 hf0 g6 (tE_b g3).2) cv_X7_141 rfl (by decide) rfl (by first | rfl | exact ok_c hq rfl | exact ok_w hq hw | exact ok_w (by omega) (by omega) | exact ok_s (by omega) (by omega) | exact ok_c (by omega) rfl | assumption) (Nat.le_of_ble_eq_true rfl) (by omega) (fun r h' hr => ?_)
        obtain ⟨rfl, hu⟩ := hr
        show V _ _ _ (8 + 3) _ _ _
        refine v_iload_n hC (pc := 11) (k := 3) 0 rfl dX7_readNumber_11 ?_
        refine v_iret hC hX (pc := 12) dX7_readNumber_12 ?_
        refine ⟨_, rfl, ?_, fun a9 ha b hb => ?_⟩
        · show RS T t h0 _ (numS T t lo hi a)
          rw [numS_o g2 hk hv]
          exact RS_tok g1 g4 (tE_b g3).2 hu
        · cases ha; exact g9 hk
      · skip
        refine v_aload_n hC (pc := 0) (k := 0) 0 rfl dX7_readNumber_0 ?_
        refine v_iload_n hC (pc := 1) (k := 1) 1 rfl dX7_readNumber_1 ?_
        refine v_iload_n hC (pc := 2) (k := 2) 2 rfl dX7_readNumber_2 ?_
        refine v_callV hC (pc := 3) (As := [_, _]) dX7_readNumber_3 rfl (lk_r _ _ (d := d - 1) (by omega) _ _ _ hf0 (by rw [g8, hk]; rfl) (by rw [g9 hk]; exact hv)) cv_X7_137 rfl (by decide) rfl (by first | rfl | exact ok_c hq rfl | exact ok_w hq hw | exact ok_w (by omega) (by omega) | exact ok_s (by omega) (by omega) | exact ok_c (by omega) rfl | assumption) (Nat.le_of_ble_eq_true rfl) (by omega) (fun r h' hr => ?_)
        obtain ⟨he9, rfl⟩ := hr
        rw [he9]
        clear he9 h'
        show V _ _ _ (3 + 3) _ (_ :: _) _
        refine v_istore_n hC (pc := 6) (l' := [(3, _), (0, _), (1, _), (2, _)]) dX7_readNumber_6 (by decide) rfl ?_
        refine v_aload_n hC (pc := 7) (k := 0) 1 rfl dX7_readNumber_7 ?_
        refine v_callV hC (pc := 8) (As := []) dX7_readNumber_8 rfl (m_nextToken_f _ _ (d := d - 1) (by omega) _ (by rw [nfH_17]; decide)) cv_X7_141 rfl (by decide) rfl (by first | rfl | exact ok_c hq rfl | exact ok_w hq hw | exact ok_w (by omega) (by omega) | exact ok_s (by omega) (by omega) | exact ok_c (by omega) rfl | assumption) (Nat.le_of_ble_eq_true rfl) (by omega) (fun r h' hr => ?_)
        obtain ⟨he9, rfl⟩ := hr
        rw [he9]
        clear he9 h'
        show V _ _ _ (8 + 3) _ _ _
        refine v_iload_n hC (pc := 11) (k := 3) 0 rfl dX7_readNumber_11 ?_
        refine v_iret hC hX (pc := 12) dX7_readNumber_12 ?_
        refine ⟨0, rfl, ?_, fun a9 ha b hb => ?_⟩
        · show RS T t h0 _ (numS T t lo hi a)
          rw [numS_r g2 hk hv]
          exact GoS_nf hG (by decide)
        · cases ha; rw [numS_r g2 hk hv] at hb; cases hb
    · skip
      refine v_aload_n hC (pc := 0) (k := 0) 0 rfl dX7_readNumber_0 ?_
      refine v_iload_n hC (pc := 1) (k := 1) 1 rfl dX7_readNumber_1 ?_
      refine v_iload_n hC (pc := 2) (k := 2) 2 rfl dX7_readNumber_2 ?_
      refine v_callV hC (pc := 3) (As := [_, _]) dX7_readNumber_3 rfl (lk_s _ _ (d := d - 1) (by omega) _ _ _ hf0 (by rw [g8]; exact fun z => hk ((nI_eq (by have : tK T t a.1 ≤ 3 := tK_le _ _ _; omega) (by decide)).mp z))) cv_X7_137 rfl (by decide) rfl (by first | rfl | exact ok_c hq rfl | exact ok_w hq hw | exact ok_w (by omega) (by omega) | exact ok_s (by omega) (by omega) | exact ok_c (by omega) rfl | assumption) (Nat.le_of_ble_eq_true rfl) (by omega) (fun r h' hr => ?_)
      obtain ⟨he9, rfl⟩ := hr
      rw [he9]
      clear he9 h'
      show V _ _ _ (3 + 3) _ (_ :: _) _
      refine v_istore_n hC (pc := 6) (l' := [(3, _), (0, _), (1, _), (2, _)]) dX7_readNumber_6 (by decide) rfl ?_
      refine v_aload_n hC (pc := 7) (k := 0) 1 rfl dX7_readNumber_7 ?_
      refine v_callV hC (pc := 8) (As := []) dX7_readNumber_8 rfl (m_nextToken_f _ _ (d := d - 1) (by omega) _ (by rw [nfH_17]; decide)) cv_X7_141 rfl (by decide) rfl (by first | rfl | exact ok_c hq rfl | exact ok_w hq hw | exact ok_w (by omega) (by omega) | exact ok_s (by omega) (by omega) | exact ok_c (by omega) rfl | assumption) (Nat.le_of_ble_eq_true rfl) (by omega) (fun r h' hr => ?_)
      obtain ⟨he9, rfl⟩ := hr
      rw [he9]
      clear he9 h'
      show V _ _ _ (8 + 3) _ _ _
      refine v_iload_n hC (pc := 11) (k := 3) 0 rfl dX7_readNumber_11 ?_
      refine v_iret hC hX (pc := 12) dX7_readNumber_12 ?_
      refine ⟨0, rfl, ?_, fun a9 ha b hb => ?_⟩
      · show RS T t h0 _ (numS T t lo hi a)
        rw [numS_s g2 hk]
        exact GoS_nf hG (by decide)
      · cases ha; rw [numS_s g2 hk] at hb; cases hb
  · skip
    refine v_aload_n hC (pc := 0) (k := 0) 0 rfl dX7_readNumber_0 ?_
    refine v_iload_n hC (pc := 1) (k := 1) 1 rfl dX7_readNumber_1 ?_
    refine v_iload_n hC (pc := 2) (k := 2) 2 rfl dX7_readNumber_2 ?_
    refine v_callV hC (pc := 3) (As := [_, _]) dX7_readNumber_3 rfl (lk_f _ _ (d := d - 1) (by omega) _ _ _ hf0) cv_X7_137 rfl (by decide) rfl (by first | rfl | exact ok_c hq rfl | exact ok_w hq hw | exact ok_w (by omega) (by omega) | exact ok_s (by omega) (by omega) | exact ok_c (by omega) rfl | assumption) (Nat.le_of_ble_eq_true rfl) (by omega) (fun r h' hr => ?_)
    obtain ⟨he9, rfl⟩ := hr
    rw [he9]
    clear he9 h'
    show V _ _ _ (3 + 3) _ (_ :: _) _
    refine v_istore_n hC (pc := 6) (l' := [(3, _), (0, _), (1, _), (2, _)]) dX7_readNumber_6 (by decide) rfl ?_
    refine v_aload_n hC (pc := 7) (k := 0) 1 rfl dX7_readNumber_7 ?_
    refine v_callV hC (pc := 8) (As := []) dX7_readNumber_8 rfl (m_nextToken_f _ _ (d := d - 1) (by omega) _ (RS_fp hx hf0)) cv_X7_141 rfl (by decide) rfl (by first | rfl | exact ok_c hq rfl | exact ok_w hq hw | exact ok_w (by omega) (by omega) | exact ok_s (by omega) (by omega) | exact ok_c (by omega) rfl | assumption) (Nat.le_of_ble_eq_true rfl) (by omega) (fun r h' hr => ?_)
    obtain ⟨he9, rfl⟩ := hr
    rw [he9]
    clear he9 h'
    show V _ _ _ (8 + 3) _ _ _
    refine v_iload_n hC (pc := 11) (k := 3) 0 rfl dX7_readNumber_11 ?_
    refine v_iret hC hX (pc := 12) dX7_readNumber_12 ?_
    refine ⟨0, rfl, RS_f hx (rsp_num T t lo hi) hf0 (RS_RE hx) rfl rfl, fun a ha b hb => ?_⟩
    subst ha
    rcases hx with ⟨z, _⟩ | z
    · rw [rsp_num T t lo hi a z] at hb; cases hb
    · exact absurd z.2.2.2.2.1 hf0

set_option maxRecDepth 20000 in
set_option maxHeartbeats 2000000 in
theorem m_cor (l9 : Launch) (G : WT) {d : Nat} (hd : 3 ≤ d) {T : Nat → Int32} {t : Nat} {h0 : HP} (ht : t ≤ 160) (htp : h0.1 (3, 0, 0) 12 = nI t) (hT : h0.1 (3, 0, 12) = T) (hT0 : ∀ j, j < t → ¬ T j < 0) (h : HP) {x : Sum PE PA} (hx : RS T t h0 h x) (some9 : Int32) : MS l9 G yX7_readCornerBut cX7_readCornerBut 3 (some .int) d [vr (3, 0, 0), vi some9] h (fun r h1 => ∃ c, c < 8 ∧ r = some (vi (nI c)) ∧ RS T t h0 h1 (bdE x (corS T t some9)) ∧ ∀ a, x = .inr a → ∀ b, corS T t some9 a = .inr b → nI c = tV T t a.1) := by
  refine MS_of (by decide +kernel) (Nat.le_of_ble_eq_true rfl) (fun X hC hX => ?_)
  show V X G 3 0 _ [] _
  by_cases hf0 : h.1 (3, 0, 0) 17 = 0
  · obtain ⟨a, rfl, hG⟩ := RS_g hx hf0
    obtain ⟨g1, g2, g3, g4, g5, g6, g7, g8, g9⟩ := id hG
    by_cases hk : tK T t a.1 = 2
    · by_cases hv : ¬ tV T t a.1 < 0 ∧ ¬ 7 < tV T t a.1
      · skip
        obtain ⟨c, hc7, hcv⟩ := nI_of2 (x := tV T t a.1) (M := 7) (n := 7) (by decide) hv.1 (Int32.not_lt.mp hv.2)
        by_cases htd : ¬ (some9 >>> (nI c &&& 31)) &&& 1 = 0
        · skip
          refine v_aload_n hC (pc := 0) (k := 0) 0 rfl dX7_readCornerBut_0 ?_
          refine v_iconst hC (pc := 1) (v := 0) (by decide) dX7_readCornerBut_1 ?_
          refine v_bipush hC (pc := 2) (v := 7) (by decide +kernel) dX7_readCornerBut_2 ?_
          refine v_callV hC (pc := 4) (As := [_, _]) dX7_readCornerBut_4 rfl (lk_o _ _ (d := d - 1) (by omega) _ _ _ hf0 (by rw [g8, hk]; rfl) (by rw [g9 hk]; exact hv)) cv_X7_137 rfl (by decide) rfl (by first | rfl | exact ok_c hq rfl | exact ok_w hq hw | exact ok_w (by omega) (by omega) | exact ok_s (by omega) (by omega) | exact ok_c (by omega) rfl | assumption) (Nat.le_of_ble_eq_true rfl) (by omega) (fun r h' hr => ?_)
          obtain ⟨he9, rfl⟩ := hr
          rw [he9, g9 hk, hcv]
          clear he9 h'
          show V _ _ _ (4 + 3) _ (_ :: _) _
          refine v_istore_n hC (pc := 7) (l' := [(2, _), (0, _), (1, _)]) dX7_readCornerBut_7 (by decide) rfl ?_
          refine v_aload_n hC (pc := 8) (k := 0) 1 rfl dX7_readCornerBut_8 ?_
          refine v_getI hC (pc := 9) dX7_readCornerBut_9 fl_X7_91 rfl (by first | rfl | exact ok_c hq rfl | exact ok_w hq hw | exact ok_w (by omega) (by omega) | exact ok_s (by omega) (by omega) | exact ok_c (by omega) rfl | assumption) rfl (by decide) (by decide) ?_
          refine v_if_ne hC (pc := 12) (tgt := 33) dX7_readCornerBut_12 (by decide) (fun c_12 => ?_) (fun c_12 => ?_)
          · exact absurd hf0 c_12
          · skip
            refine v_aload_n hC (pc := 15) (k := 0) 1 rfl dX7_readCornerBut_15 ?_
            refine v_iload_n hC (pc := 16) (k := 1) 2 rfl dX7_readCornerBut_16 ?_
            refine v_iload_n hC (pc := 17) (k := 2) 0 rfl dX7_readCornerBut_17 ?_
            refine v_ishr hC (pc := 18) dX7_readCornerBut_18 ?_
            refine v_iconst hC (pc := 19) (v := 1) (by decide) dX7_readCornerBut_19 ?_
            refine v_iand hC (pc := 20) dX7_readCornerBut_20 ?_
            refine v_if_ne hC (pc := 21) (tgt := 28) dX7_readCornerBut_21 (by decide) (fun c_21 => ?_) (fun c_21 => ?_)
            · skip
              refine v_iconst hC (pc := 28) (v := 0) (by decide) dX7_readCornerBut_28 ?_
              refine v_iconst hC (pc := 29) (v := 4) (by decide) dX7_readCornerBut_29 ?_
              refine v_callV hC (pc := 30) (As := [_, _]) dX7_readCornerBut_30 rfl (nd_0 _ _ (d := d - 1) (by omega) _ _ hf0) cv_X7_133 rfl (by decide) rfl (by first | rfl | exact ok_c hq rfl | exact ok_w hq hw | exact ok_w (by omega) (by omega) | exact ok_s (by omega) (by omega) | exact ok_c (by omega) rfl | assumption) (Nat.le_of_ble_eq_true rfl) (by omega) (fun r h' hr => ?_)
              obtain ⟨he9, rfl⟩ := hr
              rw [he9]
              clear he9 h'
              show V _ _ _ (30 + 3) _ _ _
              refine v_aload_n hC (pc := 33) (k := 0) 1 rfl dX7_readCornerBut_33 ?_
              refine v_aload_n hC (pc := 34) (k := 0) 1 rfl dX7_readCornerBut_34 ?_
              refine v_getI hC (pc := 35) dX7_readCornerBut_35 fl_X7_91 rfl (by first | rfl | exact ok_c hq rfl | exact ok_w hq hw | exact ok_w (by omega) (by omega) | exact ok_s (by omega) (by omega) | exact ok_c (by omega) rfl | assumption) rfl (by decide) (by decide) ?_
              rw [nfH_17]
              refine v_if_ne hC (pc := 38) (tgt := 53) dX7_readCornerBut_38 (by decide) (fun c_38 => ?_) (fun c_38 => ?_)
              · skip
                refine v_aload_n hC (pc := 53) (k := 0) 1 rfl dX7_readCornerBut_53 ?_
                refine v_getI hC (pc := 54) dX7_readCornerBut_54 fl_X7_73 rfl (by first | rfl | exact ok_c hq rfl | exact ok_w hq hw | exact ok_w (by omega) (by omega) | exact ok_s (by omega) (by omega) | exact ok_c (by omega) rfl | assumption) rfl (by decide) (by decide) ?_
                refine v_putI hC (pc := 57) dX7_readCornerBut_57 fs_X7_73 rfl (by first | rfl | exact ok_c hq rfl | exact ok_w hq hw | exact ok_w (by omega) (by omega) | exact ok_s (by omega) (by omega) | exact ok_c (by omega) rfl | assumption) rfl (by decide) (by decide) ?_
                rw [upI_id]
                refine v_aload_n hC (pc := 60) (k := 0) 1 rfl dX7_readCornerBut_60 ?_
                refine v_callV hC (pc := 61) (As := []) dX7_readCornerBut_61 rfl (m_nextToken_f _ _ (d := d - 1) (by omega) _ (by rw [nfH_17]; decide)) cv_X7_141 rfl (by decide) rfl (by first | rfl | exact ok_c hq rfl | exact ok_w hq hw | exact ok_w (by omega) (by omega) | exact ok_s (by omega) (by omega) | exact ok_c (by omega) rfl | assumption) (Nat.le_of_ble_eq_true rfl) (by omega) (fun r h' hr => ?_)
                obtain ⟨he9, rfl⟩ := hr
                rw [he9]
                clear he9 h'
                show V _ _ _ (61 + 3) _ _ _
                refine v_iload_n hC (pc := 64) (k := 2) 0 rfl dX7_readCornerBut_64 ?_
                refine v_iret hC hX (pc := 65) dX7_readCornerBut_65 ?_
                have e9 : corS T t some9 a = .inl (4, tF T t a.1) := by unfold corS; rw [numS_o g2 hk hv]; show iteP _ _ _ = _; rw [iteP_f (by rw [hcv]; exact htd)]
                refine ⟨c, by omega, rfl, ?_, fun a9 ha b hb => ?_⟩
                · show RS T t h0 _ (corS T t some9 a)
                  rw [e9]
                  exact GoS_nf hG (by decide)
                · cases ha; exact hcv.symm
              · exact absurd c_38 (by decide)
            · exact absurd c_21 htd
        · have PT : ∀ v, v = mxF (h.1 (3, 0, 0) 10) (nI c) → V X G 3 57 [(2, vi (nI c)), (0, vr (3, 0, 0)), (1, vi some9)] [vi v, vr (3, 0, 0)] h := by
            intro v hv9
            refine v_putI hC (pc := 57) dX7_readCornerBut_57 fs_X7_73 rfl (by first | rfl | exact ok_c hq rfl | exact ok_w hq hw | exact ok_w (by omega) (by omega) | exact ok_s (by omega) (by omega) | exact ok_c (by omega) rfl | assumption) rfl (by decide) (by decide) ?_
            refine v_aload_n hC (pc := 60) (k := 0) 1 rfl dX7_readCornerBut_60 ?_
            refine v_callV hC (pc := 61) (As := []) dX7_readCornerBut_61 rfl (m_nextToken _ _ (d := d - 1) (by omega) _ (T := T) (t := t) (e := tE T t a.1) ht (((RE_f (k := 10) g1 (by decide))).2.2 12 (by decide) |>.trans htp) ((((RE_f (k := 10) g1 (by decide))).1 (3, 0, 12) (by decide) (by decide) (by decide)).trans hT) hT0 (by rw [upI_k _ _ _ _ _ (by decide)]; exact hf0) (by rw [upI_k _ _ _ _ _ (by decide)]; exact g6) (tE_b g3).2) cv_X7_141 rfl (by decide) rfl (by first | rfl | exact ok_c hq rfl | exact ok_w hq hw | exact ok_w (by omega) (by omega) | exact ok_s (by omega) (by omega) | exact ok_c (by omega) rfl | assumption) (Nat.le_of_ble_eq_true rfl) (by omega) (fun r h' hr => ?_)
            obtain ⟨rfl, hu⟩ := hr
            show V _ _ _ (61 + 3) _ _ _
            refine v_iload_n hC (pc := 64) (k := 2) 0 rfl dX7_readCornerBut_64 ?_
            refine v_iret hC hX (pc := 65) dX7_readCornerBut_65 ?_
            have e9 : corS T t some9 a = .inr (tE T t a.1, upd a.2 85 v) := by
              unfold corS; rw [numS_o g2 hk hv]; show iteP _ _ _ = _
              rw [iteP_t (by rw [hcv]; exact Classical.not_not.mp htd), hv9, hcv, g4.2.2.2.2.2.2]
            refine ⟨c, by omega, rfl, ?_, fun a9 ha b hb => ?_⟩
            · show RS T t h0 _ (corS T t some9 a)
              rw [e9]
              have hG2 : GoS T t h0 (upI h (3, 0, 0) 10 v) (a.1, upd a.2 85 v) := (RS_f10 v (x := .inr a) (Or.inr hG)).elim (fun z => absurd z.1 g2) id
              exact RS_tok hG2.1 hG2.2.2.2.1 (tE_b g3).2 hu
            · cases ha; exact hcv.symm
          refine v_aload_n hC (pc := 0) (k := 0) 0 rfl dX7_readCornerBut_0 ?_
          refine v_iconst hC (pc := 1) (v := 0) (by decide) dX7_readCornerBut_1 ?_
          refine v_bipush hC (pc := 2) (v := 7) (by decide +kernel) dX7_readCornerBut_2 ?_
          refine v_callV hC (pc := 4) (As := [_, _]) dX7_readCornerBut_4 rfl (lk_o _ _ (d := d - 1) (by omega) _ _ _ hf0 (by rw [g8, hk]; rfl) (by rw [g9 hk]; exact hv)) cv_X7_137 rfl (by decide) rfl (by first | rfl | exact ok_c hq rfl | exact ok_w hq hw | exact ok_w (by omega) (by omega) | exact ok_s (by omega) (by omega) | exact ok_c (by omega) rfl | assumption) (Nat.le_of_ble_eq_true rfl) (by omega) (fun r h' hr => ?_)
          obtain ⟨he9, rfl⟩ := hr
          rw [he9, g9 hk, hcv]
          clear he9 h'
          show V _ _ _ (4 + 3) _ (_ :: _) _
          refine v_istore_n hC (pc := 7) (l' := [(2, _), (0, _), (1, _)]) dX7_readCornerBut_7 (by decide) rfl ?_
          refine v_aload_n hC (pc := 8) (k := 0) 1 rfl dX7_readCornerBut_8 ?_
          refine v_getI hC (pc := 9) dX7_readCornerBut_9 fl_X7_91 rfl (by first | rfl | exact ok_c hq rfl | exact ok_w hq hw | exact ok_w (by omega) (by omega) | exact ok_s (by omega) (by omega) | exact ok_c (by omega) rfl | assumption) rfl (by decide) (by decide) ?_
          refine v_if_ne hC (pc := 12) (tgt := 33) dX7_readCornerBut_12 (by decide) (fun c_12 => ?_) (fun c_12 => ?_)
          · exact absurd hf0 c_12
          · skip
            refine v_aload_n hC (pc := 15) (k := 0) 1 rfl dX7_readCornerBut_15 ?_
            refine v_iload_n hC (pc := 16) (k := 1) 2 rfl dX7_readCornerBut_16 ?_
            refine v_iload_n hC (pc := 17) (k := 2) 0 rfl dX7_readCornerBut_17 ?_
            refine v_ishr hC (pc := 18) dX7_readCornerBut_18 ?_
            refine v_iconst hC (pc := 19) (v := 1) (by decide) dX7_readCornerBut_19 ?_
            refine v_iand hC (pc := 20) dX7_readCornerBut_20 ?_
            refine v_if_ne hC (pc := 21) (tgt := 28) dX7_readCornerBut_21 (by decide) (fun c_21 => ?_) (fun c_21 => ?_)
            · exact absurd (Classical.not_not.mp htd) c_21
            · skip
              refine v_iconst hC (pc := 24) (v := 1) (by decide) dX7_readCornerBut_24 ?_
              refine v_goto hC (pc := 25) (tgt := 29) dX7_readCornerBut_25 (by decide) ?_
              refine v_iconst hC (pc := 29) (v := 4) (by decide) dX7_readCornerBut_29 ?_
              refine v_callV hC (pc := 30) (As := [_, _]) dX7_readCornerBut_30 rfl (nd_1 _ _ (d := d - 1) (by omega) _ _) cv_X7_133 rfl (by decide) rfl (by first | rfl | exact ok_c hq rfl | exact ok_w hq hw | exact ok_w (by omega) (by omega) | exact ok_s (by omega) (by omega) | exact ok_c (by omega) rfl | assumption) (Nat.le_of_ble_eq_true rfl) (by omega) (fun r h' hr => ?_)
              obtain ⟨he9, rfl⟩ := hr
              rw [he9]
              clear he9 h'
              show V _ _ _ (30 + 3) _ _ _
              refine v_aload_n hC (pc := 33) (k := 0) 1 rfl dX7_readCornerBut_33 ?_
              refine v_aload_n hC (pc := 34) (k := 0) 1 rfl dX7_readCornerBut_34 ?_
              refine v_getI hC (pc := 35) dX7_readCornerBut_35 fl_X7_91 rfl (by first | rfl | exact ok_c hq rfl | exact ok_w hq hw | exact ok_w (by omega) (by omega) | exact ok_s (by omega) (by omega) | exact ok_c (by omega) rfl | assumption) rfl (by decide) (by decide) ?_
              refine v_if_ne hC (pc := 38) (tgt := 53) dX7_readCornerBut_38 (by decide) (fun c_38 => ?_) (fun c_38 => ?_)
              · exact absurd hf0 c_38
              · skip
                refine v_iload_n hC (pc := 41) (k := 2) 0 rfl dX7_readCornerBut_41 ?_
                refine v_aload_n hC (pc := 42) (k := 0) 1 rfl dX7_readCornerBut_42 ?_
                refine v_getI hC (pc := 43) dX7_readCornerBut_43 fl_X7_73 rfl (by first | rfl | exact ok_c hq rfl | exact ok_w hq hw | exact ok_w (by omega) (by omega) | exact ok_s (by omega) (by omega) | exact ok_c (by omega) rfl | assumption) rfl (by decide) (by decide) ?_
                refine v_icmp_le hC (pc := 46) (tgt := 53) dX7_readCornerBut_46 (by decide) (fun c_46 => ?_) (fun c_46 => ?_)
                · skip
                  refine v_aload_n hC (pc := 53) (k := 0) 1 rfl dX7_readCornerBut_53 ?_
                  refine v_getI hC (pc := 54) dX7_readCornerBut_54 fl_X7_73 rfl (by first | rfl | exact ok_c hq rfl | exact ok_w hq hw | exact ok_w (by omega) (by omega) | exact ok_s (by omega) (by omega) | exact ok_c (by omega) rfl | assumption) rfl (by decide) (by decide) ?_
                  exact PT _ (by unfold mxF; first | rw [if_pos c_46] | rw [if_neg c_46])
                · skip
                  refine v_iload_n hC (pc := 49) (k := 2) 0 rfl dX7_readCornerBut_49 ?_
                  refine v_goto hC (pc := 50) (tgt := 57) dX7_readCornerBut_50 (by decide) ?_
                  exact PT _ (by unfold mxF; first | rw [if_pos c_46] | rw [if_neg c_46])
      · skip
        refine v_aload_n hC (pc := 0) (k := 0) 0 rfl dX7_readCornerBut_0 ?_
        refine v_iconst hC (pc := 1) (v := 0) (by decide) dX7_readCornerBut_1 ?_
        refine v_bipush hC (pc := 2) (v := 7) (by decide +kernel) dX7_readCornerBut_2 ?_
        refine v_callV hC (pc := 4) (As := [_, _]) dX7_readCornerBut_4 rfl (lk_r _ _ (d := d - 1) (by omega) _ _ _ hf0 (by rw [g8, hk]; rfl) (by rw [g9 hk]; exact hv)) cv_X7_137 rfl (by decide) rfl (by first | rfl | exact ok_c hq rfl | exact ok_w hq hw | exact ok_w (by omega) (by omega) | exact ok_s (by omega) (by omega) | exact ok_c (by omega) rfl | assumption) (Nat.le_of_ble_eq_true rfl) (by omega) (fun r h' hr => ?_)
        obtain ⟨he9, rfl⟩ := hr
        rw [he9]
        clear he9 h'
        show V _ _ _ (4 + 3) _ (_ :: _) _
        refine v_istore_n hC (pc := 7) (l' := [(2, _), (0, _), (1, _)]) dX7_readCornerBut_7 (by decide) rfl ?_
        refine v_aload_n hC (pc := 8) (k := 0) 1 rfl dX7_readCornerBut_8 ?_
        refine v_getI hC (pc := 9) dX7_readCornerBut_9 fl_X7_91 rfl (by first | rfl | exact ok_c hq rfl | exact ok_w hq hw | exact ok_w (by omega) (by omega) | exact ok_s (by omega) (by omega) | exact ok_c (by omega) rfl | assumption) rfl (by decide) (by decide) ?_
        rw [nfH_17]
        refine v_if_ne hC (pc := 12) (tgt := 33) dX7_readCornerBut_12 (by decide) (fun c_12 => ?_) (fun c_12 => ?_)
        · skip
          refine v_aload_n hC (pc := 33) (k := 0) 1 rfl dX7_readCornerBut_33 ?_
          refine v_aload_n hC (pc := 34) (k := 0) 1 rfl dX7_readCornerBut_34 ?_
          refine v_getI hC (pc := 35) dX7_readCornerBut_35 fl_X7_91 rfl (by first | rfl | exact ok_c hq rfl | exact ok_w hq hw | exact ok_w (by omega) (by omega) | exact ok_s (by omega) (by omega) | exact ok_c (by omega) rfl | assumption) rfl (by decide) (by decide) ?_
          rw [nfH_17]
          refine v_if_ne hC (pc := 38) (tgt := 53) dX7_readCornerBut_38 (by decide) (fun c_38 => ?_) (fun c_38 => ?_)
          · skip
            refine v_aload_n hC (pc := 53) (k := 0) 1 rfl dX7_readCornerBut_53 ?_
            refine v_getI hC (pc := 54) dX7_readCornerBut_54 fl_X7_73 rfl (by first | rfl | exact ok_c hq rfl | exact ok_w hq hw | exact ok_w (by omega) (by omega) | exact ok_s (by omega) (by omega) | exact ok_c (by omega) rfl | assumption) rfl (by decide) (by decide) ?_
            refine v_putI hC (pc := 57) dX7_readCornerBut_57 fs_X7_73 rfl (by first | rfl | exact ok_c hq rfl | exact ok_w hq hw | exact ok_w (by omega) (by omega) | exact ok_s (by omega) (by omega) | exact ok_c (by omega) rfl | assumption) rfl (by decide) (by decide) ?_
            rw [upI_id]
            refine v_aload_n hC (pc := 60) (k := 0) 1 rfl dX7_readCornerBut_60 ?_
            refine v_callV hC (pc := 61) (As := []) dX7_readCornerBut_61 rfl (m_nextToken_f _ _ (d := d - 1) (by omega) _ (by rw [nfH_17]; decide)) cv_X7_141 rfl (by decide) rfl (by first | rfl | exact ok_c hq rfl | exact ok_w hq hw | exact ok_w (by omega) (by omega) | exact ok_s (by omega) (by omega) | exact ok_c (by omega) rfl | assumption) (Nat.le_of_ble_eq_true rfl) (by omega) (fun r h' hr => ?_)
            obtain ⟨he9, rfl⟩ := hr
            rw [he9]
            clear he9 h'
            show V _ _ _ (61 + 3) _ _ _
            refine v_iload_n hC (pc := 64) (k := 2) 0 rfl dX7_readCornerBut_64 ?_
            refine v_iret hC hX (pc := 65) dX7_readCornerBut_65 ?_
            have e9 : corS T t some9 a = .inl (3, tF T t a.1) := by unfold corS; rw [numS_r g2 hk hv]; rfl
            refine ⟨0, by decide, rfl, ?_, fun a9 ha b hb => ?_⟩
            · show RS T t h0 _ (corS T t some9 a)
              rw [e9]
              exact GoS_nf hG (by decide)
            · cases ha; rw [e9] at hb; cases hb
          · exact absurd c_38 (by decide)
        · exact absurd c_12 (by decide)
    · skip
      refine v_aload_n hC (pc := 0) (k := 0) 0 rfl dX7_readCornerBut_0 ?_
      refine v_iconst hC (pc := 1) (v := 0) (by decide) dX7_readCornerBut_1 ?_
      refine v_bipush hC (pc := 2) (v := 7) (by decide +kernel) dX7_readCornerBut_2 ?_
      refine v_callV hC (pc := 4) (As := [_, _]) dX7_readCornerBut_4 rfl (lk_s _ _ (d := d - 1) (by omega) _ _ _ hf0 (by rw [g8]; exact fun z => hk ((nI_eq (by have : tK T t a.1 ≤ 3 := tK_le _ _ _; omega) (by decide)).mp z))) cv_X7_137 rfl (by decide) rfl (by first | rfl | exact ok_c hq rfl | exact ok_w hq hw | exact ok_w (by omega) (by omega) | exact ok_s (by omega) (by omega) | exact ok_c (by omega) rfl | assumption) (Nat.le_of_ble_eq_true rfl) (by omega) (fun r h' hr => ?_)
      obtain ⟨he9, rfl⟩ := hr
      rw [he9]
      clear he9 h'
      show V _ _ _ (4 + 3) _ (_ :: _) _
      refine v_istore_n hC (pc := 7) (l' := [(2, _), (0, _), (1, _)]) dX7_readCornerBut_7 (by decide) rfl ?_
      refine v_aload_n hC (pc := 8) (k := 0) 1 rfl dX7_readCornerBut_8 ?_
      refine v_getI hC (pc := 9) dX7_readCornerBut_9 fl_X7_91 rfl (by first | rfl | exact ok_c hq rfl | exact ok_w hq hw | exact ok_w (by omega) (by omega) | exact ok_s (by omega) (by omega) | exact ok_c (by omega) rfl | assumption) rfl (by decide) (by decide) ?_
      rw [nfH_17]
      refine v_if_ne hC (pc := 12) (tgt := 33) dX7_readCornerBut_12 (by decide) (fun c_12 => ?_) (fun c_12 => ?_)
      · skip
        refine v_aload_n hC (pc := 33) (k := 0) 1 rfl dX7_readCornerBut_33 ?_
        refine v_aload_n hC (pc := 34) (k := 0) 1 rfl dX7_readCornerBut_34 ?_
        refine v_getI hC (pc := 35) dX7_readCornerBut_35 fl_X7_91 rfl (by first | rfl | exact ok_c hq rfl | exact ok_w hq hw | exact ok_w (by omega) (by omega) | exact ok_s (by omega) (by omega) | exact ok_c (by omega) rfl | assumption) rfl (by decide) (by decide) ?_
        rw [nfH_17]
        refine v_if_ne hC (pc := 38) (tgt := 53) dX7_readCornerBut_38 (by decide) (fun c_38 => ?_) (fun c_38 => ?_)
        · skip
          refine v_aload_n hC (pc := 53) (k := 0) 1 rfl dX7_readCornerBut_53 ?_
          refine v_getI hC (pc := 54) dX7_readCornerBut_54 fl_X7_73 rfl (by first | rfl | exact ok_c hq rfl | exact ok_w hq hw | exact ok_w (by omega) (by omega) | exact ok_s (by omega) (by omega) | exact ok_c (by omega) rfl | assumption) rfl (by decide) (by decide) ?_
          refine v_putI hC (pc := 57) dX7_readCornerBut_57 fs_X7_73 rfl (by first | rfl | exact ok_c hq rfl | exact ok_w hq hw | exact ok_w (by omega) (by omega) | exact ok_s (by omega) (by omega) | exact ok_c (by omega) rfl | assumption) rfl (by decide) (by decide) ?_
          rw [upI_id]
          refine v_aload_n hC (pc := 60) (k := 0) 1 rfl dX7_readCornerBut_60 ?_
          refine v_callV hC (pc := 61) (As := []) dX7_readCornerBut_61 rfl (m_nextToken_f _ _ (d := d - 1) (by omega) _ (by rw [nfH_17]; decide)) cv_X7_141 rfl (by decide) rfl (by first | rfl | exact ok_c hq rfl | exact ok_w hq hw | exact ok_w (by omega) (by omega) | exact ok_s (by omega) (by omega) | exact ok_c (by omega) rfl | assumption) (Nat.le_of_ble_eq_true rfl) (by omega) (fun r h' hr => ?_)
          obtain ⟨he9, rfl⟩ := hr
          rw [he9]
          clear he9 h'
          show V _ _ _ (61 + 3) _ _ _
          refine v_iload_n hC (pc := 64) (k := 2) 0 rfl dX7_readCornerBut_64 ?_
          refine v_iret hC hX (pc := 65) dX7_readCornerBut_65 ?_
          have e9 : corS T t some9 a = .inl (2, tF T t a.1) := by unfold corS; rw [numS_s g2 hk]; rfl
          refine ⟨0, by decide, rfl, ?_, fun a9 ha b hb => ?_⟩
          · show RS T t h0 _ (corS T t some9 a)
            rw [e9]
            exact GoS_nf hG (by decide)
          · cases ha; rw [e9] at hb; cases hb
        · exact absurd c_38 (by decide)
      · exact absurd c_12 (by decide)
  · skip
    refine v_aload_n hC (pc := 0) (k := 0) 0 rfl dX7_readCornerBut_0 ?_
    refine v_iconst hC (pc := 1) (v := 0) (by decide) dX7_readCornerBut_1 ?_
    refine v_bipush hC (pc := 2) (v := 7) (by decide +kernel) dX7_readCornerBut_2 ?_
    refine v_callV hC (pc := 4) (As := [_, _]) dX7_readCornerBut_4 rfl (lk_f _ _ (d := d - 1) (by omega) _ _ _ hf0) cv_X7_137 rfl (by decide) rfl (by first | rfl | exact ok_c hq rfl | exact ok_w hq hw | exact ok_w (by omega) (by omega) | exact ok_s (by omega) (by omega) | exact ok_c (by omega) rfl | assumption) (Nat.le_of_ble_eq_true rfl) (by omega) (fun r h' hr => ?_)
    obtain ⟨he9, rfl⟩ := hr
    rw [he9]
    clear he9 h'
    show V _ _ _ (4 + 3) _ (_ :: _) _
    refine v_istore_n hC (pc := 7) (l' := [(2, _), (0, _), (1, _)]) dX7_readCornerBut_7 (by decide) rfl ?_
    refine v_aload_n hC (pc := 8) (k := 0) 1 rfl dX7_readCornerBut_8 ?_
    refine v_getI hC (pc := 9) dX7_readCornerBut_9 fl_X7_91 rfl (by first | rfl | exact ok_c hq rfl | exact ok_w hq hw | exact ok_w (by omega) (by omega) | exact ok_s (by omega) (by omega) | exact ok_c (by omega) rfl | assumption) rfl (by decide) (by decide) ?_
    refine v_if_ne hC (pc := 12) (tgt := 33) dX7_readCornerBut_12 (by decide) (fun c_12 => ?_) (fun c_12 => ?_)
    · skip
      refine v_aload_n hC (pc := 33) (k := 0) 1 rfl dX7_readCornerBut_33 ?_
      refine v_aload_n hC (pc := 34) (k := 0) 1 rfl dX7_readCornerBut_34 ?_
      refine v_getI hC (pc := 35) dX7_readCornerBut_35 fl_X7_91 rfl (by first | rfl | exact ok_c hq rfl | exact ok_w hq hw | exact ok_w (by omega) (by omega) | exact ok_s (by omega) (by omega) | exact ok_c (by omega) rfl | assumption) rfl (by decide) (by decide) ?_
      refine v_if_ne hC (pc := 38) (tgt := 53) dX7_readCornerBut_38 (by decide) (fun c_38 => ?_) (fun c_38 => ?_)
      · skip
        refine v_aload_n hC (pc := 53) (k := 0) 1 rfl dX7_readCornerBut_53 ?_
        refine v_getI hC (pc := 54) dX7_readCornerBut_54 fl_X7_73 rfl (by first | rfl | exact ok_c hq rfl | exact ok_w hq hw | exact ok_w (by omega) (by omega) | exact ok_s (by omega) (by omega) | exact ok_c (by omega) rfl | assumption) rfl (by decide) (by decide) ?_
        refine v_putI hC (pc := 57) dX7_readCornerBut_57 fs_X7_73 rfl (by first | rfl | exact ok_c hq rfl | exact ok_w hq hw | exact ok_w (by omega) (by omega) | exact ok_s (by omega) (by omega) | exact ok_c (by omega) rfl | assumption) rfl (by decide) (by decide) ?_
        rw [upI_id]
        refine v_aload_n hC (pc := 60) (k := 0) 1 rfl dX7_readCornerBut_60 ?_
        refine v_callV hC (pc := 61) (As := []) dX7_readCornerBut_61 rfl (m_nextToken_f _ _ (d := d - 1) (by omega) _ (RS_fp hx hf0)) cv_X7_141 rfl (by decide) rfl (by first | rfl | exact ok_c hq rfl | exact ok_w hq hw | exact ok_w (by omega) (by omega) | exact ok_s (by omega) (by omega) | exact ok_c (by omega) rfl | assumption) (Nat.le_of_ble_eq_true rfl) (by omega) (fun r h' hr => ?_)
        obtain ⟨he9, rfl⟩ := hr
        rw [he9]
        clear he9 h'
        show V _ _ _ (61 + 3) _ _ _
        refine v_iload_n hC (pc := 64) (k := 2) 0 rfl dX7_readCornerBut_64 ?_
        refine v_iret hC hX (pc := 65) dX7_readCornerBut_65 ?_
        refine ⟨0, by decide, rfl, RS_f hx (rsp_cor T t some9) hf0 (RS_RE hx) rfl rfl, fun a ha b hb => ?_⟩
        subst ha
        rcases hx with ⟨z, _⟩ | z
        · rw [rsp_cor T t some9 a z] at hb; cases hb
        · exact absurd z.2.2.2.2.1 hf0
      · exact absurd c_38 hf0
    · exact absurd c_12 hf0

