/-! THE CLASS: counting, reading -/
def usR (x k : Int32) : Int32 := (x.toUInt32 >>> (k.toUInt32 &&& Int32.toUInt32 31)).toInt32
def bc1 (x : Int32) : Int32 := x - (usR x 1 &&& 1431655765)
def bc2 (x : Int32) : Int32 := (x &&& 858993459) + (usR x 2 &&& 858993459)
def bc3 (x : Int32) : Int32 := (x + usR x 4) &&& 252645135
def bc4 (x : Int32) : Int32 := x + usR x 8
def bc5 (x : Int32) : Int32 := x + usR x 16
def bcR (x : Int32) : Int32 := bc5 (bc4 (bc3 (bc2 (bc1 x)))) &&& 63
theorem bc_8 : ∀ b, b < 256 → bcR (nI b) = bitsF (nI b) 8 := by decide +kernel
set_option maxRecDepth 20000 in
set_option maxHeartbeats 2000000 in
theorem t_bitCount (l9 : Launch) (G : WT) {d : Nat} (hd : 1 ≤ d) (h : HP) (x : Int32) : MS l9 G yJ6_bitCount_0f7a4 cJ6_bitCount_0f7a4 1 (some .int) d [vi x] h (fun r h1 => h1 = h ∧ r = some (vi (bcR x))) := by
  refine MS_of (by decide +kernel) (Nat.le_of_ble_eq_true rfl) (fun X hC hX => ?_)
  show V X G 1 0 _ [] _
  refine v_iload_n hC (pc := 0) (k := 0) 0 rfl dJ6_bitCount_0f7a4_0 ?_
  refine v_iload_n hC (pc := 1) (k := 0) 0 rfl dJ6_bitCount_0f7a4_1 ?_
  refine v_iconst hC (pc := 2) (v := 1) (by decide) dJ6_bitCount_0f7a4_2 ?_
  refine v_iushr hC (pc := 3) dJ6_bitCount_0f7a4_3 ?_
  refine v_ldcw hC (pc := 4) k_J6_265 dJ6_bitCount_0f7a4_4 ?_
  refine v_iand hC (pc := 7) dJ6_bitCount_0f7a4_7 ?_
  refine v_isub hC (pc := 8) dJ6_bitCount_0f7a4_8 ?_
  refine v_istore_n hC (pc := 9) (l' := [(0, _)]) dJ6_bitCount_0f7a4_9 (by decide) rfl ?_
  refine v_iload_n hC (pc := 10) (k := 0) 0 rfl dJ6_bitCount_0f7a4_10 ?_
  refine v_ldcw hC (pc := 11) k_J6_266 dJ6_bitCount_0f7a4_11 ?_
  refine v_iand hC (pc := 14) dJ6_bitCount_0f7a4_14 ?_
  refine v_iload_n hC (pc := 15) (k := 0) 0 rfl dJ6_bitCount_0f7a4_15 ?_
  refine v_iconst hC (pc := 16) (v := 2) (by decide) dJ6_bitCount_0f7a4_16 ?_
  refine v_iushr hC (pc := 17) dJ6_bitCount_0f7a4_17 ?_
  refine v_ldcw hC (pc := 18) k_J6_266 dJ6_bitCount_0f7a4_18 ?_
  refine v_iand hC (pc := 21) dJ6_bitCount_0f7a4_21 ?_
  refine v_iadd hC (pc := 22) dJ6_bitCount_0f7a4_22 ?_
  refine v_istore_n hC (pc := 23) (l' := [(0, _)]) dJ6_bitCount_0f7a4_23 (by decide) rfl ?_
  refine v_iload_n hC (pc := 24) (k := 0) 0 rfl dJ6_bitCount_0f7a4_24 ?_
  refine v_iload_n hC (pc := 25) (k := 0) 0 rfl dJ6_bitCount_0f7a4_25 ?_
  refine v_iconst hC (pc := 26) (v := 4) (by decide) dJ6_bitCount_0f7a4_26 ?_
  refine v_iushr hC (pc := 27) dJ6_bitCount_0f7a4_27 ?_
  refine v_iadd hC (pc := 28) dJ6_bitCount_0f7a4_28 ?_
  refine v_ldcw hC (pc := 29) k_J6_267 dJ6_bitCount_0f7a4_29 ?_
  refine v_iand hC (pc := 32) dJ6_bitCount_0f7a4_32 ?_
  refine v_istore_n hC (pc := 33) (l' := [(0, _)]) dJ6_bitCount_0f7a4_33 (by decide) rfl ?_
  refine v_iload_n hC (pc := 34) (k := 0) 0 rfl dJ6_bitCount_0f7a4_34 ?_
  refine v_iload_n hC (pc := 35) (k := 0) 0 rfl dJ6_bitCount_0f7a4_35 ?_
  refine v_bipush hC (pc := 36) (v := 8) (by decide +kernel) dJ6_bitCount_0f7a4_36 ?_
  refine v_iushr hC (pc := 38) dJ6_bitCount_0f7a4_38 ?_
  refine v_iadd hC (pc := 39) dJ6_bitCount_0f7a4_39 ?_
  refine v_istore_n hC (pc := 40) (l' := [(0, _)]) dJ6_bitCount_0f7a4_40 (by decide) rfl ?_
  refine v_iload_n hC (pc := 41) (k := 0) 0 rfl dJ6_bitCount_0f7a4_41 ?_
  refine v_iload_n hC (pc := 42) (k := 0) 0 rfl dJ6_bitCount_0f7a4_42 ?_
  refine v_bipush hC (pc := 43) (v := 16) (by decide +kernel) dJ6_bitCount_0f7a4_43 ?_
  refine v_iushr hC (pc := 45) dJ6_bitCount_0f7a4_45 ?_
  refine v_iadd hC (pc := 46) dJ6_bitCount_0f7a4_46 ?_
  refine v_istore_n hC (pc := 47) (l' := [(0, _)]) dJ6_bitCount_0f7a4_47 (by decide) rfl ?_
  refine v_iload_n hC (pc := 48) (k := 0) 0 rfl dJ6_bitCount_0f7a4_48 ?_
  refine v_bipush hC (pc := 49) (v := 63) (by decide +kernel) dJ6_bitCount_0f7a4_49 ?_
  refine v_iand hC (pc := 51) dJ6_bitCount_0f7a4_51 ?_
  refine v_iret hC hX (pc := 52) dJ6_bitCount_0f7a4_52 ?_
  exact ⟨rfl, rfl⟩

set_option maxRecDepth 20000 in
set_option maxHeartbeats 2000000 in
theorem k_count (l9 : Launch) (G : WT) {d : Nat} (hd : 4 ≤ d) (h : HP) {nW : Nat} (hn4 : nW ≤ 4) (hnw : h.1 (0, 0, 0) 4 = nI nW) (x : Int32) : MS l9 G yX6_count cX6_count 2 (some .int) d [vr (1, 0, 0), vi x] h (fun r h1 => h1 = h ∧ r = some (vi (swF [itN (fun k a => a + (if h.1 (0, 0, 6) k = -4 then 0 else 1)) 16 0, h.1 (0, 0, 0) 5, bcR (h.1 (1, 0, 0) 7), h.1 (1, 0, 2) 1, if (0 : Int32) ≤ h.1 (2, 0, 0) 2 then h.1 (2, 0, 0) 2 else -4, itN (fun w a => a + (h.1 (6, 0, w) 4 - h.1 (6, 0, w) 5)) nW 0, bcR (itN (fun w a => a ||| (1 <<< ((h.1 (6, 0, w) 0) &&& 31))) nW 0)] x))) := by
  refine MS_of (by decide +kernel) (Nat.le_of_ble_eq_true rfl) (fun X hC hX => ?_)
  show V X G 2 0 _ [] _
  refine v_iload_n hC (pc := 0) (k := 1) 1 rfl dX6_count_0 ?_
  rcases sw_cases (x) 6 (by decide) with ⟨k9, hk9, hsw⟩ | hsw
  · rcases (show k9 = 0 ∨ k9 = 1 ∨ k9 = 2 ∨ k9 = 3 ∨ k9 = 4 ∨ k9 = 5 ∨ k9 = 6 by omega) with rfl | rfl | rfl | rfl | rfl | rfl | rfl
    · rw [hsw]
      refine v_tabIn hC (pc := 1) (tgt := 44) dX6_count_1 (by decide) (by decide) (off := 43) (by decide) (by decide) ?_
      refine v_aload_n hC (pc := 44) (k := 0) 0 rfl dX6_count_44 ?_
      refine v_getR hC (pc := 45) dX6_count_45 fl_X6_10 rfl (by first | rfl | exact ok_c hq rfl | exact ok_w hq hw | exact ok_w (by omega) (by omega) | exact ok_s (by omega) (by omega) | exact ok_c (by omega) rfl | assumption) rfl (by decide) (by decide) rfl ?_
      refine v_callV hC (pc := 48) (As := []) dX6_count_48 rfl (t_countStreets _ _ (d := d - 1) (by omega) (q := 0) (by decide) _) cv_X6_273 rfl (by decide) rfl (by first | rfl | exact ok_c hq rfl | exact ok_w hq hw | exact ok_w (by omega) (by omega) | exact ok_s (by omega) (by omega) | exact ok_c (by omega) rfl | assumption) (Nat.le_of_ble_eq_true rfl) (by omega) (fun r h' hr => ?_)
      obtain ⟨he9, rfl⟩ := hr
      rw [he9]
      clear he9 h'
      show V _ _ _ (48 + 3) _ (_ :: _) _
      refine v_iret hC hX (pc := 51) dX6_count_51 ?_
      exact ⟨rfl, by rw [hsw]; rfl⟩
    · rw [hsw]
      refine v_tabIn hC (pc := 1) (tgt := 52) dX6_count_1 (by decide) (by decide) (off := 51) (by decide) (by decide) ?_
      refine v_aload_n hC (pc := 52) (k := 0) 0 rfl dX6_count_52 ?_
      refine v_getR hC (pc := 53) dX6_count_53 fl_X6_10 rfl (by first | rfl | exact ok_c hq rfl | exact ok_w hq hw | exact ok_w (by omega) (by omega) | exact ok_s (by omega) (by omega) | exact ok_c (by omega) rfl | assumption) rfl (by decide) (by decide) rfl ?_
      refine v_getI hC (pc := 56) dX6_count_56 fl_X6_224 rfl (by first | rfl | exact ok_c hq rfl | exact ok_w hq hw | exact ok_w (by omega) (by omega) | exact ok_s (by omega) (by omega) | exact ok_c (by omega) rfl | assumption) rfl (by decide) (by decide) ?_
      refine v_iret hC hX (pc := 59) dX6_count_59 ?_
      exact ⟨rfl, by rw [hsw]; rfl⟩
    · rw [hsw]
      refine v_tabIn hC (pc := 1) (tgt := 60) dX6_count_1 (by decide) (by decide) (off := 59) (by decide) (by decide) ?_
      refine v_aload_n hC (pc := 60) (k := 0) 0 rfl dX6_count_60 ?_
      refine v_getI hC (pc := 61) dX6_count_61 fl_X6_79 rfl (by first | rfl | exact ok_c hq rfl | exact ok_w hq hw | exact ok_w (by omega) (by omega) | exact ok_s (by omega) (by omega) | exact ok_c (by omega) rfl | assumption) rfl (by decide) (by decide) ?_
      refine v_callS hC (pc := 64) (As := [_]) dX6_count_64 rfl (t_bitCount _ _ (d := d - 1) (by omega) _ _) cs_X6_276 (Nat.le_of_ble_eq_true rfl) (by omega) (fun r h' hr => ?_)
      obtain ⟨he9, rfl⟩ := hr
      rw [he9]
      clear he9 h'
      show V _ _ _ (64 + 3) _ (_ :: _) _
      refine v_iret hC hX (pc := 67) dX6_count_67 ?_
      exact ⟨rfl, by rw [hsw]; rfl⟩
    · rw [hsw]
      refine v_tabIn hC (pc := 1) (tgt := 68) dX6_count_1 (by decide) (by decide) (off := 67) (by decide) (by decide) ?_
      refine v_aload_n hC (pc := 68) (k := 0) 0 rfl dX6_count_68 ?_
      refine v_getR hC (pc := 69) dX6_count_69 fl_X6_26 rfl (by first | rfl | exact ok_c hq rfl | exact ok_w hq hw | exact ok_w (by omega) (by omega) | exact ok_s (by omega) (by omega) | exact ok_c (by omega) rfl | assumption) rfl (by decide) (by decide) rfl ?_
      refine v_getI hC (pc := 72) dX6_count_72 fl_X6_51 rfl (by first | rfl | exact ok_c hq rfl | exact ok_w hq hw | exact ok_w (by omega) (by omega) | exact ok_s (by omega) (by omega) | exact ok_c (by omega) rfl | assumption) rfl (by decide) (by decide) ?_
      refine v_iret hC hX (pc := 75) dX6_count_75 ?_
      exact ⟨rfl, by rw [hsw]; rfl⟩
    · rw [hsw]
      refine v_tabIn hC (pc := 1) (tgt := 76) dX6_count_1 (by decide) (by decide) (off := 75) (by decide) (by decide) ?_
      refine v_aload_n hC (pc := 76) (k := 0) 0 rfl dX6_count_76 ?_
      refine v_getR hC (pc := 77) dX6_count_77 fl_X6_32 rfl (by first | rfl | exact ok_c hq rfl | exact ok_w hq hw | exact ok_w (by omega) (by omega) | exact ok_s (by omega) (by omega) | exact ok_c (by omega) rfl | assumption) rfl (by decide) (by decide) rfl ?_
      refine v_iconst hC (pc := 80) (v := 0) (by decide) dX6_count_80 ?_
      refine v_aald hC (pc := 81) (j := (2, 0, 0)) 4 dX6_count_81 rfl (by decide) (fun _ => rfl) (by first | rfl | exact ok_c hq rfl | exact ok_w hq hw | exact ok_w (by omega) (by omega) | exact ok_s (by omega) (by omega) | exact ok_c (by omega) rfl | assumption) (show vp_in (nI 0) 4 from vp_nat (by decide) (by decide)) rfl ?_
      refine v_getI hC (pc := 82) dX6_count_82 fl_X6_248 rfl (by first | rfl | exact ok_c hq rfl | exact ok_w hq hw | exact ok_w (by omega) (by omega) | exact ok_s (by omega) (by omega) | exact ok_c (by omega) rfl | assumption) rfl (by decide) (by decide) ?_
      refine v_if_ge hC (pc := 85) (tgt := 93) dX6_count_85 (by decide) (fun c_85 => ?_) (fun c_85 => ?_)
      · skip
        refine v_aload_n hC (pc := 93) (k := 0) 0 rfl dX6_count_93 ?_
        refine v_getR hC (pc := 94) dX6_count_94 fl_X6_32 rfl (by first | rfl | exact ok_c hq rfl | exact ok_w hq hw | exact ok_w (by omega) (by omega) | exact ok_s (by omega) (by omega) | exact ok_c (by omega) rfl | assumption) rfl (by decide) (by decide) rfl ?_
        refine v_iconst hC (pc := 97) (v := 0) (by decide) dX6_count_97 ?_
        refine v_aald hC (pc := 98) (j := (2, 0, 0)) 4 dX6_count_98 rfl (by decide) (fun _ => rfl) (by first | rfl | exact ok_c hq rfl | exact ok_w hq hw | exact ok_w (by omega) (by omega) | exact ok_s (by omega) (by omega) | exact ok_c (by omega) rfl | assumption) (show vp_in (nI 0) 4 from vp_nat (by decide) (by decide)) rfl ?_
        refine v_getI hC (pc := 99) dX6_count_99 fl_X6_248 rfl (by first | rfl | exact ok_c hq rfl | exact ok_w hq hw | exact ok_w (by omega) (by omega) | exact ok_s (by omega) (by omega) | exact ok_c (by omega) rfl | assumption) rfl (by decide) (by decide) ?_
        refine v_iret hC hX (pc := 102) dX6_count_102 ?_
        refine ⟨rfl, ?_⟩
        rw [hsw]
        first | (rw [show (swF _ (nI 4)) = (if (0 : Int32) ≤ h.1 (2, 0, 0) 2 then h.1 (2, 0, 0) 2 else -4) from rfl, if_pos c_85]; done) | (rw [show (swF _ (nI 4)) = (if (0 : Int32) ≤ h.1 (2, 0, 0) 2 then h.1 (2, 0, 0) 2 else -4) from rfl, if_neg c_85])
      · skip
        refine v_bipush hC (pc := 88) (v := (-4)) (by decide +kernel) dX6_count_88 ?_
        refine v_goto hC (pc := 90) (tgt := 102) dX6_count_90 (by decide) ?_
        refine v_iret hC hX (pc := 102) dX6_count_102 ?_
        refine ⟨rfl, ?_⟩
        rw [hsw]
        first | (rw [show (swF _ (nI 4)) = (if (0 : Int32) ≤ h.1 (2, 0, 0) 2 then h.1 (2, 0, 0) 2 else -4) from rfl, if_pos c_85]; done) | (rw [show (swF _ (nI 4)) = (if (0 : Int32) ≤ h.1 (2, 0, 0) 2 then h.1 (2, 0, 0) 2 else -4) from rfl, if_neg c_85])
    · rw [hsw]
      refine v_tabIn hC (pc := 1) (tgt := 103) dX6_count_1 (by decide) (by decide) (off := 102) (by decide) (by decide) ?_
      refine v_aload_n hC (pc := 103) (k := 0) 0 rfl dX6_count_103 ?_
      refine v_getR hC (pc := 104) dX6_count_104 fl_X6_10 rfl (by first | rfl | exact ok_c hq rfl | exact ok_w hq hw | exact ok_w (by omega) (by omega) | exact ok_s (by omega) (by omega) | exact ok_c (by omega) rfl | assumption) rfl (by decide) (by decide) rfl ?_
      refine v_callV hC (pc := 107) (As := []) dX6_count_107 rfl (t_countLetters _ _ (d := d - 1) (by omega) (q := 0) (by decide) _ hn4 hnw) cv_X6_281 rfl (by decide) rfl (by first | rfl | exact ok_c hq rfl | exact ok_w hq hw | exact ok_w (by omega) (by omega) | exact ok_s (by omega) (by omega) | exact ok_c (by omega) rfl | assumption) (Nat.le_of_ble_eq_true rfl) (by omega) (fun r h' hr => ?_)
      obtain ⟨he9, rfl⟩ := hr
      rw [he9]
      clear he9 h'
      show V _ _ _ (107 + 3) _ (_ :: _) _
      refine v_iret hC hX (pc := 110) dX6_count_110 ?_
      exact ⟨rfl, by rw [hsw]; rfl⟩
    · rw [hsw]
      refine v_tabIn hC (pc := 1) (tgt := 111) dX6_count_1 (by decide) (by decide) (off := 110) (by decide) (by decide) ?_
      refine v_aload_n hC (pc := 111) (k := 0) 0 rfl dX6_count_111 ?_
      refine v_getR hC (pc := 112) dX6_count_112 fl_X6_10 rfl (by first | rfl | exact ok_c hq rfl | exact ok_w hq hw | exact ok_w (by omega) (by omega) | exact ok_s (by omega) (by omega) | exact ok_c (by omega) rfl | assumption) rfl (by decide) (by decide) rfl ?_
      refine v_callV hC (pc := 115) (As := []) dX6_count_115 rfl (t_placeBits _ _ (d := d - 1) (by omega) (q := 0) (by decide) _ hn4 hnw) cv_X6_238 rfl (by decide) rfl (by first | rfl | exact ok_c hq rfl | exact ok_w hq hw | exact ok_w (by omega) (by omega) | exact ok_s (by omega) (by omega) | exact ok_c (by omega) rfl | assumption) (Nat.le_of_ble_eq_true rfl) (by omega) (fun r h' hr => ?_)
      obtain ⟨he9, rfl⟩ := hr
      rw [he9]
      clear he9 h'
      show V _ _ _ (115 + 3) _ (_ :: _) _
      refine v_callS hC (pc := 118) (As := [_]) dX6_count_118 rfl (t_bitCount _ _ (d := d - 1) (by omega) _ _) cs_X6_276 (Nat.le_of_ble_eq_true rfl) (by omega) (fun r h' hr => ?_)
      obtain ⟨he9, rfl⟩ := hr
      rw [he9]
      clear he9 h'
      show V _ _ _ (118 + 3) _ (_ :: _) _
      refine v_iret hC hX (pc := 121) dX6_count_121 ?_
      exact ⟨rfl, by rw [hsw]; rfl⟩
  · refine v_tabOut hC (pc := 1) (tgt := 122) dX6_count_1 hsw (by decide) ?_
    refine v_iconst hC (pc := 122) (v := (-1)) (by decide) dX6_count_122 ?_
    refine v_iret hC hX (pc := 123) dX6_count_123 ?_
    exact ⟨rfl, by rw [swF_out rfl hsw]⟩

def caR (h : HP) (k : Nat) (f : Int32) (i : Nat) : Int32 := celF (h.1 (2, k, 1)) (f + 2 * nI i)
def cbR (h : HP) (k : Nat) (f : Int32) (i : Nat) : Int32 := celF (h.1 (2, k, 1)) (f + 2 * nI i + 1)
def okR (h : HP) (k : Nat) (f : Int32) (nC nW i : Nat) : Prop := (¬ caR h k f i < 0 ∧ ¬ nI nW ≤ caR h k f i) ∧ ¬ cbR h k f i < 0 ∧ ¬ nI nC ≤ cbR h k f i
def ptC (h : HP) (k : Nat) (f : Int32) (i : Nat) : HP := itN (fun i u => upI u (6, 0, (caR h k f i).toNatClampNeg) 0 (cbR h k f i)) i h
theorem ptC_o (h : HP) (k : Nat) (f : Int32) {j : PId} (hj : j.1 ≠ 6) : ∀ i, (ptC h k f i).1 j = h.1 j
  | 0 => rfl
  | i + 1 => by
    show (upI (ptC h k f i) (6, 0, (caR h k f i).toNatClampNeg) 0 (cbR h k f i)).1 j = _
    rw [upI_ne _ _ _ (fun e => hj (by rw [e]))]
    exact ptC_o h k f hj i
set_option maxRecDepth 20000 in
set_option maxHeartbeats 2000000 in
theorem k_read_ok (l9 : Launch) (G : WT) {d : Nat} (hd : 4 ≤ d) (h : HP) {nC : Nat} (hn8 : nC ≤ 8) (hnc : h.1 (0, 0, 0) 0 = nI nC) {nW : Nat} (hn4 : nW ≤ 4) (hnw : h.1 (0, 0, 0) 4 = nI nW) {k l n0 m : Nat} (hk : k < 4) (hl : l < 3) (hn : n0 ≤ 20) (f : Int32) (hm : m ≤ 20) (hwh : whoF (h.1 (2, k, 0) 2) (h.1 (2, k, 0) 1) (nI l) f n0 = nI m) : MS l9 G yX6_read cX6_read 9 (some .int) d [vr (1, 0, 0), vi (nI k), vi (nI l), vi f, vi (nI n0)] h (fun r h1 => (∃ i, i < m ∧ ¬ okR h k f nC nW i ∧ (∀ j, j < i → okR h k f nC nW j) ∧ r = some (vi (-20 - nI i)) ∧ h1 = h) ∨ ((∀ j, j < m → okR h k f nC nW j) ∧ r = some (vi (nI m)) ∧ h1 = upI (ptC h k f m) (1, 0, 0) 9 (if m = n0 then 0 else fltF (h.1 (2, k, 0) 2) (h.1 (2, k, 0) 1) (nI l)))) := by
  refine MS_of (by decide +kernel) (Nat.le_of_ble_eq_true rfl) (fun X hC hX => ?_)
  show V X G 9 0 _ [] _
  have E1 : (∀ j, j < m → okR h k f nC nW j) → V X G 9 115 [(7, vi (nI m)), (6, vi (nI m)), (5, vr (2, k, 0)), (0, vr (1, 0, 0)), (1, vi (nI k)), (2, vi (nI l)), (3, vi f), (4, vi (nI n0))] [] h := by
    intro hall
    have E2 : V X G 9 160 [(7, vi (nI m)), (6, vi (nI m)), (5, vr (2, k, 0)), (0, vr (1, 0, 0)), (1, vi (nI k)), (2, vi (nI l)), (3, vi f), (4, vi (nI n0))] [] (ptC h k f m) := by
      refine v_aload_n hC (pc := 160) (k := 0) 3 rfl dX6_read_160 ?_
      refine v_iload hC (pc := 161) 1 rfl dX6_read_161 ?_
      refine v_iload hC (pc := 163) 7 rfl dX6_read_163 ?_
      refine v_icmp_ne hC (pc := 165) (tgt := 172) dX6_read_165 (by decide) (fun c_165 => ?_) (fun c_165 => ?_)
      · skip
        refine v_aload hC (pc := 172) 2 rfl dX6_read_172 ?_
        refine v_iload_n hC (pc := 174) (k := 2) 5 rfl dX6_read_174 ?_
        refine v_callV hC (pc := 175) (As := [_]) dX6_read_175 rfl (t_faultAs _ _ (d := d - 1) (by omega) hk _ _) cv_X6_267 rfl (by decide) rfl (ok_s hk (by decide)) (Nat.le_of_ble_eq_true rfl) (by omega) (fun r h' hr => ?_)
        obtain ⟨he9, rfl⟩ := hr
        rw [he9]
        clear he9 h'
        show V _ _ _ (175 + 3) _ (_ :: _) _
        refine v_putI hC (pc := 178) dX6_read_178 fs_X6_270 rfl (by first | rfl | exact ok_c hq rfl | exact ok_w hq hw | exact ok_w (by omega) (by omega) | exact ok_s (by omega) (by omega) | exact ok_c (by omega) rfl | assumption) rfl (by decide) (by decide) ?_
        refine v_iload hC (pc := 181) 1 rfl dX6_read_181 ?_
        refine v_iret hC hX (pc := 183) dX6_read_183 ?_
        refine Or.inr ⟨hall, rfl, ?_⟩
        first | rw [if_pos ((nI_eq (by omega) (by omega)).mp c_165)] | (rw [if_neg (fun z => c_165 (congrArg nI z)), ptC_o _ _ _ (by show (2 : Nat) ≠ 6; decide) m])
      · skip
        refine v_iconst hC (pc := 168) (v := 0) (by decide) dX6_read_168 ?_
        refine v_goto hC (pc := 169) (tgt := 178) dX6_read_169 (by decide) ?_
        refine v_putI hC (pc := 178) dX6_read_178 fs_X6_270 rfl (by first | rfl | exact ok_c hq rfl | exact ok_w hq hw | exact ok_w (by omega) (by omega) | exact ok_s (by omega) (by omega) | exact ok_c (by omega) rfl | assumption) rfl (by decide) (by decide) ?_
        refine v_iload hC (pc := 181) 1 rfl dX6_read_181 ?_
        refine v_iret hC hX (pc := 183) dX6_read_183 ?_
        refine Or.inr ⟨hall, rfl, ?_⟩
        first | rw [if_pos ((nI_eq (by omega) (by omega)).mp c_165)] | (rw [if_neg (fun z => c_165 (congrArg nI z)), ptC_o _ _ _ (by show (2 : Nat) ≠ 6; decide) m])
    have lp2 : ∀ (n i : Nat) , i ≤ m → m + 1 ≤ i + n → V X G 9 118 [(7, vi (nI i)), (6, vi (nI m)), (5, vr (2, k, 0)), (0, vr (1, 0, 0)), (1, vi (nI k)), (2, vi (nI l)), (3, vi f), (4, vi (nI n0))] [] (ptC h k f i) := by
      intro n
      induction n with
      | zero => intro i  h1 h2; exact absurd h2 (by omega)
      | succ n ih =>
        intro i  h1 h2
        refine v_iload hC (pc := 118) 0 rfl dX6_read_118 ?_
        refine v_iload hC (pc := 120) 1 rfl dX6_read_120 ?_
        refine v_icmp_ge hC (pc := 122) (tgt := 160) dX6_read_122 (by decide) (fun c_122 => ?_) (fun c_122 => ?_)
        · skip
          have hi : i = m := lp_ex (c_122) h1 (by omega)
          subst hi
          exact E2
        · skip
          have hi : i < m := lp_in (c_122) h1 (by omega)
          obtain ⟨w9, hw9, hew⟩ := nat_of (hall i hi).1 (by omega)
          obtain ⟨c9, hc9, hec⟩ := nat_of (hall i hi).2 (by omega)
          rw [show ptC h k f i = ptC h k f i from rfl]
          refine v_iload_n hC (pc := 125) (k := 3) 6 rfl dX6_read_125 ?_
          refine v_iconst hC (pc := 126) (v := 2) (by decide) dX6_read_126 ?_
          refine v_iload hC (pc := 127) 0 rfl dX6_read_127 ?_
          refine v_imul hC (pc := 129) dX6_read_129 ?_
          refine v_iadd hC (pc := 130) dX6_read_130 ?_
          refine v_istore hC (pc := 131) (l' := [(8, _), (7, _), (6, _), (5, _), (0, _), (1, _), (2, _), (3, _), (4, _)]) dX6_read_131 (by decide) rfl ?_
          refine v_aload_n hC (pc := 133) (k := 0) 4 rfl dX6_read_133 ?_
          refine v_aload hC (pc := 134) 3 rfl dX6_read_134 ?_
          refine v_iload hC (pc := 136) 0 rfl dX6_read_136 ?_
          refine v_callV hC (pc := 138) (As := [_]) dX6_read_138 rfl (t_cellAt _ _ (d := d - 1) (by omega) hk _ _) cv_X6_261 rfl (by decide) rfl (ok_s hk (by decide)) (Nat.le_of_ble_eq_true rfl) (by omega) (fun r h' hr => ?_)
          obtain ⟨he9, rfl⟩ := hr
          rw [he9]
          clear he9 h'
          rw [show (ptC h k f i).1 (2, k, 1) = h.1 (2, k, 1) from ptC_o _ _ _ (by show (2 : Nat) ≠ 6; decide) i]
          rw [show celF (h.1 (2, k, 1)) (f + 2 * nI i) = nI w9 from hew]
          show V _ _ _ (138 + 3) _ (_ :: _) _
          refine v_aload hC (pc := 141) 3 rfl dX6_read_141 ?_
          refine v_iload hC (pc := 143) 0 rfl dX6_read_143 ?_
          refine v_iconst hC (pc := 145) (v := 1) (by decide) dX6_read_145 ?_
          refine v_iadd hC (pc := 146) dX6_read_146 ?_
          refine v_callV hC (pc := 147) (As := [_]) dX6_read_147 rfl (t_cellAt _ _ (d := d - 1) (by omega) hk _ _) cv_X6_261 rfl (by decide) rfl (ok_s hk (by decide)) (Nat.le_of_ble_eq_true rfl) (by omega) (fun r h' hr => ?_)
          obtain ⟨he9, rfl⟩ := hr
          rw [he9]
          clear he9 h'
          rw [show (ptC h k f i).1 (2, k, 1) = h.1 (2, k, 1) from ptC_o _ _ _ (by show (2 : Nat) ≠ 6; decide) i]
          rw [show celF (h.1 (2, k, 1)) (f + 2 * nI i + 1) = nI c9 from hec]
          show V _ _ _ (147 + 3) _ (_ :: _) _
          refine v_callV hC (pc := 150) (As := [_, _]) dX6_read_150 rfl (k_put_ok _ _ (d := d - 1) (by omega) (ptC h k f i) hn8 (by rw [ptC_o _ _ _ (by decide)]; exact hnc) hn4 (by rw [ptC_o _ _ _ (by decide)]; exact hnw) (w := w9) (c := c9) hw9 hc9) cv_X6_264 rfl (by decide) rfl (by first | rfl | exact ok_c hq rfl | exact ok_w hq hw | exact ok_w (by omega) (by omega) | exact ok_s (by omega) (by omega) | exact ok_c (by omega) rfl | assumption) (Nat.le_of_ble_eq_true rfl) (by omega) (fun r h' hr => ?_)
          obtain ⟨rfl, he9⟩ := hr
          rw [he9]
          clear he9 h'
          show V _ _ _ (150 + 3) _ (_ :: _) _
          refine v_pop hC (pc := 153) rfl dX6_read_153 ?_
          refine v_iinc hC (pc := 154) (l' := [(7, _), (8, _), (6, _), (5, _), (0, _), (1, _), (2, _), (3, _), (4, _)]) 1 (v := nI (i + 1)) dX6_read_154 rfl (nI_inc i) (by decide) rfl ?_
          refine v_goto hC (pc := 157) (tgt := 118) dX6_read_157 (by decide) ?_
          refine v_loc (l' := [(7, _), (6, _), (5, _), (0, _), (1, _), (2, _), (3, _), (4, _)]) [0, 2, 3, 4, 5, 6, 7, 8] rfl ?_
          have e9 : ptC h k f (i + 1) = upI (ptC h k f i) (6, 0, w9) 0 (nI c9) := by
            show upI (ptC h k f i) (6, 0, (caR h k f i).toNatClampNeg) 0 (cbR h k f i) = _
            rw [hew, hec, nI_clamp (show w9 < 2 ^ 31 by omega)]
          rw [← e9]
          exact ih (i + 1) (by omega) (by omega)
    refine v_iconst hC (pc := 115) (v := 0) (by decide) dX6_read_115 ?_
    refine v_istore hC (pc := 116) (l' := [(7, _), (6, _), (5, _), (0, _), (1, _), (2, _), (3, _), (4, _)]) dX6_read_116 (by decide) rfl ?_
    exact lp2 (m + 1) 0 (by omega) (by omega)
  have lp1 : ∀ (n i : Nat) , i ≤ m → m + 1 ≤ i + n → (∀ j, j < i → okR h k f nC nW j) → V X G 9 52 [(7, vi (nI i)), (6, vi (nI m)), (5, vr (2, k, 0)), (0, vr (1, 0, 0)), (1, vi (nI k)), (2, vi (nI l)), (3, vi f), (4, vi (nI n0))] [] (h) := by
    intro n
    induction n with
    | zero => intro i  h1 h2; exact absurd h2 (by omega)
    | succ n ih =>
      intro i  h1 h2 ha
      refine v_iload hC (pc := 52) 0 rfl dX6_read_52 ?_
      refine v_iload hC (pc := 54) 1 rfl dX6_read_54 ?_
      refine v_icmp_ge hC (pc := 56) (tgt := 115) dX6_read_56 (by decide) (fun c_56 => ?_) (fun c_56 => ?_)
      · skip
        have hi : i = m := lp_ex (c_56) h1 (by omega)
        subst hi
        exact E1 ha
      · skip
        have hi : i < m := lp_in (c_56) h1 (by omega)
        refine v_iload_n hC (pc := 59) (k := 3) 6 rfl dX6_read_59 ?_
        refine v_iconst hC (pc := 60) (v := 2) (by decide) dX6_read_60 ?_
        refine v_iload hC (pc := 61) 0 rfl dX6_read_61 ?_
        refine v_imul hC (pc := 63) dX6_read_63 ?_
        refine v_iadd hC (pc := 64) dX6_read_64 ?_
        refine v_istore hC (pc := 65) (l' := [(8, _), (7, _), (6, _), (5, _), (0, _), (1, _), (2, _), (3, _), (4, _)]) dX6_read_65 (by decide) rfl ?_
        refine v_aload_n hC (pc := 67) (k := 0) 4 rfl dX6_read_67 ?_
        refine v_getR hC (pc := 68) dX6_read_68 fl_X6_10 rfl (by first | rfl | exact ok_c hq rfl | exact ok_w hq hw | exact ok_w (by omega) (by omega) | exact ok_s (by omega) (by omega) | exact ok_c (by omega) rfl | assumption) rfl (by decide) (by decide) rfl ?_
        refine v_aload hC (pc := 71) 3 rfl dX6_read_71 ?_
        refine v_iload hC (pc := 73) 0 rfl dX6_read_73 ?_
        refine v_callV hC (pc := 75) (As := [_]) dX6_read_75 rfl (t_cellAt _ _ (d := d - 1) (by omega) hk _ _) cv_X6_261 rfl (by decide) rfl (ok_s hk (by decide)) (Nat.le_of_ble_eq_true rfl) (by omega) (fun r h' hr => ?_)
        obtain ⟨he9, rfl⟩ := hr
        rw [he9]
        clear he9 h'
        show V _ _ _ (75 + 3) _ (_ :: _) _
        refine v_callV hC (pc := 78) (As := [_]) dX6_read_78 rfl (t_hasWalker _ _ (d := d - 1) (by omega) (q := 0) (by decide) _ _) cv_X6_115 rfl (by decide) rfl (by first | rfl | exact ok_c hq rfl | exact ok_w hq hw | exact ok_w (by omega) (by omega) | exact ok_s (by omega) (by omega) | exact ok_c (by omega) rfl | assumption) (Nat.le_of_ble_eq_true rfl) (by omega) (fun r h' hr => ?_)
        obtain ⟨he9, rfl⟩ := hr
        rw [he9, hnw]
        clear he9 h'
        show V _ _ _ (78 + 3) _ (_ :: _) _
        refine v_ifb_eq hC (pc := 81) (tgt := 103) dX6_read_81 (by decide) (fun c_81 => ?_) (fun c_81 => ?_)
        · skip
          refine v_bipush hC (pc := 103) (v := (-20)) (by decide +kernel) dX6_read_103 ?_
          refine v_iload hC (pc := 105) 1 rfl dX6_read_105 ?_
          refine v_isub hC (pc := 107) dX6_read_107 ?_
          refine v_iret hC hX (pc := 108) dX6_read_108 ?_
          exact Or.inl ⟨i, hi, fun z => by first | exact c_81 z.1 | exact c_100 z.2, ha, rfl, rfl⟩
        · skip
          refine v_aload_n hC (pc := 84) (k := 0) 4 rfl dX6_read_84 ?_
          refine v_getR hC (pc := 85) dX6_read_85 fl_X6_10 rfl (by first | rfl | exact ok_c hq rfl | exact ok_w hq hw | exact ok_w (by omega) (by omega) | exact ok_s (by omega) (by omega) | exact ok_c (by omega) rfl | assumption) rfl (by decide) (by decide) rfl ?_
          refine v_aload hC (pc := 88) 3 rfl dX6_read_88 ?_
          refine v_iload hC (pc := 90) 0 rfl dX6_read_90 ?_
          refine v_iconst hC (pc := 92) (v := 1) (by decide) dX6_read_92 ?_
          refine v_iadd hC (pc := 93) dX6_read_93 ?_
          refine v_callV hC (pc := 94) (As := [_]) dX6_read_94 rfl (t_cellAt _ _ (d := d - 1) (by omega) hk _ _) cv_X6_261 rfl (by decide) rfl (ok_s hk (by decide)) (Nat.le_of_ble_eq_true rfl) (by omega) (fun r h' hr => ?_)
          obtain ⟨he9, rfl⟩ := hr
          rw [he9]
          clear he9 h'
          show V _ _ _ (94 + 3) _ (_ :: _) _
          refine v_callV hC (pc := 97) (As := [_]) dX6_read_97 rfl (t_hasCorner _ _ (d := d - 1) (by omega) (q := 0) (by decide) _ _) cv_X6_105 rfl (by decide) rfl (by first | rfl | exact ok_c hq rfl | exact ok_w hq hw | exact ok_w (by omega) (by omega) | exact ok_s (by omega) (by omega) | exact ok_c (by omega) rfl | assumption) (Nat.le_of_ble_eq_true rfl) (by omega) (fun r h' hr => ?_)
          obtain ⟨he9, rfl⟩ := hr
          rw [he9, hnc]
          clear he9 h'
          show V _ _ _ (97 + 3) _ (_ :: _) _
          refine v_ifb_ne hC (pc := 100) (tgt := 109) dX6_read_100 (by decide) (fun c_100 => ?_) (fun c_100 => ?_)
          · skip
            refine v_iinc hC (pc := 109) (l' := [(7, _), (8, _), (6, _), (5, _), (0, _), (1, _), (2, _), (3, _), (4, _)]) 1 (v := nI (i + 1)) dX6_read_109 rfl (nI_inc i) (by decide) rfl ?_
            refine v_goto hC (pc := 112) (tgt := 52) dX6_read_112 (by decide) ?_
            refine v_loc (l' := [(7, _), (6, _), (5, _), (0, _), (1, _), (2, _), (3, _), (4, _)]) [0, 2, 3, 4, 5, 6, 7, 8] rfl ?_
            refine ih (i + 1) (by omega) (by omega) (fun j hj => ?_)
            rcases (show j < i ∨ j = i by omega) with q | rfl
            · exact ha j q
            · exact ⟨c_81, c_100⟩
          · skip
            refine v_bipush hC (pc := 103) (v := (-20)) (by decide +kernel) dX6_read_103 ?_
            refine v_iload hC (pc := 105) 1 rfl dX6_read_105 ?_
            refine v_isub hC (pc := 107) dX6_read_107 ?_
            refine v_iret hC hX (pc := 108) dX6_read_108 ?_
            exact Or.inl ⟨i, hi, fun z => by first | exact c_81 z.1 | exact c_100 z.2, ha, rfl, rfl⟩
  refine v_iload_n hC (pc := 0) (k := 1) 1 rfl dX6_read_0 ?_
  refine v_if_lt hC (pc := 1) (tgt := 28) dX6_read_1 (by decide) (fun c_1 => ?_) (fun c_1 => ?_)
  · exact absurd c_1 (nI_pos (by omega))
  · skip
    refine v_iload_n hC (pc := 4) (k := 1) 1 rfl dX6_read_4 ?_
    refine v_iconst hC (pc := 5) (v := 4) (by decide) dX6_read_5 ?_
    refine v_icmp_ge hC (pc := 6) (tgt := 28) dX6_read_6 (by decide) (fun c_6 => ?_) (fun c_6 => ?_)
    · exact absurd c_6 (nI_ge hk (by decide))
    · skip
      refine v_iload_n hC (pc := 9) (k := 2) 2 rfl dX6_read_9 ?_
      refine v_callS hC (pc := 10) (As := [_]) dX6_read_10 rfl (t_isLane_t _ _ (d := d - 1) (by omega) _ (s := l) (by assumption)) cs_X6_241 (Nat.le_of_ble_eq_true rfl) (by omega) (fun r h' hr => ?_)
      obtain ⟨he9, rfl⟩ := hr
      rw [he9]
      clear he9 h'
      show V _ _ _ (10 + 3) _ (_ :: _) _
      refine v_if_eq hC (pc := 13) (tgt := 28) dX6_read_13 (by decide) (fun c_13 => ?_) (fun c_13 => ?_)
      · exact absurd c_13 (by decide)
      · skip
        refine v_iload hC (pc := 16) 4 rfl dX6_read_16 ?_
        refine v_if_lt hC (pc := 18) (tgt := 28) dX6_read_18 (by decide) (fun c_18 => ?_) (fun c_18 => ?_)
        · exact absurd c_18 (nI_pos (by omega))
        · skip
          refine v_iload hC (pc := 21) 4 rfl dX6_read_21 ?_
          refine v_bipush hC (pc := 23) (v := 20) (by decide +kernel) dX6_read_23 ?_
          refine v_icmp_le hC (pc := 25) (tgt := 30) dX6_read_25 (by decide) (fun c_25 => ?_) (fun c_25 => ?_)
          · skip
            refine v_aload_n hC (pc := 30) (k := 0) 0 rfl dX6_read_30 ?_
            refine v_getR hC (pc := 31) dX6_read_31 fl_X6_32 rfl (by first | rfl | exact ok_c hq rfl | exact ok_w hq hw | exact ok_w (by omega) (by omega) | exact ok_s (by omega) (by omega) | exact ok_c (by omega) rfl | assumption) rfl (by decide) (by decide) rfl ?_
            refine v_iload_n hC (pc := 34) (k := 1) 1 rfl dX6_read_34 ?_
            refine v_aald hC (pc := 35) (j := (2, k, 0)) 4 dX6_read_35 rfl (by decide) (fun _ => rfl) (by first | rfl | exact ok_c hq rfl | exact ok_w hq hw | exact ok_w (by omega) (by omega) | exact ok_s (by omega) (by omega) | exact ok_c (by omega) rfl | assumption) (vp_nat (n := k) (by omega) (by decide)) (by rw [nI_clamp (show k < 2 ^ 31 by omega)]; rfl) ?_
            refine v_astore hC (pc := 36) (l' := [(5, _), (0, _), (1, _), (2, _), (3, _), (4, _)]) dX6_read_36 (by decide) rfl ?_
            refine v_aload hC (pc := 38) 0 rfl dX6_read_38 ?_
            refine v_iload_n hC (pc := 40) (k := 2) 3 rfl dX6_read_40 ?_
            refine v_iload_n hC (pc := 41) (k := 3) 4 rfl dX6_read_41 ?_
            refine v_iload hC (pc := 42) 5 rfl dX6_read_42 ?_
            refine v_callV hC (pc := 44) (As := [_, _, _]) dX6_read_44 rfl (t_wholePairs _ _ (d := d - 1) (by omega) hk _ _ _ (n0 := n0) (by omega)) cv_X6_257 rfl (by decide) rfl (ok_s hk (by decide)) (Nat.le_of_ble_eq_true rfl) (by omega) (fun r h' hr => ?_)
            obtain ⟨he9, rfl⟩ := hr
            rw [he9, hwh]
            clear he9 h'
            show V _ _ _ (44 + 3) _ (_ :: _) _
            refine v_istore hC (pc := 47) (l' := [(6, _), (5, _), (0, _), (1, _), (2, _), (3, _), (4, _)]) dX6_read_47 (by decide) rfl ?_
            refine v_iconst hC (pc := 49) (v := 0) (by decide) dX6_read_49 ?_
            refine v_istore hC (pc := 50) (l' := [(7, _), (6, _), (5, _), (0, _), (1, _), (2, _), (3, _), (4, _)]) dX6_read_50 (by decide) rfl ?_
            exact lp1 (m + 1) 0 (by omega) (by omega) (fun j hj => absurd hj (Nat.not_lt_zero _))
          · exact absurd (nI_le hn (by decide)) c_25

set_option maxRecDepth 20000 in
set_option maxHeartbeats 2000000 in
theorem k_read_bad (l9 : Launch) (G : WT) {d : Nat} (hd : 3 ≤ d) (h : HP) (k l f n : Int32) (hbad : ¬ (((¬ k < 0 ∧ ¬ 3 < k) ∧ ¬ l < 0 ∧ ¬ 2 < l) ∧ ¬ n < 0 ∧ ¬ 20 < n)) : MS l9 G yX6_read cX6_read 9 (some .int) d [vr (1, 0, 0), vi k, vi l, vi f, vi n] h (fun r h1 => h1 = h ∧ r = some (vi (-1))) := by
  refine MS_of (by decide +kernel) (Nat.le_of_ble_eq_true rfl) (fun X hC hX => ?_)
  show V X G 9 0 _ [] _
  refine v_iload_n hC (pc := 0) (k := 1) 1 rfl dX6_read_0 ?_
  refine v_if_lt hC (pc := 1) (tgt := 28) dX6_read_1 (by decide) (fun c_1 => ?_) (fun c_1 => ?_)
  · skip
    refine v_iconst hC (pc := 28) (v := (-1)) (by decide) dX6_read_28 ?_
    refine v_iret hC hX (pc := 29) dX6_read_29 ?_
    exact ⟨rfl, rfl⟩
  · skip
    refine v_iload_n hC (pc := 4) (k := 1) 1 rfl dX6_read_4 ?_
    refine v_iconst hC (pc := 5) (v := 4) (by decide) dX6_read_5 ?_
    refine v_icmp_ge hC (pc := 6) (tgt := 28) dX6_read_6 (by decide) (fun c_6 => ?_) (fun c_6 => ?_)
    · skip
      refine v_iconst hC (pc := 28) (v := (-1)) (by decide) dX6_read_28 ?_
      refine v_iret hC hX (pc := 29) dX6_read_29 ?_
      exact ⟨rfl, rfl⟩
    · skip
      refine v_iload_n hC (pc := 9) (k := 2) 2 rfl dX6_read_9 ?_
      refine v_callS hC (pc := 10) (As := [_]) dX6_read_10 rfl (t_isLane _ _ (d := d - 1) (by omega) _ _) cs_X6_241 (Nat.le_of_ble_eq_true rfl) (by omega) (fun r h' hr => ?_)
      obtain ⟨he9, rfl⟩ := hr
      rw [he9]
      clear he9 h'
      show V _ _ _ (10 + 3) _ (_ :: _) _
      refine v_ifb_eq hC (pc := 13) (tgt := 28) dX6_read_13 (by decide) (fun c_13 => ?_) (fun c_13 => ?_)
      · skip
        refine v_iconst hC (pc := 28) (v := (-1)) (by decide) dX6_read_28 ?_
        refine v_iret hC hX (pc := 29) dX6_read_29 ?_
        exact ⟨rfl, rfl⟩
      · skip
        refine v_iload hC (pc := 16) 4 rfl dX6_read_16 ?_
        refine v_if_lt hC (pc := 18) (tgt := 28) dX6_read_18 (by decide) (fun c_18 => ?_) (fun c_18 => ?_)
        · skip
          refine v_iconst hC (pc := 28) (v := (-1)) (by decide) dX6_read_28 ?_
          refine v_iret hC hX (pc := 29) dX6_read_29 ?_
          exact ⟨rfl, rfl⟩
        · skip
          refine v_iload hC (pc := 21) 4 rfl dX6_read_21 ?_
          refine v_bipush hC (pc := 23) (v := 20) (by decide +kernel) dX6_read_23 ?_
          refine v_icmp_le hC (pc := 25) (tgt := 30) dX6_read_25 (by decide) (fun c_25 => ?_) (fun c_25 => ?_)
          · skip
            exact absurd (show _ ∧ _ from ⟨⟨⟨c_1, lt4 c_6⟩, c_13⟩, c_18, Int32.not_lt.mpr c_25⟩) hbad
          · skip
            refine v_iconst hC (pc := 28) (v := (-1)) (by decide) dX6_read_28 ?_
            refine v_iret hC hX (pc := 29) dX6_read_29 ?_
            exact ⟨rfl, rfl⟩

