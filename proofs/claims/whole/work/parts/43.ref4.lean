/-! THE REFERENCE: an hour goes -/
theorem plR_cong {A D D' : Nat → Int32} {n : Nat} (h : ∀ k, k < n → D k = D' k) : plR A D n = plR A D' n := by
  funext k
  unfold plR
  by_cases e : 18 ≤ k ∧ k < 18 + 6 * n ∧ (k - 18) % 6 = 0
  · rw [if_pos e, if_pos e, h _ (by omega)]
  · rw [if_neg e, if_neg e]
theorem dcP_cong {P P' D D' g g' : Nat → Int32} {n w v : Nat} (hw : w < n) (hv : v < n) (h1 : ∀ k, k < n → P k = P' k) (h2 : ∀ k, k < n → D k = D' k) (h3 : ∀ k, k < n → g k = g' k) : dcP P D g w v ↔ dcP P' D' g' w v := by
  unfold dcP
  rw [h1 w hw, h1 v hv, h2 w hw, h2 v hv, h3 w hw, h3 v hv]
theorem ckF_cong {P P' D D' g g' : Nat → Int32} {n : Nat} (h1 : ∀ k, k < n → P k = P' k) (h2 : ∀ k, k < n → D k = D' k) (h3 : ∀ k, k < n → g k = g' k) : ckF P D g n = ckF P' D' g' n := by
  unfold ckF
  refine itN_cong (fun w a hw => ?_) rfl
  unfold ckW
  refine itN_cong (fun v b hv => ?_) rfl
  rw [bP_cong (dcP_cong hw (show v < n by omega) h1 h2 h3)]
/-- the first n have one letter less -/
def gonR (A : Nat → Int32) (n : Nat) : Nat → Int32 := fun k => if 18 ≤ k ∧ k < 18 + 6 * n ∧ (k - 18) % 6 = 5 then A k + (if lefA A ((k - 18) / 6) ≤ 0 then 0 else 1) else A k
theorem gonR_0 (A : Nat → Int32) : gonR A 0 = A := by
  funext k
  unfold gonR
  rw [if_neg (by omega)]
theorem gonR_s (A : Nat → Int32) (n : Nat) : upd (gonR A n) (18 + 6 * n + 5) (A (18 + 6 * n + 5) + (if lefA A n ≤ 0 then 0 else 1)) = gonR A (n + 1) := by
  funext k
  unfold upd gonR
  by_cases e : k = 18 + 6 * n + 5
  · subst e
    rw [if_pos rfl, if_pos (show 18 ≤ 18 + 6 * n + 5 ∧ 18 + 6 * n + 5 < 18 + 6 * (n + 1) ∧ (18 + 6 * n + 5 - 18) % 6 = 5 by omega), show (18 + 6 * n + 5 - 18) / 6 = n by omega]
  · rw [if_neg e]
    by_cases e2 : 18 ≤ k ∧ k < 18 + 6 * n ∧ (k - 18) % 6 = 5
    · rw [if_pos e2, if_pos (show 18 ≤ k ∧ k < 18 + 6 * (n + 1) ∧ (k - 18) % 6 = 5 by omega)]
    · rw [if_neg e2, if_neg (show ¬ (18 ≤ k ∧ k < 18 + 6 * (n + 1) ∧ (k - 18) % 6 = 5) by omega)]
theorem gonR_o (A : Nat → Int32) (n k : Nat) (h : ¬ (18 ≤ k ∧ k < 18 + 6 * n ∧ (k - 18) % 6 = 5)) : gonR A n k = A k := if_neg h
/-- how many clash in an hour; the row behind it -/
noncomputable def manA (A : Nat → Int32) (nW : Nat) : Int32 := ckF (fun w => A (18 + 6 * w + 0)) (toM A) (wenF A) nW
noncomputable def hrR (A : Nat → Int32) (nW : Nat) : Nat → Int32 := upd (gonR (arrR A (toM A) nW) nW) 42 (A 42 + manA A nW)
noncomputable def hgH (h : HP) (nW : Nat) : HP := upR (setM h nW) (3, 0, 2) (hrR (h.1 (3, 0, 2)) nW)
theorem upR_upR (h : HP) (i : PId) (f g : Nat → Int32) : upR (upR h i f) i g = upR h i g := by
  unfold upR
  refine Prod.ext (funext fun j => funext fun k => ?_) rfl
  by_cases e : j = i <;> simp [e]
set_option maxRecDepth 20000 in
set_option maxHeartbeats 2000000 in
theorem m_hourGoes (l9 : Launch) (G : WT) {d : Nat} (hd : 5 ≤ d) (h : HP) {nW : Nat} (hn4 : nW ≤ 4) (hnw : h.1 (3, 0, 0) 4 = nI nW) (hpl : ∀ w, w < nW → ∃ p, p < 8 ∧ h.1 (3, 0, 2) (18 + 6 * w + 0) = nI p) : MS l9 G yX7_hourGoes cX7_hourGoes 3 (some .int) d [vr (3, 0, 0)] h (fun r h1 => r = some (vi (manA (h.1 (3, 0, 2)) nW)) ∧ h1 = hgH h nW) := by
  refine MS_of (by decide +kernel) (Nat.le_of_ble_eq_true rfl) (fun X hC hX => ?_)
  show V X G 3 0 _ [] _
  have loop : ∀ (n w : Nat), w ≤ nW → nW + 1 ≤ w + n → V X G 3 11 [(2, vi (nI w)), (1, vi (manA (h.1 (3, 0, 2)) nW)), (0, vr (3, 0, 0))] [] (upR (setM h nW) (3, 0, 2) (gonR (arrR (h.1 (3, 0, 2)) (toM (h.1 (3, 0, 2))) nW) w)) := by
    intro n
    induction n with
    | zero => intro w h1 h2; exact absurd h2 (by omega)
    | succ n ih =>
      intro w h1 h2
      refine v_iload_n hC (pc := 11) (k := 2) 0 rfl dX7_hourGoes_11 ?_
      refine v_aload_n hC (pc := 12) (k := 0) 2 rfl dX7_hourGoes_12 ?_
      refine v_getI hC (pc := 13) dX7_hourGoes_13 fl_X7_79 rfl (by first | rfl | exact ok_c hq rfl | exact ok_w hq hw | exact ok_w (by omega) (by omega) | exact ok_s (by omega) (by omega) | exact ok_c (by omega) rfl | assumption) rfl (by decide) (by decide) ?_
      refine v_icmp_ge hC (pc := 16) (tgt := 54) dX7_hourGoes_16 (by decide) (fun c_16 => ?_) (fun c_16 => ?_)
      · skip
        have hi : w = nW := lp_ex (by rw [upR_ne _ _ (show ((3, 0, 0) : PId) ≠ (3, 0, 2) by decide), setM_o _ _ (by decide) (by decide), hnw] at c_16; exact c_16) h1 (by omega)
        subst hi
        refine v_aload_n hC (pc := 54) (k := 0) 2 rfl dX7_hourGoes_54 ?_
        refine v_getR hC (pc := 55) dX7_hourGoes_55 fl_X7_13 rfl (by first | rfl | exact ok_c hq rfl | exact ok_w hq hw | exact ok_w (by omega) (by omega) | exact ok_s (by omega) (by omega) | exact ok_c (by omega) rfl | assumption) rfl (by decide) (by decide) rfl ?_
        refine v_bipush hC (pc := 58) (v := 42) (by decide +kernel) dX7_hourGoes_58 ?_
        refine v_dup2 hC (pc := 60) dX7_hourGoes_60 ?_
        refine v_iald hC (pc := 61) dX7_hourGoes_61 rfl (by first | rfl | exact ok_c hq rfl | exact ok_w hq hw | exact ok_w (by omega) (by omega) | exact ok_s (by omega) (by omega) | exact ok_c (by omega) rfl | assumption) (vp_nat (n := 42) (by omega) (by decide)) ?_
        refine v_iload_n hC (pc := 62) (k := 1) 1 rfl dX7_hourGoes_62 ?_
        refine v_iadd hC (pc := 63) dX7_hourGoes_63 ?_
        refine v_iast hC (pc := 64) dX7_hourGoes_64 rfl (by first | rfl | exact ok_c hq rfl | exact ok_w hq hw | exact ok_w (by omega) (by omega) | exact ok_s (by omega) (by omega) | exact ok_c (by omega) rfl | assumption) (vp_nat (n := 42) (by omega) (by decide)) ?_
        refine v_iload_n hC (pc := 65) (k := 1) 1 rfl dX7_hourGoes_65 ?_
        refine v_iret hC hX (pc := 66) dX7_hourGoes_66 ?_
        refine ⟨rfl, ?_⟩
        rw [upI_upR, upR_same]
        unfold hgH hrR
        rw [show gonR (arrR (h.1 (3, 0, 2)) (toM (h.1 (3, 0, 2))) w) w (42 : Int32).toNatClampNeg = (h.1 (3, 0, 2)) 42 from ?_]
        · rfl
        · show gonR (arrR (h.1 (3, 0, 2)) (toM (h.1 (3, 0, 2))) w) w 42 = _
          rw [gonR_o _ _ _ (by omega)]
          unfold arrR upd
          rw [if_neg (by decide)]
          exact if_neg (by omega)
      · skip
        have hi : w < nW := lp_in (by rw [upR_ne _ _ (show ((3, 0, 0) : PId) ≠ (3, 0, 2) by decide), setM_o _ _ (by decide) (by decide), hnw] at c_16; exact c_16) h1 (by omega)
        refine v_aload_n hC (pc := 19) (k := 0) 2 rfl dX7_hourGoes_19 ?_
        refine v_iload_n hC (pc := 20) (k := 2) 0 rfl dX7_hourGoes_20 ?_
        refine v_iconst hC (pc := 21) (v := 5) (by decide) dX7_hourGoes_21 ?_
        refine v_aload_n hC (pc := 22) (k := 0) 2 rfl dX7_hourGoes_22 ?_
        refine v_iload_n hC (pc := 23) (k := 2) 0 rfl dX7_hourGoes_23 ?_
        refine v_iconst hC (pc := 24) (v := 5) (by decide) dX7_hourGoes_24 ?_
        refine v_callV hC (pc := 25) (As := [_, _]) dX7_hourGoes_25 rfl (m_of _ _ (d := d - 1) (by omega) _ (w := w) (by omega) (k := 5) (by decide)) cv_X7_187 rfl (by decide) rfl (by first | rfl | exact ok_c hq rfl | exact ok_w hq hw | exact ok_w (by omega) (by omega) | exact ok_s (by omega) (by omega) | exact ok_c (by omega) rfl | assumption) (Nat.le_of_ble_eq_true rfl) (by omega) (fun r h' hr => ?_)
        obtain ⟨he9, rfl⟩ := hr
        rw [he9]
        clear he9 h'
        show V _ _ _ (25 + 3) _ (_ :: _) _
        refine v_aload_n hC (pc := 28) (k := 0) 2 rfl dX7_hourGoes_28 ?_
        refine v_iload_n hC (pc := 29) (k := 2) 0 rfl dX7_hourGoes_29 ?_
        refine v_callV hC (pc := 30) (As := [_]) dX7_hourGoes_30 rfl (m_leftOf _ _ (d := d - 1) (by omega) _ (w := w) (by omega)) cv_X7_197 rfl (by decide) rfl (by first | rfl | exact ok_c hq rfl | exact ok_w hq hw | exact ok_w (by omega) (by omega) | exact ok_s (by omega) (by omega) | exact ok_c (by omega) rfl | assumption) (Nat.le_of_ble_eq_true rfl) (by omega) (fun r h' hr => ?_)
        obtain ⟨he9, rfl⟩ := hr
        rw [he9]
        clear he9 h'
        show V _ _ _ (30 + 3) _ (_ :: _) _
        show V X G 3 33 _ (vi ((upR (setM h nW) (3, 0, 2) (gonR (arrR (h.1 (3, 0, 2)) (toM (h.1 (3, 0, 2))) nW) w)).1 (3, 0, 2) (18 + 6 * w + 3) - (upR (setM h nW) (3, 0, 2) (gonR (arrR (h.1 (3, 0, 2)) (toM (h.1 (3, 0, 2))) nW) w)).1 (3, 0, 2) (18 + 6 * w + 5)) :: _) _
        rw [upR_same, gonR_o (arrR (h.1 (3, 0, 2)) (toM (h.1 (3, 0, 2))) nW) w (18 + 6 * w + 3) (by omega), gonR_o (arrR (h.1 (3, 0, 2)) (toM (h.1 (3, 0, 2))) nW) w (18 + 6 * w + 5) (by omega)]
        show V X G 3 33 _ (vi (lefA (arrR (h.1 (3, 0, 2)) (toM (h.1 (3, 0, 2))) nW) w) :: _) _
        refine v_if_le hC (pc := 33) (tgt := 40) dX7_hourGoes_33 (by decide) (fun c_33 => ?_) (fun c_33 => ?_)
        · skip
          refine v_iconst hC (pc := 40) (v := 0) (by decide) dX7_hourGoes_40 ?_
          refine v_callS hC (pc := 41) (As := [_]) dX7_hourGoes_41 rfl (m_flag _ _ (d := d - 1) (by omega) _ _) cs_X7_147 (Nat.le_of_ble_eq_true rfl) (by omega) (fun r h' hr => ?_)
          obtain ⟨he9, rfl⟩ := hr
          rw [he9]
          clear he9 h'
          show V _ _ _ (41 + 3) _ (_ :: _) _
          refine v_iadd hC (pc := 44) dX7_hourGoes_44 ?_
          refine v_callV hC (pc := 45) (As := [_, _, _]) dX7_hourGoes_45 rfl (m_becomesOf _ _ (d := d - 1) (by omega) _ (show w < 4 by omega) (k := 5) (by decide) _) cv_X7_193 rfl (by decide) rfl (by first | rfl | exact ok_c hq rfl | exact ok_w hq hw | exact ok_w (by omega) (by omega) | exact ok_s (by omega) (by omega) | exact ok_c (by omega) rfl | assumption) (Nat.le_of_ble_eq_true rfl) (by omega) (fun r h' hr => ?_)
          obtain ⟨rfl, rfl⟩ := hr
          show V _ _ _ (45 + 3) _ _ _
          refine v_heap (show _ = upR (setM h nW) (3, 0, 2) (gonR (arrR (h.1 (3, 0, 2)) (toM (h.1 (3, 0, 2))) nW) (w + 1)) from ?_) ?_
          · rw [upI_upR, ← gonR_s]
            first | (rw [if_pos c_33]; rfl) | (rw [if_neg c_33]; rfl)
          refine v_iinc hC (pc := 48) (l' := [(2, _), (1, _), (0, _)]) 0 (v := nI (w + 1)) dX7_hourGoes_48 rfl (nI_inc w) (by decide) rfl ?_
          refine v_goto hC (pc := 51) (tgt := 11) dX7_hourGoes_51 (by decide) ?_
          exact ih (w + 1) (by omega) (by omega)
        · skip
          refine v_iconst hC (pc := 36) (v := 1) (by decide) dX7_hourGoes_36 ?_
          refine v_goto hC (pc := 37) (tgt := 41) dX7_hourGoes_37 (by decide) ?_
          refine v_callS hC (pc := 41) (As := [_]) dX7_hourGoes_41 rfl (m_flag _ _ (d := d - 1) (by omega) _ _) cs_X7_147 (Nat.le_of_ble_eq_true rfl) (by omega) (fun r h' hr => ?_)
          obtain ⟨he9, rfl⟩ := hr
          rw [he9]
          clear he9 h'
          show V _ _ _ (41 + 3) _ (_ :: _) _
          refine v_iadd hC (pc := 44) dX7_hourGoes_44 ?_
          refine v_callV hC (pc := 45) (As := [_, _, _]) dX7_hourGoes_45 rfl (m_becomesOf _ _ (d := d - 1) (by omega) _ (show w < 4 by omega) (k := 5) (by decide) _) cv_X7_193 rfl (by decide) rfl (by first | rfl | exact ok_c hq rfl | exact ok_w hq hw | exact ok_w (by omega) (by omega) | exact ok_s (by omega) (by omega) | exact ok_c (by omega) rfl | assumption) (Nat.le_of_ble_eq_true rfl) (by omega) (fun r h' hr => ?_)
          obtain ⟨rfl, rfl⟩ := hr
          show V _ _ _ (45 + 3) _ _ _
          refine v_heap (show _ = upR (setM h nW) (3, 0, 2) (gonR (arrR (h.1 (3, 0, 2)) (toM (h.1 (3, 0, 2))) nW) (w + 1)) from ?_) ?_
          · rw [upI_upR, ← gonR_s]
            first | (rw [if_pos c_33]; rfl) | (rw [if_neg c_33]; rfl)
          refine v_iinc hC (pc := 48) (l' := [(2, _), (1, _), (0, _)]) 0 (v := nI (w + 1)) dX7_hourGoes_48 rfl (nI_inc w) (by decide) rfl ?_
          refine v_goto hC (pc := 51) (tgt := 11) dX7_hourGoes_51 (by decide) ?_
          exact ih (w + 1) (by omega) (by omega)
  refine v_aload_n hC (pc := 0) (k := 0) 0 rfl dX7_hourGoes_0 ?_
  refine v_callV hC (pc := 1) (As := []) dX7_hourGoes_1 rfl (m_setsOut _ _ (d := d - 1) (by omega) _ hn4 hnw hpl) cv_X7_204 rfl (by decide) rfl (by first | rfl | exact ok_c hq rfl | exact ok_w hq hw | exact ok_w (by omega) (by omega) | exact ok_s (by omega) (by omega) | exact ok_c (by omega) rfl | assumption) (Nat.le_of_ble_eq_true rfl) (by omega) (fun r h' hr => ?_)
  obtain ⟨rfl, rfl⟩ := hr
  show V _ _ _ (1 + 3) _ _ _
  refine v_aload_n hC (pc := 4) (k := 0) 0 rfl dX7_hourGoes_4 ?_
  refine v_callV hC (pc := 5) (As := []) dX7_hourGoes_5 rfl (m_arrive _ _ (d := d - 1) (by omega) _ hn4 (by rw [setM_o _ _ (by decide) (by decide)]; exact hnw)) cv_X7_207 rfl (by decide) rfl (by first | rfl | exact ok_c hq rfl | exact ok_w hq hw | exact ok_w (by omega) (by omega) | exact ok_s (by omega) (by omega) | exact ok_c (by omega) rfl | assumption) (Nat.le_of_ble_eq_true rfl) (by omega) (fun r h' hr => ?_)
  obtain ⟨rfl, rfl⟩ := hr
  have em : ckF (plM (setM h nW)) ((setM h nW).1 (3, 0, 20)) ((setM h nW).1 (3, 0, 21)) nW = manA (h.1 (3, 0, 2)) nW := ckF_cong (fun k hk => by unfold plM; rw [setM_o _ _ (by decide) (by decide)]) (fun k hk => setM_t h hk) (fun k hk => setM_g h hk)
  have ea : arrR ((setM h nW).1 (3, 0, 2)) ((setM h nW).1 (3, 0, 20)) nW = (arrR (h.1 (3, 0, 2)) (toM (h.1 (3, 0, 2))) nW) := by
    unfold arrR
    rw [setM_o _ _ (by decide) (by decide), plR_cong (fun k hk => setM_t h hk)]
  rw [em, ea]
  show V _ _ _ (5 + 3) _ (_ :: _) _
  refine v_istore_n hC (pc := 8) (l' := [(1, _), (0, _)]) dX7_hourGoes_8 (by decide) rfl ?_
  refine v_iconst hC (pc := 9) (v := 0) (by decide) dX7_hourGoes_9 ?_
  refine v_istore_n hC (pc := 10) (l' := [(2, _), (1, _), (0, _)]) dX7_hourGoes_10 (by decide) rfl ?_
  refine v_heap (show _ = upR (setM h nW) (3, 0, 2) (gonR (arrR (h.1 (3, 0, 2)) (toM (h.1 (3, 0, 2))) nW) 0) from ?_) ?_
  · rw [gonR_0]
  · exact loop (nW + 1) 0 (Nat.zero_le _) (by omega)

