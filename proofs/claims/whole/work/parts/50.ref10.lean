/-! THE REFERENCE: ways -/
/-- where a corner's letter leads by the reference's row -/
def LM (A : Nat → Int32) (sg : Int32) (nC : Nat) (c s hr : Nat) : Option Nat := if c < nC ∧ s < 2 ∧ ¬ ldM A c s (nI hr) 0 sg = -4 then some (ldM A c s (nI hr) 0 sg).toNatClampNeg else none
theorem LM_o {A : Nat → Int32} {nC c s hr : Nat} {sg : Int32} (h8 : nC ≤ 8) (hS : wfS A nC) (hc : c < nC) (hs : s < 2) : ldM A c s (nI hr) 0 sg = oN (LM A sg nC c s hr) := by
  unfold LM
  rcases ldM_wf hS hc hs (nI hr) 0 sg with e | ⟨p, hp, e⟩
  · rw [if_neg (fun z => z.2.2 e), e]; rfl
  · rw [if_pos ⟨hc, hs, by rw [e]; exact nI_n4 (by omega)⟩, e, nI_clamp (by omega)]; rfl
theorem LM_n {A : Nat → Int32} {nC c s hr : Nat} {sg : Int32} (hc : ¬ c < nC) : -4 = oN (LM A sg nC c s hr) := by
  unfold LM
  rw [if_neg (fun z => hc z.1)]; rfl
theorem LM_lt {A : Nat → Int32} {nC : Nat} {sg : Int32} (h8 : nC ≤ 8) (hS : wfS A nC) : ∀ c s hr t, LM A sg nC c s hr = some t → t < 8 := by
  intro c s hr t e
  unfold LM at e
  split at e
  · rename_i z
    rcases ldM_wf hS z.1 z.2.1 (nI hr) 0 sg with e2 | ⟨p, hp, e2⟩
    · exact absurd e2 z.2.2
    · rw [e2, nI_clamp (by omega)] at e
      cases e
      omega
  · cases e
def prO (o1 o2 : Option Nat) : Option Nat := match o1, o2 with
  | some u, some v => some (u * 8 + v)
  | _, _ => none
theorem stp_pr (L : Nat → Nat → Nat → Option Nat) (hr ohr p s i : Nat) : stp L hr ohr p s i = prO (L (p / 8) s (hr + i)) (L (p % 8) s (ohr + i)) := by
  unfold stp prO
  cases L (p / 8) s (hr + i) <;> cases L (p % 8) s (ohr + i) <;> rfl
theorem pr_a {o1 o2 : Option Nat} (h1 : ∀ t, o1 = some t → t < 8) (e : oN o1 = -4) : -4 = oN (prO o1 o2) := by
  cases o1 with
  | none => rfl
  | some u => exact absurd e (oN_ne (h1 u rfl))
theorem pr_b {o1 o2 : Option Nat} (h1 : ∀ t, o2 = some t → t < 8) (e : oN o2 = -4) : -4 = oN (prO o1 o2) := by
  cases o2 with
  | none => cases o1 <;> rfl
  | some u => exact absurd e (oN_ne (h1 u rfl))
theorem pr_c {o1 o2 : Option Nat} (e1 : ¬ oN o1 = -4) (e2 : ¬ oN o2 = -4) : 8 * oN o1 + oN o2 = oN (prO o1 o2) := by
  cases o1 with
  | none => exact absurd rfl e1
  | some u =>
    cases o2 with
    | none => exact absurd rfl e2
    | some v =>
      show 8 * nI u + nI v = nI (u * 8 + v)
      rw [nL_8, pk_mul, nI_add, Nat.mul_comm]
theorem stp_LM {A : Nat → Int32} {nC hr ohr p s i p' : Nat} {sg : Int32} (h8 : nC ≤ 8) (hS : wfS A nC) (h : stp (LM A sg nC) hr ohr p s i = some p') : p' < 64 := by
  unfold stp at h
  split at h
  · rename_i u v h1 h2
    have := LM_lt h8 hS _ _ _ _ h1
    have := LM_lt h8 hS _ _ _ _ h2
    cases h
    omega
  · cases h
set_option maxRecDepth 20000 in
set_option maxHeartbeats 2000000 in
theorem m_pairBy (l9 : Launch) (G : WT) {d : Nat} (hd : 3 ≤ d) (h : HP) {nC : Nat} (hn8 : nC ≤ 8) (hnc : h.1 (3, 0, 0) 3 = nI nC) {A : Nat → Int32} (hA : h.1 (3, 0, 2) = A) (hS : wfS A nC) {hr ohr p s i : Nat} (hp : p < 64) (hs : s < 2) (sg : Int32) : MS l9 G yX7_pairBy cX7_pairBy 9 (some .int) d [vr (3, 0, 0), vi (nI (p / 8)), vi (nI (p % 8)), vi (nI s), vi (nI (hr + i)), vi (nI (ohr + i)), vi sg] h (fun r h1 => h1 = h ∧ r = some (vi (oN (stp (LM A sg nC) hr ohr p s i)))) := by
  refine MS_of (by decide +kernel) (Nat.le_of_ble_eq_true rfl) (fun X hC hX => ?_)
  show V X G 9 0 _ [] _
  refine v_iload_n hC (pc := 0) (k := 1) 1 rfl dX7_pairBy_0 ?_
  refine v_aload_n hC (pc := 1) (k := 0) 0 rfl dX7_pairBy_1 ?_
  refine v_getI hC (pc := 2) dX7_pairBy_2 fl_X7_76 rfl (by first | rfl | exact ok_c hq rfl | exact ok_w hq hw | exact ok_w (by omega) (by omega) | exact ok_s (by omega) (by omega) | exact ok_c (by omega) rfl | assumption) rfl (by decide) (by decide) ?_
  rw [hnc]
  refine v_icmp_ge hC (pc := 5) (tgt := 22) dX7_pairBy_5 (by decide) (fun c_5 => ?_) (fun c_5 => ?_)
  · skip
    refine v_bipush hC (pc := 22) (v := (-4)) (by decide +kernel) dX7_pairBy_22 ?_
    have q1 : ∀ t, LM A sg nC (p / 8) s (hr + i) = some t → t < 8 := fun t => LM_lt hn8 hS _ _ _ _
    try rw [show (-4 : Int32) = oN (LM A sg nC (p / 8) s (hr + i)) from LM_n (fun z => absurd c_5 (nI_ge z (by omega)))]
    refine v_istore hC (pc := 24) (l' := [(7, _), (0, _), (1, _), (2, _), (3, _), (4, _), (5, _), (6, _)]) dX7_pairBy_24 (by decide) rfl ?_
    refine v_iload_n hC (pc := 26) (k := 2) 3 rfl dX7_pairBy_26 ?_
    refine v_aload_n hC (pc := 27) (k := 0) 1 rfl dX7_pairBy_27 ?_
    refine v_getI hC (pc := 28) dX7_pairBy_28 fl_X7_76 rfl (by first | rfl | exact ok_c hq rfl | exact ok_w hq hw | exact ok_w (by omega) (by omega) | exact ok_s (by omega) (by omega) | exact ok_c (by omega) rfl | assumption) rfl (by decide) (by decide) ?_
    rw [hnc]
    refine v_icmp_ge hC (pc := 31) (tgt := 48) dX7_pairBy_31 (by decide) (fun c_31 => ?_) (fun c_31 => ?_)
    · skip
      refine v_bipush hC (pc := 48) (v := (-4)) (by decide +kernel) dX7_pairBy_48 ?_
      have q2 : ∀ t, LM A sg nC (p % 8) s (ohr + i) = some t → t < 8 := fun t => LM_lt hn8 hS _ _ _ _
      try rw [show (-4 : Int32) = oN (LM A sg nC (p % 8) s (ohr + i)) from LM_n (fun z => absurd c_31 (nI_ge z (by omega)))]
      refine v_istore hC (pc := 50) (l' := [(8, _), (7, _), (0, _), (1, _), (2, _), (3, _), (4, _), (5, _), (6, _)]) dX7_pairBy_50 (by decide) rfl ?_
      refine v_iload hC (pc := 52) 1 rfl dX7_pairBy_52 ?_
      refine v_bipush hC (pc := 54) (v := (-4)) (by decide +kernel) dX7_pairBy_54 ?_
      refine v_icmp_eq hC (pc := 56) (tgt := 66) dX7_pairBy_56 (by decide) (fun c_56 => ?_) (fun c_56 => ?_)
      · skip
        refine v_bipush hC (pc := 66) (v := (-4)) (by decide +kernel) dX7_pairBy_66 ?_
        refine v_goto hC (pc := 68) (tgt := 79) dX7_pairBy_68 (by decide) ?_
        refine v_iret hC hX (pc := 79) dX7_pairBy_79 ?_
        refine ⟨rfl, ?_⟩
        rw [stp_pr]
        first | rw [← pr_a q1 c_56] | rw [← pr_b q2 c_63] | rw [← pr_c c_56 c_63]
      · skip
        refine v_iload hC (pc := 59) 0 rfl dX7_pairBy_59 ?_
        refine v_bipush hC (pc := 61) (v := (-4)) (by decide +kernel) dX7_pairBy_61 ?_
        refine v_icmp_ne hC (pc := 63) (tgt := 71) dX7_pairBy_63 (by decide) (fun c_63 => ?_) (fun c_63 => ?_)
        · skip
          refine v_bipush hC (pc := 71) (v := 8) (by decide +kernel) dX7_pairBy_71 ?_
          refine v_iload hC (pc := 73) 1 rfl dX7_pairBy_73 ?_
          refine v_imul hC (pc := 75) dX7_pairBy_75 ?_
          refine v_iload hC (pc := 76) 0 rfl dX7_pairBy_76 ?_
          refine v_iadd hC (pc := 78) dX7_pairBy_78 ?_
          refine v_iret hC hX (pc := 79) dX7_pairBy_79 ?_
          refine ⟨rfl, ?_⟩
          rw [stp_pr]
          first | rw [← pr_a q1 c_56] | rw [← pr_b q2 c_63] | rw [← pr_c c_56 c_63]
        · skip
          refine v_bipush hC (pc := 66) (v := (-4)) (by decide +kernel) dX7_pairBy_66 ?_
          refine v_goto hC (pc := 68) (tgt := 79) dX7_pairBy_68 (by decide) ?_
          refine v_iret hC hX (pc := 79) dX7_pairBy_79 ?_
          refine ⟨rfl, ?_⟩
          rw [stp_pr]
          first | rw [← pr_a q1 c_56] | rw [← pr_b q2 c_63] | rw [← pr_c c_56 c_63]
    · skip
      refine v_aload_n hC (pc := 34) (k := 0) 1 rfl dX7_pairBy_34 ?_
      refine v_iload_n hC (pc := 35) (k := 2) 3 rfl dX7_pairBy_35 ?_
      refine v_iload_n hC (pc := 36) (k := 3) 4 rfl dX7_pairBy_36 ?_
      refine v_iload hC (pc := 37) 6 rfl dX7_pairBy_37 ?_
      refine v_iconst hC (pc := 39) (v := 0) (by decide) dX7_pairBy_39 ?_
      refine v_iload hC (pc := 40) 7 rfl dX7_pairBy_40 ?_
      refine v_callV hC (pc := 42) (As := [_, _, _, _, _]) dX7_pairBy_42 rfl (m_leadsBy _ _ (d := d - 1) (by omega) _ (c := p % 8) (s := s) (by omega) hs _ 0 _) cv_X7_183 rfl (by decide) rfl (by first | rfl | exact ok_c hq rfl | exact ok_w hq hw | exact ok_w (by omega) (by omega) | exact ok_s (by omega) (by omega) | exact ok_c (by omega) rfl | assumption) (Nat.le_of_ble_eq_true rfl) (by omega) (fun r h' hr => ?_)
      obtain ⟨he9, rfl⟩ := hr
      rw [he9]
      clear he9 h'
      show V _ _ _ (42 + 3) _ (_ :: _) _
      show V X G 9 45 _ (vi (ldM (h.1 (3, 0, 2)) (p % 8) s (nI (ohr + i)) 0 sg) :: _) _
      rw [hA, LM_o hn8 hS (Nat.lt_of_not_le (fun z => c_31 (nI_le z (by omega)))) hs]
      refine v_goto hC (pc := 45) (tgt := 50) dX7_pairBy_45 (by decide) ?_
      have q2 : ∀ t, LM A sg nC (p % 8) s (ohr + i) = some t → t < 8 := fun t => LM_lt hn8 hS _ _ _ _
      try rw [show (-4 : Int32) = oN (LM A sg nC (p % 8) s (ohr + i)) from LM_n (fun z => absurd c_31 (nI_ge z (by omega)))]
      refine v_istore hC (pc := 50) (l' := [(8, _), (7, _), (0, _), (1, _), (2, _), (3, _), (4, _), (5, _), (6, _)]) dX7_pairBy_50 (by decide) rfl ?_
      refine v_iload hC (pc := 52) 1 rfl dX7_pairBy_52 ?_
      refine v_bipush hC (pc := 54) (v := (-4)) (by decide +kernel) dX7_pairBy_54 ?_
      refine v_icmp_eq hC (pc := 56) (tgt := 66) dX7_pairBy_56 (by decide) (fun c_56 => ?_) (fun c_56 => ?_)
      · skip
        refine v_bipush hC (pc := 66) (v := (-4)) (by decide +kernel) dX7_pairBy_66 ?_
        refine v_goto hC (pc := 68) (tgt := 79) dX7_pairBy_68 (by decide) ?_
        refine v_iret hC hX (pc := 79) dX7_pairBy_79 ?_
        refine ⟨rfl, ?_⟩
        rw [stp_pr]
        first | rw [← pr_a q1 c_56] | rw [← pr_b q2 c_63] | rw [← pr_c c_56 c_63]
      · skip
        refine v_iload hC (pc := 59) 0 rfl dX7_pairBy_59 ?_
        refine v_bipush hC (pc := 61) (v := (-4)) (by decide +kernel) dX7_pairBy_61 ?_
        refine v_icmp_ne hC (pc := 63) (tgt := 71) dX7_pairBy_63 (by decide) (fun c_63 => ?_) (fun c_63 => ?_)
        · skip
          refine v_bipush hC (pc := 71) (v := 8) (by decide +kernel) dX7_pairBy_71 ?_
          refine v_iload hC (pc := 73) 1 rfl dX7_pairBy_73 ?_
          refine v_imul hC (pc := 75) dX7_pairBy_75 ?_
          refine v_iload hC (pc := 76) 0 rfl dX7_pairBy_76 ?_
          refine v_iadd hC (pc := 78) dX7_pairBy_78 ?_
          refine v_iret hC hX (pc := 79) dX7_pairBy_79 ?_
          refine ⟨rfl, ?_⟩
          rw [stp_pr]
          first | rw [← pr_a q1 c_56] | rw [← pr_b q2 c_63] | rw [← pr_c c_56 c_63]
        · skip
          refine v_bipush hC (pc := 66) (v := (-4)) (by decide +kernel) dX7_pairBy_66 ?_
          refine v_goto hC (pc := 68) (tgt := 79) dX7_pairBy_68 (by decide) ?_
          refine v_iret hC hX (pc := 79) dX7_pairBy_79 ?_
          refine ⟨rfl, ?_⟩
          rw [stp_pr]
          first | rw [← pr_a q1 c_56] | rw [← pr_b q2 c_63] | rw [← pr_c c_56 c_63]
  · skip
    refine v_aload_n hC (pc := 8) (k := 0) 0 rfl dX7_pairBy_8 ?_
    refine v_iload_n hC (pc := 9) (k := 1) 1 rfl dX7_pairBy_9 ?_
    refine v_iload_n hC (pc := 10) (k := 3) 3 rfl dX7_pairBy_10 ?_
    refine v_iload hC (pc := 11) 4 rfl dX7_pairBy_11 ?_
    refine v_iconst hC (pc := 13) (v := 0) (by decide) dX7_pairBy_13 ?_
    refine v_iload hC (pc := 14) 6 rfl dX7_pairBy_14 ?_
    refine v_callV hC (pc := 16) (As := [_, _, _, _, _]) dX7_pairBy_16 rfl (m_leadsBy _ _ (d := d - 1) (by omega) _ (c := p / 8) (s := s) (by omega) hs _ 0 _) cv_X7_183 rfl (by decide) rfl (by first | rfl | exact ok_c hq rfl | exact ok_w hq hw | exact ok_w (by omega) (by omega) | exact ok_s (by omega) (by omega) | exact ok_c (by omega) rfl | assumption) (Nat.le_of_ble_eq_true rfl) (by omega) (fun r h' hr => ?_)
    obtain ⟨he9, rfl⟩ := hr
    rw [he9]
    clear he9 h'
    show V _ _ _ (16 + 3) _ (_ :: _) _
    show V X G 9 19 _ (vi (ldM (h.1 (3, 0, 2)) (p / 8) s (nI (hr + i)) 0 sg) :: _) _
    rw [hA, LM_o hn8 hS (Nat.lt_of_not_le (fun z => c_5 (nI_le z (by omega)))) hs]
    refine v_goto hC (pc := 19) (tgt := 24) dX7_pairBy_19 (by decide) ?_
    have q1 : ∀ t, LM A sg nC (p / 8) s (hr + i) = some t → t < 8 := fun t => LM_lt hn8 hS _ _ _ _
    try rw [show (-4 : Int32) = oN (LM A sg nC (p / 8) s (hr + i)) from LM_n (fun z => absurd c_5 (nI_ge z (by omega)))]
    refine v_istore hC (pc := 24) (l' := [(7, _), (0, _), (1, _), (2, _), (3, _), (4, _), (5, _), (6, _)]) dX7_pairBy_24 (by decide) rfl ?_
    refine v_iload_n hC (pc := 26) (k := 2) 3 rfl dX7_pairBy_26 ?_
    refine v_aload_n hC (pc := 27) (k := 0) 1 rfl dX7_pairBy_27 ?_
    refine v_getI hC (pc := 28) dX7_pairBy_28 fl_X7_76 rfl (by first | rfl | exact ok_c hq rfl | exact ok_w hq hw | exact ok_w (by omega) (by omega) | exact ok_s (by omega) (by omega) | exact ok_c (by omega) rfl | assumption) rfl (by decide) (by decide) ?_
    rw [hnc]
    refine v_icmp_ge hC (pc := 31) (tgt := 48) dX7_pairBy_31 (by decide) (fun c_31 => ?_) (fun c_31 => ?_)
    · skip
      refine v_bipush hC (pc := 48) (v := (-4)) (by decide +kernel) dX7_pairBy_48 ?_
      have q2 : ∀ t, LM A sg nC (p % 8) s (ohr + i) = some t → t < 8 := fun t => LM_lt hn8 hS _ _ _ _
      try rw [show (-4 : Int32) = oN (LM A sg nC (p % 8) s (ohr + i)) from LM_n (fun z => absurd c_31 (nI_ge z (by omega)))]
      refine v_istore hC (pc := 50) (l' := [(8, _), (7, _), (0, _), (1, _), (2, _), (3, _), (4, _), (5, _), (6, _)]) dX7_pairBy_50 (by decide) rfl ?_
      refine v_iload hC (pc := 52) 1 rfl dX7_pairBy_52 ?_
      refine v_bipush hC (pc := 54) (v := (-4)) (by decide +kernel) dX7_pairBy_54 ?_
      refine v_icmp_eq hC (pc := 56) (tgt := 66) dX7_pairBy_56 (by decide) (fun c_56 => ?_) (fun c_56 => ?_)
      · skip
        refine v_bipush hC (pc := 66) (v := (-4)) (by decide +kernel) dX7_pairBy_66 ?_
        refine v_goto hC (pc := 68) (tgt := 79) dX7_pairBy_68 (by decide) ?_
        refine v_iret hC hX (pc := 79) dX7_pairBy_79 ?_
        refine ⟨rfl, ?_⟩
        rw [stp_pr]
        first | rw [← pr_a q1 c_56] | rw [← pr_b q2 c_63] | rw [← pr_c c_56 c_63]
      · skip
        refine v_iload hC (pc := 59) 0 rfl dX7_pairBy_59 ?_
        refine v_bipush hC (pc := 61) (v := (-4)) (by decide +kernel) dX7_pairBy_61 ?_
        refine v_icmp_ne hC (pc := 63) (tgt := 71) dX7_pairBy_63 (by decide) (fun c_63 => ?_) (fun c_63 => ?_)
        · skip
          refine v_bipush hC (pc := 71) (v := 8) (by decide +kernel) dX7_pairBy_71 ?_
          refine v_iload hC (pc := 73) 1 rfl dX7_pairBy_73 ?_
          refine v_imul hC (pc := 75) dX7_pairBy_75 ?_
          refine v_iload hC (pc := 76) 0 rfl dX7_pairBy_76 ?_
          refine v_iadd hC (pc := 78) dX7_pairBy_78 ?_
          refine v_iret hC hX (pc := 79) dX7_pairBy_79 ?_
          refine ⟨rfl, ?_⟩
          rw [stp_pr]
          first | rw [← pr_a q1 c_56] | rw [← pr_b q2 c_63] | rw [← pr_c c_56 c_63]
        · skip
          refine v_bipush hC (pc := 66) (v := (-4)) (by decide +kernel) dX7_pairBy_66 ?_
          refine v_goto hC (pc := 68) (tgt := 79) dX7_pairBy_68 (by decide) ?_
          refine v_iret hC hX (pc := 79) dX7_pairBy_79 ?_
          refine ⟨rfl, ?_⟩
          rw [stp_pr]
          first | rw [← pr_a q1 c_56] | rw [← pr_b q2 c_63] | rw [← pr_c c_56 c_63]
    · skip
      refine v_aload_n hC (pc := 34) (k := 0) 1 rfl dX7_pairBy_34 ?_
      refine v_iload_n hC (pc := 35) (k := 2) 3 rfl dX7_pairBy_35 ?_
      refine v_iload_n hC (pc := 36) (k := 3) 4 rfl dX7_pairBy_36 ?_
      refine v_iload hC (pc := 37) 6 rfl dX7_pairBy_37 ?_
      refine v_iconst hC (pc := 39) (v := 0) (by decide) dX7_pairBy_39 ?_
      refine v_iload hC (pc := 40) 7 rfl dX7_pairBy_40 ?_
      refine v_callV hC (pc := 42) (As := [_, _, _, _, _]) dX7_pairBy_42 rfl (m_leadsBy _ _ (d := d - 1) (by omega) _ (c := p % 8) (s := s) (by omega) hs _ 0 _) cv_X7_183 rfl (by decide) rfl (by first | rfl | exact ok_c hq rfl | exact ok_w hq hw | exact ok_w (by omega) (by omega) | exact ok_s (by omega) (by omega) | exact ok_c (by omega) rfl | assumption) (Nat.le_of_ble_eq_true rfl) (by omega) (fun r h' hr => ?_)
      obtain ⟨he9, rfl⟩ := hr
      rw [he9]
      clear he9 h'
      show V _ _ _ (42 + 3) _ (_ :: _) _
      show V X G 9 45 _ (vi (ldM (h.1 (3, 0, 2)) (p % 8) s (nI (ohr + i)) 0 sg) :: _) _
      rw [hA, LM_o hn8 hS (Nat.lt_of_not_le (fun z => c_31 (nI_le z (by omega)))) hs]
      refine v_goto hC (pc := 45) (tgt := 50) dX7_pairBy_45 (by decide) ?_
      have q2 : ∀ t, LM A sg nC (p % 8) s (ohr + i) = some t → t < 8 := fun t => LM_lt hn8 hS _ _ _ _
      try rw [show (-4 : Int32) = oN (LM A sg nC (p % 8) s (ohr + i)) from LM_n (fun z => absurd c_31 (nI_ge z (by omega)))]
      refine v_istore hC (pc := 50) (l' := [(8, _), (7, _), (0, _), (1, _), (2, _), (3, _), (4, _), (5, _), (6, _)]) dX7_pairBy_50 (by decide) rfl ?_
      refine v_iload hC (pc := 52) 1 rfl dX7_pairBy_52 ?_
      refine v_bipush hC (pc := 54) (v := (-4)) (by decide +kernel) dX7_pairBy_54 ?_
      refine v_icmp_eq hC (pc := 56) (tgt := 66) dX7_pairBy_56 (by decide) (fun c_56 => ?_) (fun c_56 => ?_)
      · skip
        refine v_bipush hC (pc := 66) (v := (-4)) (by decide +kernel) dX7_pairBy_66 ?_
        refine v_goto hC (pc := 68) (tgt := 79) dX7_pairBy_68 (by decide) ?_
        refine v_iret hC hX (pc := 79) dX7_pairBy_79 ?_
        refine ⟨rfl, ?_⟩
        rw [stp_pr]
        first | rw [← pr_a q1 c_56] | rw [← pr_b q2 c_63] | rw [← pr_c c_56 c_63]
      · skip
        refine v_iload hC (pc := 59) 0 rfl dX7_pairBy_59 ?_
        refine v_bipush hC (pc := 61) (v := (-4)) (by decide +kernel) dX7_pairBy_61 ?_
        refine v_icmp_ne hC (pc := 63) (tgt := 71) dX7_pairBy_63 (by decide) (fun c_63 => ?_) (fun c_63 => ?_)
        · skip
          refine v_bipush hC (pc := 71) (v := 8) (by decide +kernel) dX7_pairBy_71 ?_
          refine v_iload hC (pc := 73) 1 rfl dX7_pairBy_73 ?_
          refine v_imul hC (pc := 75) dX7_pairBy_75 ?_
          refine v_iload hC (pc := 76) 0 rfl dX7_pairBy_76 ?_
          refine v_iadd hC (pc := 78) dX7_pairBy_78 ?_
          refine v_iret hC hX (pc := 79) dX7_pairBy_79 ?_
          refine ⟨rfl, ?_⟩
          rw [stp_pr]
          first | rw [← pr_a q1 c_56] | rw [← pr_b q2 c_63] | rw [← pr_c c_56 c_63]
        · skip
          refine v_bipush hC (pc := 66) (v := (-4)) (by decide +kernel) dX7_pairBy_66 ?_
          refine v_goto hC (pc := 68) (tgt := 79) dX7_pairBy_68 (by decide) ?_
          refine v_iret hC hX (pc := 79) dX7_pairBy_79 ?_
          refine ⟨rfl, ?_⟩
          rw [stp_pr]
          first | rw [← pr_a q1 c_56] | rw [← pr_b q2 c_63] | rw [← pr_c c_56 c_63]

/-- whether a pair has a way on by one of its first s letters, or is the goal -/
def fwI (L : Nat → Nat → Nat → Option Nat) (hr ohr b m k c s : Nat) : Prop := (nI k = nI m ∧ nI (c / 8) = nI b ∧ nI (c % 8) = nI b) ∨ ∃ s', s' < s ∧ ∃ p', stp L hr ohr c s' k = some p' ∧ cnF L hr ohr (b * 8 + b) (m - (k + 1)) (k + 1) p'
theorem fwI_1 {L : Nat → Nat → Nat → Option Nat} {hr ohr b m k c : Nat} (h1 : nI k = nI m) (h2 : nI (c / 8) = nI b) (h3 : nI (c % 8) = nI b) : (1 : Int32) = bP (fwI L hr ohr b m k c 0) := (bP_t (Or.inl ⟨h1, h2, h3⟩)).symm
theorem fwI_0 {L : Nat → Nat → Nat → Option Nat} {hr ohr b m k c : Nat} (h : ¬ (nI k = nI m ∧ nI (c / 8) = nI b ∧ nI (c % 8) = nI b)) : (0 : Int32) = bP (fwI L hr ohr b m k c 0) := (bP_f (fun z => z.elim h (fun ⟨_, y, _⟩ => absurd y (Nat.not_lt_zero _)))).symm
theorem fwI_s {L : Nat → Nat → Nat → Option Nat} {hr ohr b m k c s : Nat} : fwI L hr ohr b m k c (s + 1) ↔ fwI L hr ohr b m k c s ∨ ∃ p', stp L hr ohr c s k = some p' ∧ cnF L hr ohr (b * 8 + b) (m - (k + 1)) (k + 1) p' := by
  constructor
  · rintro (z | ⟨s', h1, z⟩)
    · exact Or.inl (Or.inl z)
    · rcases (show s' < s ∨ s' = s by omega) with q | rfl
      · exact Or.inl (Or.inr ⟨s', q, z⟩)
      · exact Or.inr z
  · rintro ((z | ⟨s', h1, z⟩) | z)
    · exact Or.inl z
    · exact Or.inr ⟨s', by omega, z⟩
    · exact Or.inr ⟨s, by omega, z⟩
theorem fwI_e {L : Nat → Nat → Nat → Option Nat} {hr ohr b m k c : Nat} (hk : k < m) (hm : m < 1000) : fwI L hr ohr b m k c 2 ↔ cnF L hr ohr (b * 8 + b) (m - k) k c := by
  rw [show m - k = (m - (k + 1)) + 1 by omega]
  constructor
  · rintro (z | z)
    · exact absurd ((nI_eq (by omega) (by omega)).mp z.1) (by omega)
    · exact z
  · exact Or.inr
theorem fwI_m {L : Nat → Nat → Nat → Option Nat} {hr ohr b m c : Nat} (hb : b < 8) (hc : c < 64) : fwI L hr ohr b m m c 0 ↔ cnF L hr ohr (b * 8 + b) (m - m) m c := by
  rw [Nat.sub_self]
  show _ ↔ c = b * 8 + b
  constructor
  · rintro (z | ⟨_, y, _⟩)
    · have e1 := (nI_eq (show c / 8 < 2 ^ 31 by omega) (show b < 2 ^ 31 by omega)).mp z.2.1
      have e2 := (nI_eq (show c % 8 < 2 ^ 31 by omega) (show b < 2 ^ 31 by omega)).mp z.2.2
      omega
    · exact absurd y (Nat.not_lt_zero _)
  · rintro rfl
    exact Or.inl ⟨rfl, by rw [show (b * 8 + b) / 8 = b by omega], by rw [show (b * 8 + b) % 8 = b by omega]⟩
theorem vnar_b {x : Int32} (h : x = 0 ∨ x = 1) : vp_nar .boolean x = x := by
  rcases h with rfl | rfl <;> rfl
theorem scr_23 {h u : HP} (e : scr h u) (k : Nat) (x : Int32) : scr h (upI u (3, 0, 22) k x) := scr_upI e (by decide) k x
set_option maxRecDepth 20000 in
set_option maxHeartbeats 2000000 in
theorem m_findWay (l9 : Launch) (G : WT) {d : Nat} (hd : 4 ≤ d) (h : HP) {nC : Nat} (hn8 : nC ≤ 8) (hnc : h.1 (3, 0, 0) 3 = nI nC) {A : Nat → Int32} (hA : h.1 (3, 0, 2) = A) (hS : wfS A nC) {a b m hr ohr : Nat} (ha8 : a < 8) (hb : b < 8) (hm : m ≤ 24) (hhr : hr < 1000) (hohr : ohr < 1000) (sg : Int32) : MS l9 G yX7_findWay cX7_findWay 15 (some .boolean) d [vr (3, 0, 0), vi (nI a), vi (nI a), vi (nI b), vi (nI hr), vi (nI ohr), vi (nI m), vi sg] h (fun r h1 => r = some (vi (bP (cnF (LM A sg nC) hr ohr (b * 8 + b) m 0 (a * 8 + a)))) ∧ scr h h1 ∧ h1.1 (3, 0, 2) = A ∧ ∀ j, j ≤ m → ∀ p, p < 64 → h1.1 (3, 0, 22) (64 * j + p) = bP (cnF (LM A sg nC) hr ohr (b * 8 + b) (m - j) j p)) := by
  refine MS_of (by decide +kernel) (Nat.le_of_ble_eq_true rfl) (fun X hC hX => ?_)
  show V X G 15 0 _ [] _
  have outer : ∀ (K : Nat) (u : HP), K ≤ m + 1 → scr h u → u.1 (3, 0, 2) = A → (∀ j p, K ≤ j → j ≤ m → p < 64 → u.1 (3, 0, 22) (64 * j + p) = bP (cnF (LM A sg nC) hr ohr (b * 8 + b) (m - j) j p)) → V X G 15 4 [(8, vi (nI K - 1)), (0, vr (3, 0, 0)), (1, vi (nI a)), (2, vi (nI a)), (3, vi (nI b)), (4, vi (nI hr)), (5, vi (nI ohr)), (6, vi (nI m)), (7, vi sg)] [] u := by
    intro K
    induction K with
    | zero =>
      intro u hK ha haA hT
      refine v_iload hC (pc := 4) 0 rfl dX7_findWay_4 ?_
      refine v_if_lt hC (pc := 6) (tgt := 169) dX7_findWay_6 (by decide) (fun c_6 => ?_) (fun c_6 => ?_)
      · skip
        refine v_aload_n hC (pc := 169) (k := 0) 1 rfl dX7_findWay_169 ?_
        refine v_getR hC (pc := 170) dX7_findWay_170 fl_X7_35 rfl (by first | rfl | exact ok_c hq rfl | exact ok_w hq hw | exact ok_w (by omega) (by omega) | exact ok_s (by omega) (by omega) | exact ok_c (by omega) rfl | assumption) rfl (by decide) (by decide) rfl ?_
        refine v_bipush hC (pc := 173) (v := 8) (by decide +kernel) dX7_findWay_173 ?_
        refine v_iload_n hC (pc := 175) (k := 1) 2 rfl dX7_findWay_175 ?_
        refine v_imul hC (pc := 176) dX7_findWay_176 ?_
        refine v_iload_n hC (pc := 177) (k := 2) 3 rfl dX7_findWay_177 ?_
        refine v_iadd hC (pc := 178) dX7_findWay_178 ?_
        rw [nL_8, pk_mul, nI_add]
        refine v_zald hC (pc := 179) dX7_findWay_179 rfl (by first | rfl | exact ok_c hq rfl | exact ok_w hq hw | exact ok_w (by omega) (by omega) | exact ok_s (by omega) (by omega) | exact ok_c (by omega) rfl | assumption) (vp_nat (n := 8 * a + a) (by omega) (by decide)) ?_
        rw [nI_clamp (show 8 * a + a < 2 ^ 31 by omega)]
        have e := hT 0 (8 * a + a) (Nat.le_refl _) (Nat.zero_le _) (by omega)
        rw [show 64 * 0 + (8 * a + a) = 8 * a + a by omega] at e
        show V X G 15 180 _ (vi (u.1 (3, 0, 22) (8 * a + a)) :: _) _
        rw [e]
        refine v_zret hC hX (pc := 180) dX7_findWay_180 (nar_b (bP_01 _)) ?_
        exact ⟨by rw [Nat.mul_comm 8 a]; rfl, ha, haA, fun j j1 p p1 => hT j p (Nat.zero_le _) j1 p1⟩
      · exact absurd (by decide : nI 0 - 1 < 0) (fun z => absurd z (Int32.not_lt.mpr (Int32.not_lt.mp c_6)))
    | succ k ihk =>
      intro u hK ha haA hT
      have hkm1 : k ≤ m := by omega
      rw [nI_pred]
      have cl : ∀ (n c : Nat) (u : HP), c ≤ 64 → 65 ≤ c + n → scr h u → u.1 (3, 0, 2) = A → (∀ j p, k + 1 ≤ j → j ≤ m → p < 64 → u.1 (3, 0, 22) (64 * j + p) = bP (cnF (LM A sg nC) hr ohr (b * 8 + b) (m - j) j p)) → (∀ p, p < c → u.1 (3, 0, 22) (64 * k + p) = bP (cnF (LM A sg nC) hr ohr (b * 8 + b) (m - k) k p)) → V X G 15 12 [(9, vi (nI c)), (8, vi (nI k)), (0, vr (3, 0, 0)), (1, vi (nI a)), (2, vi (nI a)), (3, vi (nI b)), (4, vi (nI hr)), (5, vi (nI ohr)), (6, vi (nI m)), (7, vi sg)] [] u := by
        intro n
        induction n with
        | zero => intro c u h1 h2; exact absurd h2 (by omega)
        | succ n ih =>
          intro c u h1 h2 ha haA hT hR
          refine v_iload hC (pc := 12) 0 rfl dX7_findWay_12 ?_
          refine v_bipush hC (pc := 14) (v := 64) (by decide +kernel) dX7_findWay_14 ?_
          refine v_icmp_ge hC (pc := 16) (tgt := 163) dX7_findWay_16 (by decide) (fun c_16 => ?_) (fun c_16 => ?_)
          · skip
            have hc0 : c = 64 := lp_ex (N := 64) c_16 h1 (by decide)
            refine v_iinc hC (pc := 163) (l' := [(8, _), (9, _), (0, _), (1, _), (2, _), (3, _), (4, _), (5, _), (6, _), (7, _)]) 1 (v := nI k - 1) dX7_findWay_163 rfl (nI_dec k) (by decide) rfl ?_
            refine v_goto hC (pc := 166) (tgt := 4) dX7_findWay_166 (by decide) ?_
            refine v_loc (l' := [(8, _), (0, _), (1, _), (2, _), (3, _), (4, _), (5, _), (6, _), (7, _)]) [0, 2, 3, 4, 5, 6, 7, 8, 9] rfl ?_
            exact ihk _ (by omega) ha haA (fun j p j1 j2 p1 => by
              rcases (show k + 1 ≤ j ∨ j = k by omega) with q | rfl
              · exact hT j p q j2 p1
              · exact hR p (by omega))
          · skip
            have hc64 : c < 64 := lp_in (N := 64) c_16 h1 (by decide)
            have tail : V X G 15 142 [(12, vi (bP (cnF (LM A sg nC) hr ohr (b * 8 + b) (m - k) k c))), (9, vi (nI c)), (8, vi (nI k)), (0, vr (3, 0, 0)), (1, vi (nI a)), (2, vi (nI a)), (3, vi (nI b)), (4, vi (nI hr)), (5, vi (nI ohr)), (6, vi (nI m)), (7, vi sg)] [] u := by
              refine v_aload_n hC (pc := 142) (k := 0) 3 rfl dX7_findWay_142 ?_
              refine v_getR hC (pc := 143) dX7_findWay_143 fl_X7_35 rfl (by first | rfl | exact ok_c hq rfl | exact ok_w hq hw | exact ok_w (by omega) (by omega) | exact ok_s (by omega) (by omega) | exact ok_c (by omega) rfl | assumption) rfl (by decide) (by decide) rfl ?_
              refine v_bipush hC (pc := 146) (v := 64) (by decide +kernel) dX7_findWay_146 ?_
              refine v_iload hC (pc := 148) 2 rfl dX7_findWay_148 ?_
              refine v_imul hC (pc := 150) dX7_findWay_150 ?_
              refine v_iload hC (pc := 151) 1 rfl dX7_findWay_151 ?_
              refine v_iadd hC (pc := 153) dX7_findWay_153 ?_
              refine v_iload hC (pc := 154) 0 rfl dX7_findWay_154 ?_
              rw [nL_64, pk_mul, nI_add]
              refine v_zast hC (pc := 156) dX7_findWay_156 rfl (by first | rfl | exact ok_c hq rfl | exact ok_w hq hw | exact ok_w (by omega) (by omega) | exact ok_s (by omega) (by omega) | exact ok_c (by omega) rfl | assumption) (vp_nat (n := 64 * k + c) (by omega) (by decide)) ?_
              refine v_iinc hC (pc := 157) (l' := [(9, _), (12, _), (8, _), (0, _), (1, _), (2, _), (3, _), (4, _), (5, _), (6, _), (7, _)]) 1 (v := nI (c + 1)) dX7_findWay_157 rfl (nI_inc c) (by decide) rfl ?_
              refine v_goto hC (pc := 160) (tgt := 12) dX7_findWay_160 (by decide) ?_
              refine v_loc (l' := [(9, _), (8, _), (0, _), (1, _), (2, _), (3, _), (4, _), (5, _), (6, _), (7, _)]) [0, 2, 3, 4, 5, 6, 7, 8, 9, 10] rfl ?_
              rw [nI_clamp (show 64 * k + c < 2 ^ 31 by omega), vnar_b (bP_01 _)]
              refine ih (c + 1) _ (by omega) (by omega) (scr_23 ha _ _) (by rw [upI_ne _ _ _ (show ((3, 0, 2) : PId) ≠ (3, 0, 22) by decide)]; exact haA) (fun j p j1 j2 p1 => ?_) (fun p p1 => ?_)
              · rw [upI_same]
                show (if 64 * j + p = 64 * k + c then _ else u.1 (3, 0, 22) (64 * j + p)) = _
                rw [if_neg (by omega)]
                exact hT j p j1 j2 p1
              · rw [upI_same]
                show (if 64 * k + p = 64 * k + c then _ else u.1 (3, 0, 22) (64 * k + p)) = _
                by_cases e : p = c
                · subst e; rw [if_pos rfl]
                · rw [if_neg (by omega)]
                  exact hR p (by omega)
            have sl : ∀ (n s : Nat), s ≤ 2 → 3 ≤ s + n → (s = 0 ∨ k < m) → V X G 15 62 [(13, vi (nI s)), (12, vi (bP (fwI (LM A sg nC) hr ohr b m k c s))), (11, vi (nI (c % 8))), (10, vi (nI (c / 8))), (9, vi (nI c)), (8, vi (nI k)), (0, vr (3, 0, 0)), (1, vi (nI a)), (2, vi (nI a)), (3, vi (nI b)), (4, vi (nI hr)), (5, vi (nI ohr)), (6, vi (nI m)), (7, vi sg)] [] u := by
              intro n
              induction n with
              | zero => intro s h1 h2; exact absurd h2 (by omega)
              | succ n ihs =>
                intro s h1 h2 hkm0
                refine v_iload hC (pc := 62) 0 rfl dX7_findWay_62 ?_
                refine v_iconst hC (pc := 64) (v := 2) (by decide) dX7_findWay_64 ?_
                refine v_icmp_ge hC (pc := 65) (tgt := 142) dX7_findWay_65 (by decide) (fun c_65 => ?_) (fun c_65 => ?_)
                · skip
                  have hs3 : s = 2 := lp_ex (N := 2) c_65 h1 (by decide)
                  subst hs3
                  have hkm : k < m := hkm0.resolve_left (by decide)
                  have hz := fwI_e (L := LM A sg nC) (hr := hr) (ohr := ohr) (b := b) (c := c) hkm (by omega)
                  refine v_loc (l' := [(12, _), (9, _), (8, _), (0, _), (1, _), (2, _), (3, _), (4, _), (5, _), (6, _), (7, _)]) [1, 4, 5, 6, 7, 8, 9, 10, 11, 12, 13] rfl ?_
                  rw [bP_cong hz]
                  exact tail
                · skip
                  have hs2 : s < 2 := lp_in (N := 2) c_65 h1 (by decide)
                  refine v_iload hC (pc := 68) 5 rfl dX7_findWay_68 ?_
                  refine v_iload hC (pc := 70) 12 rfl dX7_findWay_70 ?_
                  refine v_icmp_ge hC (pc := 72) (tgt := 142) dX7_findWay_72 (by decide) (fun c_72 => ?_) (fun c_72 => ?_)
                  · skip
                    have hkm : k = m := Nat.le_antisymm hkm1 (Nat.le_of_not_lt (fun z => absurd c_72 (nI_ge z (by omega))))
                    have hs0 : s = 0 := hkm0.resolve_right (by omega)
                    subst hs0
                    subst hkm
                    have hz := fwI_m (L := LM A sg nC) (hr := hr) (ohr := ohr) (m := k) hb hc64
                    refine v_loc (l' := [(12, _), (9, _), (8, _), (0, _), (1, _), (2, _), (3, _), (4, _), (5, _), (6, _), (7, _)]) [1, 4, 5, 6, 7, 8, 9, 10, 11, 12, 13] rfl ?_
                    rw [bP_cong hz]
                    exact tail
                  · skip
                    have hkm : k < m := Nat.lt_of_not_le (fun z => c_72 (nI_le z (by omega)))
                    refine v_aload_n hC (pc := 75) (k := 0) 6 rfl dX7_findWay_75 ?_
                    refine v_iload hC (pc := 76) 3 rfl dX7_findWay_76 ?_
                    refine v_iload hC (pc := 78) 2 rfl dX7_findWay_78 ?_
                    refine v_iload hC (pc := 80) 0 rfl dX7_findWay_80 ?_
                    refine v_iload hC (pc := 82) 10 rfl dX7_findWay_82 ?_
                    refine v_iload hC (pc := 84) 5 rfl dX7_findWay_84 ?_
                    refine v_iadd hC (pc := 86) dX7_findWay_86 ?_
                    rw [nI_add]
                    refine v_iload hC (pc := 87) 11 rfl dX7_findWay_87 ?_
                    refine v_iload hC (pc := 89) 5 rfl dX7_findWay_89 ?_
                    refine v_iadd hC (pc := 91) dX7_findWay_91 ?_
                    rw [nI_add]
                    refine v_iload hC (pc := 92) 13 rfl dX7_findWay_92 ?_
                    refine v_callV hC (pc := 94) (As := [_, _, _, _, _, _]) dX7_findWay_94 rfl (m_pairBy _ _ (d := d - 1) (by omega) _ hn8 (by rw [scr_0 ha]; exact hnc) haA hS (p := c) (s := s) (hr := hr) (ohr := ohr) (i := k) hc64 hs2 _) cv_X7_240 rfl (by decide) rfl (by first | rfl | exact ok_c hq rfl | exact ok_w hq hw | exact ok_w (by omega) (by omega) | exact ok_s (by omega) (by omega) | exact ok_c (by omega) rfl | assumption) (Nat.le_of_ble_eq_true rfl) (by omega) (fun r h' hr => ?_)
                    obtain ⟨he9, rfl⟩ := hr
                    rw [he9]
                    clear he9 h'
                    show V _ _ _ (94 + 3) _ (_ :: _) _
                    refine v_istore hC (pc := 97) (l' := [(14, _), (13, _), (12, _), (11, _), (10, _), (9, _), (8, _), (0, _), (1, _), (2, _), (3, _), (4, _), (5, _), (6, _), (7, _)]) dX7_findWay_97 (by decide) rfl ?_
                    have hlt : ∀ t, stp (LM A sg nC) hr ohr c s k = some t → t < 64 := fun t => stp_LM hn8 hS
                    generalize eo : stp (LM A sg nC) hr ohr c s k = o9 at *
                    refine v_iload hC (pc := 99) 2 rfl dX7_findWay_99 ?_
                    refine v_if_ne hC (pc := 101) (tgt := 129) dX7_findWay_101 (by decide) (fun c_101 => ?_) (fun c_101 => ?_)
                    · skip
                      refine v_iconst hC (pc := 129) (v := 1) (by decide) dX7_findWay_129 ?_
                      refine v_goto hC (pc := 130) (tgt := 134) dX7_findWay_130 (by decide) ?_
                      first | rw [show (1 : Int32) = bP (fwI (LM A sg nC) hr ohr b m k c (s + 1)) from (bP_t (fwI_s.mpr (Or.inl (bP_1.mp ((bP_01 _).resolve_left c_101))))).symm] | rw [show (1 : Int32) = bP (fwI (LM A sg nC) hr ohr b m k c (s + 1)) from (bP_t (fwI_s.mpr (Or.inr ⟨p9, eo, bP_1.mp ((bP_01 _).resolve_left c_126)⟩))).symm] | rw [show (0 : Int32) = bP (fwI (LM A sg nC) hr ohr b m k c (s + 1)) from (bP_f (fun z => (fwI_s.mp z).elim (bP_0.mp c_101) (fun ⟨p', y1, y2⟩ => by rw [eo] at y1; cases y1; exact bP_0.mp c_126 y2))).symm] | rw [show (0 : Int32) = bP (fwI (LM A sg nC) hr ohr b m k c (s + 1)) from (bP_f (fun z => (fwI_s.mp z).elim (bP_0.mp c_101) (fun ⟨p', y1, y2⟩ => by rw [eo] at y1; rw [y1] at c_108; exact absurd c_108 (nI_n4 (by have := hlt p' y1; omega))))).symm]
                      refine v_istore hC (pc := 134) (l' := [(12, _), (14, _), (13, _), (11, _), (10, _), (9, _), (8, _), (0, _), (1, _), (2, _), (3, _), (4, _), (5, _), (6, _), (7, _)]) dX7_findWay_134 (by decide) rfl ?_
                      refine v_iinc hC (pc := 136) (l' := [(13, _), (12, _), (14, _), (11, _), (10, _), (9, _), (8, _), (0, _), (1, _), (2, _), (3, _), (4, _), (5, _), (6, _), (7, _)]) 2 (v := nI (s + 1)) dX7_findWay_136 rfl (nI_inc s) (by decide) rfl ?_
                      refine v_goto hC (pc := 139) (tgt := 62) dX7_findWay_139 (by decide) ?_
                      refine v_loc (l' := [(13, _), (12, _), (11, _), (10, _), (9, _), (8, _), (0, _), (1, _), (2, _), (3, _), (4, _), (5, _), (6, _), (7, _)]) [0, 1, 3, 4, 5, 6, 7, 8, 9, 10, 11, 12, 13, 14] rfl ?_
                      exact ihs (s + 1) (by omega) (by omega) (Or.inr hkm)
                    · skip
                      refine v_iload hC (pc := 104) 0 rfl dX7_findWay_104 ?_
                      refine v_bipush hC (pc := 106) (v := (-4)) (by decide +kernel) dX7_findWay_106 ?_
                      refine v_icmp_eq hC (pc := 108) (tgt := 133) dX7_findWay_108 (by decide) (fun c_108 => ?_) (fun c_108 => ?_)
                      · skip
                        refine v_iconst hC (pc := 133) (v := 0) (by decide) dX7_findWay_133 ?_
                        first | rw [show (1 : Int32) = bP (fwI (LM A sg nC) hr ohr b m k c (s + 1)) from (bP_t (fwI_s.mpr (Or.inl (bP_1.mp ((bP_01 _).resolve_left c_101))))).symm] | rw [show (1 : Int32) = bP (fwI (LM A sg nC) hr ohr b m k c (s + 1)) from (bP_t (fwI_s.mpr (Or.inr ⟨p9, eo, bP_1.mp ((bP_01 _).resolve_left c_126)⟩))).symm] | rw [show (0 : Int32) = bP (fwI (LM A sg nC) hr ohr b m k c (s + 1)) from (bP_f (fun z => (fwI_s.mp z).elim (bP_0.mp c_101) (fun ⟨p', y1, y2⟩ => by rw [eo] at y1; cases y1; exact bP_0.mp c_126 y2))).symm] | rw [show (0 : Int32) = bP (fwI (LM A sg nC) hr ohr b m k c (s + 1)) from (bP_f (fun z => (fwI_s.mp z).elim (bP_0.mp c_101) (fun ⟨p', y1, y2⟩ => by rw [eo] at y1; rw [y1] at c_108; exact absurd c_108 (nI_n4 (by have := hlt p' y1; omega))))).symm]
                        refine v_istore hC (pc := 134) (l' := [(12, _), (14, _), (13, _), (11, _), (10, _), (9, _), (8, _), (0, _), (1, _), (2, _), (3, _), (4, _), (5, _), (6, _), (7, _)]) dX7_findWay_134 (by decide) rfl ?_
                        refine v_iinc hC (pc := 136) (l' := [(13, _), (12, _), (14, _), (11, _), (10, _), (9, _), (8, _), (0, _), (1, _), (2, _), (3, _), (4, _), (5, _), (6, _), (7, _)]) 2 (v := nI (s + 1)) dX7_findWay_136 rfl (nI_inc s) (by decide) rfl ?_
                        refine v_goto hC (pc := 139) (tgt := 62) dX7_findWay_139 (by decide) ?_
                        refine v_loc (l' := [(13, _), (12, _), (11, _), (10, _), (9, _), (8, _), (0, _), (1, _), (2, _), (3, _), (4, _), (5, _), (6, _), (7, _)]) [0, 1, 3, 4, 5, 6, 7, 8, 9, 10, 11, 12, 13, 14] rfl ?_
                        exact ihs (s + 1) (by omega) (by omega) (Or.inr hkm)
                      · skip
                        obtain ⟨p9, rfl⟩ : ∃ p9, o9 = some p9 := by
                          cases o9 with
                          | none => exact absurd rfl c_108
                          | some p9 => exact ⟨p9, rfl⟩
                        have h64 := hlt p9 rfl
                        refine v_aload_n hC (pc := 111) (k := 0) 7 rfl dX7_findWay_111 ?_
                        refine v_getR hC (pc := 112) dX7_findWay_112 fl_X7_35 rfl (by first | rfl | exact ok_c hq rfl | exact ok_w hq hw | exact ok_w (by omega) (by omega) | exact ok_s (by omega) (by omega) | exact ok_c (by omega) rfl | assumption) rfl (by decide) (by decide) rfl ?_
                        refine v_bipush hC (pc := 115) (v := 64) (by decide +kernel) dX7_findWay_115 ?_
                        refine v_iload hC (pc := 117) 6 rfl dX7_findWay_117 ?_
                        refine v_iconst hC (pc := 119) (v := 1) (by decide) dX7_findWay_119 ?_
                        refine v_iadd hC (pc := 120) dX7_findWay_120 ?_
                        refine v_imul hC (pc := 121) dX7_findWay_121 ?_
                        refine v_iload hC (pc := 122) 0 rfl dX7_findWay_122 ?_
                        refine v_iadd hC (pc := 124) dX7_findWay_124 ?_
                        rw [show oN (some p9) = nI p9 from rfl, nL_64, nL_1, nI_add, pk_mul, nI_add]
                        refine v_zald hC (pc := 125) dX7_findWay_125 rfl (by first | rfl | exact ok_c hq rfl | exact ok_w hq hw | exact ok_w (by omega) (by omega) | exact ok_s (by omega) (by omega) | exact ok_c (by omega) rfl | assumption) (vp_nat (n := 64 * (k + 1) + p9) (by omega) (by decide)) ?_
                        rw [nI_clamp (show 64 * (k + 1) + p9 < 2 ^ 31 by omega)]
                        show V X G 15 126 _ (vi (u.1 (3, 0, 22) (64 * (k + 1) + p9)) :: _) _
                        rw [hT (k + 1) p9 (by omega) (by omega) h64]
                        refine v_if_eq hC (pc := 126) (tgt := 133) dX7_findWay_126 (by decide) (fun c_126 => ?_) (fun c_126 => ?_)
                        · skip
                          refine v_iconst hC (pc := 133) (v := 0) (by decide) dX7_findWay_133 ?_
                          first | rw [show (1 : Int32) = bP (fwI (LM A sg nC) hr ohr b m k c (s + 1)) from (bP_t (fwI_s.mpr (Or.inl (bP_1.mp ((bP_01 _).resolve_left c_101))))).symm] | rw [show (1 : Int32) = bP (fwI (LM A sg nC) hr ohr b m k c (s + 1)) from (bP_t (fwI_s.mpr (Or.inr ⟨p9, eo, bP_1.mp ((bP_01 _).resolve_left c_126)⟩))).symm] | rw [show (0 : Int32) = bP (fwI (LM A sg nC) hr ohr b m k c (s + 1)) from (bP_f (fun z => (fwI_s.mp z).elim (bP_0.mp c_101) (fun ⟨p', y1, y2⟩ => by rw [eo] at y1; cases y1; exact bP_0.mp c_126 y2))).symm] | rw [show (0 : Int32) = bP (fwI (LM A sg nC) hr ohr b m k c (s + 1)) from (bP_f (fun z => (fwI_s.mp z).elim (bP_0.mp c_101) (fun ⟨p', y1, y2⟩ => by rw [eo] at y1; rw [y1] at c_108; exact absurd c_108 (nI_n4 (by have := hlt p' y1; omega))))).symm]
                          refine v_istore hC (pc := 134) (l' := [(12, _), (14, _), (13, _), (11, _), (10, _), (9, _), (8, _), (0, _), (1, _), (2, _), (3, _), (4, _), (5, _), (6, _), (7, _)]) dX7_findWay_134 (by decide) rfl ?_
                          refine v_iinc hC (pc := 136) (l' := [(13, _), (12, _), (14, _), (11, _), (10, _), (9, _), (8, _), (0, _), (1, _), (2, _), (3, _), (4, _), (5, _), (6, _), (7, _)]) 2 (v := nI (s + 1)) dX7_findWay_136 rfl (nI_inc s) (by decide) rfl ?_
                          refine v_goto hC (pc := 139) (tgt := 62) dX7_findWay_139 (by decide) ?_
                          refine v_loc (l' := [(13, _), (12, _), (11, _), (10, _), (9, _), (8, _), (0, _), (1, _), (2, _), (3, _), (4, _), (5, _), (6, _), (7, _)]) [0, 1, 3, 4, 5, 6, 7, 8, 9, 10, 11, 12, 13, 14] rfl ?_
                          exact ihs (s + 1) (by omega) (by omega) (Or.inr hkm)
                        · skip
                          refine v_iconst hC (pc := 129) (v := 1) (by decide) dX7_findWay_129 ?_
                          refine v_goto hC (pc := 130) (tgt := 134) dX7_findWay_130 (by decide) ?_
                          first | rw [show (1 : Int32) = bP (fwI (LM A sg nC) hr ohr b m k c (s + 1)) from (bP_t (fwI_s.mpr (Or.inl (bP_1.mp ((bP_01 _).resolve_left c_101))))).symm] | rw [show (1 : Int32) = bP (fwI (LM A sg nC) hr ohr b m k c (s + 1)) from (bP_t (fwI_s.mpr (Or.inr ⟨p9, eo, bP_1.mp ((bP_01 _).resolve_left c_126)⟩))).symm] | rw [show (0 : Int32) = bP (fwI (LM A sg nC) hr ohr b m k c (s + 1)) from (bP_f (fun z => (fwI_s.mp z).elim (bP_0.mp c_101) (fun ⟨p', y1, y2⟩ => by rw [eo] at y1; cases y1; exact bP_0.mp c_126 y2))).symm] | rw [show (0 : Int32) = bP (fwI (LM A sg nC) hr ohr b m k c (s + 1)) from (bP_f (fun z => (fwI_s.mp z).elim (bP_0.mp c_101) (fun ⟨p', y1, y2⟩ => by rw [eo] at y1; rw [y1] at c_108; exact absurd c_108 (nI_n4 (by have := hlt p' y1; omega))))).symm]
                          refine v_istore hC (pc := 134) (l' := [(12, _), (14, _), (13, _), (11, _), (10, _), (9, _), (8, _), (0, _), (1, _), (2, _), (3, _), (4, _), (5, _), (6, _), (7, _)]) dX7_findWay_134 (by decide) rfl ?_
                          refine v_iinc hC (pc := 136) (l' := [(13, _), (12, _), (14, _), (11, _), (10, _), (9, _), (8, _), (0, _), (1, _), (2, _), (3, _), (4, _), (5, _), (6, _), (7, _)]) 2 (v := nI (s + 1)) dX7_findWay_136 rfl (nI_inc s) (by decide) rfl ?_
                          refine v_goto hC (pc := 139) (tgt := 62) dX7_findWay_139 (by decide) ?_
                          refine v_loc (l' := [(13, _), (12, _), (11, _), (10, _), (9, _), (8, _), (0, _), (1, _), (2, _), (3, _), (4, _), (5, _), (6, _), (7, _)]) [0, 1, 3, 4, 5, 6, 7, 8, 9, 10, 11, 12, 13, 14] rfl ?_
                          exact ihs (s + 1) (by omega) (by omega) (Or.inr hkm)
            refine v_iload hC (pc := 19) 0 rfl dX7_findWay_19 ?_
            refine v_bipush hC (pc := 21) (v := 8) (by decide +kernel) dX7_findWay_21 ?_
            refine v_idiv hC (pc := 23) (by decide) dX7_findWay_23 ?_
            rw [nL_8, pk_div (show c < 2 ^ 31 by omega) (by decide) (by decide)]
            refine v_istore hC (pc := 24) (l' := [(10, _), (9, _), (8, _), (0, _), (1, _), (2, _), (3, _), (4, _), (5, _), (6, _), (7, _)]) dX7_findWay_24 (by decide) rfl ?_
            refine v_iload hC (pc := 26) 1 rfl dX7_findWay_26 ?_
            refine v_bipush hC (pc := 28) (v := 8) (by decide +kernel) dX7_findWay_28 ?_
            refine v_irem hC (pc := 30) (by decide) dX7_findWay_30 ?_
            rw [nL_8, pk_rem (show c < 2 ^ 31 by omega) (by decide) (by decide)]
            refine v_istore hC (pc := 31) (l' := [(11, _), (10, _), (9, _), (8, _), (0, _), (1, _), (2, _), (3, _), (4, _), (5, _), (6, _), (7, _)]) dX7_findWay_31 (by decide) rfl ?_
            refine v_iload hC (pc := 33) 3 rfl dX7_findWay_33 ?_
            refine v_iload hC (pc := 35) 10 rfl dX7_findWay_35 ?_
            refine v_icmp_ne hC (pc := 37) (tgt := 56) dX7_findWay_37 (by decide) (fun c_37 => ?_) (fun c_37 => ?_)
            · skip
              refine v_iconst hC (pc := 56) (v := 0) (by decide) dX7_findWay_56 ?_
              first | rw [fwI_1 (L := LM A sg nC) (hr := hr) (ohr := ohr) c_37 c_43 c_49] | rw [fwI_0 (L := LM A sg nC) (hr := hr) (ohr := ohr) (fun y => c_37 y.1)] | rw [fwI_0 (L := LM A sg nC) (hr := hr) (ohr := ohr) (fun y => c_43 y.2.1)] | rw [fwI_0 (L := LM A sg nC) (hr := hr) (ohr := ohr) (fun y => c_49 y.2.2)]
              refine v_istore hC (pc := 57) (l' := [(12, _), (11, _), (10, _), (9, _), (8, _), (0, _), (1, _), (2, _), (3, _), (4, _), (5, _), (6, _), (7, _)]) dX7_findWay_57 (by decide) rfl ?_
              refine v_iconst hC (pc := 59) (v := 0) (by decide) dX7_findWay_59 ?_
              refine v_istore hC (pc := 60) (l' := [(13, _), (12, _), (11, _), (10, _), (9, _), (8, _), (0, _), (1, _), (2, _), (3, _), (4, _), (5, _), (6, _), (7, _)]) dX7_findWay_60 (by decide) rfl ?_
              exact sl 3 0 (by omega) (by omega) (Or.inl rfl)
            · skip
              refine v_iload hC (pc := 40) 1 rfl dX7_findWay_40 ?_
              refine v_iload_n hC (pc := 42) (k := 3) 7 rfl dX7_findWay_42 ?_
              refine v_icmp_ne hC (pc := 43) (tgt := 56) dX7_findWay_43 (by decide) (fun c_43 => ?_) (fun c_43 => ?_)
              · skip
                refine v_iconst hC (pc := 56) (v := 0) (by decide) dX7_findWay_56 ?_
                first | rw [fwI_1 (L := LM A sg nC) (hr := hr) (ohr := ohr) c_37 c_43 c_49] | rw [fwI_0 (L := LM A sg nC) (hr := hr) (ohr := ohr) (fun y => c_37 y.1)] | rw [fwI_0 (L := LM A sg nC) (hr := hr) (ohr := ohr) (fun y => c_43 y.2.1)] | rw [fwI_0 (L := LM A sg nC) (hr := hr) (ohr := ohr) (fun y => c_49 y.2.2)]
                refine v_istore hC (pc := 57) (l' := [(12, _), (11, _), (10, _), (9, _), (8, _), (0, _), (1, _), (2, _), (3, _), (4, _), (5, _), (6, _), (7, _)]) dX7_findWay_57 (by decide) rfl ?_
                refine v_iconst hC (pc := 59) (v := 0) (by decide) dX7_findWay_59 ?_
                refine v_istore hC (pc := 60) (l' := [(13, _), (12, _), (11, _), (10, _), (9, _), (8, _), (0, _), (1, _), (2, _), (3, _), (4, _), (5, _), (6, _), (7, _)]) dX7_findWay_60 (by decide) rfl ?_
                exact sl 3 0 (by omega) (by omega) (Or.inl rfl)
              · skip
                refine v_iload hC (pc := 46) 0 rfl dX7_findWay_46 ?_
                refine v_iload_n hC (pc := 48) (k := 3) 7 rfl dX7_findWay_48 ?_
                refine v_icmp_ne hC (pc := 49) (tgt := 56) dX7_findWay_49 (by decide) (fun c_49 => ?_) (fun c_49 => ?_)
                · skip
                  refine v_iconst hC (pc := 56) (v := 0) (by decide) dX7_findWay_56 ?_
                  first | rw [fwI_1 (L := LM A sg nC) (hr := hr) (ohr := ohr) c_37 c_43 c_49] | rw [fwI_0 (L := LM A sg nC) (hr := hr) (ohr := ohr) (fun y => c_37 y.1)] | rw [fwI_0 (L := LM A sg nC) (hr := hr) (ohr := ohr) (fun y => c_43 y.2.1)] | rw [fwI_0 (L := LM A sg nC) (hr := hr) (ohr := ohr) (fun y => c_49 y.2.2)]
                  refine v_istore hC (pc := 57) (l' := [(12, _), (11, _), (10, _), (9, _), (8, _), (0, _), (1, _), (2, _), (3, _), (4, _), (5, _), (6, _), (7, _)]) dX7_findWay_57 (by decide) rfl ?_
                  refine v_iconst hC (pc := 59) (v := 0) (by decide) dX7_findWay_59 ?_
                  refine v_istore hC (pc := 60) (l' := [(13, _), (12, _), (11, _), (10, _), (9, _), (8, _), (0, _), (1, _), (2, _), (3, _), (4, _), (5, _), (6, _), (7, _)]) dX7_findWay_60 (by decide) rfl ?_
                  exact sl 3 0 (by omega) (by omega) (Or.inl rfl)
                · skip
                  refine v_iconst hC (pc := 52) (v := 1) (by decide) dX7_findWay_52 ?_
                  refine v_goto hC (pc := 53) (tgt := 57) dX7_findWay_53 (by decide) ?_
                  first | rw [fwI_1 (L := LM A sg nC) (hr := hr) (ohr := ohr) c_37 c_43 c_49] | rw [fwI_0 (L := LM A sg nC) (hr := hr) (ohr := ohr) (fun y => c_37 y.1)] | rw [fwI_0 (L := LM A sg nC) (hr := hr) (ohr := ohr) (fun y => c_43 y.2.1)] | rw [fwI_0 (L := LM A sg nC) (hr := hr) (ohr := ohr) (fun y => c_49 y.2.2)]
                  refine v_istore hC (pc := 57) (l' := [(12, _), (11, _), (10, _), (9, _), (8, _), (0, _), (1, _), (2, _), (3, _), (4, _), (5, _), (6, _), (7, _)]) dX7_findWay_57 (by decide) rfl ?_
                  refine v_iconst hC (pc := 59) (v := 0) (by decide) dX7_findWay_59 ?_
                  refine v_istore hC (pc := 60) (l' := [(13, _), (12, _), (11, _), (10, _), (9, _), (8, _), (0, _), (1, _), (2, _), (3, _), (4, _), (5, _), (6, _), (7, _)]) dX7_findWay_60 (by decide) rfl ?_
                  exact sl 3 0 (by omega) (by omega) (Or.inl rfl)
      refine v_iload hC (pc := 4) 0 rfl dX7_findWay_4 ?_
      refine v_if_lt hC (pc := 6) (tgt := 169) dX7_findWay_6 (by decide) (fun c_6 => ?_) (fun c_6 => ?_)
      · exact absurd c_6 (nI_pos (by omega))
      · skip
        refine v_iconst hC (pc := 9) (v := 0) (by decide) dX7_findWay_9 ?_
        refine v_istore hC (pc := 10) (l' := [(9, _), (8, _), (0, _), (1, _), (2, _), (3, _), (4, _), (5, _), (6, _), (7, _)]) dX7_findWay_10 (by decide) rfl ?_
        exact cl 65 0 u (by omega) (by omega) ha haA hT (fun p p1 => absurd p1 (Nat.not_lt_zero p))
  refine v_iload hC (pc := 0) 6 rfl dX7_findWay_0 ?_
  refine v_istore hC (pc := 2) (l' := [(8, _), (0, _), (1, _), (2, _), (3, _), (4, _), (5, _), (6, _), (7, _)]) dX7_findWay_2 (by decide) rfl ?_
  have e0 := outer (m + 1) h (Nat.le_refl _) (scr_r h) hA (fun j p j1 j2 => absurd j1 (by omega))
  rw [nI_pred] at e0
  exact e0

