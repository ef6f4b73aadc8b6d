/-! WORDS: shortest, the letters -/
theorem nI_dec (m : Nat) : nI m + Int32.ofInt (-1) = nI m - 1 := by rw [Int32.sub_eq_add_neg]; rfl
/-- pairs reached behind just i letters from (a, a) -/
def rchF (L : Nat → Nat → Nat → Option Nat) (hr ohr a : Nat) : Nat → Nat → Prop
  | 0, p => p = a * 8 + a
  | i + 1, p => nxtP L hr ohr i (rchF L hr ohr a i) 64 p
/-- pairs from which g is reached by just m letters more, k gone -/
def cnF (L : Nat → Nat → Nat → Option Nat) (hr ohr g : Nat) : Nat → Nat → Nat → Prop
  | 0, _, p => p = g
  | m + 1, k, p => ∃ s, s < 2 ∧ ∃ p', stp L hr ohr p s k = some p' ∧ cnF L hr ohr g m (k + 1) p'
theorem rch_lt {L : Nat → Nat → Nat → Option Nat} (hL : ∀ c s hr t, L c s hr = some t → t < 8) {hr ohr a : Nat} (ha : a < 8) : ∀ {i p : Nat}, rchF L hr ohr a i p → p < 64
  | 0, p, h => by
    have h' : p = a * 8 + a := h
    omega
  | i + 1, p, h => by
    obtain ⟨p0, _, _, s, _, h3⟩ := h
    exact stp_lt hL h3
theorem nxtP_cong {L : Nat → Nat → Nat → Option Nat} {hr ohr i : Nat} {F F' : Nat → Prop} (h : ∀ p, p < 64 → (F p ↔ F' p)) (p : Nat) : nxtP L hr ohr i F 64 p ↔ nxtP L hr ohr i F' 64 p :=
  ⟨fun ⟨p0, h1, h2, h3⟩ => ⟨p0, h1, (h p0 h1).mp h2, h3⟩, fun ⟨p0, h1, h2, h3⟩ => ⟨p0, h1, (h p0 h1).mpr h2, h3⟩⟩
/-- a way of m letters more, looked at from its end -/
theorem rch_cn {L : Nat → Nat → Nat → Option Nat} (hL : ∀ c s hr t, L c s hr = some t → t < 8) {hr ohr a g : Nat} (ha : a < 8) : ∀ {m k : Nat}, rchF L hr ohr a (k + m) g ↔ ∃ p, rchF L hr ohr a k p ∧ cnF L hr ohr g m k p
  | 0, k => ⟨fun h => ⟨g, h, rfl⟩, fun ⟨p, h1, h2⟩ => by
      have e : p = g := h2
      rw [← e]; exact h1⟩
  | m + 1, k => by
    rw [show k + (m + 1) = (k + 1) + m by omega, rch_cn hL ha]
    constructor
    · rintro ⟨p, ⟨p0, h1, h2, s, hs, h3⟩, h4⟩
      exact ⟨p0, h2, s, hs, p, h3, h4⟩
    · rintro ⟨p0, h2, s, hs, p, h3, h4⟩
      exact ⟨p, ⟨p0, rch_lt hL ha h2, h2, s, hs, h3⟩, h4⟩
set_option maxRecDepth 20000 in
set_option maxHeartbeats 2000000 in
theorem t_pairN (l9 : Launch) (G : WT) {d : Nat} (hd : 1 ≤ d) (h : HP) (a b : Nat) : MS l9 G yX5_pairOf cX5_pairOf 2 (some .int) d [vi (nI a), vi (nI b)] h (fun r h1 => h1 = h ∧ r = some (vi (pN (some (a * 8 + b))))) := by
  refine MS_of (by decide +kernel) (Nat.le_of_ble_eq_true rfl) (fun X hC hX => ?_)
  show V X G 2 0 _ [] _
  refine v_iload_n hC (pc := 0) (k := 0) 0 rfl dX5_pairOf_0 ?_
  refine v_bipush hC (pc := 1) (v := 8) (by decide +kernel) dX5_pairOf_1 ?_
  refine v_imul hC (pc := 3) dX5_pairOf_3 ?_
  refine v_iload_n hC (pc := 4) (k := 1) 1 rfl dX5_pairOf_4 ?_
  refine v_iadd hC (pc := 5) dX5_pairOf_5 ?_
  refine v_iret hC hX (pc := 6) dX5_pairOf_6 ?_
  refine ⟨rfl, ?_⟩
  show some (vi (nI a * 8 + nI b)) = some (vi (nI (a * 8 + b)))
  rw [show (8 : Int32) = nI 8 from rfl, pk_mul, nI_add]

set_option maxRecDepth 20000 in
set_option maxHeartbeats 2000000 in
theorem t_shortest (l9 : Launch) (G : WT) {d : Nat} (hd : 5 ≤ d) {q : Nat} (hq : q < 5) {L : Nat → Nat → Nat → Option Nat} (h : HP) (hL : LdOK (h.1 (0, q, 6)) (h.1 (0, q, 0) 1) L) {hr ohr : Nat} (hb1 : hr < 1000) (hb2 : ohr < 1000) {a b : Nat} (ha : a < 8) (hb : b < 8) : MS l9 G yX5_shortest cX5_shortest 7 (some .int) d [vr (1, 0, 6), vr (0, q, 0), vi (nI a), vi (nI b), vi (nI hr), vi (nI ohr)] h (fun r h1 => (∃ n, n ≤ 24 ∧ r = some (vi (nI n)) ∧ rchF L hr ohr a n (b * 8 + b) ∧ (∀ m, m < n → ¬ rchF L hr ohr a m (b * 8 + b)) ∧ (∀ j, j ≤ n → ∀ p, p < 64 → (bl (h1.2 (1, 0, 7) j) p ↔ rchF L hr ohr a j p)) ∧ h1.1 = (upI (upI h (1, 0, 6) 1 (nI hr)) (1, 0, 6) 2 (nI ohr)).1 ∧ ∀ k, k ≠ (1, 0, 7) → h1.2 k = h.2 k) ∨ (r = some (vi (-4)) ∧ (∀ m, m ≤ 24 → ¬ rchF L hr ohr a m (b * 8 + b)) ∧ h1.1 = (upI (upI h (1, 0, 6) 1 (nI hr)) (1, 0, 6) 2 (nI ohr)).1 ∧ ∀ k, k ≠ (1, 0, 7) → h1.2 k = h.2 k)) := by
  refine MS_of (by decide +kernel) (Nat.le_of_ble_eq_true rfl) (fun X hC hX => ?_)
  show V X G 7 0 _ [] _
  have hLu : ∀ u : HP, u.1 = (upI (upI h (1, 0, 6) 1 (nI hr)) (1, 0, 6) 2 (nI ohr)).1 → LdOK (u.1 (0, q, 6)) (u.1 (0, q, 0) 1) L := by
    intro u hu
    rw [hu, show (upI (upI h (1, 0, 6) 1 (nI hr)) (1, 0, 6) 2 (nI ohr)).1 (0, q, 6) = h.1 (0, q, 6) from funext fun k => by simp [upI], show (upI (upI h (1, 0, 6) 1 (nI hr)) (1, 0, 6) 2 (nI ohr)).1 (0, q, 0) = h.1 (0, q, 0) from funext fun k => by simp [upI]]
    exact hL
  have loop : ∀ (n i : Nat) (u : HP), i ≤ 24 → 25 ≤ i + n → u.1 = (upI (upI h (1, 0, 6) 1 (nI hr)) (1, 0, 6) 2 (nI ohr)).1 → (∀ k, k ≠ (1, 0, 7) → u.2 k = h.2 k) → (∀ j, j ≤ i → ∀ p, p < 64 → (bl (u.2 (1, 0, 7) j) p ↔ rchF L hr ohr a j p)) → (∀ m, m < i → ¬ rchF L hr ohr a m (b * 8 + b)) → V X G 7 29 [(6, vi (nI i)), (0, vr (1, 0, 6)), (1, vr (0, q, 0)), (2, vi (nI a)), (3, vi (nI b)), (4, vi (nI hr)), (5, vi (nI ohr))] [] u := by
    intro n
    induction n with
    | zero => intro i u h1 h2; exact absurd h2 (by omega)
    | succ n ih =>
      intro i u h1 h2 hu1 hu2 hu3 hu4
      refine v_iload hC (pc := 29) 0 rfl dX5_shortest_29 ?_
      refine v_bipush hC (pc := 31) (v := 24) (by decide +kernel) dX5_shortest_31 ?_
      refine v_icmp_ge hC (pc := 33) (tgt := 89) dX5_shortest_33 (by decide) (fun c_33 => ?_) (fun c_33 => ?_)
      · skip
        have hi : i = 24 := lp_ex (N := 24) c_33 h1 (by decide)
        subst hi
        refine v_aload_n hC (pc := 89) (k := 0) 1 rfl dX5_shortest_89 ?_
        refine v_getR hC (pc := 90) dX5_shortest_90 fl_X5_9 rfl (by first | rfl | exact ok_c hq rfl | exact ok_w hq hw | exact ok_w (by omega) (by omega) | exact ok_s (by omega) (by omega) | exact ok_c (by omega) rfl | assumption) rfl (by decide) (by decide) rfl ?_
        refine v_bipush hC (pc := 93) (v := 24) (by decide +kernel) dX5_shortest_93 ?_
        refine v_lald hC (pc := 95) dX5_shortest_95 rfl (by first | rfl | exact ok_c hq rfl | exact ok_w hq hw | exact ok_w (by omega) (by omega) | exact ok_s (by omega) (by omega) | exact ok_c (by omega) rfl | assumption) (vp_nat (n := 24) (by omega) (by decide)) ?_
        show V X G 7 96 _ (vl (u.2 (1, 0, 7) 24) :: _) _
        refine v_iload_n hC (pc := 96) (k := 3) 4 rfl dX5_shortest_96 ?_
        refine v_iload_n hC (pc := 97) (k := 3) 4 rfl dX5_shortest_97 ?_
        refine v_callS hC (pc := 98) (As := [_, _]) dX5_shortest_98 rfl (t_pairN _ _ (d := d - 1) (by omega) _ _ _) cs_X5_22 (Nat.le_of_ble_eq_true rfl) (by omega) (fun r h' hr => ?_)
        obtain ⟨he9, rfl⟩ := hr
        rw [he9]
        clear he9 h'
        show V _ _ _ (98 + 3) _ (_ :: _) _
        refine v_callS hC (pc := 101) (As := [_]) dX5_shortest_101 rfl (t_wbit _ _ (d := d - 1) (by omega) _ (o := some (b * 8 + b)) (fun p z => by cases z; omega)) cs_X5_26 (Nat.le_of_ble_eq_true rfl) (by omega) (fun r h' hr => ?_)
        obtain ⟨he9, rfl⟩ := hr
        rw [he9]
        clear he9 h'
        show V _ _ _ (101 + 3) _ (_ :: _) _
        refine v_land hC (pc := 104) dX5_shortest_104 ?_
        refine v_lconst hC (pc := 105) (v := 0) (by decide) dX5_shortest_105 ?_
        refine v_lcmp hC (pc := 106) dX5_shortest_106 ?_
        refine v_if_eq hC (pc := 107) (tgt := 115) dX5_shortest_107 (by decide) (fun c_107 => ?_) (fun c_107 => ?_)
        · skip
          have hg : ¬ rchF L hr ohr a 24 (b * 8 + b) := fun y => (bl_has (show b * 8 + b < 64 by omega)).mp (lcmp0.mp c_107) ((hu3 24 (Nat.le_refl _) _ (by omega)).mpr y)
          refine v_bipush hC (pc := 115) (v := (-4)) (by decide +kernel) dX5_shortest_115 ?_
          refine v_iret hC hX (pc := 117) dX5_shortest_117 ?_
          first | exact Or.inl ⟨24, by omega, rfl, hg, hu4, hu3, hu1, hu2⟩ | exact Or.inr ⟨rfl, fun m hm => by
              rcases Nat.lt_or_ge m 24 with y | y
              · exact hu4 m y
              · have e : m = 24 := by omega
                rw [e]; exact hg, hu1, hu2⟩
        · skip
          have hg : rchF L hr ohr a 24 (b * 8 + b) := Classical.not_not.mp (fun z => c_107 (lcmp0.mpr ((bl_has (show b * 8 + b < 64 by omega)).mpr (fun y => z ((hu3 24 (Nat.le_refl _) _ (by omega)).mp y)))))
          refine v_bipush hC (pc := 110) (v := 24) (by decide +kernel) dX5_shortest_110 ?_
          refine v_goto hC (pc := 112) (tgt := 117) dX5_shortest_112 (by decide) ?_
          refine v_iret hC hX (pc := 117) dX5_shortest_117 ?_
          first | exact Or.inl ⟨24, by omega, rfl, hg, hu4, hu3, hu1, hu2⟩ | exact Or.inr ⟨rfl, fun m hm => by
              rcases Nat.lt_or_ge m 24 with y | y
              · exact hu4 m y
              · have e : m = 24 := by omega
                rw [e]; exact hg, hu1, hu2⟩
      · skip
        have hi : i < 24 := lp_in (N := 24) c_33 h1 (by decide)
        refine v_aload_n hC (pc := 36) (k := 0) 1 rfl dX5_shortest_36 ?_
        refine v_getR hC (pc := 37) dX5_shortest_37 fl_X5_9 rfl (by first | rfl | exact ok_c hq rfl | exact ok_w hq hw | exact ok_w (by omega) (by omega) | exact ok_s (by omega) (by omega) | exact ok_c (by omega) rfl | assumption) rfl (by decide) (by decide) rfl ?_
        refine v_iload hC (pc := 40) 0 rfl dX5_shortest_40 ?_
        refine v_lald hC (pc := 42) dX5_shortest_42 rfl (by first | rfl | exact ok_c hq rfl | exact ok_w hq hw | exact ok_w (by omega) (by omega) | exact ok_s (by omega) (by omega) | exact ok_c (by omega) rfl | assumption) (vp_nat (by omega) (by decide)) ?_
        rw [nI_clamp (show i < 2 ^ 31 by omega)]
        refine v_iload_n hC (pc := 43) (k := 3) 4 rfl dX5_shortest_43 ?_
        refine v_iload_n hC (pc := 44) (k := 3) 4 rfl dX5_shortest_44 ?_
        refine v_callS hC (pc := 45) (As := [_, _]) dX5_shortest_45 rfl (t_pairN _ _ (d := d - 1) (by omega) _ _ _) cs_X5_22 (Nat.le_of_ble_eq_true rfl) (by omega) (fun r h' hr => ?_)
        obtain ⟨he9, rfl⟩ := hr
        rw [he9]
        clear he9 h'
        show V _ _ _ (45 + 3) _ (_ :: _) _
        refine v_callS hC (pc := 48) (As := [_]) dX5_shortest_48 rfl (t_wbit _ _ (d := d - 1) (by omega) _ (o := some (b * 8 + b)) (fun p z => by cases z; omega)) cs_X5_26 (Nat.le_of_ble_eq_true rfl) (by omega) (fun r h' hr => ?_)
        obtain ⟨he9, rfl⟩ := hr
        rw [he9]
        clear he9 h'
        show V _ _ _ (48 + 3) _ (_ :: _) _
        refine v_land hC (pc := 51) dX5_shortest_51 ?_
        refine v_lconst hC (pc := 52) (v := 0) (by decide) dX5_shortest_52 ?_
        refine v_lcmp hC (pc := 53) dX5_shortest_53 ?_
        refine v_if_eq hC (pc := 54) (tgt := 60) dX5_shortest_54 (by decide) (fun c_54 => ?_) (fun c_54 => ?_)
        · skip
          have hg : ¬ rchF L hr ohr a i (b * 8 + b) := fun y => (bl_has (show b * 8 + b < 64 by omega)).mp (lcmp0.mp c_54) ((hu3 i (Nat.le_refl _) _ (by omega)).mpr y)
          refine v_aload_n hC (pc := 60) (k := 0) 1 rfl dX5_shortest_60 ?_
          refine v_getR hC (pc := 61) dX5_shortest_61 fl_X5_9 rfl (by first | rfl | exact ok_c hq rfl | exact ok_w hq hw | exact ok_w (by omega) (by omega) | exact ok_s (by omega) (by omega) | exact ok_c (by omega) rfl | assumption) rfl (by decide) (by decide) rfl ?_
          refine v_iload hC (pc := 64) 0 rfl dX5_shortest_64 ?_
          refine v_iconst hC (pc := 66) (v := 1) (by decide) dX5_shortest_66 ?_
          refine v_iadd hC (pc := 67) dX5_shortest_67 ?_
          refine v_aload_n hC (pc := 68) (k := 0) 1 rfl dX5_shortest_68 ?_
          refine v_aload_n hC (pc := 69) (k := 1) 2 rfl dX5_shortest_69 ?_
          refine v_aload_n hC (pc := 70) (k := 0) 1 rfl dX5_shortest_70 ?_
          refine v_getR hC (pc := 71) dX5_shortest_71 fl_X5_9 rfl (by first | rfl | exact ok_c hq rfl | exact ok_w hq hw | exact ok_w (by omega) (by omega) | exact ok_s (by omega) (by omega) | exact ok_c (by omega) rfl | assumption) rfl (by decide) (by decide) rfl ?_
          refine v_iload hC (pc := 74) 0 rfl dX5_shortest_74 ?_
          refine v_lald hC (pc := 76) dX5_shortest_76 rfl (by first | rfl | exact ok_c hq rfl | exact ok_w hq hw | exact ok_w (by omega) (by omega) | exact ok_s (by omega) (by omega) | exact ok_c (by omega) rfl | assumption) (vp_nat (by omega) (by decide)) ?_
          rw [nI_clamp (show i < 2 ^ 31 by omega)]
          refine v_iload hC (pc := 77) 0 rfl dX5_shortest_77 ?_
          refine v_callV hC (pc := 79) (As := [_, _, _]) dX5_shortest_79 rfl (t_stepAll _ _ (d := d - 1) (by omega) hq u (hLu u hu1) (hr := hr) (ohr := ohr) (by rw [hu1]; simp [upI]) (by rw [hu1]; simp [upI]) hb1 hb2 _ (show i < 1000 by omega)) cv_X5_30 rfl (by decide) rfl (by first | rfl | exact ok_c hq rfl | exact ok_w hq hw | exact ok_w (by omega) (by omega) | exact ok_s (by omega) (by omega) | exact ok_c (by omega) rfl | assumption) (Nat.le_of_ble_eq_true rfl) (by omega) (fun r h' hr => ?_)
          obtain ⟨he9, z, rfl, hz⟩ := hr
          rw [he9]
          clear he9 h'
          show V _ _ _ (79 + 3) _ (_ :: _) _
          refine v_last hC (pc := 82) dX5_shortest_82 rfl (by first | rfl | exact ok_c hq rfl | exact ok_w hq hw | exact ok_w (by omega) (by omega) | exact ok_s (by omega) (by omega) | exact ok_c (by omega) rfl | assumption) (by rw [nI_1]; exact vp_nat (by omega) (by decide)) ?_
          refine v_iinc hC (pc := 83) (l' := [(6, _), (0, _), (1, _), (2, _), (3, _), (4, _), (5, _)]) 0 (v := nI (i + 1)) dX5_shortest_83 rfl (nI_inc i) (by decide) rfl ?_
          refine v_goto hC (pc := 86) (tgt := 29) dX5_shortest_86 (by decide) ?_
          refine ih (i + 1) _ (by omega) (by omega) hu1 (fun k hk => ?_) (fun j hj p hp => ?_) (fun j hj => ?_)
          · rw [upL_ne _ _ _ hk]; exact hu2 k hk
          · rw [nI_1, nI_clamp (show i + 1 < 2 ^ 31 by omega)]
            by_cases e : j = i + 1
            · subst e
              simp only [upL, and_self, if_true]
              rw [hz p hp]
              exact nxtP_cong (fun p' hp' => hu3 i (Nat.le_refl _) p' hp') p
            · simp only [upL, e, and_false, if_false]
              exact hu3 j (by omega) p hp
          · rcases Nat.lt_or_ge j i with y | y
            · exact hu4 j y
            · have e : j = i := by omega
              rw [e]; exact hg
        · skip
          refine v_iload hC (pc := 57) 0 rfl dX5_shortest_57 ?_
          refine v_iret hC hX (pc := 59) dX5_shortest_59 ?_
          have hg : rchF L hr ohr a i (b * 8 + b) := Classical.not_not.mp (fun z => c_54 (lcmp0.mpr ((bl_has (show b * 8 + b < 64 by omega)).mpr (fun y => z ((hu3 i (Nat.le_refl _) _ (by omega)).mp y)))))
          exact Or.inl ⟨i, by omega, rfl, hg, hu4, hu3, hu1, hu2⟩
  refine v_aload_n hC (pc := 0) (k := 0) 0 rfl dX5_shortest_0 ?_
  refine v_iload hC (pc := 1) 4 rfl dX5_shortest_1 ?_
  refine v_putI hC (pc := 3) dX5_shortest_3 fs_X5_15 rfl (by first | rfl | exact ok_c hq rfl | exact ok_w hq hw | exact ok_w (by omega) (by omega) | exact ok_s (by omega) (by omega) | exact ok_c (by omega) rfl | assumption) rfl (by decide) (by decide) ?_
  refine v_aload_n hC (pc := 6) (k := 0) 0 rfl dX5_shortest_6 ?_
  refine v_iload hC (pc := 7) 5 rfl dX5_shortest_7 ?_
  refine v_putI hC (pc := 9) dX5_shortest_9 fs_X5_19 rfl (by first | rfl | exact ok_c hq rfl | exact ok_w hq hw | exact ok_w (by omega) (by omega) | exact ok_s (by omega) (by omega) | exact ok_c (by omega) rfl | assumption) rfl (by decide) (by decide) ?_
  refine v_aload_n hC (pc := 12) (k := 0) 0 rfl dX5_shortest_12 ?_
  refine v_getR hC (pc := 13) dX5_shortest_13 fl_X5_9 rfl (by first | rfl | exact ok_c hq rfl | exact ok_w hq hw | exact ok_w (by omega) (by omega) | exact ok_s (by omega) (by omega) | exact ok_c (by omega) rfl | assumption) rfl (by decide) (by decide) rfl ?_
  refine v_iconst hC (pc := 16) (v := 0) (by decide) dX5_shortest_16 ?_
  refine v_iload_n hC (pc := 17) (k := 2) 2 rfl dX5_shortest_17 ?_
  refine v_iload_n hC (pc := 18) (k := 2) 2 rfl dX5_shortest_18 ?_
  refine v_callS hC (pc := 19) (As := [_, _]) dX5_shortest_19 rfl (t_pairN _ _ (d := d - 1) (by omega) _ _ _) cs_X5_22 (Nat.le_of_ble_eq_true rfl) (by omega) (fun r h' hr => ?_)
  obtain ⟨he9, rfl⟩ := hr
  rw [he9]
  clear he9 h'
  show V _ _ _ (19 + 3) _ (_ :: _) _
  refine v_callS hC (pc := 22) (As := [_]) dX5_shortest_22 rfl (t_wbit _ _ (d := d - 1) (by omega) _ (o := some (a * 8 + a)) (fun p z => by cases z; omega)) cs_X5_26 (Nat.le_of_ble_eq_true rfl) (by omega) (fun r h' hr => ?_)
  obtain ⟨he9, rfl⟩ := hr
  rw [he9]
  clear he9 h'
  show V _ _ _ (22 + 3) _ (_ :: _) _
  refine v_last hC (pc := 25) dX5_shortest_25 rfl (by first | rfl | exact ok_c hq rfl | exact ok_w hq hw | exact ok_w (by omega) (by omega) | exact ok_s (by omega) (by omega) | exact ok_c (by omega) rfl | assumption) (vp_nat (n := 0) (by omega) (by decide)) ?_
  refine v_iconst hC (pc := 26) (v := 0) (by decide) dX5_shortest_26 ?_
  refine v_istore hC (pc := 27) (l' := [(6, _), (0, _), (1, _), (2, _), (3, _), (4, _), (5, _)]) dX5_shortest_27 (by decide) rfl ?_
  refine loop 25 0 _ (by omega) (by omega) rfl (fun k hk => ?_) (fun j hj p hp => ?_) (fun j hj => absurd hj (Nat.not_lt_zero j))
  · rw [upL_ne _ _ _ hk]; rfl
  · have e : j = 0 := by omega
    subst e
    show bl ((upL (upI (upI h (1, 0, 6) 1 (nI hr)) (1, 0, 6) 2 (nI ohr)) (1, 0, 7) 0 (bO (some (a * 8 + a)))).2 (1, 0, 7) 0) p ↔ _
    simp only [upL, and_self, if_true]
    rw [bl_bO p hp]
    exact ⟨fun z => by cases z; rfl, fun z => by
      have z' : p = a * 8 + a := z
      rw [z']⟩

