/-! WORDS: the letters -/
/-- the letter k of the first way of n letters, one being at p -/
noncomputable def ltF (L : Nat → Nat → Nat → Option Nat) (hr ohr g n k p : Nat) : Nat := @ite Nat (∃ p', stp L hr ohr p 0 k = some p' ∧ cnF L hr ohr g (n - (k + 1)) (k + 1) p') (Classical.propDecidable _) 0 1
noncomputable def curF (L : Nat → Nat → Nat → Option Nat) (hr ohr g n a : Nat) : Nat → Nat
  | 0 => a * 8 + a
  | k + 1 => (stp L hr ohr (curF L hr ohr g n a k) (ltF L hr ohr g n k (curF L hr ohr g n a k)) k).getD 0
theorem cur_ok {L : Nat → Nat → Nat → Option Nat} {hr ohr g n k p : Nat} (hk : k < n) (h : cnF L hr ohr g (n - k) k p) : ∃ p', stp L hr ohr p (ltF L hr ohr g n k p) k = some p' ∧ cnF L hr ohr g (n - (k + 1)) (k + 1) p' := by
  rw [show n - k = (n - (k + 1)) + 1 by omega] at h
  obtain ⟨s, hs, p', h1, h2⟩ := h
  unfold ltF
  rcases Classical.em (∃ p', stp L hr ohr p 0 k = some p' ∧ cnF L hr ohr g (n - (k + 1)) (k + 1) p') with e | e
  · rw [if_pos e]; exact e
  · rw [if_neg e]
    rcases (show s = 0 ∨ s = 1 by omega) with rfl | rfl
    · exact absurd ⟨p', h1, h2⟩ e
    · exact ⟨p', h1, h2⟩
/-- what a row holds behind the trimming -/
def trmP (L : Nat → Nat → Nat → Option Nat) (hr ohr a g n k p : Nat) : Prop := rchF L hr ohr a k p ∧ cnF L hr ohr g (n - k) k p
theorem trm_s {L : Nat → Nat → Nat → Option Nat} (hL : ∀ c s hr t, L c s hr = some t → t < 8) {hr ohr a g n k p : Nat} (ha : a < 8) (hk : k < n) : trmP L hr ohr a g n k p ↔ intP L hr ohr k (rchF L hr ohr a k) (trmP L hr ohr a g n (k + 1)) p := by
  constructor
  · rintro ⟨h1, h2⟩
    rw [show n - k = (n - (k + 1)) + 1 by omega] at h2
    obtain ⟨s, hs, p', h3, h4⟩ := h2
    exact ⟨h1, s, hs, p', h3, ⟨p, rch_lt hL ha h1, h1, s, hs, h3⟩, h4⟩
  · rintro ⟨h1, s, hs, p', h3, -, h4⟩
    refine ⟨h1, ?_⟩
    rw [show n - k = (n - (k + 1)) + 1 by omega]
    exact ⟨s, hs, p', h3, h4⟩
theorem intP_cong {L : Nat → Nat → Nat → Option Nat} (hL : ∀ c s hr t, L c s hr = some t → t < 8) {hr ohr i : Nat} {F F' T T' : Nat → Prop} {p : Nat} (hp : p < 64) (h1 : ∀ p, p < 64 → (F p ↔ F' p)) (h2 : ∀ p, p < 64 → (T p ↔ T' p)) : intP L hr ohr i F T p ↔ intP L hr ohr i F' T' p :=
  ⟨fun ⟨z1, s, hs, p', z2, z3⟩ => ⟨(h1 p hp).mp z1, s, hs, p', z2, (h2 p' (stp_lt hL z2)).mp z3⟩, fun ⟨z1, s, hs, p', z2, z3⟩ => ⟨(h1 p hp).mpr z1, s, hs, p', z2, (h2 p' (stp_lt hL z2)).mpr z3⟩⟩
set_option maxRecDepth 20000 in
set_option maxHeartbeats 2000000 in
theorem t_letterOf (l9 : Launch) (G : WT) {d : Nat} (hd : 5 ≤ d) {q : Nat} (hq : q < 5) {L : Nat → Nat → Nat → Option Nat} (h : HP) (hL : LdOK (h.1 (0, q, 6)) (h.1 (0, q, 0) 1) L) {hr ohr : Nat} (hb1 : hr < 1000) (hb2 : ohr < 1000) (hhr : h.1 (1, 0, 6) 1 = nI hr) (hohr : h.1 (1, 0, 6) 2 = nI ohr) {a b n0 i : Nat} (ha : a < 8) (hb : b < 8) (hn24 : n0 ≤ 24) (hi : i < n0) (hreach : rchF L hr ohr a n0 (b * 8 + b)) (hrows : ∀ j, j ≤ n0 → ∀ p, p < 64 → (bl (h.2 (1, 0, 7) j) p ↔ rchF L hr ohr a j p)) : MS l9 G yX5_letterOf cX5_letterOf 10 (some .int) d [vr (1, 0, 6), vr (0, q, 0), vi (nI a), vi (nI b), vi (nI n0), vi (nI i)] h (fun r h1 => r = some (vi (nI (ltF L hr ohr (b * 8 + b) n0 i (curF L hr ohr (b * 8 + b) n0 a i)))) ∧ h1.1 = h.1 ∧ ∀ k, k ≠ (1, 0, 7) → h1.2 k = h.2 k) := by
  refine MS_of (by decide +kernel) (Nat.le_of_ble_eq_true rfl) (fun X hC hX => ?_)
  show V X G 10 0 _ [] _
  have letters : ∀ (u : HP), u.1 = h.1 → (∀ k, k ≠ (1, 0, 7) → u.2 k = h.2 k) → (∀ j, j ≤ n0 → ∀ p, p < 64 → (bl (u.2 (1, 0, 7) j) p ↔ trmP L hr ohr a (b * 8 + b) n0 j p)) → ∀ (n k : Nat) (f : Int32), k ≤ i + 1 → i + 3 ≤ k + n → (rchF L hr ohr a k (curF L hr ohr (b * 8 + b) n0 a k) ∧ cnF L hr ohr (b * 8 + b) (n0 - k) k (curF L hr ohr (b * 8 + b) n0 a k)) → (0 < k → f = nI (ltF L hr ohr (b * 8 + b) n0 (k - 1) (curF L hr ohr (b * 8 + b) n0 a (k - 1)))) → V X G 10 91 [(8, vi (nI k)), (7, vi f), (6, vi (nI (curF L hr ohr (b * 8 + b) n0 a k))), (0, vr (1, 0, 6)), (1, vr (0, q, 0)), (2, vi (nI a)), (3, vi (nI b)), (4, vi (nI n0)), (5, vi (nI i))] [] u := by
    intro u hu1 hu2 hu3 n
    induction n with
    | zero => intro k f h1 h2; exact absurd h2 (by omega)
    | succ n ih =>
      intro k f h1 h2 hc hf
      refine v_iload hC (pc := 91) 0 rfl dX5_letterOf_91 ?_
      refine v_iload hC (pc := 93) 8 rfl dX5_letterOf_93 ?_
      refine v_icmp_gt hC (pc := 95) (tgt := 172) dX5_letterOf_95 (by decide) (fun c_95 => ?_) (fun c_95 => ?_)
      · skip
        have hk : k = i + 1 := by have := lp_gt c_95 (show i < 2 ^ 31 by omega) (show k < 2 ^ 31 by omega); omega
        refine v_iload hC (pc := 172) 1 rfl dX5_letterOf_172 ?_
        refine v_iret hC hX (pc := 174) dX5_letterOf_174 ?_
        exact ⟨by rw [hk] at hf; rw [hf (by omega)]; rfl, hu1, hu2⟩
      · skip
        have hk : k ≤ i := lp_ngt c_95 (show i < 2 ^ 31 by omega) (show k < 2 ^ 31 by omega)
        refine v_iload hC (pc := 98) 0 rfl dX5_letterOf_98 ?_
        refine v_iload hC (pc := 100) 7 rfl dX5_letterOf_100 ?_
        refine v_icmp_ge hC (pc := 102) (tgt := 172) dX5_letterOf_102 (by decide) (fun c_102 => ?_) (fun c_102 => ?_)
        · exact absurd c_102 (nI_ge (show k < n0 by omega) (by omega))
        · skip
          have hc64 : curF L hr ohr (b * 8 + b) n0 a k < 64 := rch_lt hL.2 ha hc.1
          have hLu : LdOK (u.1 (0, q, 6)) (u.1 (0, q, 0) 1) L := by rw [hu1]; exact hL
          have key : bO (stp L hr ohr (curF L hr ohr (b * 8 + b) n0 a k) 0 k) &&& u.2 (1, 0, 7) (k + 1) = 0 ↔ ¬ ∃ p', stp L hr ohr (curF L hr ohr (b * 8 + b) n0 a k) 0 k = some p' ∧ cnF L hr ohr (b * 8 + b) (n0 - (k + 1)) (k + 1) p' := by
            rw [bl_any]
            constructor
            · rintro z ⟨p', z1, z2⟩
              have hp' := stp_lt hL.2 z1
              exact z p' hp' ⟨(bl_bO p' hp').mpr z1, (hu3 (k + 1) (by omega) p' hp').mpr ⟨⟨_, hc64, hc.1, 0, by decide, z1⟩, z2⟩⟩
            · rintro z p' hp' ⟨z1, z2⟩
              exact z ⟨p', (bl_bO p' hp').mp z1, ((hu3 (k + 1) (by omega) p' hp').mp z2).2⟩
          have hno := fun z => mt key.mp (fun y => y z)
          have hyes := key.mpr
          refine v_aload_n hC (pc := 105) (k := 0) 3 rfl dX5_letterOf_105 ?_
          refine v_aload_n hC (pc := 106) (k := 1) 4 rfl dX5_letterOf_106 ?_
          refine v_iload hC (pc := 107) 2 rfl dX5_letterOf_107 ?_
          refine v_iconst hC (pc := 109) (v := 0) (by decide) dX5_letterOf_109 ?_
          refine v_iload hC (pc := 110) 0 rfl dX5_letterOf_110 ?_
          refine v_callV hC (pc := 112) (As := [_, _, _, _]) dX5_letterOf_112 rfl (t_step _ _ (d := d - 1) (by omega) hq u hLu (by rw [hu1]; exact hhr) (by rw [hu1]; exact hohr) hb1 hb2 hc64 (s := 0) (by decide) (show k < 1000 by omega)) cv_X5_38 rfl (by decide) rfl (by first | rfl | exact ok_c hq rfl | exact ok_w hq hw | exact ok_w (by omega) (by omega) | exact ok_s (by omega) (by omega) | exact ok_c (by omega) rfl | assumption) (Nat.le_of_ble_eq_true rfl) (by omega) (fun r h' hr => ?_)
          obtain ⟨he9, rfl⟩ := hr
          rw [he9]
          clear he9 h'
          show V _ _ _ (112 + 3) _ (_ :: _) _
          refine v_istore hC (pc := 115) (l' := [(9, _), (8, _), (7, _), (6, _), (0, _), (1, _), (2, _), (3, _), (4, _), (5, _)]) dX5_letterOf_115 (by decide) rfl ?_
          refine v_iload hC (pc := 117) 0 rfl dX5_letterOf_117 ?_
          refine v_callS hC (pc := 119) (As := [_]) dX5_letterOf_119 rfl (t_wbit _ _ (d := d - 1) (by omega) _ (o := stp L hr ohr (curF L hr ohr (b * 8 + b) n0 a k) 0 k) (fun p z => stp_lt hL.2 z)) cs_X5_26 (Nat.le_of_ble_eq_true rfl) (by omega) (fun r h' hr => ?_)
          obtain ⟨he9, rfl⟩ := hr
          rw [he9]
          clear he9 h'
          show V _ _ _ (119 + 3) _ (_ :: _) _
          refine v_aload_n hC (pc := 122) (k := 0) 4 rfl dX5_letterOf_122 ?_
          refine v_getR hC (pc := 123) dX5_letterOf_123 fl_X5_9 rfl (by first | rfl | exact ok_c hq rfl | exact ok_w hq hw | exact ok_w (by omega) (by omega) | exact ok_s (by omega) (by omega) | exact ok_c (by omega) rfl | assumption) rfl (by decide) (by decide) rfl ?_
          refine v_iload hC (pc := 126) 1 rfl dX5_letterOf_126 ?_
          refine v_iconst hC (pc := 128) (v := 1) (by decide) dX5_letterOf_128 ?_
          refine v_iadd hC (pc := 129) dX5_letterOf_129 ?_
          refine v_lald hC (pc := 130) dX5_letterOf_130 rfl (by first | rfl | exact ok_c hq rfl | exact ok_w hq hw | exact ok_w (by omega) (by omega) | exact ok_s (by omega) (by omega) | exact ok_c (by omega) rfl | assumption) (by rw [nI_1]; exact vp_nat (show k + 1 < 25 by omega) (by decide)) ?_
          rw [nI_1, nI_clamp (show k + 1 < 2 ^ 31 by omega)]
          refine v_land hC (pc := 131) dX5_letterOf_131 ?_
          refine v_lconst hC (pc := 132) (v := 0) (by decide) dX5_letterOf_132 ?_
          refine v_lcmp hC (pc := 133) dX5_letterOf_133 ?_
          refine v_if_eq hC (pc := 134) (tgt := 141) dX5_letterOf_134 (by decide) (fun c_134 => ?_) (fun c_134 => ?_)
          · skip
            have hN : ¬ ∃ p', stp L hr ohr (curF L hr ohr (b * 8 + b) n0 a k) 0 k = some p' ∧ cnF L hr ohr (b * 8 + b) (n0 - (k + 1)) (k + 1) p' := fun z => hno z (lcmp0.mp c_134)
            have hlt : ltF L hr ohr (b * 8 + b) n0 k (curF L hr ohr (b * 8 + b) n0 a k) = 1 := if_neg hN
            refine v_iconst hC (pc := 141) (v := 1) (by decide) dX5_letterOf_141 ?_
            refine v_istore hC (pc := 142) (l' := [(7, _), (9, _), (8, _), (6, _), (0, _), (1, _), (2, _), (3, _), (4, _), (5, _)]) dX5_letterOf_142 (by decide) rfl ?_
            refine v_iload hC (pc := 144) 0 rfl dX5_letterOf_144 ?_
            refine v_if_ne hC (pc := 146) (tgt := 154) dX5_letterOf_146 (by decide) (fun c_146 => ?_) (fun c_146 => ?_)
            · skip
              refine v_aload_n hC (pc := 154) (k := 0) 4 rfl dX5_letterOf_154 ?_
              refine v_aload_n hC (pc := 155) (k := 1) 5 rfl dX5_letterOf_155 ?_
              refine v_iload hC (pc := 156) 3 rfl dX5_letterOf_156 ?_
              refine v_iconst hC (pc := 158) (v := 1) (by decide) dX5_letterOf_158 ?_
              refine v_iload hC (pc := 159) 2 rfl dX5_letterOf_159 ?_
              refine v_callV hC (pc := 161) (As := [_, _, _, _]) dX5_letterOf_161 rfl (t_step _ _ (d := d - 1) (by omega) hq u hLu (by rw [hu1]; exact hhr) (by rw [hu1]; exact hohr) hb1 hb2 hc64 (s := 1) (by decide) (show k < 1000 by omega)) cv_X5_38 rfl (by decide) rfl (by first | rfl | exact ok_c hq rfl | exact ok_w hq hw | exact ok_w (by omega) (by omega) | exact ok_s (by omega) (by omega) | exact ok_c (by omega) rfl | assumption) (Nat.le_of_ble_eq_true rfl) (by omega) (fun r h' hr => ?_)
              obtain ⟨he9, rfl⟩ := hr
              rw [he9]
              clear he9 h'
              show V _ _ _ (161 + 3) _ (_ :: _) _
              refine v_istore hC (pc := 164) (l' := [(6, _), (7, _), (9, _), (8, _), (0, _), (1, _), (2, _), (3, _), (4, _), (5, _)]) dX5_letterOf_164 (by decide) rfl ?_
              refine v_iinc hC (pc := 166) (l' := [(8, _), (6, _), (7, _), (9, _), (0, _), (1, _), (2, _), (3, _), (4, _), (5, _)]) 3 (v := nI (k + 1)) dX5_letterOf_166 rfl (nI_inc k) (by decide) rfl ?_
              refine v_goto hC (pc := 169) (tgt := 91) dX5_letterOf_169 (by decide) ?_
              refine v_loc (l' := [(8, _), (7, _), (6, _), (0, _), (1, _), (2, _), (3, _), (4, _), (5, _)]) [0, 2, 1, 4, 5, 6, 7, 8, 9] rfl ?_
              obtain ⟨p', hp1, hp2⟩ := cur_ok (show k < n0 by omega) hc.2
              have hcs : curF L hr ohr (b * 8 + b) n0 a (k + 1) = p' := by rw [curF, hp1]; rfl
              refine v_loc (l' := [(8, vi (nI (k + 1))), (7, vi (nI (ltF L hr ohr (b * 8 + b) n0 k (curF L hr ohr (b * 8 + b) n0 a k)))), (6, vi (nI (curF L hr ohr (b * 8 + b) n0 a (k + 1)))), (0, vr (1, 0, 6)), (1, vr (0, q, 0)), (2, vi (nI a)), (3, vi (nI b)), (4, vi (nI n0)), (5, vi (nI i))]) [0, 1, 2, 3, 4, 5, 6, 7, 8] (by rw [hlt] at hp1 ⊢; rw [hcs, hp1]; rfl) ?_
              refine ih (k + 1) _ (by omega) (by omega) ?_ (fun _ => rfl)
              rw [hcs]
              refine ⟨⟨_, hc64, hc.1, _, ?_, hp1⟩, hp2⟩
              rw [hlt]; decide
            · exact absurd c_146 (by decide)
          · skip
            have hY : ∃ p', stp L hr ohr (curF L hr ohr (b * 8 + b) n0 a k) 0 k = some p' ∧ cnF L hr ohr (b * 8 + b) (n0 - (k + 1)) (k + 1) p' := Classical.not_not.mp (fun z => c_134 (lcmp0.mpr (hyes z)))
            have hlt : ltF L hr ohr (b * 8 + b) n0 k (curF L hr ohr (b * 8 + b) n0 a k) = 0 := if_pos hY
            refine v_iconst hC (pc := 137) (v := 0) (by decide) dX5_letterOf_137 ?_
            refine v_goto hC (pc := 138) (tgt := 142) dX5_letterOf_138 (by decide) ?_
            refine v_istore hC (pc := 142) (l' := [(7, _), (9, _), (8, _), (6, _), (0, _), (1, _), (2, _), (3, _), (4, _), (5, _)]) dX5_letterOf_142 (by decide) rfl ?_
            refine v_iload hC (pc := 144) 0 rfl dX5_letterOf_144 ?_
            refine v_if_ne hC (pc := 146) (tgt := 154) dX5_letterOf_146 (by decide) (fun c_146 => ?_) (fun c_146 => ?_)
            · exact absurd c_146 (by decide)
            · skip
              refine v_iload hC (pc := 149) 1 rfl dX5_letterOf_149 ?_
              refine v_goto hC (pc := 151) (tgt := 164) dX5_letterOf_151 (by decide) ?_
              refine v_istore hC (pc := 164) (l' := [(6, _), (7, _), (9, _), (8, _), (0, _), (1, _), (2, _), (3, _), (4, _), (5, _)]) dX5_letterOf_164 (by decide) rfl ?_
              refine v_iinc hC (pc := 166) (l' := [(8, _), (6, _), (7, _), (9, _), (0, _), (1, _), (2, _), (3, _), (4, _), (5, _)]) 3 (v := nI (k + 1)) dX5_letterOf_166 rfl (nI_inc k) (by decide) rfl ?_
              refine v_goto hC (pc := 169) (tgt := 91) dX5_letterOf_169 (by decide) ?_
              refine v_loc (l' := [(8, _), (7, _), (6, _), (0, _), (1, _), (2, _), (3, _), (4, _), (5, _)]) [0, 2, 1, 4, 5, 6, 7, 8, 9] rfl ?_
              obtain ⟨p', hp1, hp2⟩ := cur_ok (show k < n0 by omega) hc.2
              have hcs : curF L hr ohr (b * 8 + b) n0 a (k + 1) = p' := by rw [curF, hp1]; rfl
              refine v_loc (l' := [(8, vi (nI (k + 1))), (7, vi (nI (ltF L hr ohr (b * 8 + b) n0 k (curF L hr ohr (b * 8 + b) n0 a k)))), (6, vi (nI (curF L hr ohr (b * 8 + b) n0 a (k + 1)))), (0, vr (1, 0, 6)), (1, vr (0, q, 0)), (2, vi (nI a)), (3, vi (nI b)), (4, vi (nI n0)), (5, vi (nI i))]) [0, 1, 2, 3, 4, 5, 6, 7, 8] (by rw [hlt] at hp1 ⊢; rw [hcs, hp1]; rfl) ?_
              refine ih (k + 1) _ (by omega) (by omega) ?_ (fun _ => rfl)
              rw [hcs]
              refine ⟨⟨_, hc64, hc.1, _, ?_, hp1⟩, hp2⟩
              rw [hlt]; decide
  have trim : (∀ u : HP, u.1 = h.1 → (∀ k, k ≠ (1, 0, 7) → u.2 k = h.2 k) → (∀ j, j ≤ n0 → ∀ p, p < 64 → (bl (u.2 (1, 0, 7) j) p ↔ if 0 ≤ j then trmP L hr ohr a (b * 8 + b) n0 j p else rchF L hr ohr a j p)) → V X G 10 77 [(6, vi (nI 0 - 1)), (0, vr (1, 0, 6)), (1, vr (0, q, 0)), (2, vi (nI a)), (3, vi (nI b)), (4, vi (nI n0)), (5, vi (nI i))] [] u) → ∀ (m : Nat) (u : HP), m ≤ n0 → u.1 = h.1 → (∀ k, k ≠ (1, 0, 7) → u.2 k = h.2 k) → (∀ j, j ≤ n0 → ∀ p, p < 64 → (bl (u.2 (1, 0, 7) j) p ↔ if m ≤ j then trmP L hr ohr a (b * 8 + b) n0 j p else rchF L hr ohr a j p)) → V X G 10 36 [(6, vi (nI m - 1)), (0, vr (1, 0, 6)), (1, vr (0, q, 0)), (2, vi (nI a)), (3, vi (nI b)), (4, vi (nI n0)), (5, vi (nI i))] [] u := by
    intro k9 m
    induction m with
    | zero =>
      intro u hmn hu1 hu2 hu3
      have hm : (0 : Nat) = 0 := rfl
      refine v_iload hC (pc := 36) 0 rfl dX5_letterOf_36 ?_
      refine v_if_lt hC (pc := 38) (tgt := 77) dX5_letterOf_38 (by decide) (fun c_38 => ?_) (fun c_38 => ?_)
      · skip
        skip
        exact k9 u hu1 hu2 hu3
      · exact absurd (show nI 0 - 1 < 0 by decide +kernel) c_38
    | succ m ih =>
      intro u hmn hu1 hu2 hu3
      refine v_iload hC (pc := 36) 0 rfl dX5_letterOf_36 ?_
      refine v_if_lt hC (pc := 38) (tgt := 77) dX5_letterOf_38 (by decide) (fun c_38 => ?_) (fun c_38 => ?_)
      · exact absurd (by rw [nI_pred] at c_38; exact c_38) (nI_pos (show m < 2 ^ 31 by omega))
      · skip
        rw [nI_pred] at *
        clear c_38
        refine v_aload_n hC (pc := 41) (k := 0) 1 rfl dX5_letterOf_41 ?_
        refine v_getR hC (pc := 42) dX5_letterOf_42 fl_X5_9 rfl (by first | rfl | exact ok_c hq rfl | exact ok_w hq hw | exact ok_w (by omega) (by omega) | exact ok_s (by omega) (by omega) | exact ok_c (by omega) rfl | assumption) rfl (by decide) (by decide) rfl ?_
        refine v_iload hC (pc := 45) 0 rfl dX5_letterOf_45 ?_
        refine v_aload_n hC (pc := 47) (k := 0) 1 rfl dX5_letterOf_47 ?_
        refine v_aload_n hC (pc := 48) (k := 1) 2 rfl dX5_letterOf_48 ?_
        refine v_aload_n hC (pc := 49) (k := 0) 1 rfl dX5_letterOf_49 ?_
        refine v_getR hC (pc := 50) dX5_letterOf_50 fl_X5_9 rfl (by first | rfl | exact ok_c hq rfl | exact ok_w hq hw | exact ok_w (by omega) (by omega) | exact ok_s (by omega) (by omega) | exact ok_c (by omega) rfl | assumption) rfl (by decide) (by decide) rfl ?_
        refine v_iload hC (pc := 53) 0 rfl dX5_letterOf_53 ?_
        refine v_iconst hC (pc := 55) (v := 1) (by decide) dX5_letterOf_55 ?_
        refine v_iadd hC (pc := 56) dX5_letterOf_56 ?_
        refine v_lald hC (pc := 57) dX5_letterOf_57 rfl (by first | rfl | exact ok_c hq rfl | exact ok_w hq hw | exact ok_w (by omega) (by omega) | exact ok_s (by omega) (by omega) | exact ok_c (by omega) rfl | assumption) (by rw [nI_1]; exact vp_nat (show m + 1 < 25 by omega) (by decide)) ?_
        rw [nI_1, nI_clamp (show m + 1 < 2 ^ 31 by omega)]
        refine v_aload_n hC (pc := 58) (k := 0) 1 rfl dX5_letterOf_58 ?_
        refine v_getR hC (pc := 59) dX5_letterOf_59 fl_X5_9 rfl (by first | rfl | exact ok_c hq rfl | exact ok_w hq hw | exact ok_w (by omega) (by omega) | exact ok_s (by omega) (by omega) | exact ok_c (by omega) rfl | assumption) rfl (by decide) (by decide) rfl ?_
        refine v_iload hC (pc := 62) 0 rfl dX5_letterOf_62 ?_
        refine v_lald hC (pc := 64) dX5_letterOf_64 rfl (by first | rfl | exact ok_c hq rfl | exact ok_w hq hw | exact ok_w (by omega) (by omega) | exact ok_s (by omega) (by omega) | exact ok_c (by omega) rfl | assumption) (vp_nat (show m < 25 by omega) (by decide)) ?_
        rw [nI_clamp (show m < 2 ^ 31 by omega)]
        refine v_iload hC (pc := 65) 0 rfl dX5_letterOf_65 ?_
        refine v_callV hC (pc := 67) (As := [_, _, _, _]) dX5_letterOf_67 rfl (t_those _ _ (d := d - 1) (by omega) hq u (by rw [hu1]; exact hL) (hr := hr) (ohr := ohr) (by rw [hu1]; exact hhr) (by rw [hu1]; exact hohr) hb1 hb2 _ _ (show m < 1000 by omega)) cv_X5_34 rfl (by decide) rfl (by first | rfl | exact ok_c hq rfl | exact ok_w hq hw | exact ok_w (by omega) (by omega) | exact ok_s (by omega) (by omega) | exact ok_c (by omega) rfl | assumption) (Nat.le_of_ble_eq_true rfl) (by omega) (fun r h' hr => ?_)
        obtain ⟨he9, z, rfl, hz⟩ := hr
        rw [he9]
        clear he9 h'
        show V _ _ _ (67 + 3) _ (_ :: _) _
        refine v_last hC (pc := 70) dX5_letterOf_70 rfl (by first | rfl | exact ok_c hq rfl | exact ok_w hq hw | exact ok_w (by omega) (by omega) | exact ok_s (by omega) (by omega) | exact ok_c (by omega) rfl | assumption) (vp_nat (show m < 25 by omega) (by decide)) ?_
        refine v_iinc hC (pc := 71) (l' := [(6, _), (0, _), (1, _), (2, _), (3, _), (4, _), (5, _)]) 0 (v := nI m - 1) dX5_letterOf_71 rfl (nI_dec m) (by decide) rfl ?_
        refine v_goto hC (pc := 74) (tgt := 36) dX5_letterOf_74 (by decide) ?_
        refine ih _ (by omega) hu1 (fun k hk => ?_) (fun j hj p hp => ?_)
        · rw [upL_ne _ _ _ hk]; exact hu2 k hk
        · rw [nI_clamp (show m < 2 ^ 31 by omega)]
          have hzz : bl z p ↔ trmP L hr ohr a (b * 8 + b) n0 m p := by
            rw [hz p hp, trm_s hL.2 ha (show m < n0 by omega)]
            refine intP_cong hL.2 hp (fun p' hp' => ?_) (fun p' hp' => ?_)
            · have e := hu3 m (by omega) p' hp'
              rw [if_neg (show ¬ m + 1 ≤ m by omega)] at e
              exact e
            · have e := hu3 (m + 1) (by omega) p' hp'
              rw [if_pos (Nat.le_refl _)] at e
              exact e
          by_cases e : j = m
          · subst e
            rw [if_pos (Nat.le_refl _)]
            simp only [upL, and_self, if_true]
            exact hzz
          · simp only [upL, e, and_false, if_false]
            have e2 := hu3 j hj p hp
            by_cases e3 : m ≤ j
            · rw [if_pos e3]
              rw [if_pos (show m + 1 ≤ j by omega)] at e2
              exact e2
            · rw [if_neg e3]
              rw [if_neg (show ¬ m + 1 ≤ j by omega)] at e2
              exact e2
  refine v_iload hC (pc := 0) 4 rfl dX5_letterOf_0 ?_
  refine v_if_lt hC (pc := 2) (tgt := 12) dX5_letterOf_2 (by decide) (fun c_2 => ?_) (fun c_2 => ?_)
  · exact absurd c_2 (nI_pos (show n0 < 2 ^ 31 by omega))
  · skip
    refine v_iload hC (pc := 5) 4 rfl dX5_letterOf_5 ?_
    refine v_bipush hC (pc := 7) (v := 24) (by decide +kernel) dX5_letterOf_7 ?_
    refine v_icmp_le hC (pc := 9) (tgt := 15) dX5_letterOf_9 (by decide) (fun c_9 => ?_) (fun c_9 => ?_)
    · skip
      refine v_aload_n hC (pc := 15) (k := 0) 0 rfl dX5_letterOf_15 ?_
      refine v_getR hC (pc := 16) dX5_letterOf_16 fl_X5_9 rfl (by first | rfl | exact ok_c hq rfl | exact ok_w hq hw | exact ok_w (by omega) (by omega) | exact ok_s (by omega) (by omega) | exact ok_c (by omega) rfl | assumption) rfl (by decide) (by decide) rfl ?_
      refine v_iload hC (pc := 19) 4 rfl dX5_letterOf_19 ?_
      refine v_iload_n hC (pc := 21) (k := 3) 3 rfl dX5_letterOf_21 ?_
      refine v_iload_n hC (pc := 22) (k := 3) 3 rfl dX5_letterOf_22 ?_
      refine v_callS hC (pc := 23) (As := [_, _]) dX5_letterOf_23 rfl (t_pairN _ _ (d := d - 1) (by omega) _ _ _) cs_X5_22 (Nat.le_of_ble_eq_true rfl) (by omega) (fun r h' hr => ?_)
      obtain ⟨he9, rfl⟩ := hr
      rw [he9]
      clear he9 h'
      show V _ _ _ (23 + 3) _ (_ :: _) _
      refine v_callS hC (pc := 26) (As := [_]) dX5_letterOf_26 rfl (t_wbit _ _ (d := d - 1) (by omega) _ (o := some (b * 8 + b)) (fun p z => by cases z; omega)) cs_X5_26 (Nat.le_of_ble_eq_true rfl) (by omega) (fun r h' hr => ?_)
      obtain ⟨he9, rfl⟩ := hr
      rw [he9]
      clear he9 h'
      show V _ _ _ (26 + 3) _ (_ :: _) _
      refine v_last hC (pc := 29) dX5_letterOf_29 rfl (by first | rfl | exact ok_c hq rfl | exact ok_w hq hw | exact ok_w (by omega) (by omega) | exact ok_s (by omega) (by omega) | exact ok_c (by omega) rfl | assumption) (vp_nat (by omega) (by decide)) ?_
      refine v_iload hC (pc := 30) 4 rfl dX5_letterOf_30 ?_
      refine v_iconst hC (pc := 32) (v := 1) (by decide) dX5_letterOf_32 ?_
      refine v_isub hC (pc := 33) dX5_letterOf_33 ?_
      refine v_istore hC (pc := 34) (l' := [(6, _), (0, _), (1, _), (2, _), (3, _), (4, _), (5, _)]) dX5_letterOf_34 (by decide) rfl ?_
      refine trim (fun u hu1 hu2 hu3 => ?_) n0 _ (Nat.le_refl _) rfl (fun k hk => ?_) (fun j hj p hp => ?_)
      · refine v_iload_n hC (pc := 77) (k := 2) 3 rfl dX5_letterOf_77 ?_
        refine v_iload_n hC (pc := 78) (k := 2) 3 rfl dX5_letterOf_78 ?_
        skip
        refine v_callS hC (pc := 79) (As := [_, _]) dX5_letterOf_79 rfl (t_pairN _ _ (d := d - 1) (by omega) _ _ _) cs_X5_22 (Nat.le_of_ble_eq_true rfl) (by omega) (fun r h' hr => ?_)
        obtain ⟨he9, rfl⟩ := hr
        rw [he9]
        clear he9 h'
        show V _ _ _ (79 + 3) _ (_ :: _) _
        refine v_istore hC (pc := 82) (l' := [(6, _), (0, _), (1, _), (2, _), (3, _), (4, _), (5, _)]) dX5_letterOf_82 (by decide) rfl ?_
        refine v_bipush hC (pc := 84) (v := (-4)) (by decide +kernel) dX5_letterOf_84 ?_
        refine v_istore hC (pc := 86) (l' := [(7, _), (6, _), (0, _), (1, _), (2, _), (3, _), (4, _), (5, _)]) dX5_letterOf_86 (by decide) rfl ?_
        refine v_iconst hC (pc := 88) (v := 0) (by decide) dX5_letterOf_88 ?_
        refine v_istore hC (pc := 89) (l' := [(8, _), (7, _), (6, _), (0, _), (1, _), (2, _), (3, _), (4, _), (5, _)]) dX5_letterOf_89 (by decide) rfl ?_
        exact letters u hu1 hu2 (fun j hj p hp => by have e := hu3 j hj p hp; rw [if_pos (Nat.zero_le _)] at e; exact e) (i + 3) 0 (-4) (by omega) (by omega) ⟨rfl, (by have := (rch_cn (k := 0) (m := n0) hL.2 ha).mp (by rw [Nat.zero_add]; exact hreach); obtain ⟨p, z1, z2⟩ := this; have z3 : p = a * 8 + a := z1; rw [z3] at z2; exact z2)⟩ (fun z => absurd z (by omega))
      · rw [upL_ne _ _ _ hk]
      · rw [nI_clamp (show n0 < 2 ^ 31 by omega)]
        by_cases e : j = n0
        · subst e
          rw [if_pos (Nat.le_refl _)]
          simp only [upL, and_self, if_true]
          rw [bl_bO p hp]
          constructor
          · intro z
            cases z
            exact ⟨hreach, by rw [Nat.sub_self]; rfl⟩
          · rintro ⟨_, z⟩
            rw [Nat.sub_self] at z
            have z' : p = b * 8 + b := z
            rw [z']
        · rw [if_neg (show ¬ n0 ≤ j by omega)]
          simp only [upL, e, and_false, if_false]
          exact hrows j hj p hp
    · exact absurd (show nI n0 ≤ nI 24 from nI_le hn24 (by decide)) c_9

