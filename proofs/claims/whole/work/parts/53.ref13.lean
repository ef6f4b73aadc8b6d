/-! THE REFERENCE: corners that can be reached -/
/-- the bits of a value are a set -/
def Bs (x : Int32) (F : Nat → Prop) : Prop := ∀ p, bt x p = true ↔ F p
theorem b_1 : ∀ i, i < 32 → bt 1 i = decide (i = 0) := by decide +kernel
theorem Bs_or {x y : Int32} {F H : Nat → Prop} (h1 : Bs x F) (h2 : Bs y H) : Bs (x ||| y) (fun p => F p ∨ H p) := fun p => by
  rw [b_or, Bool.or_eq_true, h1 p, h2 p]
theorem Bs_and {x y : Int32} {F H : Nat → Prop} (h1 : Bs x F) (h2 : Bs y H) : Bs (x &&& y) (fun p => F p ∧ H p) := fun p => by
  rw [b_and, Bool.and_eq_true, h1 p, h2 p]
theorem Bs_0 : Bs 0 (fun _ => False) := fun p => by rw [b_0]; exact ⟨fun z => (by cases z), False.elim⟩
theorem Bs_one {q : Nat} (hq : q < 32) : Bs (1 <<< (nI q &&& 31)) (fun p => p = q) := fun p => by
  by_cases hp : p < 32
  · rw [b_shl q hq 1 hp, Bool.and_eq_true, decide_eq_true_iff, b_1 _ (by omega), decide_eq_true_iff]
    omega
  · rw [b_big (by omega)]
    exact ⟨fun z => (by cases z), fun z => by omega⟩
theorem Bs_congr {x : Int32} {F H : Nat → Prop} (h : Bs x F) (e : ∀ p, F p ↔ H p) : Bs x H := fun p => (h p).trans (e p)
theorem Bs_eq {x y : Int32} {F : Nat → Prop} (h1 : Bs x F) (h2 : Bs y F) : x = y := b_ext (fun i _ => by
  rw [Bool.eq_iff_iff, h1 i, h2 i])
theorem b_tst (x : Int32) {c : Nat} (hc : c < 32) : (x >>> (nI c &&& 31)) &&& 1 = 1 ↔ bt x c = true := by
  have e : bt ((x >>> (nI c &&& 31)) &&& 1) 0 = bt x c := by
    rw [b_and, b_sshr c hc x (by decide), if_pos (by omega), b_1 0 (by decide)]
    simp
  constructor
  · intro z
    rw [z] at e
    rw [← e]; decide +kernel
  · intro z
    rcases and1 (x >>> (nI c &&& 31)) with q | q
    · rw [q, b_0, z] at e; cases e
    · exact q
theorem Bs_tst {x : Int32} {F : Nat → Prop} (h : Bs x F) {c : Nat} (hc : c < 32) : (x >>> (nI c &&& 31)) &&& 1 = 1 ↔ F c := (b_tst x hc).trans (h c)
theorem Bs_nz {x : Int32} {F : Nat → Prop} (h : Bs x F) : x = 0 ↔ ∀ p, ¬ F p := by
  constructor
  · rintro rfl p z
    have := (h p).mpr z
    rw [b_0] at this; cases this
  · intro z
    exact Bs_eq (F := F) h (fun p => by rw [b_0]; exact ⟨fun y => (by cases y), fun y => absurd y (z p)⟩)
/-- a street leads from c to p -/
def Ed (A : Nat → Int32) (c p : Nat) : Prop := ∃ s, s < 2 ∧ A (8 * s + c) = nI p
/-- walks of just k streets from a -/
def wn (A : Nat → Int32) (nC a : Nat) : Nat → Nat → Prop
  | 0, p => p = a
  | k + 1, p => ∃ c, c < nC ∧ wn A nC a k c ∧ p < nC ∧ Ed A c p
def wa (A : Nat → Int32) (nC a n : Nat) (p : Nat) : Prop := ∃ j, j ≤ n ∧ wn A nC a j p
theorem wa_s {A : Nat → Int32} {nC a n p : Nat} : wa A nC a (n + 1) p ↔ wa A nC a n p ∨ wn A nC a (n + 1) p := by
  constructor
  · rintro ⟨j, h1, h2⟩
    rcases (show j ≤ n ∨ j = n + 1 by omega) with q | rfl
    · exact Or.inl ⟨j, q, h2⟩
    · exact Or.inr h2
  · rintro (⟨j, h1, h2⟩ | h)
    · exact ⟨j, by omega, h2⟩
    · exact ⟨n + 1, Nat.le_refl _, h⟩
/-- what the first c corners add, and s letters of the next -/
def tnF (A : Nat → Int32) (nC a k c : Nat) (p : Nat) : Prop := ∃ c', c' < c ∧ wn A nC a k c' ∧ p < nC ∧ Ed A c' p
def tsF (A : Nat → Int32) (nC a k c s : Nat) (hour sg : Int32) (p : Nat) : Prop := tnF A nC a k c p ∨ (wn A nC a k c ∧ p < nC ∧ ∃ s', s' < s ∧ ldM A c s' hour 0 sg = nI p)
theorem ldM_Ed {A : Nat → Int32} {c p : Nat} {hour kp sg : Int32} : (∃ s', s' < 2 ∧ ldM A c s' hour kp sg = nI p) ↔ Ed A c p := by
  unfold ldM Ed
  constructor
  · rintro ⟨s, h1, h2⟩
    split at h2
    · exact ⟨1 - s, by omega, h2⟩
    · exact ⟨s, h1, h2⟩
  · rintro ⟨s, h1, h2⟩
    by_cases e : (¬ hour - hour / 24 * 24 < 12) ∧ kp = 0 ∧ (sg >>> (nI c &&& 31)) &&& 1 = 0
    · refine ⟨1 - s, by omega, ?_⟩
      rw [if_pos e, show 1 - (1 - s) = s by omega]
      exact h2
    · refine ⟨s, h1, ?_⟩
      rw [if_neg e]
      exact h2
theorem tsF_0 {A : Nat → Int32} {nC a k c : Nat} {hour sg : Int32} (p : Nat) : tnF A nC a k c p ↔ tsF A nC a k c 0 hour sg p := ⟨Or.inl, fun z => z.elim id (fun ⟨_, _, _, y, _⟩ => absurd y (Nat.not_lt_zero _))⟩
theorem tsF_2 {A : Nat → Int32} {nC a k c : Nat} {hour sg : Int32} (p : Nat) : tsF A nC a k c 2 hour sg p ↔ tnF A nC a k (c + 1) p := by
  unfold tsF
  rw [ldM_Ed]
  constructor
  · rintro (⟨c', h1, h2⟩ | ⟨h1, h2⟩)
    · exact ⟨c', by omega, h2⟩
    · exact ⟨c, by omega, h1, h2⟩
  · rintro ⟨c', h1, h2⟩
    rcases (show c' < c ∨ c' = c by omega) with q | rfl
    · exact Or.inl ⟨c', q, h2⟩
    · exact Or.inr h2
theorem tsF_n {A : Nat → Int32} {nC a k c s : Nat} {hour sg : Int32} (h : ¬ wn A nC a k c) (p : Nat) : tsF A nC a k c s hour sg p ↔ tnF A nC a k (c + 1) p := by
  constructor
  · rintro (⟨c', h1, h2⟩ | ⟨h1, h2⟩)
    · exact ⟨c', by omega, h2⟩
    · exact absurd h1 h
  · rintro ⟨c', h1, h2⟩
    rcases (show c' < c ∨ c' = c by omega) with q | rfl
    · exact Or.inl ⟨c', q, h2⟩
    · exact absurd h2.1 h
theorem tsF_no {A : Nat → Int32} {nC a k c s : Nat} {hour sg : Int32} (h8 : nC ≤ 8) (e : ldM A c s hour 0 sg = -4) (p : Nat) : (tsF A nC a k c s hour sg p ∨ False) ↔ tsF A nC a k c (s + 1) hour sg p := by
  constructor
  · rintro ((z | ⟨h1, h2, s', h3, h4⟩) | z)
    · exact Or.inl z
    · exact Or.inr ⟨h1, h2, s', by omega, h4⟩
    · exact z.elim
  · rintro (z | ⟨h1, h2, s', h3, h4⟩)
    · exact Or.inl (Or.inl z)
    · rcases (show s' < s ∨ s' = s by omega) with q | rfl
      · exact Or.inl (Or.inr ⟨h1, h2, s', q, h4⟩)
      · exact absurd (h4.symm.trans e) (nI_n4 (by omega))
theorem tsF_yes {A : Nat → Int32} {nC a k c s q : Nat} {hour sg : Int32} (h8 : nC ≤ 8) (hw : wn A nC a k c) (hq : q < nC) (e : ldM A c s hour 0 sg = nI q) (p : Nat) : (tsF A nC a k c s hour sg p ∨ p = q) ↔ tsF A nC a k c (s + 1) hour sg p := by
  constructor
  · rintro ((z | ⟨h1, h2, s', h3, h4⟩) | rfl)
    · exact Or.inl z
    · exact Or.inr ⟨h1, h2, s', by omega, h4⟩
    · exact Or.inr ⟨hw, hq, s, by omega, e⟩
  · rintro (z | ⟨h1, h2, s', h3, h4⟩)
    · exact Or.inl (Or.inl z)
    · rcases (show s' < s ∨ s' = s by omega) with y | rfl
      · exact Or.inl (Or.inr ⟨h1, h2, s', y, h4⟩)
      · exact Or.inr ((nI_eq (by omega) (by omega)).mp (h4.symm.trans e))
set_option maxRecDepth 20000 in
set_option maxHeartbeats 2000000 in
theorem m_reachBy (l9 : Launch) (G : WT) {d : Nat} (hd : 3 ≤ d) (h : HP) {nC : Nat} (hn8 : nC ≤ 8) (hnc : h.1 (3, 0, 0) 3 = nI nC) {A : Nat → Int32} (hA : h.1 (3, 0, 2) = A) (hS : wfS A nC) {a n1 : Nat} (ha8 : a < 8) (hn1 : n1 < 1000) (hour sg : Int32) : MS l9 G yX7_reachBy cX7_reachBy 12 (some .int) d [vr (3, 0, 0), vi (nI a), vi hour, vi (nI n1), vi sg] h (fun r h1 => h1 = h ∧ ∃ v, r = some (vi v) ∧ Bs v (wa A nC a n1)) := by
  refine MS_of (by decide +kernel) (Nat.le_of_ble_eq_true rfl) (fun X hC hX => ?_)
  show V X G 12 0 _ [] _
  have loop : ∀ (n k : Nat) (nv av : Int32), k ≤ n1 → n1 + 1 ≤ k + n → Bs nv (wn A nC a k) → Bs av (wa A nC a k) → V X G 12 12 [(7, vi (nI k)), (6, vi av), (5, vi nv), (0, vr (3, 0, 0)), (1, vi (nI a)), (2, vi hour), (3, vi (nI n1)), (4, vi sg)] [] h := by
    intro n
    induction n with
    | zero => intro k nv av h1 h2; exact absurd h2 (by omega)
    | succ n ih =>
      intro k nv av h1 h2 hnv hav
      refine v_iload hC (pc := 12) 0 rfl dX7_reachBy_12 ?_
      refine v_iload_n hC (pc := 14) (k := 3) 6 rfl dX7_reachBy_14 ?_
      refine v_icmp_ge hC (pc := 15) (tgt := 119) dX7_reachBy_15 (by decide) (fun c_15 => ?_) (fun c_15 => ?_)
      · skip
        have hk : k = n1 := lp_ex c_15 h1 (by omega)
        subst hk
        refine v_iload hC (pc := 119) 1 rfl dX7_reachBy_119 ?_
        refine v_iret hC hX (pc := 121) dX7_reachBy_121 ?_
        exact ⟨rfl, _, rfl, hav⟩
      · skip
        have hk : k < n1 := lp_in c_15 h1 (by omega)
        refine v_iconst hC (pc := 18) (v := 0) (by decide) dX7_reachBy_18 ?_
        refine v_istore hC (pc := 19) (l' := [(8, _), (7, _), (6, _), (5, _), (0, _), (1, _), (2, _), (3, _), (4, _)]) dX7_reachBy_19 (by decide) rfl ?_
        refine v_iconst hC (pc := 21) (v := 0) (by decide) dX7_reachBy_21 ?_
        refine v_istore hC (pc := 22) (l' := [(9, _), (8, _), (7, _), (6, _), (5, _), (0, _), (1, _), (2, _), (3, _), (4, _)]) dX7_reachBy_22 (by decide) rfl ?_
        have cl : ∀ (n c : Nat) (tv : Int32), c ≤ nC → nC + 1 ≤ c + n → Bs tv (tnF A nC a k c) → V X G 12 24 [(9, vi (nI c)), (8, vi tv), (7, vi (nI k)), (6, vi av), (5, vi nv), (0, vr (3, 0, 0)), (1, vi (nI a)), (2, vi hour), (3, vi (nI n1)), (4, vi sg)] [] h := by
          intro n
          induction n with
          | zero => intro c tv h1 h2; exact absurd h2 (by omega)
          | succ n ihc =>
            intro c tv h1 h2 htv
            refine v_iload hC (pc := 24) 0 rfl dX7_reachBy_24 ?_
            refine v_aload_n hC (pc := 26) (k := 0) 5 rfl dX7_reachBy_26 ?_
            refine v_getI hC (pc := 27) dX7_reachBy_27 fl_X7_76 rfl (by first | rfl | exact ok_c hq rfl | exact ok_w hq hw | exact ok_w (by omega) (by omega) | exact ok_s (by omega) (by omega) | exact ok_c (by omega) rfl | assumption) rfl (by decide) (by decide) ?_
            refine v_icmp_ge hC (pc := 30) (tgt := 102) dX7_reachBy_30 (by decide) (fun c_30 => ?_) (fun c_30 => ?_)
            · skip
              have hcn : c = nC := lp_ex (by rw [hnc] at c_30; exact c_30) h1 (by omega)
              subst hcn
              refine v_iload hC (pc := 102) 1 rfl dX7_reachBy_102 ?_
              refine v_istore hC (pc := 104) (l' := [(5, _), (9, _), (8, _), (7, _), (6, _), (0, _), (1, _), (2, _), (3, _), (4, _)]) dX7_reachBy_104 (by decide) rfl ?_
              refine v_iload hC (pc := 106) 4 rfl dX7_reachBy_106 ?_
              refine v_iload hC (pc := 108) 0 rfl dX7_reachBy_108 ?_
              refine v_ior hC (pc := 110) dX7_reachBy_110 ?_
              refine v_istore hC (pc := 111) (l' := [(6, _), (5, _), (9, _), (8, _), (7, _), (0, _), (1, _), (2, _), (3, _), (4, _)]) dX7_reachBy_111 (by decide) rfl ?_
              refine v_iinc hC (pc := 113) (l' := [(7, _), (6, _), (5, _), (9, _), (8, _), (0, _), (1, _), (2, _), (3, _), (4, _)]) 4 (v := nI (k + 1)) dX7_reachBy_113 rfl (nI_inc k) (by decide) rfl ?_
              refine v_goto hC (pc := 116) (tgt := 12) dX7_reachBy_116 (by decide) ?_
              refine v_loc (l' := [(7, _), (6, _), (5, _), (0, _), (1, _), (2, _), (3, _), (4, _)]) [0, 1, 2, 5, 6, 7, 8, 9] rfl ?_
              exact ih (k + 1) _ _ (by omega) (by omega) htv (Bs_congr (Bs_or hav htv) (fun p => (wa_s).symm))
            · skip
              have hc : c < nC := lp_in (by rw [hnc] at c_30; exact c_30) h1 (by omega)
              refine v_iconst hC (pc := 33) (v := 0) (by decide) dX7_reachBy_33 ?_
              refine v_istore hC (pc := 34) (l' := [(10, _), (9, _), (8, _), (7, _), (6, _), (5, _), (0, _), (1, _), (2, _), (3, _), (4, _)]) dX7_reachBy_34 (by decide) rfl ?_
              have nxt : ∀ tv, Bs tv (tnF A nC a k (c + 1)) → V X G 12 96 [(9, vi (nI c)), (8, vi tv), (7, vi (nI k)), (6, vi av), (5, vi nv), (0, vr (3, 0, 0)), (1, vi (nI a)), (2, vi hour), (3, vi (nI n1)), (4, vi sg)] [] h := by
                intro tv ht
                refine v_iinc hC (pc := 96) (l' := [(9, _), (8, _), (7, _), (6, _), (5, _), (0, _), (1, _), (2, _), (3, _), (4, _)]) 0 (v := nI (c + 1)) dX7_reachBy_96 rfl (nI_inc c) (by decide) rfl ?_
                refine v_goto hC (pc := 99) (tgt := 24) dX7_reachBy_99 (by decide) ?_
                exact ihc (c + 1) _ (by omega) (by omega) ht
              have sl : ∀ (n s : Nat) (tv : Int32), s ≤ 2 → 3 ≤ s + n → Bs tv (tsF A nC a k c s (hour + nI k) sg) → V X G 12 36 [(10, vi (nI s)), (9, vi (nI c)), (8, vi tv), (7, vi (nI k)), (6, vi av), (5, vi nv), (0, vr (3, 0, 0)), (1, vi (nI a)), (2, vi hour), (3, vi (nI n1)), (4, vi sg)] [] h := by
                intro n
                induction n with
                | zero => intro s tv h1 h2; exact absurd h2 (by omega)
                | succ n ihs =>
                  intro s tv h1 h2 htv
                  refine v_iload hC (pc := 36) 0 rfl dX7_reachBy_36 ?_
                  refine v_iconst hC (pc := 38) (v := 2) (by decide) dX7_reachBy_38 ?_
                  refine v_icmp_ge hC (pc := 39) (tgt := 96) dX7_reachBy_39 (by decide) (fun c_39 => ?_) (fun c_39 => ?_)
                  · skip
                    have hs3 : s = 2 := lp_ex (N := 2) c_39 h1 (by decide)
                    subst hs3
                    have hz := tsF_2 (A := A) (nC := nC) (a := a) (k := k) (c := c) (hour := hour + nI k) (sg := sg)
                    refine v_loc (l' := [(9, _), (8, _), (7, _), (6, _), (5, _), (0, _), (1, _), (2, _), (3, _), (4, _)]) [1, 2, 3, 4, 5, 6, 7, 8, 9, 10] rfl ?_
                    exact nxt _ (Bs_congr htv hz)
                  · skip
                    have hs2 : s < 2 := lp_in (N := 2) c_39 h1 (by decide)
                    refine v_iload hC (pc := 42) 5 rfl dX7_reachBy_42 ?_
                    refine v_iload hC (pc := 44) 1 rfl dX7_reachBy_44 ?_
                    refine v_ishr hC (pc := 46) dX7_reachBy_46 ?_
                    refine v_iconst hC (pc := 47) (v := 1) (by decide) dX7_reachBy_47 ?_
                    refine v_iand hC (pc := 48) dX7_reachBy_48 ?_
                    refine v_iconst hC (pc := 49) (v := 1) (by decide) dX7_reachBy_49 ?_
                    refine v_icmp_ne hC (pc := 50) (tgt := 96) dX7_reachBy_50 (by decide) (fun c_50 => ?_) (fun c_50 => ?_)
                    · skip
                      have hw : ¬ wn A nC a k c := fun z => c_50 ((Bs_tst hnv (by omega)).mpr z)
                      have hz := tsF_n (s := s) (hour := hour + nI k) (sg := sg) hw
                      refine v_loc (l' := [(9, _), (8, _), (7, _), (6, _), (5, _), (0, _), (1, _), (2, _), (3, _), (4, _)]) [1, 2, 3, 4, 5, 6, 7, 8, 9, 10] rfl ?_
                      exact nxt _ (Bs_congr htv hz)
                    · skip
                      have hw : wn A nC a k c := (Bs_tst hnv (by omega)).mp c_50
                      refine v_aload_n hC (pc := 53) (k := 0) 6 rfl dX7_reachBy_53 ?_
                      refine v_iload hC (pc := 54) 1 rfl dX7_reachBy_54 ?_
                      refine v_iload hC (pc := 56) 0 rfl dX7_reachBy_56 ?_
                      refine v_iload_n hC (pc := 58) (k := 2) 8 rfl dX7_reachBy_58 ?_
                      refine v_iload hC (pc := 59) 3 rfl dX7_reachBy_59 ?_
                      refine v_iadd hC (pc := 61) dX7_reachBy_61 ?_
                      refine v_iconst hC (pc := 62) (v := 0) (by decide) dX7_reachBy_62 ?_
                      refine v_iload hC (pc := 63) 10 rfl dX7_reachBy_63 ?_
                      refine v_callV hC (pc := 65) (As := [_, _, _, _, _]) dX7_reachBy_65 rfl (m_leadsBy _ _ (d := d - 1) (by omega) _ (c := c) (s := s) (by omega) hs2 _ 0 _) cv_X7_183 rfl (by decide) rfl (by first | rfl | exact ok_c hq rfl | exact ok_w hq hw | exact ok_w (by omega) (by omega) | exact ok_s (by omega) (by omega) | exact ok_c (by omega) rfl | assumption) (Nat.le_of_ble_eq_true rfl) (by omega) (fun r h' hr => ?_)
                      obtain ⟨he9, rfl⟩ := hr
                      rw [he9]
                      clear he9 h'
                      show V X G 12 68 _ (vi (ldM (h.1 (3, 0, 2)) c s (hour + nI k) 0 sg) :: _) _
                      rw [hA]
                      generalize eo : ldM A c s (hour + nI k) 0 sg = xo at *
                      show V _ _ _ (65 + 3) _ (_ :: _) _
                      refine v_istore hC (pc := 68) (l' := [(11, _), (10, _), (9, _), (8, _), (7, _), (6, _), (5, _), (0, _), (1, _), (2, _), (3, _), (4, _)]) dX7_reachBy_68 (by decide) rfl ?_
                      refine v_iload hC (pc := 70) 3 rfl dX7_reachBy_70 ?_
                      refine v_iload hC (pc := 72) 0 rfl dX7_reachBy_72 ?_
                      refine v_bipush hC (pc := 74) (v := (-4)) (by decide +kernel) dX7_reachBy_74 ?_
                      refine v_icmp_ne hC (pc := 76) (tgt := 83) dX7_reachBy_76 (by decide) (fun c_76 => ?_) (fun c_76 => ?_)
                      · skip
                        obtain ⟨q, hq, rfl⟩ : ∃ q, q < nC ∧ xo = nI q := by
                          rcases ldM_wf hS hc hs2 (hour + nI k) 0 sg with y | y
                          · exact absurd (eo.symm.trans y) c_76
                          · rw [eo] at y; exact y
                        refine v_iconst hC (pc := 83) (v := 1) (by decide) dX7_reachBy_83 ?_
                        refine v_iload hC (pc := 84) 0 rfl dX7_reachBy_84 ?_
                        refine v_ishl hC (pc := 86) dX7_reachBy_86 ?_
                        refine v_ior hC (pc := 87) dX7_reachBy_87 ?_
                        refine v_istore hC (pc := 88) (l' := [(8, _), (11, _), (10, _), (9, _), (7, _), (6, _), (5, _), (0, _), (1, _), (2, _), (3, _), (4, _)]) dX7_reachBy_88 (by decide) rfl ?_
                        refine v_iinc hC (pc := 90) (l' := [(10, _), (8, _), (11, _), (9, _), (7, _), (6, _), (5, _), (0, _), (1, _), (2, _), (3, _), (4, _)]) 2 (v := nI (s + 1)) dX7_reachBy_90 rfl (nI_inc s) (by decide) rfl ?_
                        refine v_goto hC (pc := 93) (tgt := 36) dX7_reachBy_93 (by decide) ?_
                        refine v_loc (l' := [(10, _), (9, _), (8, _), (7, _), (6, _), (5, _), (0, _), (1, _), (2, _), (3, _), (4, _)]) [0, 3, 1, 4, 5, 6, 7, 8, 9, 10, 11] rfl ?_
                        first | exact ihs (s + 1) _ (by omega) (by omega) (Bs_congr (Bs_or htv (Bs_one (q := q) (by omega))) (fun p => tsF_yes hn8 hw hq eo p)) | exact ihs (s + 1) _ (by omega) (by omega) (Bs_congr (Bs_or htv Bs_0) (fun p => tsF_no hn8 (eo.trans c_76) p))
                      · skip
                        refine v_iconst hC (pc := 79) (v := 0) (by decide) dX7_reachBy_79 ?_
                        refine v_goto hC (pc := 80) (tgt := 87) dX7_reachBy_80 (by decide) ?_
                        refine v_ior hC (pc := 87) dX7_reachBy_87 ?_
                        refine v_istore hC (pc := 88) (l' := [(8, _), (11, _), (10, _), (9, _), (7, _), (6, _), (5, _), (0, _), (1, _), (2, _), (3, _), (4, _)]) dX7_reachBy_88 (by decide) rfl ?_
                        refine v_iinc hC (pc := 90) (l' := [(10, _), (8, _), (11, _), (9, _), (7, _), (6, _), (5, _), (0, _), (1, _), (2, _), (3, _), (4, _)]) 2 (v := nI (s + 1)) dX7_reachBy_90 rfl (nI_inc s) (by decide) rfl ?_
                        refine v_goto hC (pc := 93) (tgt := 36) dX7_reachBy_93 (by decide) ?_
                        refine v_loc (l' := [(10, _), (9, _), (8, _), (7, _), (6, _), (5, _), (0, _), (1, _), (2, _), (3, _), (4, _)]) [0, 3, 1, 4, 5, 6, 7, 8, 9, 10, 11] rfl ?_
                        first | exact ihs (s + 1) _ (by omega) (by omega) (Bs_congr (Bs_or htv (Bs_one (q := q) (by omega))) (fun p => tsF_yes hn8 hw hq eo p)) | exact ihs (s + 1) _ (by omega) (by omega) (Bs_congr (Bs_or htv Bs_0) (fun p => tsF_no hn8 (eo.trans c_76) p))
              exact sl 3 0 _ (by omega) (by omega) (Bs_congr htv (fun p => tsF_0 p))
        exact cl (nC + 1) 0 0 (by omega) (by omega) (fun p => by rw [b_0]; exact ⟨fun z => (by cases z), fun ⟨_, y, _⟩ => absurd y (Nat.not_lt_zero _)⟩)
  refine v_iconst hC (pc := 0) (v := 1) (by decide) dX7_reachBy_0 ?_
  refine v_iload_n hC (pc := 1) (k := 1) 1 rfl dX7_reachBy_1 ?_
  refine v_ishl hC (pc := 2) dX7_reachBy_2 ?_
  refine v_istore hC (pc := 3) (l' := [(5, _), (0, _), (1, _), (2, _), (3, _), (4, _)]) dX7_reachBy_3 (by decide) rfl ?_
  refine v_iload hC (pc := 5) 0 rfl dX7_reachBy_5 ?_
  refine v_istore hC (pc := 7) (l' := [(6, _), (5, _), (0, _), (1, _), (2, _), (3, _), (4, _)]) dX7_reachBy_7 (by decide) rfl ?_
  refine v_iconst hC (pc := 9) (v := 0) (by decide) dX7_reachBy_9 ?_
  refine v_istore hC (pc := 10) (l' := [(7, _), (6, _), (5, _), (0, _), (1, _), (2, _), (3, _), (4, _)]) dX7_reachBy_10 (by decide) rfl ?_
  exact loop (n1 + 1) 0 _ _ (by omega) (by omega) (Bs_one (by omega)) (Bs_congr (Bs_one (by omega)) (fun p => ⟨fun z => ⟨0, Nat.le_refl _, z⟩, fun ⟨j, y1, y2⟩ => by
    have e : j = 0 := by omega
    subst e
    exact y2⟩))

