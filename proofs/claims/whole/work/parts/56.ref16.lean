/-! THE REFERENCE: who meets -/
/-- a street more, from some corners to some more -/
def suP (A : Nat → Int32) (nC : Nat) (F : Nat → Prop) (p : Nat) : Prop := F p ∨ ∃ c, c < nC ∧ F c ∧ p < nC ∧ Ed A c p
theorem su_wa {A : Nat → Int32} {nC a n : Nat} (p : Nat) : suP A nC (wa A nC a n) p ↔ wa A nC a (n + 1) p := by
  constructor
  · rintro (⟨j, h1, h2⟩ | ⟨c, h1, ⟨j, h2, h3⟩, h4, h5⟩)
    · exact ⟨j, by omega, h2⟩
    · exact ⟨j + 1, by omega, c, h1, h3, h4, h5⟩
  · intro z
    rcases wa_s.mp z with y | ⟨c, h1, h2, h3, h4⟩
    · exact Or.inl y
    · exact Or.inr ⟨c, h1, ⟨n, Nat.le_refl _, h2⟩, h3, h4⟩
def frF (A : Nat → Int32) (nC : Nat) (F : Nat → Prop) (c : Nat) (p : Nat) : Prop := F p ∨ ∃ c', c' < c ∧ F c' ∧ p < nC ∧ Ed A c' p
def frS (A : Nat → Int32) (nC : Nat) (F : Nat → Prop) (c s : Nat) (hour kp : Int32) (p : Nat) : Prop := frF A nC F c p ∨ (F c ∧ ∃ s', s' < s ∧ goM A c s' hour kp = nI p)
theorem frF_s {A : Nat → Int32} {nC : Nat} {F : Nat → Prop} {c p : Nat} : frF A nC F (c + 1) p ↔ frF A nC F c p ∨ (F c ∧ p < nC ∧ Ed A c p) := by
  constructor
  · rintro (z | ⟨c', h1, h2⟩)
    · exact Or.inl (Or.inl z)
    · rcases (show c' < c ∨ c' = c by omega) with q | rfl
      · exact Or.inl (Or.inr ⟨c', q, h2⟩)
      · exact Or.inr h2
  · rintro ((z | ⟨c', h1, h2⟩) | z)
    · exact Or.inl z
    · exact Or.inr ⟨c', by omega, h2⟩
    · exact Or.inr ⟨c, by omega, z⟩
theorem frS_0 {A : Nat → Int32} {nC : Nat} {F : Nat → Prop} {c : Nat} {hour kp : Int32} (p : Nat) : frF A nC F c p ↔ frS A nC F c 0 hour kp p := ⟨Or.inl, fun z => z.elim id (fun ⟨_, _, y, _⟩ => absurd y (Nat.not_lt_zero _))⟩
theorem frS_n {A : Nat → Int32} {nC : Nat} {F : Nat → Prop} {c s : Nat} {hour kp : Int32} (h : ¬ F c) (p : Nat) : frS A nC F c s hour kp p ↔ frF A nC F (c + 1) p := by
  rw [frF_s]
  exact ⟨fun z => z.elim Or.inl (fun y => absurd y.1 h), fun z => z.elim Or.inl (fun y => absurd y.1 h)⟩
theorem frS_s {A : Nat → Int32} {nC : Nat} {F : Nat → Prop} {c s q : Nat} {hour kp : Int32} (h8 : nC ≤ 8) (hF : F c) (hq : q < nC) (e : goM A c s hour kp = nI q) {p : Nat} (hp : p < 32) : (frS A nC F c s hour kp p ∨ p = q) ↔ frS A nC F c (s + 1) hour kp p := by
  constructor
  · rintro ((z | ⟨h1, s', h3, h4⟩) | rfl)
    · exact Or.inl z
    · exact Or.inr ⟨h1, s', by omega, h4⟩
    · exact Or.inr ⟨hF, s, by omega, e⟩
  · rintro (z | ⟨h1, s', h3, h4⟩)
    · exact Or.inl (Or.inl z)
    · rcases (show s' < s ∨ s' = s by omega) with y | rfl
      · exact Or.inl (Or.inr ⟨h1, s', y, h4⟩)
      · exact Or.inr ((nI_eq (by omega) (by omega)).mp (h4.symm.trans e))
theorem goM_cases {A : Nat → Int32} {nC c s : Nat} {hour kp : Int32} (hS : wfS A nC) (hc : c < nC) (hs : s < 2) : (goM A c s hour kp = nI c ∧ ldM A c s hour kp (A 16) = -4) ∨ ∃ q, q < nC ∧ goM A c s hour kp = nI q ∧ ldM A c s hour kp (A 16) = nI q := by
  unfold goM
  rcases ldM_wf hS hc hs hour kp (A 16) with e | ⟨p, hp, e⟩
  · exact Or.inl ⟨if_pos e, e⟩
  · by_cases e2 : ldM A c s hour kp (A 16) = -4
    · exact Or.inl ⟨if_pos e2, e2⟩
    · exact Or.inr ⟨p, hp, by rw [if_neg e2, e], e⟩
theorem frS_2 {A : Nat → Int32} {nC : Nat} {F : Nat → Prop} {c : Nat} {hour kp : Int32} (h8 : nC ≤ 8) (hS : wfS A nC) (hc : c < nC) (hF : F c) {p : Nat} (hp : p < 32) : frS A nC F c 2 hour kp p ↔ frF A nC F (c + 1) p := by
  rw [frF_s]
  constructor
  · rintro (z | ⟨h1, s', h3, h4⟩)
    · exact Or.inl z
    · rcases goM_cases (hour := hour) (kp := kp) hS hc h3 with ⟨e, _⟩ | ⟨q, hq, e, e2⟩
      · have y : p = c := (nI_eq (by omega) (by omega)).mp (h4.symm.trans e)
        exact Or.inl (Or.inl (y ▸ hF))
      · have y : p = q := (nI_eq (by omega) (by omega)).mp (h4.symm.trans e)
        subst y
        exact Or.inr ⟨hF, hq, ldM_Ed.mp ⟨s', h3, e2⟩⟩
  · rintro (z | ⟨h1, h2, h3⟩)
    · exact Or.inl z
    · obtain ⟨s', h4, h5⟩ := (ldM_Ed (hour := hour) (kp := kp) (sg := A 16)).mpr h3
      refine Or.inr ⟨hF, s', h4, ?_⟩
      unfold goM
      rw [if_neg (by rw [h5]; exact nI_n4 (by omega)), h5]
theorem Bs_c32 {x : Int32} {F H : Nat → Prop} (h : Bs x F) (e : ∀ p, p < 32 → (F p ↔ H p)) (hH : ∀ p, H p → p < 32) : Bs x H := fun p => by
  by_cases hp : p < 32
  · rw [h p, e p hp]
  · rw [b_big (by omega)]
    exact ⟨fun z => (by cases z), fun z => absurd (hH p z) hp⟩
theorem Bs_lt {x : Int32} {F : Nat → Prop} (h : Bs x F) {p : Nat} (z : F p) : p < 32 := by
  rcases Nat.lt_or_ge p 32 with q | q
  · exact q
  · have := (h p).mpr z
    rw [b_big q] at this
    cases this
theorem frS_lt {A : Nat → Int32} {nC : Nat} {F : Nat → Prop} {c s : Nat} {hour kp : Int32} (h8 : nC ≤ 8) (hS : wfS A nC) (hc : c < nC) (hs : s ≤ 2) (hF : ∀ p, F p → p < 32) (p : Nat) (hp : p < 2 ^ 31) (h : frS A nC F c s hour kp p) : p < 32 := by
  rcases h with (z | ⟨_, _, _, z, _⟩) | ⟨h1, s', h3, h4⟩
  · exact hF p z
  · omega
  · rcases goM_cases (hour := hour) (kp := kp) hS hc (show s' < 2 by omega) with ⟨e, _⟩ | ⟨q, hq, e, _⟩
    · have y : p = c := (nI_eq (by omega) (by omega)).mp (h4.symm.trans e)
      omega
    · have y : p = q := (nI_eq (by omega) (by omega)).mp (h4.symm.trans e)
      omega
/-- the bits below 32 are a set -/
def Bx (x : Int32) (F : Nat → Prop) : Prop := ∀ p, p < 32 → (bt x p = true ↔ F p)
theorem Bx_of {x : Int32} {F : Nat → Prop} (h : Bs x F) : Bx x F := fun p _ => h p
theorem Bx_or {x y : Int32} {F H : Nat → Prop} (h1 : Bx x F) (h2 : Bs y H) : Bx (x ||| y) (fun p => F p ∨ H p) := fun p hp => by
  rw [b_or, Bool.or_eq_true, h1 p hp, h2 p]
theorem Bx_congr {x : Int32} {F H : Nat → Prop} (h : Bx x F) (e : ∀ p, p < 32 → (F p ↔ H p)) : Bx x H := fun p hp => (h p hp).trans (e p hp)
theorem Bs_of {x : Int32} {F : Nat → Prop} (h : Bx x F) (hF : ∀ p, F p → p < 32) : Bs x F := fun p => by
  by_cases hp : p < 32
  · exact h p hp
  · rw [b_big (by omega)]
    exact ⟨fun z => (by cases z), fun z => absurd (hF p z) hp⟩
set_option maxRecDepth 20000 in
set_option maxHeartbeats 2000000 in
theorem m_freely (l9 : Launch) (G : WT) {d : Nat} (hd : 4 ≤ d) (h : HP) {nC : Nat} (hn8 : nC ≤ 8) (hnc : h.1 (3, 0, 0) 3 = nI nC) {A : Nat → Int32} (hA : h.1 (3, 0, 2) = A) (hS : wfS A nC) {w : Nat} (hw4 : w < 4) {nv : Int32} {F : Nat → Prop} (hnv : Bs nv F) (hour : Int32) : MS l9 G yX7_freely cX7_freely 7 (some .int) d [vr (3, 0, 0), vi (nI w), vi nv, vi hour] h (fun r h1 => h1 = h ∧ ∃ v, r = some (vi v) ∧ Bs v (suP A nC F)) := by
  refine MS_of (by decide +kernel) (Nat.le_of_ble_eq_true rfl) (fun X hC hX => ?_)
  show V X G 7 0 _ [] _
  by_cases ek : A (18 + 6 * w + 2) = 1
  · have cl : ∀ (n c : Nat) (tv : Int32), c ≤ nC → nC + 1 ≤ c + n → Bx tv (frF A nC F c) → V X G 7 6 [(5, vi (nI c)), (4, vi tv), (0, vr (3, 0, 0)), (1, vi (nI w)), (2, vi nv), (3, vi hour)] [] h := by
      intro n
      induction n with
      | zero => intro c tv h1 h2; exact absurd h2 (by omega)
      | succ n ihc =>
        intro c tv h1 h2 htv
        refine v_iload hC (pc := 6) 0 rfl dX7_freely_6 ?_
        refine v_aload_n hC (pc := 8) (k := 0) 2 rfl dX7_freely_8 ?_
        refine v_getI hC (pc := 9) dX7_freely_9 fl_X7_76 rfl (by first | rfl | exact ok_c hq rfl | exact ok_w hq hw | exact ok_w (by omega) (by omega) | exact ok_s (by omega) (by omega) | exact ok_c (by omega) rfl | assumption) rfl (by decide) (by decide) ?_
        refine v_icmp_ge hC (pc := 12) (tgt := 77) dX7_freely_12 (by decide) (fun c_12 => ?_) (fun c_12 => ?_)
        · skip
          have hcn : c = nC := lp_ex (by rw [hnc] at c_12; exact c_12) h1 (by omega)
          subst hcn
          refine v_iload hC (pc := 77) 1 rfl dX7_freely_77 ?_
          refine v_iret hC hX (pc := 79) dX7_freely_79 ?_
          exact ⟨rfl, _, rfl, Bs_of htv (fun p z => z.elim (fun y => Bs_lt hnv y) (fun ⟨_, _, _, y, _⟩ => by omega))⟩
        · skip
          have hc : c < nC := lp_in (by rw [hnc] at c_12; exact c_12) h1 (by omega)
          refine v_iconst hC (pc := 15) (v := 0) (by decide) dX7_freely_15 ?_
          refine v_istore hC (pc := 16) (l' := [(6, _), (5, _), (4, _), (0, _), (1, _), (2, _), (3, _)]) dX7_freely_16 (by decide) rfl ?_
          have nxt : ∀ tv, Bx tv (frF A nC F (c + 1)) → V X G 7 71 [(5, vi (nI c)), (4, vi tv), (0, vr (3, 0, 0)), (1, vi (nI w)), (2, vi nv), (3, vi hour)] [] h := by
            intro tv ht
            refine v_iinc hC (pc := 71) (l' := [(5, _), (4, _), (0, _), (1, _), (2, _), (3, _)]) 0 (v := nI (c + 1)) dX7_freely_71 rfl (nI_inc c) (by decide) rfl ?_
            refine v_goto hC (pc := 74) (tgt := 6) dX7_freely_74 (by decide) ?_
            exact ihc (c + 1) _ (by omega) (by omega) ht
          have sl : ∀ (n s : Nat) (tv : Int32), s ≤ 2 → 3 ≤ s + n → (s = 0 ∨ F c) → Bx tv (frS A nC F c s hour 1) → V X G 7 18 [(6, vi (nI s)), (5, vi (nI c)), (4, vi tv), (0, vr (3, 0, 0)), (1, vi (nI w)), (2, vi nv), (3, vi hour)] [] h := by
            intro n
            induction n with
            | zero => intro s tv h1 h2; exact absurd h2 (by omega)
            | succ n ihs =>
              intro s tv h1 h2 hsf htv
              refine v_iload hC (pc := 18) 0 rfl dX7_freely_18 ?_
              refine v_iconst hC (pc := 20) (v := 2) (by decide) dX7_freely_20 ?_
              refine v_icmp_ge hC (pc := 21) (tgt := 71) dX7_freely_21 (by decide) (fun c_21 => ?_) (fun c_21 => ?_)
              · skip
                have hs3 : s = 2 := lp_ex (N := 2) c_21 h1 (by decide)
                subst hs3
                have hz : Bx tv (frF A nC F (c + 1)) := Bx_congr htv (fun p hp => frS_2 hn8 hS hc ((hsf.resolve_left (by decide))) hp)
                refine v_loc (l' := [(5, _), (4, _), (0, _), (1, _), (2, _), (3, _)]) [1, 2, 3, 4, 5, 6] rfl ?_
                exact nxt _ hz
              · skip
                have hs2 : s < 2 := lp_in (N := 2) c_21 h1 (by decide)
                refine v_iload_n hC (pc := 24) (k := 2) 5 rfl dX7_freely_24 ?_
                refine v_iload hC (pc := 25) 1 rfl dX7_freely_25 ?_
                refine v_ishr hC (pc := 27) dX7_freely_27 ?_
                refine v_iconst hC (pc := 28) (v := 1) (by decide) dX7_freely_28 ?_
                refine v_iand hC (pc := 29) dX7_freely_29 ?_
                refine v_iconst hC (pc := 30) (v := 1) (by decide) dX7_freely_30 ?_
                refine v_icmp_ne hC (pc := 31) (tgt := 71) dX7_freely_31 (by decide) (fun c_31 => ?_) (fun c_31 => ?_)
                · skip
                  have hw : ¬ F c := fun z => c_31 ((Bs_tst hnv (by omega)).mpr z)
                  have hz : Bx tv (frF A nC F (c + 1)) := Bx_congr htv (fun p _ => frS_n hw p)
                  refine v_loc (l' := [(5, _), (4, _), (0, _), (1, _), (2, _), (3, _)]) [1, 2, 3, 4, 5, 6] rfl ?_
                  exact nxt _ hz
                · skip
                  have hw : F c := (Bs_tst hnv (by omega)).mp c_31
                  refine v_iload hC (pc := 34) 2 rfl dX7_freely_34 ?_
                  refine v_iconst hC (pc := 36) (v := 1) (by decide) dX7_freely_36 ?_
                  refine v_aload_n hC (pc := 37) (k := 0) 3 rfl dX7_freely_37 ?_
                  refine v_iload hC (pc := 38) 1 rfl dX7_freely_38 ?_
                  refine v_iload hC (pc := 40) 0 rfl dX7_freely_40 ?_
                  refine v_iload_n hC (pc := 42) (k := 3) 6 rfl dX7_freely_42 ?_
                  refine v_aload_n hC (pc := 43) (k := 0) 3 rfl dX7_freely_43 ?_
                  refine v_iload_n hC (pc := 44) (k := 1) 4 rfl dX7_freely_44 ?_
                  refine v_iconst hC (pc := 45) (v := 2) (by decide) dX7_freely_45 ?_
                  refine v_callV hC (pc := 46) (As := [_, _]) dX7_freely_46 rfl (m_of _ _ (d := d - 1) (by omega) _ (w := w) (by omega) (k := 2) (by decide)) cv_X7_187 rfl (by decide) rfl (by first | rfl | exact ok_c hq rfl | exact ok_w hq hw | exact ok_w (by omega) (by omega) | exact ok_s (by omega) (by omega) | exact ok_c (by omega) rfl | assumption) (Nat.le_of_ble_eq_true rfl) (by omega) (fun r h' hr => ?_)
                  obtain ⟨he9, rfl⟩ := hr
                  rw [he9]
                  clear he9 h'
                  show V X G 7 49 _ (vi (h.1 (3, 0, 2) (18 + 6 * w + 2)) :: _) _
                  rw [hA]
                  show V _ _ _ (46 + 3) _ (_ :: _) _
                  refine v_iconst hC (pc := 49) (v := 1) (by decide) dX7_freely_49 ?_
                  refine v_icmp_ne hC (pc := 50) (tgt := 57) dX7_freely_50 (by decide) (fun c_50 => ?_) (fun c_50 => ?_)
                  · exact absurd ek c_50
                  · skip
                    skip
                    refine v_iconst hC (pc := 53) (v := 1) (by decide) dX7_freely_53 ?_
                    refine v_goto hC (pc := 54) (tgt := 58) dX7_freely_54 (by decide) ?_
                    refine v_callV hC (pc := 58) (As := [_, _, _, _]) dX7_freely_58 rfl (m_goesFrom _ _ (d := d - 1) (by omega) _ (c := c) (s := s) (by omega) hs2 _ _) cv_X7_200 rfl (by decide) rfl (by first | rfl | exact ok_c hq rfl | exact ok_w hq hw | exact ok_w (by omega) (by omega) | exact ok_s (by omega) (by omega) | exact ok_c (by omega) rfl | assumption) (Nat.le_of_ble_eq_true rfl) (by omega) (fun r h' hr => ?_)
                    obtain ⟨he9, rfl⟩ := hr
                    rw [he9]
                    clear he9 h'
                    show V X G 7 61 _ (vi (goM (h.1 (3, 0, 2)) c s hour 1) :: _) _
                    rw [hA]
                    obtain ⟨q, hq, eo⟩ := goM_wf hn8 hS hc hs2 hour 1
                    rw [eo]
                    show V _ _ _ (58 + 3) _ (_ :: _) _
                    refine v_ishl hC (pc := 61) dX7_freely_61 ?_
                    refine v_ior hC (pc := 62) dX7_freely_62 ?_
                    refine v_istore hC (pc := 63) (l' := [(4, _), (6, _), (5, _), (0, _), (1, _), (2, _), (3, _)]) dX7_freely_63 (by decide) rfl ?_
                    refine v_iinc hC (pc := 65) (l' := [(6, _), (4, _), (5, _), (0, _), (1, _), (2, _), (3, _)]) 1 (v := nI (s + 1)) dX7_freely_65 rfl (nI_inc s) (by decide) rfl ?_
                    refine v_goto hC (pc := 68) (tgt := 18) dX7_freely_68 (by decide) ?_
                    refine v_loc (l' := [(6, _), (5, _), (4, _), (0, _), (1, _), (2, _), (3, _)]) [0, 2, 1, 3, 4, 5, 6] rfl ?_
                    exact ihs (s + 1) _ (by omega) (by omega) (Or.inr hw) (Bx_congr (Bx_or htv (Bs_one (q := q) (by omega))) (fun p hp => frS_s hn8 hw hq eo hp))
          exact sl 3 0 _ (by omega) (by omega) (Or.inl rfl) (Bx_congr htv (fun p _ => frS_0 p))
    refine v_iload_n hC (pc := 0) (k := 2) 2 rfl dX7_freely_0 ?_
    refine v_istore hC (pc := 1) (l' := [(4, _), (0, _), (1, _), (2, _), (3, _)]) dX7_freely_1 (by decide) rfl ?_
    refine v_iconst hC (pc := 3) (v := 0) (by decide) dX7_freely_3 ?_
    refine v_istore hC (pc := 4) (l' := [(5, _), (4, _), (0, _), (1, _), (2, _), (3, _)]) dX7_freely_4 (by decide) rfl ?_
    exact cl (nC + 1) 0 _ (by omega) (by omega) (Bx_congr (Bx_of hnv) (fun p _ => ⟨Or.inl, fun z => z.elim id (fun ⟨_, y, _⟩ => absurd y (Nat.not_lt_zero _))⟩))
  · have cl : ∀ (n c : Nat) (tv : Int32), c ≤ nC → nC + 1 ≤ c + n → Bx tv (frF A nC F c) → V X G 7 6 [(5, vi (nI c)), (4, vi tv), (0, vr (3, 0, 0)), (1, vi (nI w)), (2, vi nv), (3, vi hour)] [] h := by
      intro n
      induction n with
      | zero => intro c tv h1 h2; exact absurd h2 (by omega)
      | succ n ihc =>
        intro c tv h1 h2 htv
        refine v_iload hC (pc := 6) 0 rfl dX7_freely_6 ?_
        refine v_aload_n hC (pc := 8) (k := 0) 2 rfl dX7_freely_8 ?_
        refine v_getI hC (pc := 9) dX7_freely_9 fl_X7_76 rfl (by first | rfl | exact ok_c hq rfl | exact ok_w hq hw | exact ok_w (by omega) (by omega) | exact ok_s (by omega) (by omega) | exact ok_c (by omega) rfl | assumption) rfl (by decide) (by decide) ?_
        refine v_icmp_ge hC (pc := 12) (tgt := 77) dX7_freely_12 (by decide) (fun c_12 => ?_) (fun c_12 => ?_)
        · skip
          have hcn : c = nC := lp_ex (by rw [hnc] at c_12; exact c_12) h1 (by omega)
          subst hcn
          refine v_iload hC (pc := 77) 1 rfl dX7_freely_77 ?_
          refine v_iret hC hX (pc := 79) dX7_freely_79 ?_
          exact ⟨rfl, _, rfl, Bs_of htv (fun p z => z.elim (fun y => Bs_lt hnv y) (fun ⟨_, _, _, y, _⟩ => by omega))⟩
        · skip
          have hc : c < nC := lp_in (by rw [hnc] at c_12; exact c_12) h1 (by omega)
          refine v_iconst hC (pc := 15) (v := 0) (by decide) dX7_freely_15 ?_
          refine v_istore hC (pc := 16) (l' := [(6, _), (5, _), (4, _), (0, _), (1, _), (2, _), (3, _)]) dX7_freely_16 (by decide) rfl ?_
          have nxt : ∀ tv, Bx tv (frF A nC F (c + 1)) → V X G 7 71 [(5, vi (nI c)), (4, vi tv), (0, vr (3, 0, 0)), (1, vi (nI w)), (2, vi nv), (3, vi hour)] [] h := by
            intro tv ht
            refine v_iinc hC (pc := 71) (l' := [(5, _), (4, _), (0, _), (1, _), (2, _), (3, _)]) 0 (v := nI (c + 1)) dX7_freely_71 rfl (nI_inc c) (by decide) rfl ?_
            refine v_goto hC (pc := 74) (tgt := 6) dX7_freely_74 (by decide) ?_
            exact ihc (c + 1) _ (by omega) (by omega) ht
          have sl : ∀ (n s : Nat) (tv : Int32), s ≤ 2 → 3 ≤ s + n → (s = 0 ∨ F c) → Bx tv (frS A nC F c s hour 0) → V X G 7 18 [(6, vi (nI s)), (5, vi (nI c)), (4, vi tv), (0, vr (3, 0, 0)), (1, vi (nI w)), (2, vi nv), (3, vi hour)] [] h := by
            intro n
            induction n with
            | zero => intro s tv h1 h2; exact absurd h2 (by omega)
            | succ n ihs =>
              intro s tv h1 h2 hsf htv
              refine v_iload hC (pc := 18) 0 rfl dX7_freely_18 ?_
              refine v_iconst hC (pc := 20) (v := 2) (by decide) dX7_freely_20 ?_
              refine v_icmp_ge hC (pc := 21) (tgt := 71) dX7_freely_21 (by decide) (fun c_21 => ?_) (fun c_21 => ?_)
              · skip
                have hs3 : s = 2 := lp_ex (N := 2) c_21 h1 (by decide)
                subst hs3
                have hz : Bx tv (frF A nC F (c + 1)) := Bx_congr htv (fun p hp => frS_2 hn8 hS hc ((hsf.resolve_left (by decide))) hp)
                refine v_loc (l' := [(5, _), (4, _), (0, _), (1, _), (2, _), (3, _)]) [1, 2, 3, 4, 5, 6] rfl ?_
                exact nxt _ hz
              · skip
                have hs2 : s < 2 := lp_in (N := 2) c_21 h1 (by decide)
                refine v_iload_n hC (pc := 24) (k := 2) 5 rfl dX7_freely_24 ?_
                refine v_iload hC (pc := 25) 1 rfl dX7_freely_25 ?_
                refine v_ishr hC (pc := 27) dX7_freely_27 ?_
                refine v_iconst hC (pc := 28) (v := 1) (by decide) dX7_freely_28 ?_
                refine v_iand hC (pc := 29) dX7_freely_29 ?_
                refine v_iconst hC (pc := 30) (v := 1) (by decide) dX7_freely_30 ?_
                refine v_icmp_ne hC (pc := 31) (tgt := 71) dX7_freely_31 (by decide) (fun c_31 => ?_) (fun c_31 => ?_)
                · skip
                  have hw : ¬ F c := fun z => c_31 ((Bs_tst hnv (by omega)).mpr z)
                  have hz : Bx tv (frF A nC F (c + 1)) := Bx_congr htv (fun p _ => frS_n hw p)
                  refine v_loc (l' := [(5, _), (4, _), (0, _), (1, _), (2, _), (3, _)]) [1, 2, 3, 4, 5, 6] rfl ?_
                  exact nxt _ hz
                · skip
                  have hw : F c := (Bs_tst hnv (by omega)).mp c_31
                  refine v_iload hC (pc := 34) 2 rfl dX7_freely_34 ?_
                  refine v_iconst hC (pc := 36) (v := 1) (by decide) dX7_freely_36 ?_
                  refine v_aload_n hC (pc := 37) (k := 0) 3 rfl dX7_freely_37 ?_
                  refine v_iload hC (pc := 38) 1 rfl dX7_freely_38 ?_
                  refine v_iload hC (pc := 40) 0 rfl dX7_freely_40 ?_
                  refine v_iload_n hC (pc := 42) (k := 3) 6 rfl dX7_freely_42 ?_
                  refine v_aload_n hC (pc := 43) (k := 0) 3 rfl dX7_freely_43 ?_
                  refine v_iload_n hC (pc := 44) (k := 1) 4 rfl dX7_freely_44 ?_
                  refine v_iconst hC (pc := 45) (v := 2) (by decide) dX7_freely_45 ?_
                  refine v_callV hC (pc := 46) (As := [_, _]) dX7_freely_46 rfl (m_of _ _ (d := d - 1) (by omega) _ (w := w) (by omega) (k := 2) (by decide)) cv_X7_187 rfl (by decide) rfl (by first | rfl | exact ok_c hq rfl | exact ok_w hq hw | exact ok_w (by omega) (by omega) | exact ok_s (by omega) (by omega) | exact ok_c (by omega) rfl | assumption) (Nat.le_of_ble_eq_true rfl) (by omega) (fun r h' hr => ?_)
                  obtain ⟨he9, rfl⟩ := hr
                  rw [he9]
                  clear he9 h'
                  show V X G 7 49 _ (vi (h.1 (3, 0, 2) (18 + 6 * w + 2)) :: _) _
                  rw [hA]
                  show V _ _ _ (46 + 3) _ (_ :: _) _
                  refine v_iconst hC (pc := 49) (v := 1) (by decide) dX7_freely_49 ?_
                  refine v_icmp_ne hC (pc := 50) (tgt := 57) dX7_freely_50 (by decide) (fun c_50 => ?_) (fun c_50 => ?_)
                  · skip
                    skip
                    refine v_iconst hC (pc := 57) (v := 0) (by decide) dX7_freely_57 ?_
                    refine v_callV hC (pc := 58) (As := [_, _, _, _]) dX7_freely_58 rfl (m_goesFrom _ _ (d := d - 1) (by omega) _ (c := c) (s := s) (by omega) hs2 _ _) cv_X7_200 rfl (by decide) rfl (by first | rfl | exact ok_c hq rfl | exact ok_w hq hw | exact ok_w (by omega) (by omega) | exact ok_s (by omega) (by omega) | exact ok_c (by omega) rfl | assumption) (Nat.le_of_ble_eq_true rfl) (by omega) (fun r h' hr => ?_)
                    obtain ⟨he9, rfl⟩ := hr
                    rw [he9]
                    clear he9 h'
                    show V X G 7 61 _ (vi (goM (h.1 (3, 0, 2)) c s hour 0) :: _) _
                    rw [hA]
                    obtain ⟨q, hq, eo⟩ := goM_wf hn8 hS hc hs2 hour 0
                    rw [eo]
                    show V _ _ _ (58 + 3) _ (_ :: _) _
                    refine v_ishl hC (pc := 61) dX7_freely_61 ?_
                    refine v_ior hC (pc := 62) dX7_freely_62 ?_
                    refine v_istore hC (pc := 63) (l' := [(4, _), (6, _), (5, _), (0, _), (1, _), (2, _), (3, _)]) dX7_freely_63 (by decide) rfl ?_
                    refine v_iinc hC (pc := 65) (l' := [(6, _), (4, _), (5, _), (0, _), (1, _), (2, _), (3, _)]) 1 (v := nI (s + 1)) dX7_freely_65 rfl (nI_inc s) (by decide) rfl ?_
                    refine v_goto hC (pc := 68) (tgt := 18) dX7_freely_68 (by decide) ?_
                    refine v_loc (l' := [(6, _), (5, _), (4, _), (0, _), (1, _), (2, _), (3, _)]) [0, 2, 1, 3, 4, 5, 6] rfl ?_
                    exact ihs (s + 1) _ (by omega) (by omega) (Or.inr hw) (Bx_congr (Bx_or htv (Bs_one (q := q) (by omega))) (fun p hp => frS_s hn8 hw hq eo hp))
                  · exact absurd c_50 ek
          exact sl 3 0 _ (by omega) (by omega) (Or.inl rfl) (Bx_congr htv (fun p _ => frS_0 p))
    refine v_iload_n hC (pc := 0) (k := 2) 2 rfl dX7_freely_0 ?_
    refine v_istore hC (pc := 1) (l' := [(4, _), (0, _), (1, _), (2, _), (3, _)]) dX7_freely_1 (by decide) rfl ?_
    refine v_iconst hC (pc := 3) (v := 0) (by decide) dX7_freely_3 ?_
    refine v_istore hC (pc := 4) (l' := [(5, _), (4, _), (0, _), (1, _), (2, _), (3, _)]) dX7_freely_4 (by decide) rfl ?_
    exact cl (nC + 1) 0 _ (by omega) (by omega) (Bx_congr (Bx_of hnv) (fun p _ => ⟨Or.inl, fun z => z.elim id (fun ⟨_, y, _⟩ => absurd y (Nat.not_lt_zero _))⟩))

