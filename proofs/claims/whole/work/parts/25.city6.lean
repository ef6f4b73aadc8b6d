/-! ROWS filled and copied; CITY, WALKER: writes -/
def filR (f : Nat → Int32) (n : Nat) (v : Int32) : Nat → Int32 := fun k => if k < n then v else f k
def filRL (f : Nat → Int64) (n : Nat) (v : Int64) : Nat → Int64 := fun k => if k < n then v else f k
theorem upR_id (h : HP) (i : PId) : upR h i (h.1 i) = h := by
  unfold upR
  refine Prod.ext (funext fun j => funext fun k => ?_) rfl
  by_cases e : j = i
  · subst e; simp
  · simp [e]
theorem upRL_id (h : HP) (i : PId) : upRL h i (h.2 i) = h := by
  unfold upRL
  refine Prod.ext rfl (funext fun j => funext fun k => ?_)
  by_cases e : j = i
  · subst e; simp
  · simp [e]
theorem upI_upR (h : HP) (i : PId) (f : Nat → Int32) (k : Nat) (v : Int32) : upI (upR h i f) i k v = upR h i (upd f k v) := by
  unfold upI upR upd
  refine Prod.ext (funext fun j => funext fun m => ?_) rfl
  by_cases e : j = i
  · subst e; simp
  · simp [e]
theorem upL_upRL (h : HP) (i : PId) (f : Nat → Int64) (k : Nat) (v : Int64) : upL (upRL h i f) i k v = upRL h i (vp_updL f k v) := by
  unfold upL upRL vp_updL
  refine Prod.ext rfl (funext fun j => funext fun m => ?_)
  by_cases e : j = i
  · subst e; simp
  · simp [e]
theorem filR_s (f : Nat → Int32) (n : Nat) (v : Int32) : upd (filR f n v) n v = filR f (n + 1) v := by
  funext k
  unfold upd filR
  by_cases e : k = n
  · subst e; simp
  · have e5 : k < n + 1 ↔ k < n := by omega
    simp [e, e5]
theorem filRL_s (f : Nat → Int64) (n : Nat) (v : Int64) : vp_updL (filRL f n v) n v = filRL f (n + 1) v := by
  funext k
  unfold vp_updL filRL
  by_cases e : k = n
  · subst e; simp
  · have e5 : k < n + 1 ↔ k < n := by omega
    simp [e, e5]
theorem filR_0 (f : Nat → Int32) (v : Int32) : filR f 0 v = f := by funext k; simp [filR]
theorem filRL_0 (f : Nat → Int64) (v : Int64) : filRL f 0 v = f := by funext k; simp [filRL]
set_option maxRecDepth 20000 in
set_option maxHeartbeats 2000000 in
theorem t_fillI (l9 : Launch) (G : WT) {d : Nat} (hd : 1 ≤ d) (h : HP) {x : PId} {N : Nat} (hs : SH x = (8, N)) (hi : ok x = true) (hN : N < 10000) (v : Int32) : MS l9 G yJ7_fill_53178 cJ7_fill_53178 4 none d [vr x, vi v] h (fun r h1 => r = none ∧ h1 = upR h x (filR (h.1 x) N v)) := by
  refine MS_of (by decide +kernel) (Nat.le_of_ble_eq_true rfl) (fun X hC hX => ?_)
  show V X G 4 0 _ [] _
  have loop : ∀ (n i : Nat) , i ≤ N → N + 1 ≤ i + n → V X G 4 5 [(2, vi (nI i)), (3, vi (nI N)), (0, vr x), (1, vi v)] [] (upR h x (filR (h.1 x) i v)) := by
    intro n
    induction n with
    | zero => intro i  h1 h2; exact absurd h2 (by omega)
    | succ n ih =>
      intro i  h1 h2
      refine v_iload_n hC (pc := 5) (k := 2) 0 rfl dJ7_fill_53178_5 ?_
      refine v_iload_n hC (pc := 6) (k := 3) 1 rfl dJ7_fill_53178_6 ?_
      refine v_icmp_ge hC (pc := 7) (tgt := 20) dJ7_fill_53178_7 (by decide) (fun c_7 => ?_) (fun c_7 => ?_)
      · skip
        have hj : i = N := lp_ex (c_7) h1 (by omega)
        refine v_vret hC hX (pc := 20) dJ7_fill_53178_20 ?_
        subst hj
        exact ⟨rfl, rfl⟩
      · skip
        have hj : i < N := lp_in (c_7) h1 (by omega)
        refine v_aload_n hC (pc := 10) (k := 0) 2 rfl dJ7_fill_53178_10 ?_
        refine v_iload_n hC (pc := 11) (k := 2) 0 rfl dJ7_fill_53178_11 ?_
        refine v_iload_n hC (pc := 12) (k := 1) 3 rfl dJ7_fill_53178_12 ?_
        refine v_iast hC (pc := 13) dJ7_fill_53178_13 hs hi (vp_nat (by omega) (by omega)) ?_
        refine v_heap (show _ = upR h x (filR (h.1 x) (i + 1) v) from ?_) ?_
        · rw [nI_clamp (show i < 2 ^ 31 by omega), upI_upR, filR_s]
        refine v_iinc hC (pc := 14) (l' := [(2, _), (3, _), (0, _), (1, _)]) 0 (v := nI (i + 1)) dJ7_fill_53178_14 rfl (nI_inc i) (by decide) rfl ?_
        refine v_goto hC (pc := 17) (tgt := 5) dJ7_fill_53178_17 (by decide) ?_
        exact ih (i + 1) (by omega) (by omega)
  refine v_iconst hC (pc := 0) (v := 0) (by decide) dJ7_fill_53178_0 ?_
  refine v_istore_n hC (pc := 1) (l' := [(2, _), (0, _), (1, _)]) dJ7_fill_53178_1 (by decide) rfl ?_
  refine v_aload_n hC (pc := 2) (k := 0) 1 rfl dJ7_fill_53178_2 ?_
  refine v_alen hC (pc := 3) 0 dJ7_fill_53178_3 hs (fun _ => rfl) (by first | exact Or.inl rfl | exact Or.inr rfl) hi (v := nI N) rfl ?_
  refine v_istore_n hC (pc := 4) (l' := [(3, _), (2, _), (0, _), (1, _)]) dJ7_fill_53178_4 (by decide) rfl ?_
  refine v_loc (l' := [(2, _), (3, _), (0, _), (1, _)]) [1, 0, 2, 3] rfl ?_
  refine v_heap (show h = upR h x (filR (h.1 x) 0 v) from ?_) ?_
  · rw [filR_0, upR_id]
  · exact loop (N + 1) 0 (Nat.zero_le _) (by omega)

set_option maxRecDepth 20000 in
set_option maxHeartbeats 2000000 in
theorem t_fillL (l9 : Launch) (G : WT) {d : Nat} (hd : 1 ≤ d) (h : HP) {x : PId} {N : Nat} (hs : SH x = (9, N)) (hi : ok x = true) (hN : N < 10000) (v : Int64) : MS l9 G yJ7_fill_d0a16 cJ7_fill_d0a16 5 none d [vr x, vl v] h (fun r h1 => r = none ∧ h1 = upRL h x (filRL (h.2 x) N v)) := by
  refine MS_of (by decide +kernel) (Nat.le_of_ble_eq_true rfl) (fun X hC hX => ?_)
  show V X G 5 0 _ [] _
  have loop : ∀ (n i : Nat) , i ≤ N → N + 1 ≤ i + n → V X G 5 6 [(3, vi (nI i)), (4, vi (nI N)), (0, vr x), (1, vl v)] [] (upRL h x (filRL (h.2 x) i v)) := by
    intro n
    induction n with
    | zero => intro i  h1 h2; exact absurd h2 (by omega)
    | succ n ih =>
      intro i  h1 h2
      refine v_iload_n hC (pc := 6) (k := 3) 0 rfl dJ7_fill_d0a16_6 ?_
      refine v_iload hC (pc := 7) 1 rfl dJ7_fill_d0a16_7 ?_
      refine v_icmp_ge hC (pc := 9) (tgt := 22) dJ7_fill_d0a16_9 (by decide) (fun c_9 => ?_) (fun c_9 => ?_)
      · skip
        have hj : i = N := lp_ex (c_9) h1 (by omega)
        refine v_vret hC hX (pc := 22) dJ7_fill_d0a16_22 ?_
        subst hj
        exact ⟨rfl, rfl⟩
      · skip
        have hj : i < N := lp_in (c_9) h1 (by omega)
        refine v_aload_n hC (pc := 12) (k := 0) 2 rfl dJ7_fill_d0a16_12 ?_
        refine v_iload_n hC (pc := 13) (k := 3) 0 rfl dJ7_fill_d0a16_13 ?_
        refine v_lload_n hC (pc := 14) (k := 1) 3 rfl dJ7_fill_d0a16_14 ?_
        refine v_last hC (pc := 15) dJ7_fill_d0a16_15 hs hi (vp_nat (by omega) (by omega)) ?_
        refine v_heap (show _ = upRL h x (filRL (h.2 x) (i + 1) v) from ?_) ?_
        · rw [nI_clamp (show i < 2 ^ 31 by omega), upL_upRL, filRL_s]
        refine v_iinc hC (pc := 16) (l' := [(3, _), (4, _), (0, _), (1, _)]) 0 (v := nI (i + 1)) dJ7_fill_d0a16_16 rfl (nI_inc i) (by decide) rfl ?_
        refine v_goto hC (pc := 19) (tgt := 6) dJ7_fill_d0a16_19 (by decide) ?_
        exact ih (i + 1) (by omega) (by omega)
  refine v_iconst hC (pc := 0) (v := 0) (by decide) dJ7_fill_d0a16_0 ?_
  refine v_istore_n hC (pc := 1) (l' := [(3, _), (0, _), (1, _)]) dJ7_fill_d0a16_1 (by decide) rfl ?_
  refine v_aload_n hC (pc := 2) (k := 0) 1 rfl dJ7_fill_d0a16_2 ?_
  refine v_alen hC (pc := 3) 1 dJ7_fill_d0a16_3 hs (fun _ => rfl) (by first | exact Or.inl rfl | exact Or.inr rfl) hi (v := nI N) rfl ?_
  refine v_istore hC (pc := 4) (l' := [(4, _), (3, _), (0, _), (1, _)]) dJ7_fill_d0a16_4 (by decide) rfl ?_
  refine v_loc (l' := [(3, _), (4, _), (0, _), (1, _)]) [1, 0, 2, 3] rfl ?_
  refine v_heap (show h = upRL h x (filRL (h.2 x) 0 v) from ?_) ?_
  · rw [filRL_0, upRL_id]
  · exact loop (N + 1) 0 (Nat.zero_le _) (by omega)

def wcpH (h : HP) (q p w : Nat) : HP := (fun i k => if i = (6, q, w) ∧ k < 6 then h.1 (6, p, w) k else h.1 i k, h.2)
set_option maxRecDepth 20000 in
set_option maxHeartbeats 2000000 in
theorem t_wcopy (l9 : Launch) (G : WT) {d : Nat} (hd : 1 ≤ d) {q p w : Nat} (hq : q < 5) (hp : p < 5) (hw : w < 4) (hqp : ¬ q = p) (h : HP) (hz : h.1 (6, p, w) 2 = 0 ∨ h.1 (6, p, w) 2 = 1) : MS l9 G yX4_copyOf cX4_copyOf 2 none d [vr (6, q, w), vr (6, p, w)] h (fun r h1 => r = none ∧ h1 = wcpH h q p w) := by
  refine MS_of (by decide +kernel) (Nat.le_of_ble_eq_true rfl) (fun X hC hX => ?_)
  show V X G 2 0 _ [] _
  have hqp'' : ((6, p, w) : PId) ≠ (6, q, w) := fun z => hqp (congrArg (fun t : PId => t.2.1) z).symm
  refine v_aload_n hC (pc := 0) (k := 0) 0 rfl dX4_copyOf_0 ?_
  refine v_aload_n hC (pc := 1) (k := 1) 1 rfl dX4_copyOf_1 ?_
  refine v_getI hC (pc := 2) dX4_copyOf_2 fl_X4_7 rfl (by first | exact ok_w hq hw | exact ok_w hp hw) rfl (by decide) (by decide) ?_
  refine v_putI hC (pc := 5) dX4_copyOf_5 fs_X4_7 rfl (by first | exact ok_w hq hw | exact ok_w hp hw) rfl (by decide) (by decide) ?_
  refine v_aload_n hC (pc := 8) (k := 0) 0 rfl dX4_copyOf_8 ?_
  refine v_aload_n hC (pc := 9) (k := 1) 1 rfl dX4_copyOf_9 ?_
  refine v_getI hC (pc := 10) dX4_copyOf_10 fl_X4_13 rfl (by first | exact ok_w hq hw | exact ok_w hp hw) rfl (by decide) (by decide) ?_
  refine v_putI hC (pc := 13) dX4_copyOf_13 fs_X4_13 rfl (by first | exact ok_w hq hw | exact ok_w hp hw) rfl (by decide) (by decide) ?_
  refine v_aload_n hC (pc := 16) (k := 0) 0 rfl dX4_copyOf_16 ?_
  refine v_aload_n hC (pc := 17) (k := 1) 1 rfl dX4_copyOf_17 ?_
  refine v_getZ hC (pc := 18) dX4_copyOf_18 fl_X4_16 rfl (by first | exact ok_w hq hw | exact ok_w hp hw) rfl (by decide) (by decide) ?_
  refine v_putZ hC (pc := 21) dX4_copyOf_21 fs_X4_16 rfl (by first | exact ok_w hq hw | exact ok_w hp hw) rfl (by decide) (by decide) (by simp [upI, hqp'']; exact hz) ?_
  refine v_aload_n hC (pc := 24) (k := 0) 0 rfl dX4_copyOf_24 ?_
  refine v_aload_n hC (pc := 25) (k := 1) 1 rfl dX4_copyOf_25 ?_
  refine v_getI hC (pc := 26) dX4_copyOf_26 fl_X4_20 rfl (by first | exact ok_w hq hw | exact ok_w hp hw) rfl (by decide) (by decide) ?_
  refine v_putI hC (pc := 29) dX4_copyOf_29 fs_X4_20 rfl (by first | exact ok_w hq hw | exact ok_w hp hw) rfl (by decide) (by decide) ?_
  refine v_aload_n hC (pc := 32) (k := 0) 0 rfl dX4_copyOf_32 ?_
  refine v_aload_n hC (pc := 33) (k := 1) 1 rfl dX4_copyOf_33 ?_
  refine v_getI hC (pc := 34) dX4_copyOf_34 fl_X4_23 rfl (by first | exact ok_w hq hw | exact ok_w hp hw) rfl (by decide) (by decide) ?_
  refine v_putI hC (pc := 37) dX4_copyOf_37 fs_X4_23 rfl (by first | exact ok_w hq hw | exact ok_w hp hw) rfl (by decide) (by decide) ?_
  refine v_aload_n hC (pc := 40) (k := 0) 0 rfl dX4_copyOf_40 ?_
  refine v_aload_n hC (pc := 41) (k := 1) 1 rfl dX4_copyOf_41 ?_
  refine v_getI hC (pc := 42) dX4_copyOf_42 fl_X4_26 rfl (by first | exact ok_w hq hw | exact ok_w hp hw) rfl (by decide) (by decide) ?_
  refine v_putI hC (pc := 45) dX4_copyOf_45 fs_X4_26 rfl (by first | exact ok_w hq hw | exact ok_w hp hw) rfl (by decide) (by decide) ?_
  refine v_vret hC hX (pc := 48) dX4_copyOf_48 ?_
  refine ⟨rfl, ?_⟩
  unfold wcpH upI
  refine Prod.ext (funext fun i => funext fun k => ?_) rfl
  by_cases e : i = (6, q, w)
  · subst e
    have hqp' : ((6, p, w) : PId) ≠ (6, q, w) := fun z => hqp (congrArg (fun t : PId => t.2.1) z).symm
    rcases (show k = 0 ∨ k = 1 ∨ k = 2 ∨ k = 3 ∨ k = 4 ∨ k = 5 ∨ 6 ≤ k by omega) with rfl | rfl | rfl | rfl | rfl | rfl | hk
    all_goals first | (simp [hqp']; done) | (have hk2 : ¬ k < 6 := by omega
                                             simp [hk2, show ¬ k = 0 by omega, show ¬ k = 1 by omega, show ¬ k = 2 by omega, show ¬ k = 3 by omega, show ¬ k = 4 by omega, show ¬ k = 5 by omega])
  · simp [e]

set_option maxRecDepth 20000 in
set_option maxHeartbeats 2000000 in
theorem t_begin (l9 : Launch) (G : WT) {d : Nat} (hd : 1 ≤ d) {q w : Nat} (hq : q < 5) (hw : w < 4) (h : HP) (c kp : Int32) (hk : kp = 0 ∨ kp = 1) : MS l9 G yX4_begin cX4_begin 3 none d [vr (6, q, w), vi c, vi kp] h (fun r h1 => r = none ∧ h1 = upI (upI (upI (upI (upI (upI h (6, q, w) 0 c) (6, q, w) 1 0) (6, q, w) 2 kp) (6, q, w) 3 0) (6, q, w) 4 0) (6, q, w) 5 0) := by
  refine MS_of (by decide +kernel) (Nat.le_of_ble_eq_true rfl) (fun X hC hX => ?_)
  show V X G 3 0 _ [] _
  refine v_aload_n hC (pc := 0) (k := 0) 0 rfl dX4_begin_0 ?_
  refine v_iload_n hC (pc := 1) (k := 1) 1 rfl dX4_begin_1 ?_
  refine v_putI hC (pc := 2) dX4_begin_2 fs_X4_7 rfl (by first | rfl | exact ok_c hq rfl | exact ok_w hq hw | exact ok_w (by omega) (by omega) | exact ok_s (by omega) (by omega) | exact ok_c (by omega) rfl | assumption) rfl (by decide) (by decide) ?_
  refine v_aload_n hC (pc := 5) (k := 0) 0 rfl dX4_begin_5 ?_
  refine v_iconst hC (pc := 6) (v := 0) (by decide) dX4_begin_6 ?_
  refine v_putI hC (pc := 7) dX4_begin_7 fs_X4_13 rfl (by first | rfl | exact ok_c hq rfl | exact ok_w hq hw | exact ok_w (by omega) (by omega) | exact ok_s (by omega) (by omega) | exact ok_c (by omega) rfl | assumption) rfl (by decide) (by decide) ?_
  refine v_aload_n hC (pc := 10) (k := 0) 0 rfl dX4_begin_10 ?_
  refine v_iload_n hC (pc := 11) (k := 2) 2 rfl dX4_begin_11 ?_
  refine v_putZ hC (pc := 12) dX4_begin_12 fs_X4_16 rfl (by first | rfl | exact ok_c hq rfl | exact ok_w hq hw | exact ok_w (by omega) (by omega) | exact ok_s (by omega) (by omega) | exact ok_c (by omega) rfl | assumption) rfl (by decide) (by decide) hk ?_
  refine v_aload_n hC (pc := 15) (k := 0) 0 rfl dX4_begin_15 ?_
  refine v_iconst hC (pc := 16) (v := 0) (by decide) dX4_begin_16 ?_
  refine v_putI hC (pc := 17) dX4_begin_17 fs_X4_20 rfl (by first | rfl | exact ok_c hq rfl | exact ok_w hq hw | exact ok_w (by omega) (by omega) | exact ok_s (by omega) (by omega) | exact ok_c (by omega) rfl | assumption) rfl (by decide) (by decide) ?_
  refine v_aload_n hC (pc := 20) (k := 0) 0 rfl dX4_begin_20 ?_
  refine v_iconst hC (pc := 21) (v := 0) (by decide) dX4_begin_21 ?_
  refine v_putI hC (pc := 22) dX4_begin_22 fs_X4_23 rfl (by first | rfl | exact ok_c hq rfl | exact ok_w hq hw | exact ok_w (by omega) (by omega) | exact ok_s (by omega) (by omega) | exact ok_c (by omega) rfl | assumption) rfl (by decide) (by decide) ?_
  refine v_aload_n hC (pc := 25) (k := 0) 0 rfl dX4_begin_25 ?_
  refine v_iconst hC (pc := 26) (v := 0) (by decide) dX4_begin_26 ?_
  refine v_putI hC (pc := 27) dX4_begin_27 fs_X4_26 rfl (by first | rfl | exact ok_c hq rfl | exact ok_w hq hw | exact ok_w (by omega) (by omega) | exact ok_s (by omega) (by omega) | exact ok_c (by omega) rfl | assumption) rfl (by decide) (by decide) ?_
  refine v_vret hC hX (pc := 30) dX4_begin_30 ?_
  exact ⟨rfl, rfl⟩

set_option maxRecDepth 20000 in
set_option maxHeartbeats 2000000 in
theorem t_addLetter (l9 : Launch) (G : WT) {d : Nat} (hd : 1 ≤ d) {q w : Nat} (hq : q < 5) (hw : w < 4) (h : HP) (s : Int32) : MS l9 G yX4_addLetter cX4_addLetter 2 none d [vr (6, q, w), vi s] h (fun r h1 => r = none ∧ h1 = upI (upI h (6, q, w) 3 (h.1 (6, q, w) 3 ||| (s <<< (h.1 (6, q, w) 4 &&& 31)))) (6, q, w) 4 (h.1 (6, q, w) 4 + 1)) := by
  refine MS_of (by decide +kernel) (Nat.le_of_ble_eq_true rfl) (fun X hC hX => ?_)
  show V X G 2 0 _ [] _
  refine v_aload_n hC (pc := 0) (k := 0) 0 rfl dX4_addLetter_0 ?_
  refine v_dup hC (pc := 1) rfl dX4_addLetter_1 ?_
  refine v_getI hC (pc := 2) dX4_addLetter_2 fl_X4_20 rfl (by first | rfl | exact ok_c hq rfl | exact ok_w hq hw | exact ok_w (by omega) (by omega) | exact ok_s (by omega) (by omega) | exact ok_c (by omega) rfl | assumption) rfl (by decide) (by decide) ?_
  refine v_iload_n hC (pc := 5) (k := 1) 1 rfl dX4_addLetter_5 ?_
  refine v_aload_n hC (pc := 6) (k := 0) 0 rfl dX4_addLetter_6 ?_
  refine v_getI hC (pc := 7) dX4_addLetter_7 fl_X4_23 rfl (by first | rfl | exact ok_c hq rfl | exact ok_w hq hw | exact ok_w (by omega) (by omega) | exact ok_s (by omega) (by omega) | exact ok_c (by omega) rfl | assumption) rfl (by decide) (by decide) ?_
  refine v_ishl hC (pc := 10) dX4_addLetter_10 ?_
  refine v_ior hC (pc := 11) dX4_addLetter_11 ?_
  refine v_putI hC (pc := 12) dX4_addLetter_12 fs_X4_20 rfl (by first | rfl | exact ok_c hq rfl | exact ok_w hq hw | exact ok_w (by omega) (by omega) | exact ok_s (by omega) (by omega) | exact ok_c (by omega) rfl | assumption) rfl (by decide) (by decide) ?_
  refine v_aload_n hC (pc := 15) (k := 0) 0 rfl dX4_addLetter_15 ?_
  refine v_dup hC (pc := 16) rfl dX4_addLetter_16 ?_
  refine v_getI hC (pc := 17) dX4_addLetter_17 fl_X4_23 rfl (by first | rfl | exact ok_c hq rfl | exact ok_w hq hw | exact ok_w (by omega) (by omega) | exact ok_s (by omega) (by omega) | exact ok_c (by omega) rfl | assumption) rfl (by decide) (by decide) ?_
  refine v_iconst hC (pc := 20) (v := 1) (by decide) dX4_addLetter_20 ?_
  refine v_iadd hC (pc := 21) dX4_addLetter_21 ?_
  refine v_putI hC (pc := 22) dX4_addLetter_22 fs_X4_23 rfl (by first | rfl | exact ok_c hq rfl | exact ok_w hq hw | exact ok_w (by omega) (by omega) | exact ok_s (by omega) (by omega) | exact ok_c (by omega) rfl | assumption) rfl (by decide) (by decide) ?_
  refine v_vret hC hX (pc := 25) dX4_addLetter_25 ?_
  refine ⟨rfl, ?_⟩
  simp [upI]

