/-! THE WHOLE WORLD out of the new objects -/
abbrev U6 : Type := (Nat → Nat → Nat) × (Nat → Nat)
/-- the addresses, out of what the constructors tell: q NoonCity, u what it made, sA the strings, b the script, r the reference -/
def adW (q : Nat) (u : U6) (sA : Nat → Nat → Nat) (b : Nat) (r : Nat → Nat) : PId → Nat := fun i => match i.1 with
  | 0 => (match i.2.2 with
    | 0 => u.1 i.2.1 5
    | j => u.1 i.2.1 j)
  | 1 => (match i.2.2 with
    | 0 => q
    | j => u.2 j)
  | 2 => u.2 (20 + 2 * i.2.1 + i.2.2)
  | 3 => r i.2.2
  | 4 => sA i.2.1 i.2.2
  | 5 => b
  | _ => u.1 i.2.1 i.2.2
/-- the heap behind NoonCity(), all zero in the reference -/
def h0C : HP := (fun i k => match i.1 with
  | 0 => (match i.2.2 with
    | 0 => if k = 0 then 4 else 0
    | 6 => filR (fun _ => 0) 16 (-4) k
    | _ => 0)
  | 2 => (match i.2.2 with
    | 0 => if k = 2 then -1 else 0
    | _ => 0)
  | _ => 0, fun i k => match i.1 with
  | 1 => (match i.2.2 with
    | 8 => if k = 2 then 1 else 0
    | _ => 0)
  | _ => 0)
def cid (k : Nat) : List PId := [(0, k, 0), (0, k, 7), (6, k, 0), (6, k, 1), (6, k, 2), (6, k, 3), (0, k, 8), (0, k, 9), (0, k, 10), (0, k, 11), (0, k, 12), (0, k, 13), (0, k, 6)]
def sid (k : Nat) : List PId := [(2, k, 0), (2, k, 1)]
def idC : List PId := [(1, 0, 0)] ++ cid 0 ++ cid 1 ++ [(1, 0, 1)] ++ cid 2 ++ cid 3 ++ ([(1, 0, 2)] ++ cid 4 ++ [(1, 0, 3), (1, 0, 4)]) ++ [(1, 0, 5)] ++ sid 0 ++ sid 1 ++ sid 2 ++ sid 3 ++ [(1, 0, 6), (1, 0, 7)] ++ [(1, 0, 8), (1, 0, 9), (1, 0, 10)]
def idR : List PId := [(3, 0, 1), (3, 0, 2), (3, 0, 3), (3, 0, 6), (3, 0, 10), (3, 0, 12), (3, 0, 20), (3, 0, 21), (3, 0, 22), (3, 0, 23), (3, 0, 24), (3, 0, 25), (3, 0, 26), (3, 0, 27), (3, 0, 29)]
def idW : List PId := (3, 0, 0) :: (idC ++ idR)
theorem idL_W : ∀ i ∈ idL, i ∈ idW := by decide +kernel
theorem arrV_cong (cA : ClassId) (n : Nat) {f g : Nat → Value} (h : ∀ k, k < n → f k = g k) : arrV cA n f = arrV cA n g := by
  unfold arrV
  congr 1
  congr 1
  funext j
  exact h j.1 j.2
theorem at_q {D : va_G} {H : Heap} {a n : Nat} {cA : ClassId} {f g : Nat → Option Nat} (h : va_at D vwCl (a, .inl (cA, n, .inr (.inr (.inr (.inr f))))) H) (hfg : ∀ k, k < n → f k = g k) : va_at D vwCl (a, .inl (cA, n, .inr (.inr (.inr (.inr g))))) H := by
  show H[a]? = some (vp_cell _ _)
  rw [vp_cell_q, ← arrV_cong (f := fun j => va_rf (f j)) _ _ (fun k hk => by rw [hfg k hk]), ← vp_cell_q]
  exact h
/-- addresses of a world of ids: apart, and of a kind -/
theorem D_ids {A : Nat → Prop} {ws : va_W} {ids : List PId} {ad : PId → Nat} (hD : va_D A ws) (he : ws.map Prod.fst = ids.map ad) : (∀ i j, i ∈ ids → j ∈ ids → ad i = ad j → i = j) ∧ ∀ i, i ∈ ids → A (ad i) := by
  have key : ∀ (m : Nat) (i : PId), ids[m]? = some i → ∃ x, ws[m]? = some x ∧ x.1 = ad i := by
    intro m i hi
    have h1 : (ws.map Prod.fst)[m]? = some (ad i) := by rw [he, List.getElem?_map, hi]; rfl
    rw [List.getElem?_map] at h1
    cases hx : ws[m]? with
    | none => rw [hx] at h1; cases h1
    | some x => rw [hx] at h1; exact ⟨x, rfl, Option.some.inj h1⟩
  refine ⟨fun i j hi hj e => ?_, fun i hi => ?_⟩
  · obtain ⟨m, hm⟩ := List.getElem?_of_mem hi
    obtain ⟨n, hn⟩ := List.getElem?_of_mem hj
    obtain ⟨x, hx, ex⟩ := key m i hm
    obtain ⟨y, hy, ey⟩ := key n j hn
    have hmn := hD.1 m n x y hx hy (by rw [ex, ey, e])
    subst hmn
    rw [hm] at hn
    exact Option.some.inj hn
  · obtain ⟨m, hm⟩ := List.getElem?_of_mem hi
    obtain ⟨x, hx, ex⟩ := key m i hm
    rw [← ex]
    exact hD.2 m x hx
theorem P_ids {G : WT} {h : HP} {H : Heap} (hP : ∀ i ∈ idW, va_at G.2.1 vwCl (G.1 i, EE G h i) H) : va_P G.2.1 vwCl (ww G h) H := by
  intro k x hx
  rw [ww, List.getElem?_map] at hx
  cases hi : idL[k]? with
  | none => rw [hi] at hx; cases hx
  | some i =>
    rw [hi] at hx
    cases hx
    exact hP i (idL_W i (List.mem_of_getElem? hi))
theorem P_split {D : va_G} {H : Heap} {w1 w2 : va_W} (h : va_P D vwCl (w1 ++ w2) H) : va_P D vwCl w1 H ∧ va_P D vwCl w2 H := by
  refine ⟨fun k x hx => h k x (by rw [List.getElem?_append_left (List.getElem?_eq_some_iff.mp hx).1]; exact hx), fun k x hx => h (w1.length + k) x (by rw [List.getElem?_append_right (by omega), Nat.add_sub_cancel_left]; exact hx)⟩
section ATC
variable {D : va_G × (Nat → ClassId)} {q : Nat} {u : U6} {sA : Nat → Nat → Nat} {b : Nat} {r : Nat → Nat} {H : Heap}
abbrev aT (D : va_G × (Nat → ClassId)) (q : Nat) (u : U6) (sA : Nat → Nat → Nat) (b : Nat) (r : Nat → Nat) (H : Heap) (i : PId) : Prop := va_at D.1 vwCl (adW q u sA b r i, EE (adW q u sA b r, D) h0C i) H
set_option maxRecDepth 20000 in
set_option maxHeartbeats 2000000 in
theorem at_c0 (k : Nat) (hP : va_P D.1 vwCl (WK0 (fun _ => 0, D) (u.1 k 5) (u.1 k)) H) : aT D q u sA b r H (0, k, 0) := hP 0 _ rfl
set_option maxRecDepth 20000 in
set_option maxHeartbeats 2000000 in
theorem at_c1 (k : Nat) (hP : va_P D.1 vwCl (WK0 (fun _ => 0, D) (u.1 k 5) (u.1 k)) H) : aT D q u sA b r H (0, k, 7) := at_q (hP 1 _ rfl) (fun k hk => match k, hk with | 0, _ => rfl | 1, _ => rfl | 2, _ => rfl | 3, _ => rfl | k9 + 4, h => absurd (show k9 + 4 < 4 from h) (by omega))
set_option maxRecDepth 20000 in
set_option maxHeartbeats 2000000 in
theorem at_c2 (k : Nat) (hP : va_P D.1 vwCl (WK0 (fun _ => 0, D) (u.1 k 5) (u.1 k)) H) : aT D q u sA b r H (6, k, 0) := hP 2 _ rfl
set_option maxRecDepth 20000 in
set_option maxHeartbeats 2000000 in
theorem at_c3 (k : Nat) (hP : va_P D.1 vwCl (WK0 (fun _ => 0, D) (u.1 k 5) (u.1 k)) H) : aT D q u sA b r H (6, k, 1) := hP 3 _ rfl
set_option maxRecDepth 20000 in
set_option maxHeartbeats 2000000 in
theorem at_c4 (k : Nat) (hP : va_P D.1 vwCl (WK0 (fun _ => 0, D) (u.1 k 5) (u.1 k)) H) : aT D q u sA b r H (6, k, 2) := hP 4 _ rfl
set_option maxRecDepth 20000 in
set_option maxHeartbeats 2000000 in
theorem at_c5 (k : Nat) (hP : va_P D.1 vwCl (WK0 (fun _ => 0, D) (u.1 k 5) (u.1 k)) H) : aT D q u sA b r H (6, k, 3) := hP 5 _ rfl
set_option maxRecDepth 20000 in
set_option maxHeartbeats 2000000 in
theorem at_c6 (k : Nat) (hP : va_P D.1 vwCl (WK0 (fun _ => 0, D) (u.1 k 5) (u.1 k)) H) : aT D q u sA b r H (0, k, 8) := hP 6 _ rfl
set_option maxRecDepth 20000 in
set_option maxHeartbeats 2000000 in
theorem at_c7 (k : Nat) (hP : va_P D.1 vwCl (WK0 (fun _ => 0, D) (u.1 k 5) (u.1 k)) H) : aT D q u sA b r H (0, k, 9) := hP 7 _ rfl
set_option maxRecDepth 20000 in
set_option maxHeartbeats 2000000 in
theorem at_c8 (k : Nat) (hP : va_P D.1 vwCl (WK0 (fun _ => 0, D) (u.1 k 5) (u.1 k)) H) : aT D q u sA b r H (0, k, 10) := hP 8 _ rfl
set_option maxRecDepth 20000 in
set_option maxHeartbeats 2000000 in
theorem at_c9 (k : Nat) (hP : va_P D.1 vwCl (WK0 (fun _ => 0, D) (u.1 k 5) (u.1 k)) H) : aT D q u sA b r H (0, k, 11) := hP 9 _ rfl
set_option maxRecDepth 20000 in
set_option maxHeartbeats 2000000 in
theorem at_c10 (k : Nat) (hP : va_P D.1 vwCl (WK0 (fun _ => 0, D) (u.1 k 5) (u.1 k)) H) : aT D q u sA b r H (0, k, 12) := hP 10 _ rfl
set_option maxRecDepth 20000 in
set_option maxHeartbeats 2000000 in
theorem at_c11 (k : Nat) (hP : va_P D.1 vwCl (WK0 (fun _ => 0, D) (u.1 k 5) (u.1 k)) H) : aT D q u sA b r H (0, k, 13) := hP 11 _ rfl
set_option maxRecDepth 20000 in
set_option maxHeartbeats 2000000 in
theorem at_c12 (k : Nat) (hP : va_P D.1 vwCl (WK0 (fun _ => 0, D) (u.1 k 5) (u.1 k)) H) : aT D q u sA b r H (0, k, 6) := hP 12 _ rfl
theorem at_city (k : Nat) (hP : va_P D.1 vwCl (WK0 (fun _ => 0, D) (u.1 k 5) (u.1 k)) H) : ∀ i ∈ cid k, aT D q u sA b r H i :=
  List.forall_mem_cons.mpr ⟨at_c0 k hP, List.forall_mem_cons.mpr ⟨at_c1 k hP, List.forall_mem_cons.mpr ⟨at_c2 k hP, List.forall_mem_cons.mpr ⟨at_c3 k hP, List.forall_mem_cons.mpr ⟨at_c4 k hP, List.forall_mem_cons.mpr ⟨at_c5 k hP, List.forall_mem_cons.mpr ⟨at_c6 k hP, List.forall_mem_cons.mpr ⟨at_c7 k hP, List.forall_mem_cons.mpr ⟨at_c8 k hP, List.forall_mem_cons.mpr ⟨at_c9 k hP, List.forall_mem_cons.mpr ⟨at_c10 k hP, List.forall_mem_cons.mpr ⟨at_c11 k hP, List.forall_mem_cons.mpr ⟨at_c12 k hP, fun _ h => absurd h List.not_mem_nil⟩⟩⟩⟩⟩⟩⟩⟩⟩⟩⟩⟩⟩
set_option maxRecDepth 20000 in
set_option maxHeartbeats 2000000 in
theorem at_sheet (k : Nat) (hP : va_P D.1 vwCl (WK3 (fun _ => 0, D) (u.2 (20 + 2 * k + 0)) (u.2 (20 + 2 * k + 1))) H) : ∀ i ∈ sid k, aT D q u sA b r H i :=
  List.forall_mem_cons.mpr ⟨hP 0 _ rfl, List.forall_mem_cons.mpr ⟨hP 1 _ rfl, fun _ h => absurd h List.not_mem_nil⟩⟩
set_option maxRecDepth 20000 in
set_option maxHeartbeats 2000000 in
theorem at_n0 (hP : va_P D.1 vwCl ([(q, .inr (6, [.ref (u.1 0 5), .ref (u.1 1 5), .ref (u.2 1), .ref (u.2 2), .ref (u.2 5), .ref (u.2 6), .ref (u.2 8), .int 0, .int 0, .int 0]))]) H) : ∀ i ∈ ([(1, 0, 0)] : List PId), aT D q u sA b r H i :=
  List.forall_mem_cons.mpr ⟨hP 0 _ rfl, fun _ h => absurd h List.not_mem_nil⟩
set_option maxRecDepth 20000 in
set_option maxHeartbeats 2000000 in
theorem at_n1 (hP : va_P D.1 vwCl ([(u.2 1, .inl (D.2 11, 2, .inr (.inr (.inr (.inr (va_up (va_up (fun _ => none) 0 (some (u.1 2 5))) 1 (some (u.1 3 5))))))))]) H) : ∀ i ∈ ([(1, 0, 1)] : List PId), aT D q u sA b r H i :=
  List.forall_mem_cons.mpr ⟨at_q (hP 0 _ rfl) (fun k hk => match k, hk with | 0, _ => rfl | 1, _ => rfl | k9 + 2, h => absurd (show k9 + 2 < 2 from h) (by omega)), fun _ h => absurd h List.not_mem_nil⟩
set_option maxRecDepth 20000 in
set_option maxHeartbeats 2000000 in
theorem at_n5 (hP : va_P D.1 vwCl ([(u.2 5, .inl (D.2 12, 4, .inr (.inr (.inr (.inr (va_up (va_up (va_up (va_up (fun _ => none) 0 (some (u.2 20))) 1 (some (u.2 22))) 2 (some (u.2 24))) 3 (some (u.2 26))))))))]) H) : ∀ i ∈ ([(1, 0, 5)] : List PId), aT D q u sA b r H i :=
  List.forall_mem_cons.mpr ⟨at_q (hP 0 _ rfl) (fun k hk => match k, hk with | 0, _ => rfl | 1, _ => rfl | 2, _ => rfl | 3, _ => rfl | k9 + 4, h => absurd (show k9 + 4 < 4 from h) (by omega)), fun _ h => absurd h List.not_mem_nil⟩
set_option maxRecDepth 20000 in
set_option maxHeartbeats 2000000 in
theorem at_n6 (hP : va_P D.1 vwCl (WK5 (fun _ => 0, D) (u.2 6) (u.2 7)) H) : ∀ i ∈ ([(1, 0, 6), (1, 0, 7)] : List PId), aT D q u sA b r H i :=
  List.forall_mem_cons.mpr ⟨hP 0 _ rfl, List.forall_mem_cons.mpr ⟨hP 1 _ rfl, fun _ h => absurd h List.not_mem_nil⟩⟩
set_option maxRecDepth 20000 in
set_option maxHeartbeats 2000000 in
theorem at_n8 (hP : va_P D.1 vwCl (WK1 (fun _ => 0, D) (u.2 8) (u.2 9, u.2 10)) H) : ∀ i ∈ ([(1, 0, 8), (1, 0, 9), (1, 0, 10)] : List PId), aT D q u sA b r H i :=
  List.forall_mem_cons.mpr ⟨hP 0 _ rfl, List.forall_mem_cons.mpr ⟨hP 1 _ rfl, List.forall_mem_cons.mpr ⟨hP 2 _ rfl, fun _ h => absurd h List.not_mem_nil⟩⟩⟩
set_option maxRecDepth 20000 in
set_option maxHeartbeats 2000000 in
theorem at_n2 (hP : va_P D.1 vwCl ([(u.2 2, .inr (2, [.ref (u.2 3), .int 0, .int 0, .int 0, .ref (u.1 4 5), .int 0, .int 0, .int 0, .ref (u.2 4)]))]) H) : ∀ i ∈ ([(1, 0, 2)] : List PId), aT D q u sA b r H i :=
  List.forall_mem_cons.mpr ⟨hP 0 _ rfl, fun _ h => absurd h List.not_mem_nil⟩
set_option maxRecDepth 20000 in
set_option maxHeartbeats 2000000 in
theorem at_n3 (hP : va_P D.1 vwCl ([(u.2 3, .inl (D.2 8, 160, .inl (fun _ => 0))), (u.2 4, .inl (D.2 8, 8, .inl (fun _ => 0)))]) H) : ∀ i ∈ ([(1, 0, 3), (1, 0, 4)] : List PId), aT D q u sA b r H i :=
  List.forall_mem_cons.mpr ⟨hP 0 _ rfl, List.forall_mem_cons.mpr ⟨hP 1 _ rfl, fun _ h => absurd h List.not_mem_nil⟩⟩
theorem at_rd (hP : va_P D.1 vwCl (WK2 (fun _ => 0, D) (u.2 2) (u.2 3, u.2 4, u.1 4 5, u.1 4)) H) : ∀ i ∈ [(1, 0, 2)] ++ cid 4 ++ [(1, 0, 3), (1, 0, 4)], aT D q u sA b r H i := by
  obtain ⟨h1, h3⟩ := P_split hP
  obtain ⟨h1, h2⟩ := P_split h1
  exact List.forall_mem_append.mpr ⟨List.forall_mem_append.mpr ⟨at_n2 h1, at_city 4 h2⟩, at_n3 h3⟩
theorem at_C (hP : va_P D.1 vwCl (WK6 (fun _ => 0, D) q u) H) : ∀ i ∈ idC, aT D q u sA b r H i := by
  obtain ⟨g, hE⟩ := P_split hP
  obtain ⟨g, hD⟩ := P_split g
  obtain ⟨g, hC⟩ := P_split g
  obtain ⟨g, hB⟩ := P_split g
  obtain ⟨g, hA⟩ := P_split g
  obtain ⟨g, h9⟩ := P_split g
  obtain ⟨g, h8⟩ := P_split g
  obtain ⟨g, h7⟩ := P_split g
  obtain ⟨g, h6⟩ := P_split g
  obtain ⟨g, h5⟩ := P_split g
  obtain ⟨g, h4⟩ := P_split g
  obtain ⟨g, h3⟩ := P_split g
  obtain ⟨h1, h2⟩ := P_split g
  have ap : ∀ {l1 l2 : List PId}, (∀ i ∈ l1, aT D q u sA b r H i) → (∀ i ∈ l2, aT D q u sA b r H i) → ∀ i ∈ l1 ++ l2, aT D q u sA b r H i := fun x y => List.forall_mem_append.mpr ⟨x, y⟩
  exact ap (ap (ap (ap (ap (ap (ap (ap (ap (ap (ap (ap (ap (at_n0 h1) (at_city 0 h2)) (at_city 1 h3)) (at_n1 h4)) (at_city 2 h5)) (at_city 3 h6)) (at_rd h7)) (at_n5 h8)) (at_sheet 0 h9)) (at_sheet 1 hA)) (at_sheet 2 hB)) (at_sheet 3 hC)) (at_n6 hD)) (at_n8 hE)
end ATC
