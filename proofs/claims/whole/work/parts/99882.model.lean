/-! CONSTRUCTORS: the reference, over a world that holds the class already -/
theorem n_ws {X : NT} {G : WT} {nL pc cl sl : Nat} {l : List (Nat × Value)} {st : List Value} {ws ws9 : va_W} (e : ws = ws9) (kk : NW X G nL pc l st cl sl ws9) : NW X G nL pc l st cl sl ws := e ▸ kk
set_option maxRecDepth 20000 in
theorem z7_s0 (X : NT) (G : WT) {l9 : Launch} {d : Nat} (hC : NX X G l9 RX7 cX7_init 2 d 15 2360) (hI : NI X) (q : Nat) (fs : List Value) (hfs : fs.length = 29) (T : va_W) {cl sl : Nat} (hcl : cl + 1 ≤ 15) (hsl : sl + 240 ≤ 2360) (K : ∀ q9 : Nat, NW X G 2 13 [(0, .ref q)] [] (cl + 1) (sl + 240) ((q, .inr (7, fs.set 0 (.ref q9))) :: (T ++ [(q9, .inl (G.2.2 8, 240, .inl (fun _ => 0)))]))) : NW X G 2 4 [(0, .ref q)] [] cl sl ((q, .inr (7, fs)) :: T) := by
  refine n_aload hC (pc := 4) (k := 0) 0 rfl dX7_init_4 ?_
  refine n_sipush hC (pc := 5) (v := 240) (by decide +kernel) dX7_init_5 ?_
  refine n_newI hC (pc := 8) (N := 240) (ws9 := fun q9 => (q, .inr (7, fs)) :: (T ++ [(q9, .inl (G.2.2 8, 240, .inl (fun _ => 0)))])) (by decide +kernel) (by decide +kernel) (Nat.le_of_ble_eq_true rfl) hcl hsl dX7_init_8 (fun _ => rfl) (fun q9 => ?_)
  refine n_putF hC hI (pc := 10) (k := 0) (ty := (.array .int)) (ws9 := (q, .inr (7, fs.set 0 (.ref q9))) :: (T ++ [(q9, .inl (G.2.2 8, 240, .inl (fun _ => 0)))])) ck_7 rfl (by decide) (mb 897 (by decide +kernel)) (by decide +kernel) rfl rfl (by omega) dX7_init_10 rfl ?_
  exact K q9

set_option maxRecDepth 20000 in
theorem z7_s1 (X : NT) (G : WT) {l9 : Launch} {d : Nat} (hC : NX X G l9 RX7 cX7_init 2 d 15 2360) (hI : NI X) (q : Nat) (fs : List Value) (hfs : fs.length = 29) (T : va_W) {cl sl : Nat} (hcl : cl + 1 ≤ 15) (hsl : sl + 80 ≤ 2360) (K : ∀ q9 : Nat, NW X G 2 21 [(0, .ref q)] [] (cl + 1) (sl + 80) ((q, .inr (7, fs.set 1 (.ref q9))) :: (T ++ [(q9, .inl (G.2.2 8, 80, .inl (fun _ => 0)))]))) : NW X G 2 13 [(0, .ref q)] [] cl sl ((q, .inr (7, fs)) :: T) := by
  refine n_aload hC (pc := 13) (k := 0) 0 rfl dX7_init_13 ?_
  refine n_bipush hC (pc := 14) (v := 80) (by decide +kernel) dX7_init_14 ?_
  refine n_newI hC (pc := 16) (N := 80) (ws9 := fun q9 => (q, .inr (7, fs)) :: (T ++ [(q9, .inl (G.2.2 8, 80, .inl (fun _ => 0)))])) (by decide +kernel) (by decide +kernel) (Nat.le_of_ble_eq_true rfl) hcl hsl dX7_init_16 (fun _ => rfl) (fun q9 => ?_)
  refine n_putF hC hI (pc := 18) (k := 1) (ty := (.array .int)) (ws9 := (q, .inr (7, fs.set 1 (.ref q9))) :: (T ++ [(q9, .inl (G.2.2 8, 80, .inl (fun _ => 0)))])) ck_7 rfl (by decide) (mb 898 (by decide +kernel)) (by decide +kernel) rfl rfl (by omega) dX7_init_18 rfl ?_
  exact K q9

set_option maxRecDepth 20000 in
theorem z7_s2 (X : NT) (G : WT) {l9 : Launch} {d : Nat} (hC : NX X G l9 RX7 cX7_init 2 d 15 2360) (hI : NI X) (q : Nat) (fs : List Value) (hfs : fs.length = 29) (T : va_W) {cl sl : Nat} (hcl : cl + 1 ≤ 15) (hsl : sl + 2 ≤ 2360) (K : ∀ q9 : Nat, NW X G 2 28 [(0, .ref q)] [] (cl + 1) (sl + 2) ((q, .inr (7, fs.set 2 (.ref q9))) :: (T ++ [(q9, .inl (G.2.2 10, 2, .inl (fun _ => 0)))]))) : NW X G 2 21 [(0, .ref q)] [] cl sl ((q, .inr (7, fs)) :: T) := by
  refine n_aload hC (pc := 21) (k := 0) 0 rfl dX7_init_21 ?_
  refine n_iconst hC (pc := 22) (v := 2) (by decide +kernel) dX7_init_22 ?_
  refine n_newZ hC (pc := 23) (N := 2) (ws9 := fun q9 => (q, .inr (7, fs)) :: (T ++ [(q9, .inl (G.2.2 10, 2, .inl (fun _ => 0)))])) (by decide +kernel) (by decide +kernel) (Nat.le_of_ble_eq_true rfl) hcl hsl dX7_init_23 (fun _ => rfl) (fun q9 => ?_)
  refine n_putF hC hI (pc := 25) (k := 2) (ty := (.array .boolean)) (ws9 := (q, .inr (7, fs.set 2 (.ref q9))) :: (T ++ [(q9, .inl (G.2.2 10, 2, .inl (fun _ => 0)))])) ck_7 rfl (by decide) (mb 899 (by decide +kernel)) (by decide +kernel) rfl rfl (by omega) dX7_init_25 rfl ?_
  exact K q9

set_option maxRecDepth 20000 in
theorem z7_s3 (X : NT) (G : WT) {l9 : Launch} {d : Nat} (hC : NX X G l9 RX7 cX7_init 2 d 15 2360) (hI : NI X) (q : Nat) (fs : List Value) (hfs : fs.length = 29) (T : va_W) {cl sl : Nat} (hcl : cl + 1 ≤ 15) (hsl : sl + 80 ≤ 2360) (K : ∀ q9 : Nat, NW X G 2 36 [(0, .ref q)] [] (cl + 1) (sl + 80) ((q, .inr (7, fs.set 5 (.ref q9))) :: (T ++ [(q9, .inl (G.2.2 8, 80, .inl (fun _ => 0)))]))) : NW X G 2 28 [(0, .ref q)] [] cl sl ((q, .inr (7, fs)) :: T) := by
  refine n_aload hC (pc := 28) (k := 0) 0 rfl dX7_init_28 ?_
  refine n_bipush hC (pc := 29) (v := 80) (by decide +kernel) dX7_init_29 ?_
  refine n_newI hC (pc := 31) (N := 80) (ws9 := fun q9 => (q, .inr (7, fs)) :: (T ++ [(q9, .inl (G.2.2 8, 80, .inl (fun _ => 0)))])) (by decide +kernel) (by decide +kernel) (Nat.le_of_ble_eq_true rfl) hcl hsl dX7_init_31 (fun _ => rfl) (fun q9 => ?_)
  refine n_putF hC hI (pc := 33) (k := 5) (ty := (.array .int)) (ws9 := (q, .inr (7, fs.set 5 (.ref q9))) :: (T ++ [(q9, .inl (G.2.2 8, 80, .inl (fun _ => 0)))])) ck_7 rfl (by decide) (mb 902 (by decide +kernel)) (by decide +kernel) rfl rfl (by omega) dX7_init_33 rfl ?_
  exact K q9

set_option maxRecDepth 20000 in
theorem z7_s4 (X : NT) (G : WT) {l9 : Launch} {d : Nat} (hC : NX X G l9 RX7 cX7_init 2 d 15 2360) (hI : NI X) (q : Nat) (fs : List Value) (hfs : fs.length = 29) (T : va_W) {cl sl : Nat} (hcl : cl + 1 ≤ 15) (hsl : sl + 2 ≤ 2360) (K : ∀ q9 : Nat, NW X G 2 43 [(0, .ref q)] [] (cl + 1) (sl + 2) ((q, .inr (7, fs.set 9 (.ref q9))) :: (T ++ [(q9, .inl (G.2.2 8, 2, .inl (fun _ => 0)))]))) : NW X G 2 36 [(0, .ref q)] [] cl sl ((q, .inr (7, fs)) :: T) := by
  refine n_aload hC (pc := 36) (k := 0) 0 rfl dX7_init_36 ?_
  refine n_iconst hC (pc := 37) (v := 2) (by decide +kernel) dX7_init_37 ?_
  refine n_newI hC (pc := 38) (N := 2) (ws9 := fun q9 => (q, .inr (7, fs)) :: (T ++ [(q9, .inl (G.2.2 8, 2, .inl (fun _ => 0)))])) (by decide +kernel) (by decide +kernel) (Nat.le_of_ble_eq_true rfl) hcl hsl dX7_init_38 (fun _ => rfl) (fun q9 => ?_)
  refine n_putF hC hI (pc := 40) (k := 9) (ty := (.array .int)) (ws9 := (q, .inr (7, fs.set 9 (.ref q9))) :: (T ++ [(q9, .inl (G.2.2 8, 2, .inl (fun _ => 0)))])) ck_7 rfl (by decide) (mb 906 (by decide +kernel)) (by decide +kernel) rfl rfl (by omega) dX7_init_40 rfl ?_
  exact K q9

set_option maxRecDepth 20000 in
theorem z7_s5 (X : NT) (G : WT) {l9 : Launch} {d : Nat} (hC : NX X G l9 RX7 cX7_init 2 d 15 2360) (hI : NI X) (q : Nat) (fs : List Value) (hfs : fs.length = 29) (T : va_W) {cl sl : Nat} (hcl : cl + 1 ≤ 15) (hsl : sl + 160 ≤ 2360) (K : ∀ q9 : Nat, NW X G 2 52 [(0, .ref q)] [] (cl + 1) (sl + 160) ((q, .inr (7, fs.set 11 (.ref q9))) :: (T ++ [(q9, .inl (G.2.2 8, 160, .inl (fun _ => 0)))]))) : NW X G 2 43 [(0, .ref q)] [] cl sl ((q, .inr (7, fs)) :: T) := by
  refine n_aload hC (pc := 43) (k := 0) 0 rfl dX7_init_43 ?_
  refine n_sipush hC (pc := 44) (v := 160) (by decide +kernel) dX7_init_44 ?_
  refine n_newI hC (pc := 47) (N := 160) (ws9 := fun q9 => (q, .inr (7, fs)) :: (T ++ [(q9, .inl (G.2.2 8, 160, .inl (fun _ => 0)))])) (by decide +kernel) (by decide +kernel) (Nat.le_of_ble_eq_true rfl) hcl hsl dX7_init_47 (fun _ => rfl) (fun q9 => ?_)
  refine n_putF hC hI (pc := 49) (k := 11) (ty := (.array .int)) (ws9 := (q, .inr (7, fs.set 11 (.ref q9))) :: (T ++ [(q9, .inl (G.2.2 8, 160, .inl (fun _ => 0)))])) ck_7 rfl (by decide) (mb 908 (by decide +kernel)) (by decide +kernel) rfl rfl (by omega) dX7_init_49 rfl ?_
  exact K q9

set_option maxRecDepth 20000 in
theorem z7_s6 (X : NT) (G : WT) {l9 : Launch} {d : Nat} (hC : NX X G l9 RX7 cX7_init 2 d 15 2360) (hI : NI X) (q : Nat) (fs : List Value) (hfs : fs.length = 29) (T : va_W) {cl sl : Nat} (hcl : cl + 1 ≤ 15) (hsl : sl + 4 ≤ 2360) (K : ∀ q9 : Nat, NW X G 2 59 [(0, .ref q)] [] (cl + 1) (sl + 4) ((q, .inr (7, fs.set 19 (.ref q9))) :: (T ++ [(q9, .inl (G.2.2 8, 4, .inl (fun _ => 0)))]))) : NW X G 2 52 [(0, .ref q)] [] cl sl ((q, .inr (7, fs)) :: T) := by
  refine n_aload hC (pc := 52) (k := 0) 0 rfl dX7_init_52 ?_
  refine n_iconst hC (pc := 53) (v := 4) (by decide +kernel) dX7_init_53 ?_
  refine n_newI hC (pc := 54) (N := 4) (ws9 := fun q9 => (q, .inr (7, fs)) :: (T ++ [(q9, .inl (G.2.2 8, 4, .inl (fun _ => 0)))])) (by decide +kernel) (by decide +kernel) (Nat.le_of_ble_eq_true rfl) hcl hsl dX7_init_54 (fun _ => rfl) (fun q9 => ?_)
  refine n_putF hC hI (pc := 56) (k := 19) (ty := (.array .int)) (ws9 := (q, .inr (7, fs.set 19 (.ref q9))) :: (T ++ [(q9, .inl (G.2.2 8, 4, .inl (fun _ => 0)))])) ck_7 rfl (by decide) (mb 916 (by decide +kernel)) (by decide +kernel) rfl rfl (by omega) dX7_init_56 rfl ?_
  exact K q9

set_option maxRecDepth 20000 in
theorem z7_s7 (X : NT) (G : WT) {l9 : Launch} {d : Nat} (hC : NX X G l9 RX7 cX7_init 2 d 15 2360) (hI : NI X) (q : Nat) (fs : List Value) (hfs : fs.length = 29) (T : va_W) {cl sl : Nat} (hcl : cl + 1 ≤ 15) (hsl : sl + 4 ≤ 2360) (K : ∀ q9 : Nat, NW X G 2 66 [(0, .ref q)] [] (cl + 1) (sl + 4) ((q, .inr (7, fs.set 20 (.ref q9))) :: (T ++ [(q9, .inl (G.2.2 10, 4, .inl (fun _ => 0)))]))) : NW X G 2 59 [(0, .ref q)] [] cl sl ((q, .inr (7, fs)) :: T) := by
  refine n_aload hC (pc := 59) (k := 0) 0 rfl dX7_init_59 ?_
  refine n_iconst hC (pc := 60) (v := 4) (by decide +kernel) dX7_init_60 ?_
  refine n_newZ hC (pc := 61) (N := 4) (ws9 := fun q9 => (q, .inr (7, fs)) :: (T ++ [(q9, .inl (G.2.2 10, 4, .inl (fun _ => 0)))])) (by decide +kernel) (by decide +kernel) (Nat.le_of_ble_eq_true rfl) hcl hsl dX7_init_61 (fun _ => rfl) (fun q9 => ?_)
  refine n_putF hC hI (pc := 63) (k := 20) (ty := (.array .boolean)) (ws9 := (q, .inr (7, fs.set 20 (.ref q9))) :: (T ++ [(q9, .inl (G.2.2 10, 4, .inl (fun _ => 0)))])) ck_7 rfl (by decide) (mb 917 (by decide +kernel)) (by decide +kernel) rfl rfl (by omega) dX7_init_63 rfl ?_
  exact K q9

set_option maxRecDepth 20000 in
theorem z7_s8 (X : NT) (G : WT) {l9 : Launch} {d : Nat} (hC : NX X G l9 RX7 cX7_init 2 d 15 2360) (hI : NI X) (q : Nat) (fs : List Value) (hfs : fs.length = 29) (T : va_W) {cl sl : Nat} (hcl : cl + 1 ≤ 15) (hsl : sl + 1600 ≤ 2360) (K : ∀ q9 : Nat, NW X G 2 75 [(0, .ref q)] [] (cl + 1) (sl + 1600) ((q, .inr (7, fs.set 21 (.ref q9))) :: (T ++ [(q9, .inl (G.2.2 10, 1600, .inl (fun _ => 0)))]))) : NW X G 2 66 [(0, .ref q)] [] cl sl ((q, .inr (7, fs)) :: T) := by
  refine n_aload hC (pc := 66) (k := 0) 0 rfl dX7_init_66 ?_
  refine n_sipush hC (pc := 67) (v := 1600) (by decide +kernel) dX7_init_67 ?_
  refine n_newZ hC (pc := 70) (N := 1600) (ws9 := fun q9 => (q, .inr (7, fs)) :: (T ++ [(q9, .inl (G.2.2 10, 1600, .inl (fun _ => 0)))])) (by decide +kernel) (by decide +kernel) (Nat.le_of_ble_eq_true rfl) hcl hsl dX7_init_70 (fun _ => rfl) (fun q9 => ?_)
  refine n_putF hC hI (pc := 72) (k := 21) (ty := (.array .boolean)) (ws9 := (q, .inr (7, fs.set 21 (.ref q9))) :: (T ++ [(q9, .inl (G.2.2 10, 1600, .inl (fun _ => 0)))])) ck_7 rfl (by decide) (mb 918 (by decide +kernel)) (by decide +kernel) rfl rfl (by omega) dX7_init_72 rfl ?_
  exact K q9

set_option maxRecDepth 20000 in
theorem z7_s9 (X : NT) (G : WT) {l9 : Launch} {d : Nat} (hC : NX X G l9 RX7 cX7_init 2 d 15 2360) (hI : NI X) (q : Nat) (fs : List Value) (hfs : fs.length = 29) (T : va_W) {cl sl : Nat} (hcl : cl + 1 ≤ 15) (hsl : sl + 8 ≤ 2360) (K : ∀ q9 : Nat, NW X G 2 83 [(0, .ref q)] [] (cl + 1) (sl + 8) ((q, .inr (7, fs.set 22 (.ref q9))) :: (T ++ [(q9, .inl (G.2.2 9, 8, .inr (.inl (fun _ => 0))))]))) : NW X G 2 75 [(0, .ref q)] [] cl sl ((q, .inr (7, fs)) :: T) := by
  refine n_aload hC (pc := 75) (k := 0) 0 rfl dX7_init_75 ?_
  refine n_bipush hC (pc := 76) (v := 8) (by decide +kernel) dX7_init_76 ?_
  refine n_newL hC (pc := 78) (N := 8) (ws9 := fun q9 => (q, .inr (7, fs)) :: (T ++ [(q9, .inl (G.2.2 9, 8, .inr (.inl (fun _ => 0))))])) (by decide +kernel) (by decide +kernel) (Nat.le_of_ble_eq_true rfl) hcl hsl dX7_init_78 (fun _ => rfl) (fun q9 => ?_)
  refine n_putF hC hI (pc := 80) (k := 22) (ty := (.array .long)) (ws9 := (q, .inr (7, fs.set 22 (.ref q9))) :: (T ++ [(q9, .inl (G.2.2 9, 8, .inr (.inl (fun _ => 0))))])) ck_7 rfl (by decide) (mb 919 (by decide +kernel)) (by decide +kernel) rfl rfl (by omega) dX7_init_80 rfl ?_
  exact K q9

set_option maxRecDepth 20000 in
theorem z7_s10 (X : NT) (G : WT) {l9 : Launch} {d : Nat} (hC : NX X G l9 RX7 cX7_init 2 d 15 2360) (hI : NI X) (q : Nat) (fs : List Value) (hfs : fs.length = 29) (T : va_W) {cl sl : Nat} (hcl : cl + 1 ≤ 15) (hsl : sl + 8 ≤ 2360) (K : ∀ q9 : Nat, NW X G 2 91 [(0, .ref q)] [] (cl + 1) (sl + 8) ((q, .inr (7, fs.set 23 (.ref q9))) :: (T ++ [(q9, .inl (G.2.2 9, 8, .inr (.inl (fun _ => 0))))]))) : NW X G 2 83 [(0, .ref q)] [] cl sl ((q, .inr (7, fs)) :: T) := by
  refine n_aload hC (pc := 83) (k := 0) 0 rfl dX7_init_83 ?_
  refine n_bipush hC (pc := 84) (v := 8) (by decide +kernel) dX7_init_84 ?_
  refine n_newL hC (pc := 86) (N := 8) (ws9 := fun q9 => (q, .inr (7, fs)) :: (T ++ [(q9, .inl (G.2.2 9, 8, .inr (.inl (fun _ => 0))))])) (by decide +kernel) (by decide +kernel) (Nat.le_of_ble_eq_true rfl) hcl hsl dX7_init_86 (fun _ => rfl) (fun q9 => ?_)
  refine n_putF hC hI (pc := 88) (k := 23) (ty := (.array .long)) (ws9 := (q, .inr (7, fs.set 23 (.ref q9))) :: (T ++ [(q9, .inl (G.2.2 9, 8, .inr (.inl (fun _ => 0))))])) ck_7 rfl (by decide) (mb 920 (by decide +kernel)) (by decide +kernel) rfl rfl (by omega) dX7_init_88 rfl ?_
  exact K q9

set_option maxRecDepth 20000 in
theorem z7_s11 (X : NT) (G : WT) {l9 : Launch} {d : Nat} (hC : NX X G l9 RX7 cX7_init 2 d 15 2360) (hI : NI X) (q : Nat) (fs : List Value) (hfs : fs.length = 29) (T : va_W) {cl sl : Nat} (hcl : cl + 1 ≤ 15) (hsl : sl + 4 ≤ 2360) (K : ∀ q9 : Nat, NW X G 2 98 [(0, .ref q)] [] (cl + 1) (sl + 4) ((q, .inr (7, fs.set 24 (.ref q9))) :: (T ++ [(q9, .inl (G.2.2 8, 4, .inl (fun _ => 0)))]))) : NW X G 2 91 [(0, .ref q)] [] cl sl ((q, .inr (7, fs)) :: T) := by
  refine n_aload hC (pc := 91) (k := 0) 0 rfl dX7_init_91 ?_
  refine n_iconst hC (pc := 92) (v := 4) (by decide +kernel) dX7_init_92 ?_
  refine n_newI hC (pc := 93) (N := 4) (ws9 := fun q9 => (q, .inr (7, fs)) :: (T ++ [(q9, .inl (G.2.2 8, 4, .inl (fun _ => 0)))])) (by decide +kernel) (by decide +kernel) (Nat.le_of_ble_eq_true rfl) hcl hsl dX7_init_93 (fun _ => rfl) (fun q9 => ?_)
  refine n_putF hC hI (pc := 95) (k := 24) (ty := (.array .int)) (ws9 := (q, .inr (7, fs.set 24 (.ref q9))) :: (T ++ [(q9, .inl (G.2.2 8, 4, .inl (fun _ => 0)))])) ck_7 rfl (by decide) (mb 921 (by decide +kernel)) (by decide +kernel) rfl rfl (by omega) dX7_init_95 rfl ?_
  exact K q9

set_option maxRecDepth 20000 in
theorem z7_s12 (X : NT) (G : WT) {l9 : Launch} {d : Nat} (hC : NX X G l9 RX7 cX7_init 2 d 15 2360) (hI : NI X) (q : Nat) (fs : List Value) (hfs : fs.length = 29) (T : va_W) {cl sl : Nat} (hcl : cl + 1 ≤ 15) (hsl : sl + 4 ≤ 2360) (K : ∀ q9 : Nat, NW X G 2 105 [(0, .ref q)] [] (cl + 1) (sl + 4) ((q, .inr (7, fs.set 25 (.ref q9))) :: (T ++ [(q9, .inl (G.2.2 8, 4, .inl (fun _ => 0)))]))) : NW X G 2 98 [(0, .ref q)] [] cl sl ((q, .inr (7, fs)) :: T) := by
  refine n_aload hC (pc := 98) (k := 0) 0 rfl dX7_init_98 ?_
  refine n_iconst hC (pc := 99) (v := 4) (by decide +kernel) dX7_init_99 ?_
  refine n_newI hC (pc := 100) (N := 4) (ws9 := fun q9 => (q, .inr (7, fs)) :: (T ++ [(q9, .inl (G.2.2 8, 4, .inl (fun _ => 0)))])) (by decide +kernel) (by decide +kernel) (Nat.le_of_ble_eq_true rfl) hcl hsl dX7_init_100 (fun _ => rfl) (fun q9 => ?_)
  refine n_putF hC hI (pc := 102) (k := 25) (ty := (.array .int)) (ws9 := (q, .inr (7, fs.set 25 (.ref q9))) :: (T ++ [(q9, .inl (G.2.2 8, 4, .inl (fun _ => 0)))])) ck_7 rfl (by decide) (mb 922 (by decide +kernel)) (by decide +kernel) rfl rfl (by omega) dX7_init_102 rfl ?_
  exact K q9

set_option maxRecDepth 20000 in
theorem z7_s13 (X : NT) (G : WT) {l9 : Launch} {d : Nat} (hC : NX X G l9 RX7 cX7_init 2 d 15 2360) (hI : NI X) (q : Nat) (fs : List Value) (hfs : fs.length = 29) (T : va_W) {cl sl : Nat} (hcl : cl + 1 ≤ 15) (hsl : sl + 160 ≤ 2360) (K : ∀ q9 : Nat, NW X G 2 114 [(0, .ref q)] [] (cl + 1) (sl + 160) ((q, .inr (7, fs.set 26 (.ref q9))) :: (T ++ [(q9, .inl (G.2.2 8, 160, .inl (fun _ => 0)))]))) : NW X G 2 105 [(0, .ref q)] [] cl sl ((q, .inr (7, fs)) :: T) := by
  refine n_aload hC (pc := 105) (k := 0) 0 rfl dX7_init_105 ?_
  refine n_sipush hC (pc := 106) (v := 160) (by decide +kernel) dX7_init_106 ?_
  refine n_newI hC (pc := 109) (N := 160) (ws9 := fun q9 => (q, .inr (7, fs)) :: (T ++ [(q9, .inl (G.2.2 8, 160, .inl (fun _ => 0)))])) (by decide +kernel) (by decide +kernel) (Nat.le_of_ble_eq_true rfl) hcl hsl dX7_init_109 (fun _ => rfl) (fun q9 => ?_)
  refine n_putF hC hI (pc := 111) (k := 26) (ty := (.array .int)) (ws9 := (q, .inr (7, fs.set 26 (.ref q9))) :: (T ++ [(q9, .inl (G.2.2 8, 160, .inl (fun _ => 0)))])) ck_7 rfl (by decide) (mb 923 (by decide +kernel)) (by decide +kernel) rfl rfl (by omega) dX7_init_111 rfl ?_
  exact K q9

set_option maxRecDepth 20000 in
theorem z7_s14 (X : NT) (G : WT) {l9 : Launch} {d : Nat} (hC : NX X G l9 RX7 cX7_init 2 d 15 2360) (hI : NI X) (q : Nat) (fs : List Value) (hfs : fs.length = 29) (T : va_W) {cl sl : Nat} (hcl : cl + 1 ≤ 15) (hsl : sl + 4 ≤ 2360) (K : ∀ q9 : Nat, NW X G 2 121 [(0, .ref q)] [] (cl + 1) (sl + 4) ((q, .inr (7, fs.set 28 (.ref q9))) :: (T ++ [(q9, .inl (G.2.2 8, 4, .inl (fun _ => 0)))]))) : NW X G 2 114 [(0, .ref q)] [] cl sl ((q, .inr (7, fs)) :: T) := by
  refine n_aload hC (pc := 114) (k := 0) 0 rfl dX7_init_114 ?_
  refine n_iconst hC (pc := 115) (v := 4) (by decide +kernel) dX7_init_115 ?_
  refine n_newI hC (pc := 116) (N := 4) (ws9 := fun q9 => (q, .inr (7, fs)) :: (T ++ [(q9, .inl (G.2.2 8, 4, .inl (fun _ => 0)))])) (by decide +kernel) (by decide +kernel) (Nat.le_of_ble_eq_true rfl) hcl hsl dX7_init_116 (fun _ => rfl) (fun q9 => ?_)
  refine n_putF hC hI (pc := 118) (k := 28) (ty := (.array .int)) (ws9 := (q, .inr (7, fs.set 28 (.ref q9))) :: (T ++ [(q9, .inl (G.2.2 8, 4, .inl (fun _ => 0)))])) ck_7 rfl (by decide) (mb 925 (by decide +kernel)) (by decide +kernel) rfl rfl (by omega) dX7_init_118 rfl ?_
  exact K q9

theorem z7_fs (q8_0 q16_1 q23_2 q31_3 q38_4 q47_5 q54_6 q61_7 q70_8 q78_9 q86_10 q93_11 q100_12 q109_13 q116_14 : Nat) : ((List.set (List.set (List.set (List.set (List.set (List.set (List.set (List.set (List.set (List.set (List.set (List.set (List.set (List.set (List.set ([.null, .null, .null, .int 0, .int 0, .null, .int 0, .int 0, .int 0, .null, .int 0, .null, .int 0, .int 0, .int 0, .int 0, .int 0, .int 0, .int 0, .null, .null, .null, .null, .null, .null, .null, .null, .int 0, .null] : List Value) 0 (.ref q8_0)) 1 (.ref q16_1)) 2 (.ref q23_2)) 5 (.ref q31_3)) 9 (.ref q38_4)) 11 (.ref q47_5)) 19 (.ref q54_6)) 20 (.ref q61_7)) 21 (.ref q70_8)) 22 (.ref q78_9)) 23 (.ref q86_10)) 24 (.ref q93_11)) 25 (.ref q100_12)) 26 (.ref q109_13)) 28 (.ref q116_14)) : List Value) = [.ref q8_0, .ref q16_1, .ref q23_2, .int 0, .int 0, .ref q31_3, .int 0, .int 0, .int 0, .ref q38_4, .int 0, .ref q47_5, .int 0, .int 0, .int 0, .int 0, .int 0, .int 0, .int 0, .ref q54_6, .ref q61_7, .ref q70_8, .ref q78_9, .ref q86_10, .ref q93_11, .ref q100_12, .ref q109_13, .int 0, .ref q116_14] := rfl
theorem z7_ap (G : WT) (x : Nat × va_E) (pl : va_W) (q8_0 q16_1 q23_2 q31_3 q38_4 q47_5 q54_6 q61_7 q70_8 q78_9 q86_10 q93_11 q100_12 q109_13 q116_14 : Nat) : (x :: (pl ++ [(q8_0, .inl (G.2.2 8, 240, .inl (fun _ => 0)))] ++ [(q16_1, .inl (G.2.2 8, 80, .inl (fun _ => 0)))] ++ [(q23_2, .inl (G.2.2 10, 2, .inl (fun _ => 0)))] ++ [(q31_3, .inl (G.2.2 8, 80, .inl (fun _ => 0)))] ++ [(q38_4, .inl (G.2.2 8, 2, .inl (fun _ => 0)))] ++ [(q47_5, .inl (G.2.2 8, 160, .inl (fun _ => 0)))] ++ [(q54_6, .inl (G.2.2 8, 4, .inl (fun _ => 0)))] ++ [(q61_7, .inl (G.2.2 10, 4, .inl (fun _ => 0)))] ++ [(q70_8, .inl (G.2.2 10, 1600, .inl (fun _ => 0)))] ++ [(q78_9, .inl (G.2.2 9, 8, .inr (.inl (fun _ => 0))))] ++ [(q86_10, .inl (G.2.2 9, 8, .inr (.inl (fun _ => 0))))] ++ [(q93_11, .inl (G.2.2 8, 4, .inl (fun _ => 0)))] ++ [(q100_12, .inl (G.2.2 8, 4, .inl (fun _ => 0)))] ++ [(q109_13, .inl (G.2.2 8, 160, .inl (fun _ => 0)))] ++ [(q116_14, .inl (G.2.2 8, 4, .inl (fun _ => 0)))]) : va_W) = [x] ++ pl ++ [(q8_0, .inl (G.2.2 8, 240, .inl (fun _ => 0))), (q16_1, .inl (G.2.2 8, 80, .inl (fun _ => 0))), (q23_2, .inl (G.2.2 10, 2, .inl (fun _ => 0))), (q31_3, .inl (G.2.2 8, 80, .inl (fun _ => 0))), (q38_4, .inl (G.2.2 8, 2, .inl (fun _ => 0))), (q47_5, .inl (G.2.2 8, 160, .inl (fun _ => 0))), (q54_6, .inl (G.2.2 8, 4, .inl (fun _ => 0))), (q61_7, .inl (G.2.2 10, 4, .inl (fun _ => 0))), (q70_8, .inl (G.2.2 10, 1600, .inl (fun _ => 0))), (q78_9, .inl (G.2.2 9, 8, .inr (.inl (fun _ => 0)))), (q86_10, .inl (G.2.2 9, 8, .inr (.inl (fun _ => 0)))), (q93_11, .inl (G.2.2 8, 4, .inl (fun _ => 0))), (q100_12, .inl (G.2.2 8, 4, .inl (fun _ => 0))), (q109_13, .inl (G.2.2 8, 160, .inl (fun _ => 0))), (q116_14, .inl (G.2.2 8, 4, .inl (fun _ => 0)))] := by
  simp only [List.append_assoc, List.cons_append, List.nil_append]
set_option maxRecDepth 20000 in
set_option maxHeartbeats 4000000 in
theorem z7_first (X : NT) (G : WT) {l9 : Launch} {d : Nat} (hC : NX X G l9 RX7 cX7_init 2 d 15 2360) (hI : NI X) (hd : 1 ≤ d) (q : Nat) (pl : va_W) (K : ∀ q8_0 q16_1 q23_2 q31_3 q38_4 q47_5 q54_6 q61_7 q70_8 q78_9 q86_10 q93_11 q100_12 q109_13 q116_14 : Nat, NW X G 2 121 [(0, .ref q)] [] 15 2360 ([(q, .inr (7, [.ref q8_0, .ref q16_1, .ref q23_2, .int 0, .int 0, .ref q31_3, .int 0, .int 0, .int 0, .ref q38_4, .int 0, .ref q47_5, .int 0, .int 0, .int 0, .int 0, .int 0, .int 0, .int 0, .ref q54_6, .ref q61_7, .ref q70_8, .ref q78_9, .ref q86_10, .ref q93_11, .ref q100_12, .ref q109_13, .int 0, .ref q116_14]))] ++ pl ++ [(q8_0, .inl (G.2.2 8, 240, .inl (fun _ => 0))), (q16_1, .inl (G.2.2 8, 80, .inl (fun _ => 0))), (q23_2, .inl (G.2.2 10, 2, .inl (fun _ => 0))), (q31_3, .inl (G.2.2 8, 80, .inl (fun _ => 0))), (q38_4, .inl (G.2.2 8, 2, .inl (fun _ => 0))), (q47_5, .inl (G.2.2 8, 160, .inl (fun _ => 0))), (q54_6, .inl (G.2.2 8, 4, .inl (fun _ => 0))), (q61_7, .inl (G.2.2 10, 4, .inl (fun _ => 0))), (q70_8, .inl (G.2.2 10, 1600, .inl (fun _ => 0))), (q78_9, .inl (G.2.2 9, 8, .inr (.inl (fun _ => 0)))), (q86_10, .inl (G.2.2 9, 8, .inr (.inl (fun _ => 0)))), (q93_11, .inl (G.2.2 8, 4, .inl (fun _ => 0))), (q100_12, .inl (G.2.2 8, 4, .inl (fun _ => 0))), (q109_13, .inl (G.2.2 8, 160, .inl (fun _ => 0))), (q116_14, .inl (G.2.2 8, 4, .inl (fun _ => 0)))])) : NW X G 2 0 [(0, .ref q)] [] 0 0 ((q, .inr (7, [.null, .null, .null, .int 0, .int 0, .null, .int 0, .int 0, .int 0, .null, .int 0, .null, .int 0, .int 0, .int 0, .int 0, .int 0, .int 0, .int 0, .null, .null, .null, .null, .null, .null, .null, .null, .int 0, .null])) :: pl) := by
  refine n_aload hC (pc := 0) (k := 0) 0 rfl dX7_init_0 ?_
  refine n_obj hC (pc := 1) (mb 888 (by decide +kernel)) (by omega) (Nat.le_of_ble_eq_true rfl) dX7_init_1 ?_
  refine z7_s0 X G hC hI q _ (by first | (simp only [List.length_set]; rfl) | rfl) _ (Nat.le_of_ble_eq_true rfl) (Nat.le_of_ble_eq_true rfl) (fun q8_0 => ?_)
  refine z7_s1 X G hC hI q _ (by first | (simp only [List.length_set]; rfl) | rfl) _ (Nat.le_of_ble_eq_true rfl) (Nat.le_of_ble_eq_true rfl) (fun q16_1 => ?_)
  refine z7_s2 X G hC hI q _ (by first | (simp only [List.length_set]; rfl) | rfl) _ (Nat.le_of_ble_eq_true rfl) (Nat.le_of_ble_eq_true rfl) (fun q23_2 => ?_)
  refine z7_s3 X G hC hI q _ (by first | (simp only [List.length_set]; rfl) | rfl) _ (Nat.le_of_ble_eq_true rfl) (Nat.le_of_ble_eq_true rfl) (fun q31_3 => ?_)
  refine z7_s4 X G hC hI q _ (by first | (simp only [List.length_set]; rfl) | rfl) _ (Nat.le_of_ble_eq_true rfl) (Nat.le_of_ble_eq_true rfl) (fun q38_4 => ?_)
  refine z7_s5 X G hC hI q _ (by first | (simp only [List.length_set]; rfl) | rfl) _ (Nat.le_of_ble_eq_true rfl) (Nat.le_of_ble_eq_true rfl) (fun q47_5 => ?_)
  refine z7_s6 X G hC hI q _ (by first | (simp only [List.length_set]; rfl) | rfl) _ (Nat.le_of_ble_eq_true rfl) (Nat.le_of_ble_eq_true rfl) (fun q54_6 => ?_)
  refine z7_s7 X G hC hI q _ (by first | (simp only [List.length_set]; rfl) | rfl) _ (Nat.le_of_ble_eq_true rfl) (Nat.le_of_ble_eq_true rfl) (fun q61_7 => ?_)
  refine z7_s8 X G hC hI q _ (by first | (simp only [List.length_set]; rfl) | rfl) _ (Nat.le_of_ble_eq_true rfl) (Nat.le_of_ble_eq_true rfl) (fun q70_8 => ?_)
  refine z7_s9 X G hC hI q _ (by first | (simp only [List.length_set]; rfl) | rfl) _ (Nat.le_of_ble_eq_true rfl) (Nat.le_of_ble_eq_true rfl) (fun q78_9 => ?_)
  refine z7_s10 X G hC hI q _ (by first | (simp only [List.length_set]; rfl) | rfl) _ (Nat.le_of_ble_eq_true rfl) (Nat.le_of_ble_eq_true rfl) (fun q86_10 => ?_)
  refine z7_s11 X G hC hI q _ (by first | (simp only [List.length_set]; rfl) | rfl) _ (Nat.le_of_ble_eq_true rfl) (Nat.le_of_ble_eq_true rfl) (fun q93_11 => ?_)
  refine z7_s12 X G hC hI q _ (by first | (simp only [List.length_set]; rfl) | rfl) _ (Nat.le_of_ble_eq_true rfl) (Nat.le_of_ble_eq_true rfl) (fun q100_12 => ?_)
  refine z7_s13 X G hC hI q _ (by first | (simp only [List.length_set]; rfl) | rfl) _ (Nat.le_of_ble_eq_true rfl) (Nat.le_of_ble_eq_true rfl) (fun q109_13 => ?_)
  refine z7_s14 X G hC hI q _ (by first | (simp only [List.length_set]; rfl) | rfl) _ (Nat.le_of_ble_eq_true rfl) (Nat.le_of_ble_eq_true rfl) (fun q116_14 => ?_)
  have h9 := K q8_0 q16_1 q23_2 q31_3 q38_4 q47_5 q54_6 q61_7 q70_8 q78_9 q86_10 q93_11 q100_12 q109_13 q116_14
  rw [← z7_ap, ← z7_fs q8_0 q16_1 q23_2 q31_3 q38_4 q47_5 q54_6 q61_7 q70_8 q78_9 q86_10 q93_11 q100_12 q109_13 q116_14] at h9
  exact h9
def h7L : HP := (upI (upI (upI (upI h0C (3, 0, 25) 0 (-4)) (3, 0, 25) 1 (-4)) (3, 0, 25) 2 (-4)) (3, 0, 25) 3 (-4))
def h7F : HP := upI (upI (upI (upI (upI (upI (upR h7L (3, 0, 6) (dftF (h7L.1 (3, 0, 6)) 80)) (3, 0, 0) 6 4) (3, 0, 0) 7 0) (3, 0, 0) 8 0) (3, 0, 10) 0 0) (3, 0, 10) 1 0) (3, 0, 0) 10 (-4)
def h7 : HP := upI (upI (upI (upI (upR h7F (3, 0, 1) (cpR (h7F.1 (3, 0, 1)) (h7F.1 (3, 0, 6)) 80)) (3, 0, 0) 3 (h7F.1 (3, 0, 0) 6)) (3, 0, 0) 4 (h7F.1 (3, 0, 0) 7)) (3, 0, 3) 0 0) (3, 0, 3) 1 0
theorem h7_C {i : PId} (hi : ¬ i.1 = 3) : h7.1 i = h0C.1 i := by
  have ne : ∀ j : PId, j.1 = 3 → ¬ i = j := fun j hj e => hi (e ▸ hj)
  funext k
  simp only [h7, h7F, h7L, upI, upR, ne (3, 0, 3) rfl, ne (3, 0, 0) rfl, ne (3, 0, 1) rfl, ne (3, 0, 10) rfl, ne (3, 0, 6) rfl, ne (3, 0, 25) rfl, if_false, false_and]
theorem Inv_h7 : Inv h7 := by
  refine Inv_init ?_ ?_ ?_ ?_ ?_ ?_ ?_ ?_ ?_ ?_ ?_ ?_ ?_ ?_ ?_ ?_
  · rw [h7_C (by decide)]; rfl
  · intro k hk _; rw [h7_C (by decide)]
    match k, hk with
    | k + 1, _ => rfl
  · intro k hk; rw [h7_C (by decide)]
    show filR (fun _ => 0) 16 (-4) k = -4
    unfold filR
    rw [if_pos hk]
  · intro k _; rw [h7_C (by decide)]; rfl
  · rfl
  · rfl
  · rfl
  · rfl
  · rfl
  · intro k hk
    have e : h7.1 (3, 0, 1) k = cpR (h7F.1 (3, 0, 1)) (h7F.1 (3, 0, 6)) 80 k := rfl
    rw [e]; unfold cpR; rw [if_pos hk]
    have e2 : h7F.1 (3, 0, 6) k = dftF (h7L.1 (3, 0, 6)) 80 k := rfl
    rw [e2]; unfold dftF rw0; rw [if_pos hk]
  · intro k hk
    rcases (show k = 0 ∨ k = 1 by omega) with rfl | rfl <;> rfl
  · intro k _ _; rw [h7_C (by decide)]; rfl
  · rw [h7_C (by decide)]; rfl
  · rw [h7_C (by decide)]; rfl
  · intro k hk
    refine ⟨?_, ?_⟩
    · rw [h7_C (show ¬ (2 : Nat) = 3 by decide)]
      show (-1 : Int32) < 0
      decide
    · rcases (show k = 0 ∨ k = 1 ∨ k = 2 ∨ k = 3 by omega) with rfl | rfl | rfl | rfl <;> rfl
  · intro q w _ _; rw [h7_C (by show ¬ (6 : Nat) = 3; decide)]; rfl
set_option maxRecDepth 20000 in
set_option maxHeartbeats 4000000 in
theorem z7_rest (X : CT) (G : WT) {l9 : Launch} {d : Nat} (hC : Cx X G l9 RX7 cX7_init 2 d) (hd : 2 ≤ d) (K : ∀ h l, Inv h → V X G 2 150 l [] h) : V X G 2 121 [(0, vr (3, 0, 0))] [] h0C := by
  refine v_iconst hC (pc := 121) (v := 0) (by decide) dX7_init_121 ?_
  refine v_istore_n hC (pc := 122) (l' := [(1, _), (0, _)]) dX7_init_122 (by decide) rfl ?_
  refine v_iload_n hC (pc := 123) (k := 1) 0 rfl dX7_init_123 ?_
  refine v_iconst hC (pc := 124) (v := 4) (by decide) dX7_init_124 ?_
  refine v_icmp_ge hC (pc := 125) (tgt := 142) dX7_init_125 (by decide) (fun z => absurd z (by decide)) (fun _ => ?_)
  refine v_aload_n hC (pc := 128) (k := 0) 1 rfl dX7_init_128 ?_
  refine v_getR hC (pc := 129) dX7_init_129 fl_X7_45 rfl (by rfl) rfl (by decide) (by decide) rfl ?_
  refine v_iload_n hC (pc := 132) (k := 1) 0 rfl dX7_init_132 ?_
  refine v_bipush hC (pc := 133) (v := (-4)) (by decide +kernel) dX7_init_133 ?_
  refine v_iast hC (pc := 135) dX7_init_135 rfl (by rfl) (by unfold vp_in; decide +kernel) ?_
  refine v_heap (congrArg (fun k => upI h0C (3, 0, 25) k (-4)) (show (0 : Int32).toNatClampNeg = 0 by decide +kernel)) ?_
  refine v_iinc hC (pc := 136) (l' := [(1, vi 1), (0, vr (3, 0, 0))]) 0 (v := 1) dX7_init_136 rfl (by decide) (by decide) rfl ?_
  refine v_goto hC (pc := 139) (tgt := 123) dX7_init_139 (by decide) ?_
  refine v_iload_n hC (pc := 123) (k := 1) 0 rfl dX7_init_123 ?_
  refine v_iconst hC (pc := 124) (v := 4) (by decide) dX7_init_124 ?_
  refine v_icmp_ge hC (pc := 125) (tgt := 142) dX7_init_125 (by decide) (fun z => absurd z (by decide)) (fun _ => ?_)
  refine v_aload_n hC (pc := 128) (k := 0) 1 rfl dX7_init_128 ?_
  refine v_getR hC (pc := 129) dX7_init_129 fl_X7_45 rfl (by rfl) rfl (by decide) (by decide) rfl ?_
  refine v_iload_n hC (pc := 132) (k := 1) 0 rfl dX7_init_132 ?_
  refine v_bipush hC (pc := 133) (v := (-4)) (by decide +kernel) dX7_init_133 ?_
  refine v_iast hC (pc := 135) dX7_init_135 rfl (by rfl) (by unfold vp_in; decide +kernel) ?_
  refine v_heap (congrArg (fun k => upI (upI h0C (3, 0, 25) 0 (-4)) (3, 0, 25) k (-4)) (show (1 : Int32).toNatClampNeg = 1 by decide +kernel)) ?_
  refine v_iinc hC (pc := 136) (l' := [(1, vi 2), (0, vr (3, 0, 0))]) 0 (v := 2) dX7_init_136 rfl (by decide) (by decide) rfl ?_
  refine v_goto hC (pc := 139) (tgt := 123) dX7_init_139 (by decide) ?_
  refine v_iload_n hC (pc := 123) (k := 1) 0 rfl dX7_init_123 ?_
  refine v_iconst hC (pc := 124) (v := 4) (by decide) dX7_init_124 ?_
  refine v_icmp_ge hC (pc := 125) (tgt := 142) dX7_init_125 (by decide) (fun z => absurd z (by decide)) (fun _ => ?_)
  refine v_aload_n hC (pc := 128) (k := 0) 1 rfl dX7_init_128 ?_
  refine v_getR hC (pc := 129) dX7_init_129 fl_X7_45 rfl (by rfl) rfl (by decide) (by decide) rfl ?_
  refine v_iload_n hC (pc := 132) (k := 1) 0 rfl dX7_init_132 ?_
  refine v_bipush hC (pc := 133) (v := (-4)) (by decide +kernel) dX7_init_133 ?_
  refine v_iast hC (pc := 135) dX7_init_135 rfl (by rfl) (by unfold vp_in; decide +kernel) ?_
  refine v_heap (congrArg (fun k => upI (upI (upI h0C (3, 0, 25) 0 (-4)) (3, 0, 25) 1 (-4)) (3, 0, 25) k (-4)) (show (2 : Int32).toNatClampNeg = 2 by decide +kernel)) ?_
  refine v_iinc hC (pc := 136) (l' := [(1, vi 3), (0, vr (3, 0, 0))]) 0 (v := 3) dX7_init_136 rfl (by decide) (by decide) rfl ?_
  refine v_goto hC (pc := 139) (tgt := 123) dX7_init_139 (by decide) ?_
  refine v_iload_n hC (pc := 123) (k := 1) 0 rfl dX7_init_123 ?_
  refine v_iconst hC (pc := 124) (v := 4) (by decide) dX7_init_124 ?_
  refine v_icmp_ge hC (pc := 125) (tgt := 142) dX7_init_125 (by decide) (fun z => absurd z (by decide)) (fun _ => ?_)
  refine v_aload_n hC (pc := 128) (k := 0) 1 rfl dX7_init_128 ?_
  refine v_getR hC (pc := 129) dX7_init_129 fl_X7_45 rfl (by rfl) rfl (by decide) (by decide) rfl ?_
  refine v_iload_n hC (pc := 132) (k := 1) 0 rfl dX7_init_132 ?_
  refine v_bipush hC (pc := 133) (v := (-4)) (by decide +kernel) dX7_init_133 ?_
  refine v_iast hC (pc := 135) dX7_init_135 rfl (by rfl) (by unfold vp_in; decide +kernel) ?_
  refine v_heap (congrArg (fun k => upI (upI (upI (upI h0C (3, 0, 25) 0 (-4)) (3, 0, 25) 1 (-4)) (3, 0, 25) 2 (-4)) (3, 0, 25) k (-4)) (show (3 : Int32).toNatClampNeg = 3 by decide +kernel)) ?_
  refine v_iinc hC (pc := 136) (l' := [(1, vi 4), (0, vr (3, 0, 0))]) 0 (v := 4) dX7_init_136 rfl (by decide) (by decide) rfl ?_
  refine v_goto hC (pc := 139) (tgt := 123) dX7_init_139 (by decide) ?_
  refine v_iload_n hC (pc := 123) (k := 1) 0 rfl dX7_init_123 ?_
  refine v_iconst hC (pc := 124) (v := 4) (by decide) dX7_init_124 ?_
  refine v_icmp_ge hC (pc := 125) (tgt := 142) dX7_init_125 (by decide) (fun _ => ?_) (fun z => absurd (by decide) z)
  refine v_aload_n hC (pc := 142) (k := 0) 1 rfl dX7_init_142 ?_
  refine v_callV hC (pc := 143) (As := []) dX7_init_143 rfl (m_firstDraft _ _ (d := 1) (by omega) _) cv_X7_57 rfl (by decide) rfl (by rfl) (Nat.le_of_ble_eq_true rfl) (by omega) (fun r1 h1 hr1 => ?_)
  rw [hr1.1]
  refine v_aload_n hC (pc := 146) (k := 0) 1 rfl dX7_init_146 ?_
  refine v_callV hC (pc := 147) (As := []) dX7_init_147 rfl (m_keepDraft _ _ (d := 1) (by omega) _) cv_X7_60 rfl (by decide) rfl (by rfl) (Nat.le_of_ble_eq_true rfl) (by omega) (fun r2 h2 hr2 => ?_)
  rw [hr2.1]
  have e1 : h1 = h7F := hr1.2
  have e2 : h2 = h7 := by rw [hr2.2, e1]; rfl
  rw [e2]
  exact K _ _ Inv_h7

theorem P_mid {D : va_G} {H : Heap} {w1 w2 w3 : va_W} (h : va_P D vwCl (w1 ++ w2 ++ w3) H) : va_P D vwCl w2 H := fun k x hx => h (w1.length + k) x (by
  have hk := (List.getElem?_eq_some_iff.mp hx).1
  rw [List.append_assoc, List.getElem?_append_right (by omega), Nat.add_sub_cancel_left, List.getElem?_append_left hk]
  exact hx)
abbrev w7 (D : va_G × (Nat → ClassId)) (q q6 : Nat) (u : U6) : va_W := [(q, .inr (7, [.null, .null, .null, .int 0, .int 0, .null, .int 0, .int 0, .int 0, .null, .int 0, .null, .int 0, .int 0, .int 0, .int 0, .int 0, .int 0, .int 0, .null, .null, .null, .null, .null, .null, .null, .null, .int 0, .null]))] ++ WK6 (fun _ => 0, D) q6 u
/-- where the reference's rows lie -/
def adR (q : Nat) (l : List Nat) : Nat → Nat := fun j => match j with
  | 0 => q
  | 1 => l.getD 0 0
  | 2 => l.getD 1 0
  | 3 => l.getD 2 0
  | 6 => l.getD 3 0
  | 10 => l.getD 4 0
  | 12 => l.getD 5 0
  | 20 => l.getD 6 0
  | 21 => l.getD 7 0
  | 22 => l.getD 8 0
  | 23 => l.getD 9 0
  | 24 => l.getD 10 0
  | 25 => l.getD 11 0
  | 26 => l.getD 12 0
  | 27 => l.getD 13 0
  | 29 => l.getD 14 0
  | _ => 0
set_option maxRecDepth 20000 in
set_option maxHeartbeats 4000000 in
theorem at_R {D : va_G × (Nat → ClassId)} {q q6 : Nat} {u : U6} {sA : Nat → Nat → Nat} {b : Nat} {H : Heap} {q8_0 q16_1 q23_2 q31_3 q38_4 q47_5 q54_6 q61_7 q70_8 q78_9 q86_10 q93_11 q100_12 q109_13 q116_14 : Nat} (hP : va_P D.1 vwCl ([(q8_0, .inl (D.2 8, 240, .inl (fun _ => 0))), (q16_1, .inl (D.2 8, 80, .inl (fun _ => 0))), (q23_2, .inl (D.2 10, 2, .inl (fun _ => 0))), (q31_3, .inl (D.2 8, 80, .inl (fun _ => 0))), (q38_4, .inl (D.2 8, 2, .inl (fun _ => 0))), (q47_5, .inl (D.2 8, 160, .inl (fun _ => 0))), (q54_6, .inl (D.2 8, 4, .inl (fun _ => 0))), (q61_7, .inl (D.2 10, 4, .inl (fun _ => 0))), (q70_8, .inl (D.2 10, 1600, .inl (fun _ => 0))), (q78_9, .inl (D.2 9, 8, .inr (.inl (fun _ => 0)))), (q86_10, .inl (D.2 9, 8, .inr (.inl (fun _ => 0)))), (q93_11, .inl (D.2 8, 4, .inl (fun _ => 0))), (q100_12, .inl (D.2 8, 4, .inl (fun _ => 0))), (q109_13, .inl (D.2 8, 160, .inl (fun _ => 0))), (q116_14, .inl (D.2 8, 4, .inl (fun _ => 0)))]) H) : ∀ i ∈ idR, aT D q6 u sA b (adR q [q8_0, q16_1, q23_2, q31_3, q38_4, q47_5, q54_6, q61_7, q70_8, q78_9, q86_10, q93_11, q100_12, q109_13, q116_14]) H i :=
  List.forall_mem_cons.mpr ⟨hP 0 _ rfl, List.forall_mem_cons.mpr ⟨hP 1 _ rfl, List.forall_mem_cons.mpr ⟨hP 2 _ rfl, List.forall_mem_cons.mpr ⟨hP 3 _ rfl, List.forall_mem_cons.mpr ⟨hP 4 _ rfl, List.forall_mem_cons.mpr ⟨hP 5 _ rfl, List.forall_mem_cons.mpr ⟨hP 6 _ rfl, List.forall_mem_cons.mpr ⟨hP 7 _ rfl, List.forall_mem_cons.mpr ⟨hP 8 _ rfl, List.forall_mem_cons.mpr ⟨hP 9 _ rfl, List.forall_mem_cons.mpr ⟨hP 10 _ rfl, List.forall_mem_cons.mpr ⟨hP 11 _ rfl, List.forall_mem_cons.mpr ⟨hP 12 _ rfl, List.forall_mem_cons.mpr ⟨hP 13 _ rfl, List.forall_mem_cons.mpr ⟨hP 14 _ rfl, fun _ h => absurd h List.not_mem_nil⟩⟩⟩⟩⟩⟩⟩⟩⟩⟩⟩⟩⟩⟩⟩
set_option maxRecDepth 20000 in
set_option maxHeartbeats 4000000 in
theorem at_W {D : va_G × (Nat → ClassId)} {q q6 : Nat} {u : U6} {sA : Nat → Nat → Nat} {b : Nat} {H : Heap} {q8_0 q16_1 q23_2 q31_3 q38_4 q47_5 q54_6 q61_7 q70_8 q78_9 q86_10 q93_11 q100_12 q109_13 q116_14 : Nat} (hP : va_P D.1 vwCl ([(q, .inr (7, [.ref q8_0, .ref q16_1, .ref q23_2, .int 0, .int 0, .ref q31_3, .int 0, .int 0, .int 0, .ref q38_4, .int 0, .ref q47_5, .int 0, .int 0, .int 0, .int 0, .int 0, .int 0, .int 0, .ref q54_6, .ref q61_7, .ref q70_8, .ref q78_9, .ref q86_10, .ref q93_11, .ref q100_12, .ref q109_13, .int 0, .ref q116_14]))] ++ WK6 (fun _ => 0, D) q6 u ++ [(q8_0, .inl (D.2 8, 240, .inl (fun _ => 0))), (q16_1, .inl (D.2 8, 80, .inl (fun _ => 0))), (q23_2, .inl (D.2 10, 2, .inl (fun _ => 0))), (q31_3, .inl (D.2 8, 80, .inl (fun _ => 0))), (q38_4, .inl (D.2 8, 2, .inl (fun _ => 0))), (q47_5, .inl (D.2 8, 160, .inl (fun _ => 0))), (q54_6, .inl (D.2 8, 4, .inl (fun _ => 0))), (q61_7, .inl (D.2 10, 4, .inl (fun _ => 0))), (q70_8, .inl (D.2 10, 1600, .inl (fun _ => 0))), (q78_9, .inl (D.2 9, 8, .inr (.inl (fun _ => 0)))), (q86_10, .inl (D.2 9, 8, .inr (.inl (fun _ => 0)))), (q93_11, .inl (D.2 8, 4, .inl (fun _ => 0))), (q100_12, .inl (D.2 8, 4, .inl (fun _ => 0))), (q109_13, .inl (D.2 8, 160, .inl (fun _ => 0))), (q116_14, .inl (D.2 8, 4, .inl (fun _ => 0)))]) H) : ∀ i ∈ idW, aT D q6 u sA b (adR q [q8_0, q16_1, q23_2, q31_3, q38_4, q47_5, q54_6, q61_7, q70_8, q78_9, q86_10, q93_11, q100_12, q109_13, q116_14]) H i := by
  obtain ⟨h12, h3⟩ := P_split hP
  obtain ⟨h1, h2⟩ := P_split h12
  exact List.forall_mem_cons.mpr ⟨h1 0 _ rfl, List.forall_mem_append.mpr ⟨at_C h2, at_R h3⟩⟩
set_option maxRecDepth 20000 in
set_option maxHeartbeats 4000000 in
theorem z_X7 (l9 : Launch) (D : va_G × (Nat → ClassId)) {d : Nat} (hd : 2 ≤ d) (q q6 : Nat) (u : U6) (sA : Nat → Nat → Nat) (b : Nat) (sz : Nat) : Met l9 yX7_init (.code yX7_init cX7_init 2 none :: BIG) { frames := d, cells := 15, slots := 2360, locals := 40 * d } (va_Pc [.ref q] (fun U => U.heap.size = sz ∧ va_P D.1 vwCl (w7 D q q6 u) U.heap ∧ KA (fun _ => 0, D) U ∧ va_D (fun _ => True) (w7 D q q6 u) ∧ Ex (adW q6 u sA b (fun _ => 0)) (va_A (w7 D q q6 u) sz) U U.heap)) (va_Qv (fun v : (Nat → Nat) × HP => Inv v.2 ∧ v.1 0 = q) (fun v t => va_P D.1 vwCl (ww (adW q6 u sA b v.1, D) v.2) t.heap ∧ va_D (va_A (w7 D q q6 u) sz) (ww (adW q6 u sA b v.1, D) v.2)) (va_A (w7 D q q6 u) sz)) 15 2360 (va_A (w7 D q q6 u) sz) := by
  refine Met.ofW (cc := cX7_init) (maxL := 2) (ret := none) (by decide +kernel) rfl ?_
  intro p e s m args below meth c s₁ B hml hv
  obtain ⟨rfl, hsz, hP, hK, hD, hE⟩ := hv
  subst hsz
  have hts := atoms_spec (ws := .code yX7_init cX7_init 2 none :: BIG) B.pre
  have hown : s.vm.findClass RX7 = some m.cls := findClass_of_methodNamed B.named
  have hin : meth.name = "<init>" := (name_of_methodNamed B.named B.method).1
  have hl := lv_entry [.ref q] (n := 2) (Nat.le_of_ble_eq_true rfl)
  rw [lg_entry_eq]
  refine z7_first (p, l9, e, _, s, m, _, below, meth, c, va_A (w7 D q q6 u) s.heap.size, _) (fun _ => 0, D) (l9 := l9) (d := d) ⟨B.exec, B.bytes, hml, hown, fun w hw => hts w (List.mem_cons_of_mem _ hw), ⟨Nat.le_refl _, Nat.le_refl _, Nat.le_refl _, Nat.le_refl _⟩, hK, fun q h => Or.inr h, rfl⟩ hin (by omega) q (WK6 (fun _ => 0, D) q6 u) (fun q8_0 q16_1 q23_2 q31_3 q38_4 q47_5 q54_6 q61_7 q70_8 q78_9 q86_10 q93_11 q100_12 q109_13 q116_14 => ?_) _ s.heap [] hl hP hD.self va_S.rf
  intro ls H locs hl hP hD hS
  have hI := D_ids (ids := idW) (ad := adW q6 u sA b (adR q [q8_0, q16_1, q23_2, q31_3, q38_4, q47_5, q54_6, q61_7, q70_8, q78_9, q86_10, q93_11, q100_12, q109_13, q116_14])) hD rfl
  have hW : Wd (adW q6 u sA b (adR q [q8_0, q16_1, q23_2, q31_3, q38_4, q47_5, q54_6, q61_7, q70_8, q78_9, q86_10, q93_11, q100_12, q109_13, q116_14]), D) (va_A (w7 D q q6 u) s.heap.size) s s.heap := ⟨hK.1, fun i j hi hj => hI.1 i j (idL_W i hi) (idL_W j hj), fun i hi => hI.2 i (idL_W i hi), hE⟩
  refine z7_rest (p, l9, e, _, s, m, _, below, meth, c, 15, 2360, va_A (w7 D q q6 u) s.heap.size, _) (adW q6 u sA b (adR q [q8_0, q16_1, q23_2, q31_3, q38_4, q47_5, q54_6, q61_7, q70_8, q78_9, q86_10, q93_11, q100_12, q109_13, q116_14]), D) (l9 := l9) (d := d) ⟨B.exec, B.bytes, hml, hown, fun w hw => hts w (List.mem_cons_of_mem _ hw), ⟨Nat.le_refl _, Nat.le_refl _, Nat.le_refl _, Nat.le_refl _⟩, hW, rfl⟩ hd (fun h l hInv => ?_) ls H locs hl (P_ids (at_W hP)) hS
  intro ls2 H2 locs2 _ hP2 hS2
  exact W.vret B.exec B.bytes B.returns (fun t ht _ => ⟨⟨(adR q [q8_0, q16_1, q23_2, q31_3, q38_4, q47_5, q54_6, q61_7, q70_8, q78_9, q86_10, q93_11, q100_12, q109_13, q116_14], h), rfl, ⟨hInv, rfl⟩, by rw [ht]; exact hP2, ww_D hW h⟩, hS2.F ht⟩) hS2.2.2 dX7_init_150 B.notSynchronized

