/-! Steps, by program. -/
section
variable {V : Nat → Option AE} {Ev : Nat → Value} {d : Nat} {ls : Lc} {st : List Value} {h : HS} {Q : Option Value → HS → Prop}
variable {l0 l1 l2 l3 l4 l5 l6 l7 l8 l9 l10 l11 l12 l13 l14 l15 : Option Value}
theorem s_47_0 {a : Nat} : wp V (cdT Ev) mx d 47 0 [some (.ref a), l1] st h Q = wp V (cdT Ev) mx d 47 1 [some (.ref a), l1] (.ref a :: st) h Q := x_aload (len := 1) rfl rfl
theorem s_47_0_n : wp V (cdT Ev) mx d 47 0 [some .null, l1] st h Q = wp V (cdT Ev) mx d 47 1 [some .null, l1] (.null :: st) h Q := x_aloadN (len := 1) rfl rfl
theorem s_47_1 {a : Nat} : wp V (cdT Ev) mx d 47 1 ls (.ref a :: st) h Q = gf [9] 1 h a (fun v => wp V (cdT Ev) mx d 47 4 ls (v :: st) h Q) := x_getf rfl
theorem s_47_4 {a : Nat} : wp V (cdT Ev) mx d 47 4 [some (.ref a), l1] st h Q = wp V (cdT Ev) mx d 47 5 [some (.ref a), l1] (.ref a :: st) h Q := x_aload (len := 1) rfl rfl
theorem s_47_4_n : wp V (cdT Ev) mx d 47 4 [some .null, l1] st h Q = wp V (cdT Ev) mx d 47 5 [some .null, l1] (.null :: st) h Q := x_aloadN (len := 1) rfl rfl
theorem s_47_5 {a : Nat} : wp V (cdT Ev) mx d 47 5 ls (.ref a :: st) h Q = gf [9] 0 h a (fun v => wp V (cdT Ev) mx d 47 8 ls (v :: st) h Q) := x_getf rfl
theorem s_47_8 {a : Nat} : wp V (cdT Ev) mx d 47 8 ls (.ref a :: st) h Q = ln V h a (fun x => wp V (cdT Ev) mx d 47 9 ls (.int x :: st) h Q) := x_alen rfl
theorem s_47_9 {x z : Int32} : wp V (cdT Ev) mx d 47 9 ls (.int z :: .int x :: st) h Q = (if z ≤ x then wp V (cdT Ev) mx d 47 22 ls st h Q else wp V (cdT Ev) mx d 47 12 ls st h Q) := x_if2 (c := fun x z => z ≤ x) rfl
theorem s_47_12 {a : Nat} : wp V (cdT Ev) mx d 47 12 [some (.ref a), l1] st h Q = wp V (cdT Ev) mx d 47 13 [some (.ref a), l1] (.ref a :: st) h Q := x_aload (len := 1) rfl rfl
theorem s_47_12_n : wp V (cdT Ev) mx d 47 12 [some .null, l1] st h Q = wp V (cdT Ev) mx d 47 13 [some .null, l1] (.null :: st) h Q := x_aloadN (len := 1) rfl rfl
theorem s_47_13 {a : Nat} : wp V (cdT Ev) mx d 47 13 ls (.ref a :: st) h Q = gf [9] 0 h a (fun v => wp V (cdT Ev) mx d 47 16 ls (v :: st) h Q) := x_getf rfl
theorem s_47_16 {a : Nat} : wp V (cdT Ev) mx d 47 16 [some (.ref a), l1] st h Q = wp V (cdT Ev) mx d 47 17 [some (.ref a), l1] (.ref a :: st) h Q := x_aload (len := 1) rfl rfl
theorem s_47_16_n : wp V (cdT Ev) mx d 47 16 [some .null, l1] st h Q = wp V (cdT Ev) mx d 47 17 [some .null, l1] (.null :: st) h Q := x_aloadN (len := 1) rfl rfl
theorem s_47_17 {a : Nat} : wp V (cdT Ev) mx d 47 17 ls (.ref a :: st) h Q = gf [9] 1 h a (fun v => wp V (cdT Ev) mx d 47 20 ls (v :: st) h Q) := x_getf rfl
theorem s_47_20 {x : Int32} : wp V (cdT Ev) mx d 47 20 [l0, some (.int x)] st h Q = wp V (cdT Ev) mx d 47 21 [l0, some (.int x)] (.int x :: st) h Q := x_iload (len := 1) rfl rfl
theorem s_47_21 {x i : Int32} {a : Nat} : wp V (cdT Ev) mx d 47 21 ls (.int x :: .int i :: .ref a :: st) h Q = si 2 i (x) h a (fun hh => wp V (cdT Ev) mx d 47 22 ls st hh Q) := x_iast (nw := fun x => x) rfl
theorem s_47_22 {a : Nat} : wp V (cdT Ev) mx d 47 22 [some (.ref a), l1] st h Q = wp V (cdT Ev) mx d 47 23 [some (.ref a), l1] (.ref a :: st) h Q := x_aload (len := 1) rfl rfl
theorem s_47_22_n : wp V (cdT Ev) mx d 47 22 [some .null, l1] st h Q = wp V (cdT Ev) mx d 47 23 [some .null, l1] (.null :: st) h Q := x_aloadN (len := 1) rfl rfl
theorem s_47_23 {a : Nat} : wp V (cdT Ev) mx d 47 23 ls (.ref a :: st) h Q = wp V (cdT Ev) mx d 47 24 ls (.ref a :: .ref a :: st) h Q := x_dup rfl rfl
theorem s_47_23_i {x : Int32} : wp V (cdT Ev) mx d 47 23 ls (.int x :: st) h Q = wp V (cdT Ev) mx d 47 24 ls (.int x :: .int x :: st) h Q := x_dup rfl rfl
theorem s_47_24 {a : Nat} : wp V (cdT Ev) mx d 47 24 ls (.ref a :: st) h Q = gf [9] 1 h a (fun v => wp V (cdT Ev) mx d 47 27 ls (v :: st) h Q) := x_getf rfl
theorem s_47_27 : wp V (cdT Ev) mx d 47 27 ls st h Q = wp V (cdT Ev) mx d 47 28 ls ((.int (1)) :: st) h Q := x_push (v := (.int (1))) (len := 1) rfl
theorem s_47_28 {x z : Int32} : wp V (cdT Ev) mx d 47 28 ls (.int z :: .int x :: st) h Q = wp V (cdT Ev) mx d 47 29 ls (.int (x + z) :: st) h Q := x_ib (f := fun x z => x + z) rfl
theorem s_47_29 {w : Value} {a : Nat} : wp V (cdT Ev) mx d 47 29 ls (w :: .ref a :: st) h Q = pf [9] 1 0 w h a (fun hh => wp V (cdT Ev) mx d 47 32 ls st hh Q) := x_putf rfl
theorem s_47_32 : wp V (cdT Ev) mx d 47 32 ls [] h Q = Q none h := x_retv rfl
theorem e_47 {a : Nat} {p0 : Int32} : WP V (cdT Ev) mx (d + 1) 47 [.ref a, .int p0] h Q = wp V (cdT Ev) mx d 47 0 [some (.ref a), some (.int p0)] [] h Q := propext (WP_eq (Nat.le_of_ble_eq_true rfl))
theorem s_48_0 {a : Nat} : wp V (cdT Ev) mx d 48 0 [some (.ref a)] st h Q = wp V (cdT Ev) mx d 48 1 [some (.ref a)] (.ref a :: st) h Q := x_aload (len := 1) rfl rfl
theorem s_48_0_n : wp V (cdT Ev) mx d 48 0 [some .null] st h Q = wp V (cdT Ev) mx d 48 1 [some .null] (.null :: st) h Q := x_aloadN (len := 1) rfl rfl
theorem s_48_1 {a : Nat} (hst : st.length ≤ 4) : wp V (cdT Ev) mx d 48 1 ls (.ref a :: st) h Q = wp V (cdT Ev) mx d 48 4 ls st h Q := x_oi rfl hst
theorem s_48_4 {a : Nat} : wp V (cdT Ev) mx d 48 4 [some (.ref a)] st h Q = wp V (cdT Ev) mx d 48 5 [some (.ref a)] (.ref a :: st) h Q := x_aload (len := 1) rfl rfl
theorem s_48_4_n : wp V (cdT Ev) mx d 48 4 [some .null] st h Q = wp V (cdT Ev) mx d 48 5 [some .null] (.null :: st) h Q := x_aloadN (len := 1) rfl rfl
theorem s_48_5 : wp V (cdT Ev) mx d 48 5 ls st h Q = wp V (cdT Ev) mx d 48 7 ls ((.int (12)) :: st) h Q := x_push (v := (.int (12))) (len := 2) rfl
theorem s_48_7 {x : Int32} : wp V (cdT Ev) mx d 48 7 ls (.int x :: st) h Q = (¬ (x < 0 ∨ 1000 < x.toNatClampNeg) ∧ wp V (cdT Ev) mx d 48 9 ls (.ref h.2.1 :: st) (hnew h (.inl (2, x.toNatClampNeg, (.inl (fun _ => 0)))) x.toNatClampNeg) Q) := x_newa (len := 2) rfl
theorem s_48_9 {a : Nat} : wp V (cdT Ev) mx d 48 9 ls (.ref a :: st) h Q = wp V (cdT Ev) mx d 48 10 ls (.ref a :: .ref a :: st) h Q := x_dup rfl rfl
theorem s_48_9_i {x : Int32} : wp V (cdT Ev) mx d 48 9 ls (.int x :: st) h Q = wp V (cdT Ev) mx d 48 10 ls (.int x :: .int x :: st) h Q := x_dup rfl rfl
theorem s_48_10 : wp V (cdT Ev) mx d 48 10 ls st h Q = wp V (cdT Ev) mx d 48 11 ls ((.int (0)) :: st) h Q := x_push (v := (.int (0))) (len := 1) rfl
theorem s_48_11 : wp V (cdT Ev) mx d 48 11 ls st h Q = wp V (cdT Ev) mx d 48 13 ls ((.int (10)) :: st) h Q := x_push (v := (.int (10))) (len := 2) rfl
theorem s_48_13 {x i : Int32} {a : Nat} : wp V (cdT Ev) mx d 48 13 ls (.int x :: .int i :: .ref a :: st) h Q = si 2 i (x) h a (fun hh => wp V (cdT Ev) mx d 48 14 ls st hh Q) := x_iast (nw := fun x => x) rfl
theorem s_48_14 {a : Nat} : wp V (cdT Ev) mx d 48 14 ls (.ref a :: st) h Q = wp V (cdT Ev) mx d 48 15 ls (.ref a :: .ref a :: st) h Q := x_dup rfl rfl
theorem s_48_14_i {x : Int32} : wp V (cdT Ev) mx d 48 14 ls (.int x :: st) h Q = wp V (cdT Ev) mx d 48 15 ls (.int x :: .int x :: st) h Q := x_dup rfl rfl
theorem s_48_15 : wp V (cdT Ev) mx d 48 15 ls st h Q = wp V (cdT Ev) mx d 48 16 ls ((.int (1)) :: st) h Q := x_push (v := (.int (1))) (len := 1) rfl
theorem s_48_16 : wp V (cdT Ev) mx d 48 16 ls st h Q = wp V (cdT Ev) mx d 48 18 ls ((.int (10)) :: st) h Q := x_push (v := (.int (10))) (len := 2) rfl
theorem s_48_18 {x i : Int32} {a : Nat} : wp V (cdT Ev) mx d 48 18 ls (.int x :: .int i :: .ref a :: st) h Q = si 2 i (x) h a (fun hh => wp V (cdT Ev) mx d 48 19 ls st hh Q) := x_iast (nw := fun x => x) rfl
theorem s_48_19 {a : Nat} : wp V (cdT Ev) mx d 48 19 ls (.ref a :: st) h Q = wp V (cdT Ev) mx d 48 20 ls (.ref a :: .ref a :: st) h Q := x_dup rfl rfl
theorem s_48_19_i {x : Int32} : wp V (cdT Ev) mx d 48 19 ls (.int x :: st) h Q = wp V (cdT Ev) mx d 48 20 ls (.int x :: .int x :: st) h Q := x_dup rfl rfl
theorem s_48_20 : wp V (cdT Ev) mx d 48 20 ls st h Q = wp V (cdT Ev) mx d 48 21 ls ((.int (2)) :: st) h Q := x_push (v := (.int (2))) (len := 1) rfl
theorem s_48_21 : wp V (cdT Ev) mx d 48 21 ls st h Q = wp V (cdT Ev) mx d 48 23 ls ((.int (10)) :: st) h Q := x_push (v := (.int (10))) (len := 2) rfl
theorem s_48_23 {x i : Int32} {a : Nat} : wp V (cdT Ev) mx d 48 23 ls (.int x :: .int i :: .ref a :: st) h Q = si 2 i (x) h a (fun hh => wp V (cdT Ev) mx d 48 24 ls st hh Q) := x_iast (nw := fun x => x) rfl
theorem s_48_24 {a : Nat} : wp V (cdT Ev) mx d 48 24 ls (.ref a :: st) h Q = wp V (cdT Ev) mx d 48 25 ls (.ref a :: .ref a :: st) h Q := x_dup rfl rfl
theorem s_48_24_i {x : Int32} : wp V (cdT Ev) mx d 48 24 ls (.int x :: st) h Q = wp V (cdT Ev) mx d 48 25 ls (.int x :: .int x :: st) h Q := x_dup rfl rfl
theorem s_48_25 : wp V (cdT Ev) mx d 48 25 ls st h Q = wp V (cdT Ev) mx d 48 26 ls ((.int (3)) :: st) h Q := x_push (v := (.int (3))) (len := 1) rfl
theorem s_48_26 : wp V (cdT Ev) mx d 48 26 ls st h Q = wp V (cdT Ev) mx d 48 28 ls ((.int (10)) :: st) h Q := x_push (v := (.int (10))) (len := 2) rfl
theorem s_48_28 {x i : Int32} {a : Nat} : wp V (cdT Ev) mx d 48 28 ls (.int x :: .int i :: .ref a :: st) h Q = si 2 i (x) h a (fun hh => wp V (cdT Ev) mx d 48 29 ls st hh Q) := x_iast (nw := fun x => x) rfl
theorem s_48_29 {a : Nat} : wp V (cdT Ev) mx d 48 29 ls (.ref a :: st) h Q = wp V (cdT Ev) mx d 48 30 ls (.ref a :: .ref a :: st) h Q := x_dup rfl rfl
theorem s_48_29_i {x : Int32} : wp V (cdT Ev) mx d 48 29 ls (.int x :: st) h Q = wp V (cdT Ev) mx d 48 30 ls (.int x :: .int x :: st) h Q := x_dup rfl rfl
theorem s_48_30 : wp V (cdT Ev) mx d 48 30 ls st h Q = wp V (cdT Ev) mx d 48 31 ls ((.int (4)) :: st) h Q := x_push (v := (.int (4))) (len := 1) rfl
theorem s_48_31 : wp V (cdT Ev) mx d 48 31 ls st h Q = wp V (cdT Ev) mx d 48 33 ls ((.int (10)) :: st) h Q := x_push (v := (.int (10))) (len := 2) rfl
theorem s_48_33 {x i : Int32} {a : Nat} : wp V (cdT Ev) mx d 48 33 ls (.int x :: .int i :: .ref a :: st) h Q = si 2 i (x) h a (fun hh => wp V (cdT Ev) mx d 48 34 ls st hh Q) := x_iast (nw := fun x => x) rfl
theorem s_48_34 {a : Nat} : wp V (cdT Ev) mx d 48 34 ls (.ref a :: st) h Q = wp V (cdT Ev) mx d 48 35 ls (.ref a :: .ref a :: st) h Q := x_dup rfl rfl
theorem s_48_34_i {x : Int32} : wp V (cdT Ev) mx d 48 34 ls (.int x :: st) h Q = wp V (cdT Ev) mx d 48 35 ls (.int x :: .int x :: st) h Q := x_dup rfl rfl
theorem s_48_35 : wp V (cdT Ev) mx d 48 35 ls st h Q = wp V (cdT Ev) mx d 48 36 ls ((.int (5)) :: st) h Q := x_push (v := (.int (5))) (len := 1) rfl
theorem s_48_36 : wp V (cdT Ev) mx d 48 36 ls st h Q = wp V (cdT Ev) mx d 48 38 ls ((.int (10)) :: st) h Q := x_push (v := (.int (10))) (len := 2) rfl
theorem s_48_38 {x i : Int32} {a : Nat} : wp V (cdT Ev) mx d 48 38 ls (.int x :: .int i :: .ref a :: st) h Q = si 2 i (x) h a (fun hh => wp V (cdT Ev) mx d 48 39 ls st hh Q) := x_iast (nw := fun x => x) rfl
theorem s_48_39 {a : Nat} : wp V (cdT Ev) mx d 48 39 ls (.ref a :: st) h Q = wp V (cdT Ev) mx d 48 40 ls (.ref a :: .ref a :: st) h Q := x_dup rfl rfl
theorem s_48_39_i {x : Int32} : wp V (cdT Ev) mx d 48 39 ls (.int x :: st) h Q = wp V (cdT Ev) mx d 48 40 ls (.int x :: .int x :: st) h Q := x_dup rfl rfl
theorem s_48_40 : wp V (cdT Ev) mx d 48 40 ls st h Q = wp V (cdT Ev) mx d 48 42 ls ((.int (6)) :: st) h Q := x_push (v := (.int (6))) (len := 2) rfl
theorem s_48_42 : wp V (cdT Ev) mx d 48 42 ls st h Q = wp V (cdT Ev) mx d 48 44 ls ((.int (10)) :: st) h Q := x_push (v := (.int (10))) (len := 2) rfl
theorem s_48_44 {x i : Int32} {a : Nat} : wp V (cdT Ev) mx d 48 44 ls (.int x :: .int i :: .ref a :: st) h Q = si 2 i (x) h a (fun hh => wp V (cdT Ev) mx d 48 45 ls st hh Q) := x_iast (nw := fun x => x) rfl
theorem s_48_45 {a : Nat} : wp V (cdT Ev) mx d 48 45 ls (.ref a :: st) h Q = wp V (cdT Ev) mx d 48 46 ls (.ref a :: .ref a :: st) h Q := x_dup rfl rfl
theorem s_48_45_i {x : Int32} : wp V (cdT Ev) mx d 48 45 ls (.int x :: st) h Q = wp V (cdT Ev) mx d 48 46 ls (.int x :: .int x :: st) h Q := x_dup rfl rfl
theorem s_48_46 : wp V (cdT Ev) mx d 48 46 ls st h Q = wp V (cdT Ev) mx d 48 48 ls ((.int (7)) :: st) h Q := x_push (v := (.int (7))) (len := 2) rfl
theorem s_48_48 : wp V (cdT Ev) mx d 48 48 ls st h Q = wp V (cdT Ev) mx d 48 50 ls ((.int (10)) :: st) h Q := x_push (v := (.int (10))) (len := 2) rfl
theorem s_48_50 {x i : Int32} {a : Nat} : wp V (cdT Ev) mx d 48 50 ls (.int x :: .int i :: .ref a :: st) h Q = si 2 i (x) h a (fun hh => wp V (cdT Ev) mx d 48 51 ls st hh Q) := x_iast (nw := fun x => x) rfl
theorem s_48_51 {a : Nat} : wp V (cdT Ev) mx d 48 51 ls (.ref a :: st) h Q = wp V (cdT Ev) mx d 48 52 ls (.ref a :: .ref a :: st) h Q := x_dup rfl rfl
theorem s_48_51_i {x : Int32} : wp V (cdT Ev) mx d 48 51 ls (.int x :: st) h Q = wp V (cdT Ev) mx d 48 52 ls (.int x :: .int x :: st) h Q := x_dup rfl rfl
theorem s_48_52 : wp V (cdT Ev) mx d 48 52 ls st h Q = wp V (cdT Ev) mx d 48 54 ls ((.int (8)) :: st) h Q := x_push (v := (.int (8))) (len := 2) rfl
theorem s_48_54 : wp V (cdT Ev) mx d 48 54 ls st h Q = wp V (cdT Ev) mx d 48 56 ls ((.int (10)) :: st) h Q := x_push (v := (.int (10))) (len := 2) rfl
theorem s_48_56 {x i : Int32} {a : Nat} : wp V (cdT Ev) mx d 48 56 ls (.int x :: .int i :: .ref a :: st) h Q = si 2 i (x) h a (fun hh => wp V (cdT Ev) mx d 48 57 ls st hh Q) := x_iast (nw := fun x => x) rfl
theorem s_48_57 {a : Nat} : wp V (cdT Ev) mx d 48 57 ls (.ref a :: st) h Q = wp V (cdT Ev) mx d 48 58 ls (.ref a :: .ref a :: st) h Q := x_dup rfl rfl
theorem s_48_57_i {x : Int32} : wp V (cdT Ev) mx d 48 57 ls (.int x :: st) h Q = wp V (cdT Ev) mx d 48 58 ls (.int x :: .int x :: st) h Q := x_dup rfl rfl
theorem s_48_58 : wp V (cdT Ev) mx d 48 58 ls st h Q = wp V (cdT Ev) mx d 48 60 ls ((.int (9)) :: st) h Q := x_push (v := (.int (9))) (len := 2) rfl
theorem s_48_60 : wp V (cdT Ev) mx d 48 60 ls st h Q = wp V (cdT Ev) mx d 48 62 ls ((.int (10)) :: st) h Q := x_push (v := (.int (10))) (len := 2) rfl
theorem s_48_62 {x i : Int32} {a : Nat} : wp V (cdT Ev) mx d 48 62 ls (.int x :: .int i :: .ref a :: st) h Q = si 2 i (x) h a (fun hh => wp V (cdT Ev) mx d 48 63 ls st hh Q) := x_iast (nw := fun x => x) rfl
theorem s_48_63 {a : Nat} : wp V (cdT Ev) mx d 48 63 ls (.ref a :: st) h Q = wp V (cdT Ev) mx d 48 64 ls (.ref a :: .ref a :: st) h Q := x_dup rfl rfl
theorem s_48_63_i {x : Int32} : wp V (cdT Ev) mx d 48 63 ls (.int x :: st) h Q = wp V (cdT Ev) mx d 48 64 ls (.int x :: .int x :: st) h Q := x_dup rfl rfl
theorem s_48_64 : wp V (cdT Ev) mx d 48 64 ls st h Q = wp V (cdT Ev) mx d 48 66 ls ((.int (10)) :: st) h Q := x_push (v := (.int (10))) (len := 2) rfl
theorem s_48_66 : wp V (cdT Ev) mx d 48 66 ls st h Q = wp V (cdT Ev) mx d 48 68 ls ((.int (10)) :: st) h Q := x_push (v := (.int (10))) (len := 2) rfl
theorem s_48_68 {x i : Int32} {a : Nat} : wp V (cdT Ev) mx d 48 68 ls (.int x :: .int i :: .ref a :: st) h Q = si 2 i (x) h a (fun hh => wp V (cdT Ev) mx d 48 69 ls st hh Q) := x_iast (nw := fun x => x) rfl
theorem s_48_69 {a : Nat} : wp V (cdT Ev) mx d 48 69 ls (.ref a :: st) h Q = wp V (cdT Ev) mx d 48 70 ls (.ref a :: .ref a :: st) h Q := x_dup rfl rfl
theorem s_48_69_i {x : Int32} : wp V (cdT Ev) mx d 48 69 ls (.int x :: st) h Q = wp V (cdT Ev) mx d 48 70 ls (.int x :: .int x :: st) h Q := x_dup rfl rfl
theorem s_48_70 : wp V (cdT Ev) mx d 48 70 ls st h Q = wp V (cdT Ev) mx d 48 72 ls ((.int (11)) :: st) h Q := x_push (v := (.int (11))) (len := 2) rfl
theorem s_48_72 : wp V (cdT Ev) mx d 48 72 ls st h Q = wp V (cdT Ev) mx d 48 74 ls ((.int (10)) :: st) h Q := x_push (v := (.int (10))) (len := 2) rfl
theorem s_48_74 {x i : Int32} {a : Nat} : wp V (cdT Ev) mx d 48 74 ls (.int x :: .int i :: .ref a :: st) h Q = si 2 i (x) h a (fun hh => wp V (cdT Ev) mx d 48 75 ls st hh Q) := x_iast (nw := fun x => x) rfl
theorem s_48_75 {w : Value} {a : Nat} : wp V (cdT Ev) mx d 48 75 ls (w :: .ref a :: st) h Q = pf [10] 0 2 w h a (fun hh => wp V (cdT Ev) mx d 48 78 ls st hh Q) := x_putf rfl
theorem s_48_78 {a : Nat} : wp V (cdT Ev) mx d 48 78 [some (.ref a)] st h Q = wp V (cdT Ev) mx d 48 79 [some (.ref a)] (.ref a :: st) h Q := x_aload (len := 1) rfl rfl
theorem s_48_78_n : wp V (cdT Ev) mx d 48 78 [some .null] st h Q = wp V (cdT Ev) mx d 48 79 [some .null] (.null :: st) h Q := x_aloadN (len := 1) rfl rfl
theorem s_48_79 : wp V (cdT Ev) mx d 48 79 ls st h Q = wp V (cdT Ev) mx d 48 81 ls ((.int (6)) :: st) h Q := x_push (v := (.int (6))) (len := 2) rfl
theorem s_48_81 {x : Int32} : wp V (cdT Ev) mx d 48 81 ls (.int x :: st) h Q = (¬ (x < 0 ∨ 1000 < x.toNatClampNeg) ∧ wp V (cdT Ev) mx d 48 84 ls (.ref h.2.1 :: st) (hnew h (.inl (4, x.toNatClampNeg, (.inr (.inr (.inr (.inr (fun _ => none))))))) x.toNatClampNeg) Q) := x_newa (len := 3) rfl
theorem s_48_84 {w : Value} {a : Nat} : wp V (cdT Ev) mx d 48 84 ls (w :: .ref a :: st) h Q = pf [10] 1 2 w h a (fun hh => wp V (cdT Ev) mx d 48 87 ls st hh Q) := x_putf rfl
theorem s_48_87 {a : Nat} : wp V (cdT Ev) mx d 48 87 [some (.ref a)] st h Q = wp V (cdT Ev) mx d 48 88 [some (.ref a)] (.ref a :: st) h Q := x_aload (len := 1) rfl rfl
theorem s_48_87_n : wp V (cdT Ev) mx d 48 87 [some .null] st h Q = wp V (cdT Ev) mx d 48 88 [some .null] (.null :: st) h Q := x_aloadN (len := 1) rfl rfl
theorem s_48_88 : wp V (cdT Ev) mx d 48 88 ls st h Q = wp V (cdT Ev) mx d 48 91 ls (.ref h.2.1 :: st) (hnew h (.inr (7, [.null, .null, .int 0])) 3) Q := x_new rfl
theorem s_48_91 {a : Nat} : wp V (cdT Ev) mx d 48 91 ls (.ref a :: st) h Q = wp V (cdT Ev) mx d 48 92 ls (.ref a :: .ref a :: st) h Q := x_dup rfl rfl
theorem s_48_91_i {x : Int32} : wp V (cdT Ev) mx d 48 91 ls (.int x :: st) h Q = wp V (cdT Ev) mx d 48 92 ls (.int x :: .int x :: st) h Q := x_dup rfl rfl
theorem s_48_92 : wp V (cdT Ev) mx d 48 92 ls st h Q = wp V (cdT Ev) mx d 48 93 ls ((.int (5)) :: st) h Q := x_push (v := (.int (5))) (len := 1) rfl
theorem s_48_93 {b : Nat} {v0 : Value} (hst : st.length ≤ 4) : wp V (cdT Ev) mx d 48 93 ls (v0 :: .ref b :: st) h Q = WP V (cdT Ev) mx d 37 [.ref b, v0] h (fun r h' => wp V (cdT Ev) mx d 48 96 ls (rts r st) h' Q) := x_ci (sg := [v0]) rfl hst rfl rfl
theorem s_48_96 {w : Value} {a : Nat} : wp V (cdT Ev) mx d 48 96 ls (w :: .ref a :: st) h Q = pf [10] 6 2 w h a (fun hh => wp V (cdT Ev) mx d 48 99 ls st hh Q) := x_putf rfl
theorem s_48_99 {a : Nat} : wp V (cdT Ev) mx d 48 99 [some (.ref a)] st h Q = wp V (cdT Ev) mx d 48 100 [some (.ref a)] (.ref a :: st) h Q := x_aload (len := 1) rfl rfl
theorem s_48_99_n : wp V (cdT Ev) mx d 48 99 [some .null] st h Q = wp V (cdT Ev) mx d 48 100 [some .null] (.null :: st) h Q := x_aloadN (len := 1) rfl rfl
theorem s_48_100 : wp V (cdT Ev) mx d 48 100 ls st h Q = wp V (cdT Ev) mx d 48 103 ls (.ref h.2.1 :: st) (hnew h (.inr (7, [.null, .null, .int 0])) 3) Q := x_new rfl
theorem s_48_103 {a : Nat} : wp V (cdT Ev) mx d 48 103 ls (.ref a :: st) h Q = wp V (cdT Ev) mx d 48 104 ls (.ref a :: .ref a :: st) h Q := x_dup rfl rfl
theorem s_48_103_i {x : Int32} : wp V (cdT Ev) mx d 48 103 ls (.int x :: st) h Q = wp V (cdT Ev) mx d 48 104 ls (.int x :: .int x :: st) h Q := x_dup rfl rfl
theorem s_48_104 : wp V (cdT Ev) mx d 48 104 ls st h Q = wp V (cdT Ev) mx d 48 106 ls ((.int (10)) :: st) h Q := x_push (v := (.int (10))) (len := 2) rfl
theorem s_48_106 {b : Nat} {v0 : Value} (hst : st.length ≤ 4) : wp V (cdT Ev) mx d 48 106 ls (v0 :: .ref b :: st) h Q = WP V (cdT Ev) mx d 37 [.ref b, v0] h (fun r h' => wp V (cdT Ev) mx d 48 109 ls (rts r st) h' Q) := x_ci (sg := [v0]) rfl hst rfl rfl
theorem s_48_109 {w : Value} {a : Nat} : wp V (cdT Ev) mx d 48 109 ls (w :: .ref a :: st) h Q = pf [10] 7 2 w h a (fun hh => wp V (cdT Ev) mx d 48 112 ls st hh Q) := x_putf rfl
theorem s_48_112 {a : Nat} : wp V (cdT Ev) mx d 48 112 [some (.ref a)] st h Q = wp V (cdT Ev) mx d 48 113 [some (.ref a)] (.ref a :: st) h Q := x_aload (len := 1) rfl rfl
theorem s_48_112_n : wp V (cdT Ev) mx d 48 112 [some .null] st h Q = wp V (cdT Ev) mx d 48 113 [some .null] (.null :: st) h Q := x_aloadN (len := 1) rfl rfl
theorem s_48_113 : wp V (cdT Ev) mx d 48 113 ls st h Q = wp V (cdT Ev) mx d 48 116 ls (.ref h.2.1 :: st) (hnew h (.inr (7, [.null, .null, .int 0])) 3) Q := x_new rfl
theorem s_48_116 {a : Nat} : wp V (cdT Ev) mx d 48 116 ls (.ref a :: st) h Q = wp V (cdT Ev) mx d 48 117 ls (.ref a :: .ref a :: st) h Q := x_dup rfl rfl
theorem s_48_116_i {x : Int32} : wp V (cdT Ev) mx d 48 116 ls (.int x :: st) h Q = wp V (cdT Ev) mx d 48 117 ls (.int x :: .int x :: st) h Q := x_dup rfl rfl
theorem s_48_117 : wp V (cdT Ev) mx d 48 117 ls st h Q = wp V (cdT Ev) mx d 48 119 ls ((.int (8)) :: st) h Q := x_push (v := (.int (8))) (len := 2) rfl
theorem s_48_119 {b : Nat} {v0 : Value} (hst : st.length ≤ 4) : wp V (cdT Ev) mx d 48 119 ls (v0 :: .ref b :: st) h Q = WP V (cdT Ev) mx d 37 [.ref b, v0] h (fun r h' => wp V (cdT Ev) mx d 48 122 ls (rts r st) h' Q) := x_ci (sg := [v0]) rfl hst rfl rfl
theorem s_48_122 {w : Value} {a : Nat} : wp V (cdT Ev) mx d 48 122 ls (w :: .ref a :: st) h Q = pf [10] 8 2 w h a (fun hh => wp V (cdT Ev) mx d 48 125 ls st hh Q) := x_putf rfl
theorem s_48_125 {a : Nat} : wp V (cdT Ev) mx d 48 125 [some (.ref a)] st h Q = wp V (cdT Ev) mx d 48 126 [some (.ref a)] (.ref a :: st) h Q := x_aload (len := 1) rfl rfl
theorem s_48_125_n : wp V (cdT Ev) mx d 48 125 [some .null] st h Q = wp V (cdT Ev) mx d 48 126 [some .null] (.null :: st) h Q := x_aloadN (len := 1) rfl rfl
theorem s_48_126 : wp V (cdT Ev) mx d 48 126 ls st h Q = wp V (cdT Ev) mx d 48 128 ls ((.int (6)) :: st) h Q := x_push (v := (.int (6))) (len := 2) rfl
theorem s_48_128 {x : Int32} : wp V (cdT Ev) mx d 48 128 ls (.int x :: st) h Q = (¬ (x < 0 ∨ 1000 < x.toNatClampNeg) ∧ wp V (cdT Ev) mx d 48 130 ls (.ref h.2.1 :: st) (hnew h (.inl (2, x.toNatClampNeg, (.inl (fun _ => 0)))) x.toNatClampNeg) Q) := x_newa (len := 2) rfl
theorem s_48_130 {w : Value} {a : Nat} : wp V (cdT Ev) mx d 48 130 ls (w :: .ref a :: st) h Q = pf [10] 10 2 w h a (fun hh => wp V (cdT Ev) mx d 48 133 ls st hh Q) := x_putf rfl
theorem s_48_133 : wp V (cdT Ev) mx d 48 133 ls [] h Q = Q none h := x_retv rfl
theorem e_48 {a : Nat} : WP V (cdT Ev) mx (d + 1) 48 [.ref a] h Q = wp V (cdT Ev) mx d 48 0 [some (.ref a)] [] h Q := propext (WP_eq (Nat.le_of_ble_eq_true rfl))
theorem s_49_0 {a : Nat} : wp V (cdT Ev) mx d 49 0 [l0, some (.ref a), l2] st h Q = wp V (cdT Ev) mx d 49 1 [l0, some (.ref a), l2] (.ref a :: st) h Q := x_aload (len := 1) rfl rfl
theorem s_49_0_n : wp V (cdT Ev) mx d 49 0 [l0, some .null, l2] st h Q = wp V (cdT Ev) mx d 49 1 [l0, some .null, l2] (.null :: st) h Q := x_aloadN (len := 1) rfl rfl
theorem s_49_1 {a : Nat} : wp V (cdT Ev) mx d 49 1 ls (.ref a :: st) h Q = gf [10] 0 h a (fun v => wp V (cdT Ev) mx d 49 4 ls (v :: st) h Q) := x_getf rfl
theorem s_49_4 : wp V (cdT Ev) mx d 49 4 ls st h Q = wp V (cdT Ev) mx d 49 5 ls ((.int (0)) :: st) h Q := x_push (v := (.int (0))) (len := 1) rfl
theorem s_49_5 {a : Nat} : wp V (cdT Ev) mx d 49 5 [some (.ref a), l1, l2] st h Q = wp V (cdT Ev) mx d 49 6 [some (.ref a), l1, l2] (.ref a :: st) h Q := x_aload (len := 1) rfl rfl
theorem s_49_5_n : wp V (cdT Ev) mx d 49 5 [some .null, l1, l2] st h Q = wp V (cdT Ev) mx d 49 6 [some .null, l1, l2] (.null :: st) h Q := x_aloadN (len := 1) rfl rfl
theorem s_49_6 {a : Nat} : wp V (cdT Ev) mx d 49 6 ls (.ref a :: st) h Q = gf [10] 0 h a (fun v => wp V (cdT Ev) mx d 49 9 ls (v :: st) h Q) := x_getf rfl
theorem s_49_9 : wp V (cdT Ev) mx d 49 9 ls st h Q = wp V (cdT Ev) mx d 49 10 ls ((.int (0)) :: st) h Q := x_push (v := (.int (0))) (len := 1) rfl
theorem s_49_10 : wp V (cdT Ev) mx d 49 10 ls st h Q = wp V (cdT Ev) mx d 49 12 ls ((.int (12)) :: st) h Q := x_push (v := (.int (12))) (len := 2) rfl
theorem s_49_12 {n dp sp : Int32} {a b : Nat} (hst : st.length ≤ 4) : wp V (cdT Ev) mx d 49 12 ls (.int n :: .int dp :: .ref b :: .int sp :: .ref a :: st) h Q = ci2 h a b n dp sp (fun hh => wp V (cdT Ev) mx d 49 15 ls st hh Q) := x_cpyi rfl hst
theorem s_49_15 : wp V (cdT Ev) mx d 49 15 ls st h Q = wp V (cdT Ev) mx d 49 16 ls ((.int (0)) :: st) h Q := x_push (v := (.int (0))) (len := 1) rfl
theorem s_49_16 {x : Int32} (hn : nl l1 = true) : wp V (cdT Ev) mx d 49 16 [l0, l1, l2] (.int x :: st) h Q = wp V (cdT Ev) mx d 49 17 [l0, l1, some (.int x)] st h Q := x_istore (len := 1) rfl (Nat.le_of_ble_eq_true rfl) (okp_nl rfl hn) rfl
theorem s_49_17 {x : Int32} : wp V (cdT Ev) mx d 49 17 [l0, l1, some (.int x)] st h Q = wp V (cdT Ev) mx d 49 18 [l0, l1, some (.int x)] (.int x :: st) h Q := x_iload (len := 1) rfl rfl
theorem s_49_18 {a : Nat} : wp V (cdT Ev) mx d 49 18 [l0, some (.ref a), l2] st h Q = wp V (cdT Ev) mx d 49 19 [l0, some (.ref a), l2] (.ref a :: st) h Q := x_aload (len := 1) rfl rfl
theorem s_49_18_n : wp V (cdT Ev) mx d 49 18 [l0, some .null, l2] st h Q = wp V (cdT Ev) mx d 49 19 [l0, some .null, l2] (.null :: st) h Q := x_aloadN (len := 1) rfl rfl
theorem s_49_19 {a : Nat} : wp V (cdT Ev) mx d 49 19 ls (.ref a :: st) h Q = gf [10] 2 h a (fun v => wp V (cdT Ev) mx d 49 22 ls (v :: st) h Q) := x_getf rfl
theorem s_49_22 {x z : Int32} : wp V (cdT Ev) mx d 49 22 ls (.int z :: .int x :: st) h Q = (if z ≤ x then wp V (cdT Ev) mx d 49 42 ls st h Q else wp V (cdT Ev) mx d 49 25 ls st h Q) := x_if2 (c := fun x z => z ≤ x) rfl
theorem s_49_25 {a : Nat} : wp V (cdT Ev) mx d 49 25 [some (.ref a), l1, l2] st h Q = wp V (cdT Ev) mx d 49 26 [some (.ref a), l1, l2] (.ref a :: st) h Q := x_aload (len := 1) rfl rfl
theorem s_49_25_n : wp V (cdT Ev) mx d 49 25 [some .null, l1, l2] st h Q = wp V (cdT Ev) mx d 49 26 [some .null, l1, l2] (.null :: st) h Q := x_aloadN (len := 1) rfl rfl
theorem s_49_26 {a : Nat} : wp V (cdT Ev) mx d 49 26 [l0, some (.ref a), l2] st h Q = wp V (cdT Ev) mx d 49 27 [l0, some (.ref a), l2] (.ref a :: st) h Q := x_aload (len := 1) rfl rfl
theorem s_49_26_n : wp V (cdT Ev) mx d 49 26 [l0, some .null, l2] st h Q = wp V (cdT Ev) mx d 49 27 [l0, some .null, l2] (.null :: st) h Q := x_aloadN (len := 1) rfl rfl
theorem s_49_27 {a : Nat} : wp V (cdT Ev) mx d 49 27 ls (.ref a :: st) h Q = gf [10] 1 h a (fun v => wp V (cdT Ev) mx d 49 30 ls (v :: st) h Q) := x_getf rfl
theorem s_49_30 {x : Int32} : wp V (cdT Ev) mx d 49 30 [l0, l1, some (.int x)] st h Q = wp V (cdT Ev) mx d 49 31 [l0, l1, some (.int x)] (.int x :: st) h Q := x_iload (len := 1) rfl rfl
theorem s_49_31 {i : Int32} {a : Nat} : wp V (cdT Ev) mx d 49 31 ls (.int i :: .ref a :: st) h Q = aa i h a (fun v => wp V (cdT Ev) mx d 49 32 ls (v :: st) h Q) := x_aald rfl
theorem s_49_32 {x : Int32} : wp V (cdT Ev) mx d 49 32 [l0, l1, some (.int x)] st h Q = wp V (cdT Ev) mx d 49 33 [l0, l1, some (.int x)] (.int x :: st) h Q := x_iload (len := 1) rfl rfl
theorem s_49_33 {b : Nat} {v0 v1 : Value} (hst : st.length ≤ 4) : wp V (cdT Ev) mx d 49 33 ls (v1 :: v0 :: .ref b :: st) h Q = cv [(10, 50)] h b (fun y' => WP V (cdT Ev) mx d y' [.ref b, v0, v1] h (fun r h' => wp V (cdT Ev) mx d 49 36 ls (rts r st) h' Q)) := x_cv (sg := [v1, v0]) rfl hst rfl rfl
theorem s_49_36 {x : Int32} : wp V (cdT Ev) mx d 49 36 [l0, l1, some (.int x)] st h Q = wp V (cdT Ev) mx d 49 39 [l0, l1, some (.int (x + (1)))] st h Q := x_iinc rfl rfl rfl
theorem s_49_39 : wp V (cdT Ev) mx d 49 39 ls st h Q = wp V (cdT Ev) mx d 49 17 ls st h Q := x_goto rfl
theorem s_49_42 {a : Nat} : wp V (cdT Ev) mx d 49 42 [some (.ref a), l1, l2] st h Q = wp V (cdT Ev) mx d 49 43 [some (.ref a), l1, l2] (.ref a :: st) h Q := x_aload (len := 1) rfl rfl
theorem s_49_42_n : wp V (cdT Ev) mx d 49 42 [some .null, l1, l2] st h Q = wp V (cdT Ev) mx d 49 43 [some .null, l1, l2] (.null :: st) h Q := x_aloadN (len := 1) rfl rfl
theorem s_49_43 {a : Nat} : wp V (cdT Ev) mx d 49 43 [l0, some (.ref a), l2] st h Q = wp V (cdT Ev) mx d 49 44 [l0, some (.ref a), l2] (.ref a :: st) h Q := x_aload (len := 1) rfl rfl
theorem s_49_43_n : wp V (cdT Ev) mx d 49 43 [l0, some .null, l2] st h Q = wp V (cdT Ev) mx d 49 44 [l0, some .null, l2] (.null :: st) h Q := x_aloadN (len := 1) rfl rfl
theorem s_49_44 {a : Nat} : wp V (cdT Ev) mx d 49 44 ls (.ref a :: st) h Q = gf [10] 2 h a (fun v => wp V (cdT Ev) mx d 49 47 ls (v :: st) h Q) := x_getf rfl
theorem s_49_47 {w : Value} {a : Nat} : wp V (cdT Ev) mx d 49 47 ls (w :: .ref a :: st) h Q = pf [10] 2 0 w h a (fun hh => wp V (cdT Ev) mx d 49 50 ls st hh Q) := x_putf rfl
theorem s_49_50 {a : Nat} : wp V (cdT Ev) mx d 49 50 [some (.ref a), l1, l2] st h Q = wp V (cdT Ev) mx d 49 51 [some (.ref a), l1, l2] (.ref a :: st) h Q := x_aload (len := 1) rfl rfl
theorem s_49_50_n : wp V (cdT Ev) mx d 49 50 [some .null, l1, l2] st h Q = wp V (cdT Ev) mx d 49 51 [some .null, l1, l2] (.null :: st) h Q := x_aloadN (len := 1) rfl rfl
theorem s_49_51 {a : Nat} : wp V (cdT Ev) mx d 49 51 [l0, some (.ref a), l2] st h Q = wp V (cdT Ev) mx d 49 52 [l0, some (.ref a), l2] (.ref a :: st) h Q := x_aload (len := 1) rfl rfl
theorem s_49_51_n : wp V (cdT Ev) mx d 49 51 [l0, some .null, l2] st h Q = wp V (cdT Ev) mx d 49 52 [l0, some .null, l2] (.null :: st) h Q := x_aloadN (len := 1) rfl rfl
theorem s_49_52 {a : Nat} : wp V (cdT Ev) mx d 49 52 ls (.ref a :: st) h Q = gf [10] 3 h a (fun v => wp V (cdT Ev) mx d 49 55 ls (v :: st) h Q) := x_getf rfl
theorem s_49_55 {w : Value} {a : Nat} : wp V (cdT Ev) mx d 49 55 ls (w :: .ref a :: st) h Q = pf [10] 3 0 w h a (fun hh => wp V (cdT Ev) mx d 49 58 ls st hh Q) := x_putf rfl
theorem s_49_58 {a : Nat} : wp V (cdT Ev) mx d 49 58 [some (.ref a), l1, l2] st h Q = wp V (cdT Ev) mx d 49 59 [some (.ref a), l1, l2] (.ref a :: st) h Q := x_aload (len := 1) rfl rfl
theorem s_49_58_n : wp V (cdT Ev) mx d 49 58 [some .null, l1, l2] st h Q = wp V (cdT Ev) mx d 49 59 [some .null, l1, l2] (.null :: st) h Q := x_aloadN (len := 1) rfl rfl
theorem s_49_59 {a : Nat} : wp V (cdT Ev) mx d 49 59 [l0, some (.ref a), l2] st h Q = wp V (cdT Ev) mx d 49 60 [l0, some (.ref a), l2] (.ref a :: st) h Q := x_aload (len := 1) rfl rfl
theorem s_49_59_n : wp V (cdT Ev) mx d 49 59 [l0, some .null, l2] st h Q = wp V (cdT Ev) mx d 49 60 [l0, some .null, l2] (.null :: st) h Q := x_aloadN (len := 1) rfl rfl
theorem s_49_60 {a : Nat} : wp V (cdT Ev) mx d 49 60 ls (.ref a :: st) h Q = gf [10] 4 h a (fun v => wp V (cdT Ev) mx d 49 63 ls (v :: st) h Q) := x_getf rfl
theorem s_49_63 {w : Value} {a : Nat} : wp V (cdT Ev) mx d 49 63 ls (w :: .ref a :: st) h Q = pf [10] 4 0 w h a (fun hh => wp V (cdT Ev) mx d 49 66 ls st hh Q) := x_putf rfl
theorem s_49_66 {a : Nat} : wp V (cdT Ev) mx d 49 66 [some (.ref a), l1, l2] st h Q = wp V (cdT Ev) mx d 49 67 [some (.ref a), l1, l2] (.ref a :: st) h Q := x_aload (len := 1) rfl rfl
theorem s_49_66_n : wp V (cdT Ev) mx d 49 66 [some .null, l1, l2] st h Q = wp V (cdT Ev) mx d 49 67 [some .null, l1, l2] (.null :: st) h Q := x_aloadN (len := 1) rfl rfl
theorem s_49_67 {a : Nat} : wp V (cdT Ev) mx d 49 67 [l0, some (.ref a), l2] st h Q = wp V (cdT Ev) mx d 49 68 [l0, some (.ref a), l2] (.ref a :: st) h Q := x_aload (len := 1) rfl rfl
theorem s_49_67_n : wp V (cdT Ev) mx d 49 67 [l0, some .null, l2] st h Q = wp V (cdT Ev) mx d 49 68 [l0, some .null, l2] (.null :: st) h Q := x_aloadN (len := 1) rfl rfl
theorem s_49_68 {a : Nat} : wp V (cdT Ev) mx d 49 68 ls (.ref a :: st) h Q = gf [10] 5 h a (fun v => wp V (cdT Ev) mx d 49 71 ls (v :: st) h Q) := x_getf rfl
theorem s_49_71 {w : Value} {a : Nat} : wp V (cdT Ev) mx d 49 71 ls (w :: .ref a :: st) h Q = pf [10] 5 0 w h a (fun hh => wp V (cdT Ev) mx d 49 74 ls st hh Q) := x_putf rfl
theorem s_49_74 {a : Nat} : wp V (cdT Ev) mx d 49 74 [some (.ref a), l1, l2] st h Q = wp V (cdT Ev) mx d 49 75 [some (.ref a), l1, l2] (.ref a :: st) h Q := x_aload (len := 1) rfl rfl
theorem s_49_74_n : wp V (cdT Ev) mx d 49 74 [some .null, l1, l2] st h Q = wp V (cdT Ev) mx d 49 75 [some .null, l1, l2] (.null :: st) h Q := x_aloadN (len := 1) rfl rfl
theorem s_49_75 {a : Nat} : wp V (cdT Ev) mx d 49 75 ls (.ref a :: st) h Q = gf [10] 6 h a (fun v => wp V (cdT Ev) mx d 49 78 ls (v :: st) h Q) := x_getf rfl
theorem s_49_78 {a : Nat} : wp V (cdT Ev) mx d 49 78 [l0, some (.ref a), l2] st h Q = wp V (cdT Ev) mx d 49 79 [l0, some (.ref a), l2] (.ref a :: st) h Q := x_aload (len := 1) rfl rfl
theorem s_49_78_n : wp V (cdT Ev) mx d 49 78 [l0, some .null, l2] st h Q = wp V (cdT Ev) mx d 49 79 [l0, some .null, l2] (.null :: st) h Q := x_aloadN (len := 1) rfl rfl
theorem s_49_79 {a : Nat} : wp V (cdT Ev) mx d 49 79 ls (.ref a :: st) h Q = gf [10] 6 h a (fun v => wp V (cdT Ev) mx d 49 82 ls (v :: st) h Q) := x_getf rfl
theorem s_49_82 {b : Nat} {v0 : Value} (hst : st.length ≤ 4) : wp V (cdT Ev) mx d 49 82 ls (v0 :: .ref b :: st) h Q = cv [(7, 40)] h b (fun y' => WP V (cdT Ev) mx d y' [.ref b, v0] h (fun r h' => wp V (cdT Ev) mx d 49 85 ls (rts r st) h' Q)) := x_cv (sg := [v0]) rfl hst rfl rfl
theorem s_49_85 {a : Nat} : wp V (cdT Ev) mx d 49 85 [some (.ref a), l1, l2] st h Q = wp V (cdT Ev) mx d 49 86 [some (.ref a), l1, l2] (.ref a :: st) h Q := x_aload (len := 1) rfl rfl
theorem s_49_85_n : wp V (cdT Ev) mx d 49 85 [some .null, l1, l2] st h Q = wp V (cdT Ev) mx d 49 86 [some .null, l1, l2] (.null :: st) h Q := x_aloadN (len := 1) rfl rfl
theorem s_49_86 {a : Nat} : wp V (cdT Ev) mx d 49 86 ls (.ref a :: st) h Q = gf [10] 7 h a (fun v => wp V (cdT Ev) mx d 49 89 ls (v :: st) h Q) := x_getf rfl
theorem s_49_89 {a : Nat} : wp V (cdT Ev) mx d 49 89 [l0, some (.ref a), l2] st h Q = wp V (cdT Ev) mx d 49 90 [l0, some (.ref a), l2] (.ref a :: st) h Q := x_aload (len := 1) rfl rfl
theorem s_49_89_n : wp V (cdT Ev) mx d 49 89 [l0, some .null, l2] st h Q = wp V (cdT Ev) mx d 49 90 [l0, some .null, l2] (.null :: st) h Q := x_aloadN (len := 1) rfl rfl
theorem s_49_90 {a : Nat} : wp V (cdT Ev) mx d 49 90 ls (.ref a :: st) h Q = gf [10] 7 h a (fun v => wp V (cdT Ev) mx d 49 93 ls (v :: st) h Q) := x_getf rfl
theorem s_49_93 {b : Nat} {v0 : Value} (hst : st.length ≤ 4) : wp V (cdT Ev) mx d 49 93 ls (v0 :: .ref b :: st) h Q = cv [(7, 40)] h b (fun y' => WP V (cdT Ev) mx d y' [.ref b, v0] h (fun r h' => wp V (cdT Ev) mx d 49 96 ls (rts r st) h' Q)) := x_cv (sg := [v0]) rfl hst rfl rfl
theorem s_49_96 {a : Nat} : wp V (cdT Ev) mx d 49 96 [some (.ref a), l1, l2] st h Q = wp V (cdT Ev) mx d 49 97 [some (.ref a), l1, l2] (.ref a :: st) h Q := x_aload (len := 1) rfl rfl
theorem s_49_96_n : wp V (cdT Ev) mx d 49 96 [some .null, l1, l2] st h Q = wp V (cdT Ev) mx d 49 97 [some .null, l1, l2] (.null :: st) h Q := x_aloadN (len := 1) rfl rfl
theorem s_49_97 {a : Nat} : wp V (cdT Ev) mx d 49 97 ls (.ref a :: st) h Q = gf [10] 8 h a (fun v => wp V (cdT Ev) mx d 49 100 ls (v :: st) h Q) := x_getf rfl
theorem s_49_100 {a : Nat} : wp V (cdT Ev) mx d 49 100 [l0, some (.ref a), l2] st h Q = wp V (cdT Ev) mx d 49 101 [l0, some (.ref a), l2] (.ref a :: st) h Q := x_aload (len := 1) rfl rfl
theorem s_49_100_n : wp V (cdT Ev) mx d 49 100 [l0, some .null, l2] st h Q = wp V (cdT Ev) mx d 49 101 [l0, some .null, l2] (.null :: st) h Q := x_aloadN (len := 1) rfl rfl
theorem s_49_101 {a : Nat} : wp V (cdT Ev) mx d 49 101 ls (.ref a :: st) h Q = gf [10] 8 h a (fun v => wp V (cdT Ev) mx d 49 104 ls (v :: st) h Q) := x_getf rfl
theorem s_49_104 {b : Nat} {v0 : Value} (hst : st.length ≤ 4) : wp V (cdT Ev) mx d 49 104 ls (v0 :: .ref b :: st) h Q = cv [(7, 40)] h b (fun y' => WP V (cdT Ev) mx d y' [.ref b, v0] h (fun r h' => wp V (cdT Ev) mx d 49 107 ls (rts r st) h' Q)) := x_cv (sg := [v0]) rfl hst rfl rfl
theorem s_49_107 {a : Nat} : wp V (cdT Ev) mx d 49 107 [some (.ref a), l1, l2] st h Q = wp V (cdT Ev) mx d 49 108 [some (.ref a), l1, l2] (.ref a :: st) h Q := x_aload (len := 1) rfl rfl
theorem s_49_107_n : wp V (cdT Ev) mx d 49 107 [some .null, l1, l2] st h Q = wp V (cdT Ev) mx d 49 108 [some .null, l1, l2] (.null :: st) h Q := x_aloadN (len := 1) rfl rfl
theorem s_49_108 {a : Nat} : wp V (cdT Ev) mx d 49 108 [l0, some (.ref a), l2] st h Q = wp V (cdT Ev) mx d 49 109 [l0, some (.ref a), l2] (.ref a :: st) h Q := x_aload (len := 1) rfl rfl
theorem s_49_108_n : wp V (cdT Ev) mx d 49 108 [l0, some .null, l2] st h Q = wp V (cdT Ev) mx d 49 109 [l0, some .null, l2] (.null :: st) h Q := x_aloadN (len := 1) rfl rfl
theorem s_49_109 {a : Nat} : wp V (cdT Ev) mx d 49 109 ls (.ref a :: st) h Q = gf [10] 9 h a (fun v => wp V (cdT Ev) mx d 49 112 ls (v :: st) h Q) := x_getf rfl
theorem s_49_112 {w : Value} {a : Nat} : wp V (cdT Ev) mx d 49 112 ls (w :: .ref a :: st) h Q = pf [10] 9 2 w h a (fun hh => wp V (cdT Ev) mx d 49 115 ls st hh Q) := x_putf rfl
theorem s_49_115 : wp V (cdT Ev) mx d 49 115 ls [] h Q = Q none h := x_retv rfl
theorem e_49 {a : Nat} {p0 : Nat} : WP V (cdT Ev) mx (d + 1) 49 [.ref a, .ref p0] h Q = wp V (cdT Ev) mx d 49 0 [some (.ref a), some (.ref p0), none] [] h Q := propext (WP_eq (Nat.le_of_ble_eq_true rfl))
theorem s_50_0 {a : Nat} : wp V (cdT Ev) mx d 50 0 [l0, some (.ref a), l2] st h Q = wp V (cdT Ev) mx d 50 1 [l0, some (.ref a), l2] (.ref a :: st) h Q := x_aload (len := 1) rfl rfl
theorem s_50_0_n : wp V (cdT Ev) mx d 50 0 [l0, some .null, l2] st h Q = wp V (cdT Ev) mx d 50 1 [l0, some .null, l2] (.null :: st) h Q := x_aloadN (len := 1) rfl rfl
theorem s_50_1 {a : Nat} : wp V (cdT Ev) mx d 50 1 ls (.ref a :: st) h Q = wp V (cdT Ev) mx d 50 5 ls st h Q := x_ifnonnull rfl
theorem s_50_1_n : wp V (cdT Ev) mx d 50 1 ls (.null :: st) h Q = wp V (cdT Ev) mx d 50 4 ls st h Q := x_ifnonnullN rfl
theorem s_50_4 : wp V (cdT Ev) mx d 50 4 ls [] h Q = Q none h := x_retv rfl
theorem s_50_5 {a : Nat} : wp V (cdT Ev) mx d 50 5 [some (.ref a), l1, l2] st h Q = wp V (cdT Ev) mx d 50 6 [some (.ref a), l1, l2] (.ref a :: st) h Q := x_aload (len := 1) rfl rfl
theorem s_50_5_n : wp V (cdT Ev) mx d 50 5 [some .null, l1, l2] st h Q = wp V (cdT Ev) mx d 50 6 [some .null, l1, l2] (.null :: st) h Q := x_aloadN (len := 1) rfl rfl
theorem s_50_6 {a : Nat} : wp V (cdT Ev) mx d 50 6 ls (.ref a :: st) h Q = gf [10] 1 h a (fun v => wp V (cdT Ev) mx d 50 9 ls (v :: st) h Q) := x_getf rfl
theorem s_50_9 {x : Int32} : wp V (cdT Ev) mx d 50 9 [l0, l1, some (.int x)] st h Q = wp V (cdT Ev) mx d 50 10 [l0, l1, some (.int x)] (.int x :: st) h Q := x_iload (len := 1) rfl rfl
theorem s_50_10 {i : Int32} {a : Nat} : wp V (cdT Ev) mx d 50 10 ls (.int i :: .ref a :: st) h Q = aa i h a (fun v => wp V (cdT Ev) mx d 50 11 ls (v :: st) h Q) := x_aald rfl
theorem s_50_11 {a : Nat} : wp V (cdT Ev) mx d 50 11 ls (.ref a :: st) h Q = wp V (cdT Ev) mx d 50 14 ls st h Q := x_ifnull rfl
theorem s_50_11_n : wp V (cdT Ev) mx d 50 11 ls (.null :: st) h Q = wp V (cdT Ev) mx d 50 30 ls st h Q := x_ifnullN rfl
theorem s_50_14 {a : Nat} : wp V (cdT Ev) mx d 50 14 [some (.ref a), l1, l2] st h Q = wp V (cdT Ev) mx d 50 15 [some (.ref a), l1, l2] (.ref a :: st) h Q := x_aload (len := 1) rfl rfl
theorem s_50_14_n : wp V (cdT Ev) mx d 50 14 [some .null, l1, l2] st h Q = wp V (cdT Ev) mx d 50 15 [some .null, l1, l2] (.null :: st) h Q := x_aloadN (len := 1) rfl rfl
theorem s_50_15 {a : Nat} : wp V (cdT Ev) mx d 50 15 ls (.ref a :: st) h Q = gf [10] 1 h a (fun v => wp V (cdT Ev) mx d 50 18 ls (v :: st) h Q) := x_getf rfl
theorem s_50_18 {x : Int32} : wp V (cdT Ev) mx d 50 18 [l0, l1, some (.int x)] st h Q = wp V (cdT Ev) mx d 50 19 [l0, l1, some (.int x)] (.int x :: st) h Q := x_iload (len := 1) rfl rfl
theorem s_50_19 {i : Int32} {a : Nat} : wp V (cdT Ev) mx d 50 19 ls (.int i :: .ref a :: st) h Q = aa i h a (fun v => wp V (cdT Ev) mx d 50 20 ls (v :: st) h Q) := x_aald rfl
theorem s_50_20 {a : Nat} : wp V (cdT Ev) mx d 50 20 ls (.ref a :: st) h Q = gf [1, 2, 3, 4, 5, 6, 8] 0 h a (fun v => wp V (cdT Ev) mx d 50 23 ls (v :: st) h Q) := x_getf rfl
theorem s_50_23 {a : Nat} : wp V (cdT Ev) mx d 50 23 [l0, some (.ref a), l2] st h Q = wp V (cdT Ev) mx d 50 24 [l0, some (.ref a), l2] (.ref a :: st) h Q := x_aload (len := 1) rfl rfl
theorem s_50_23_n : wp V (cdT Ev) mx d 50 23 [l0, some .null, l2] st h Q = wp V (cdT Ev) mx d 50 24 [l0, some .null, l2] (.null :: st) h Q := x_aloadN (len := 1) rfl rfl
theorem s_50_24 {a : Nat} : wp V (cdT Ev) mx d 50 24 ls (.ref a :: st) h Q = gf [1, 2, 3, 4, 5, 6, 8] 0 h a (fun v => wp V (cdT Ev) mx d 50 27 ls (v :: st) h Q) := x_getf rfl
theorem s_50_27 {x z : Int32} : wp V (cdT Ev) mx d 50 27 ls (.int z :: .int x :: st) h Q = (if x = z then wp V (cdT Ev) mx d 50 44 ls st h Q else wp V (cdT Ev) mx d 50 30 ls st h Q) := x_if2 (c := fun x z => x = z) rfl
theorem s_50_30 {a : Nat} : wp V (cdT Ev) mx d 50 30 [some (.ref a), l1, l2] st h Q = wp V (cdT Ev) mx d 50 31 [some (.ref a), l1, l2] (.ref a :: st) h Q := x_aload (len := 1) rfl rfl
theorem s_50_30_n : wp V (cdT Ev) mx d 50 30 [some .null, l1, l2] st h Q = wp V (cdT Ev) mx d 50 31 [some .null, l1, l2] (.null :: st) h Q := x_aloadN (len := 1) rfl rfl
theorem s_50_31 {a : Nat} : wp V (cdT Ev) mx d 50 31 ls (.ref a :: st) h Q = gf [10] 1 h a (fun v => wp V (cdT Ev) mx d 50 34 ls (v :: st) h Q) := x_getf rfl
theorem s_50_34 {x : Int32} : wp V (cdT Ev) mx d 50 34 [l0, l1, some (.int x)] st h Q = wp V (cdT Ev) mx d 50 35 [l0, l1, some (.int x)] (.int x :: st) h Q := x_iload (len := 1) rfl rfl
theorem s_50_35 {a : Nat} : wp V (cdT Ev) mx d 50 35 [l0, some (.ref a), l2] st h Q = wp V (cdT Ev) mx d 50 36 [l0, some (.ref a), l2] (.ref a :: st) h Q := x_aload (len := 1) rfl rfl
theorem s_50_35_n : wp V (cdT Ev) mx d 50 35 [l0, some .null, l2] st h Q = wp V (cdT Ev) mx d 50 36 [l0, some .null, l2] (.null :: st) h Q := x_aloadN (len := 1) rfl rfl
theorem s_50_36 {a : Nat} : wp V (cdT Ev) mx d 50 36 ls (.ref a :: st) h Q = gf [1, 2, 3, 4, 5, 6, 8] 0 h a (fun v => wp V (cdT Ev) mx d 50 39 ls (v :: st) h Q) := x_getf rfl
theorem s_50_39 {x : Int32} : wp V (cdT Ev) mx d 50 39 [l0, l1, some (.int x)] st h Q = wp V (cdT Ev) mx d 50 40 [l0, l1, some (.int x)] (.int x :: st) h Q := x_iload (len := 1) rfl rfl
theorem s_50_40 {v0 v1 : Value} (hst : st.length ≤ 4) : wp V (cdT Ev) mx d 50 40 ls (v1 :: v0 :: st) h Q = WP V (cdT Ev) mx d 112 [v0, v1] h (fun r h' => wp V (cdT Ev) mx d 50 43 ls (rts r st) h' Q) := x_cs (sg := [v1, v0]) rfl hst rfl rfl
theorem s_50_43 {i : Int32} {a v : Nat} : wp V (cdT Ev) mx d 50 43 ls (.ref v :: .int i :: .ref a :: st) h Q = sa [1, 2, 3, 4, 5, 6, 8] i v h a (fun hh => wp V (cdT Ev) mx d 50 44 ls st hh Q) := x_aast rfl
theorem s_50_44 {a : Nat} : wp V (cdT Ev) mx d 50 44 [some (.ref a), l1, l2] st h Q = wp V (cdT Ev) mx d 50 45 [some (.ref a), l1, l2] (.ref a :: st) h Q := x_aload (len := 1) rfl rfl
theorem s_50_44_n : wp V (cdT Ev) mx d 50 44 [some .null, l1, l2] st h Q = wp V (cdT Ev) mx d 50 45 [some .null, l1, l2] (.null :: st) h Q := x_aloadN (len := 1) rfl rfl
theorem s_50_45 {a : Nat} : wp V (cdT Ev) mx d 50 45 ls (.ref a :: st) h Q = gf [10] 1 h a (fun v => wp V (cdT Ev) mx d 50 48 ls (v :: st) h Q) := x_getf rfl
theorem s_50_48 {x : Int32} : wp V (cdT Ev) mx d 50 48 [l0, l1, some (.int x)] st h Q = wp V (cdT Ev) mx d 50 49 [l0, l1, some (.int x)] (.int x :: st) h Q := x_iload (len := 1) rfl rfl
theorem s_50_49 {i : Int32} {a : Nat} : wp V (cdT Ev) mx d 50 49 ls (.int i :: .ref a :: st) h Q = aa i h a (fun v => wp V (cdT Ev) mx d 50 50 ls (v :: st) h Q) := x_aald rfl
theorem s_50_50 {a : Nat} : wp V (cdT Ev) mx d 50 50 [l0, some (.ref a), l2] st h Q = wp V (cdT Ev) mx d 50 51 [l0, some (.ref a), l2] (.ref a :: st) h Q := x_aload (len := 1) rfl rfl
theorem s_50_50_n : wp V (cdT Ev) mx d 50 50 [l0, some .null, l2] st h Q = wp V (cdT Ev) mx d 50 51 [l0, some .null, l2] (.null :: st) h Q := x_aloadN (len := 1) rfl rfl
theorem s_50_51 {b : Nat} {v0 : Value} (hst : st.length ≤ 4) : wp V (cdT Ev) mx d 50 51 ls (v0 :: .ref b :: st) h Q = cv [(1, 25), (2, 25), (3, 25), (4, 25), (5, 25), (6, 25), (8, 42)] h b (fun y' => WP V (cdT Ev) mx d y' [.ref b, v0] h (fun r h' => wp V (cdT Ev) mx d 50 54 ls (rts r st) h' Q)) := x_cv (sg := [v0]) rfl hst rfl rfl
theorem s_50_54 : wp V (cdT Ev) mx d 50 54 ls [] h Q = Q none h := x_retv rfl
theorem e_50 {a : Nat} {p0 : Nat} {p1 : Int32} : WP V (cdT Ev) mx (d + 1) 50 [.ref a, .ref p0, .int p1] h Q = wp V (cdT Ev) mx d 50 0 [some (.ref a), some (.ref p0), some (.int p1)] [] h Q := propext (WP_eq (Nat.le_of_ble_eq_true rfl))
theorem s_51_0 {x : Int32} : wp V (cdT Ev) mx d 51 0 [l0, some (.int x)] st h Q = wp V (cdT Ev) mx d 51 1 [l0, some (.int x)] (.int x :: st) h Q := x_iload (len := 1) rfl rfl
theorem s_51_1 {x : Int32} : wp V (cdT Ev) mx d 51 1 ls (.int x :: st) h Q = (if x < 0 then wp V (cdT Ev) mx d 51 21 ls st h Q else wp V (cdT Ev) mx d 51 4 ls st h Q) := x_if1 (c := fun x => x < 0) rfl
theorem s_51_4 {x : Int32} : wp V (cdT Ev) mx d 51 4 [l0, some (.int x)] st h Q = wp V (cdT Ev) mx d 51 5 [l0, some (.int x)] (.int x :: st) h Q := x_iload (len := 1) rfl rfl
theorem s_51_5 {a : Nat} : wp V (cdT Ev) mx d 51 5 [some (.ref a), l1] st h Q = wp V (cdT Ev) mx d 51 6 [some (.ref a), l1] (.ref a :: st) h Q := x_aload (len := 1) rfl rfl
theorem s_51_5_n : wp V (cdT Ev) mx d 51 5 [some .null, l1] st h Q = wp V (cdT Ev) mx d 51 6 [some .null, l1] (.null :: st) h Q := x_aloadN (len := 1) rfl rfl
theorem s_51_6 {a : Nat} : wp V (cdT Ev) mx d 51 6 ls (.ref a :: st) h Q = gf [10] 2 h a (fun v => wp V (cdT Ev) mx d 51 9 ls (v :: st) h Q) := x_getf rfl
theorem s_51_9 {x z : Int32} : wp V (cdT Ev) mx d 51 9 ls (.int z :: .int x :: st) h Q = (if z ≤ x then wp V (cdT Ev) mx d 51 21 ls st h Q else wp V (cdT Ev) mx d 51 12 ls st h Q) := x_if2 (c := fun x z => z ≤ x) rfl
theorem s_51_12 {a : Nat} : wp V (cdT Ev) mx d 51 12 [some (.ref a), l1] st h Q = wp V (cdT Ev) mx d 51 13 [some (.ref a), l1] (.ref a :: st) h Q := x_aload (len := 1) rfl rfl
theorem s_51_12_n : wp V (cdT Ev) mx d 51 12 [some .null, l1] st h Q = wp V (cdT Ev) mx d 51 13 [some .null, l1] (.null :: st) h Q := x_aloadN (len := 1) rfl rfl
theorem s_51_13 {a : Nat} : wp V (cdT Ev) mx d 51 13 ls (.ref a :: st) h Q = gf [10] 1 h a (fun v => wp V (cdT Ev) mx d 51 16 ls (v :: st) h Q) := x_getf rfl
theorem s_51_16 {x : Int32} : wp V (cdT Ev) mx d 51 16 [l0, some (.int x)] st h Q = wp V (cdT Ev) mx d 51 17 [l0, some (.int x)] (.int x :: st) h Q := x_iload (len := 1) rfl rfl
theorem s_51_17 {i : Int32} {a : Nat} : wp V (cdT Ev) mx d 51 17 ls (.int i :: .ref a :: st) h Q = aa i h a (fun v => wp V (cdT Ev) mx d 51 18 ls (v :: st) h Q) := x_aald rfl
theorem s_51_18 : wp V (cdT Ev) mx d 51 18 ls st h Q = wp V (cdT Ev) mx d 51 22 ls st h Q := x_goto rfl
theorem s_51_21 : wp V (cdT Ev) mx d 51 21 ls st h Q = wp V (cdT Ev) mx d 51 22 ls (.null :: st) h Q := x_push (v := .null) (len := 1) rfl
theorem s_51_22 {a : Nat} : wp V (cdT Ev) mx d 51 22 ls [.ref a] h Q = Q (some (.ref a)) h := x_ret rfl rfl
theorem s_51_22_n : wp V (cdT Ev) mx d 51 22 ls [.null] h Q = Q (some .null) h := x_ret rfl rfl
theorem e_51 {a : Nat} {p0 : Int32} : WP V (cdT Ev) mx (d + 1) 51 [.ref a, .int p0] h Q = wp V (cdT Ev) mx d 51 0 [some (.ref a), some (.int p0)] [] h Q := propext (WP_eq (Nat.le_of_ble_eq_true rfl))
theorem s_52_0 {a : Nat} : wp V (cdT Ev) mx d 52 0 [some (.ref a)] st h Q = wp V (cdT Ev) mx d 52 1 [some (.ref a)] (.ref a :: st) h Q := x_aload (len := 1) rfl rfl
theorem s_52_0_n : wp V (cdT Ev) mx d 52 0 [some .null] st h Q = wp V (cdT Ev) mx d 52 1 [some .null] (.null :: st) h Q := x_aloadN (len := 1) rfl rfl
theorem s_52_1 {a : Nat} : wp V (cdT Ev) mx d 52 1 ls (.ref a :: st) h Q = gf [10] 9 h a (fun v => wp V (cdT Ev) mx d 52 4 ls (v :: st) h Q) := x_getf rfl
theorem s_52_4 {a : Nat} : wp V (cdT Ev) mx d 52 4 ls (.ref a :: st) h Q = wp V (cdT Ev) mx d 52 11 ls st h Q := x_ifnonnull rfl
theorem s_52_4_n : wp V (cdT Ev) mx d 52 4 ls (.null :: st) h Q = wp V (cdT Ev) mx d 52 7 ls st h Q := x_ifnonnullN rfl
theorem s_52_7 : wp V (cdT Ev) mx d 52 7 ls st h Q = wp V (cdT Ev) mx d 52 8 ls ((.int (0)) :: st) h Q := x_push (v := (.int (0))) (len := 1) rfl
theorem s_52_8 : wp V (cdT Ev) mx d 52 8 ls st h Q = wp V (cdT Ev) mx d 52 18 ls st h Q := x_goto rfl
theorem s_52_11 {a : Nat} : wp V (cdT Ev) mx d 52 11 [some (.ref a)] st h Q = wp V (cdT Ev) mx d 52 12 [some (.ref a)] (.ref a :: st) h Q := x_aload (len := 1) rfl rfl
theorem s_52_11_n : wp V (cdT Ev) mx d 52 11 [some .null] st h Q = wp V (cdT Ev) mx d 52 12 [some .null] (.null :: st) h Q := x_aloadN (len := 1) rfl rfl
theorem s_52_12 {a : Nat} : wp V (cdT Ev) mx d 52 12 ls (.ref a :: st) h Q = gf [10] 9 h a (fun v => wp V (cdT Ev) mx d 52 15 ls (v :: st) h Q) := x_getf rfl
theorem s_52_15 {a : Nat} : wp V (cdT Ev) mx d 52 15 ls (.ref a :: st) h Q = gf [0] 8 h a (fun v => wp V (cdT Ev) mx d 52 18 ls (v :: st) h Q) := x_getf rfl
theorem s_52_18 {x : Int32} : wp V (cdT Ev) mx d 52 18 ls [.int x] h Q = Q (some (.int x)) h := x_ret rfl rfl
theorem e_52 {a : Nat} : WP V (cdT Ev) mx (d + 1) 52 [.ref a] h Q = wp V (cdT Ev) mx d 52 0 [some (.ref a)] [] h Q := propext (WP_eq (Nat.le_of_ble_eq_true rfl))
theorem s_53_0 : wp V (cdT Ev) mx d 53 0 ls st h Q = wp V (cdT Ev) mx d 53 1 ls ((.int (0)) :: st) h Q := x_push (v := (.int (0))) (len := 1) rfl
theorem s_53_1 {x : Int32} (hn : nl l0 = true) : wp V (cdT Ev) mx d 53 1 [l0, l1, l2] (.int x :: st) h Q = wp V (cdT Ev) mx d 53 2 [l0, some (.int x), l2] st h Q := x_istore (len := 1) rfl (Nat.le_of_ble_eq_true rfl) (okp_nl rfl hn) rfl
theorem s_53_2 : wp V (cdT Ev) mx d 53 2 ls st h Q = wp V (cdT Ev) mx d 53 3 ls ((.int (0)) :: st) h Q := x_push (v := (.int (0))) (len := 1) rfl
theorem s_53_3 {x : Int32} (hn : nl l1 = true) : wp V (cdT Ev) mx d 53 3 [l0, l1, l2] (.int x :: st) h Q = wp V (cdT Ev) mx d 53 4 [l0, l1, some (.int x)] st h Q := x_istore (len := 1) rfl (Nat.le_of_ble_eq_true rfl) (okp_nl rfl hn) rfl
theorem s_53_4 {x : Int32} : wp V (cdT Ev) mx d 53 4 [l0, l1, some (.int x)] st h Q = wp V (cdT Ev) mx d 53 5 [l0, l1, some (.int x)] (.int x :: st) h Q := x_iload (len := 1) rfl rfl
theorem s_53_5 {a : Nat} : wp V (cdT Ev) mx d 53 5 [some (.ref a), l1, l2] st h Q = wp V (cdT Ev) mx d 53 6 [some (.ref a), l1, l2] (.ref a :: st) h Q := x_aload (len := 1) rfl rfl
theorem s_53_5_n : wp V (cdT Ev) mx d 53 5 [some .null, l1, l2] st h Q = wp V (cdT Ev) mx d 53 6 [some .null, l1, l2] (.null :: st) h Q := x_aloadN (len := 1) rfl rfl
theorem s_53_6 {a : Nat} : wp V (cdT Ev) mx d 53 6 ls (.ref a :: st) h Q = gf [10] 2 h a (fun v => wp V (cdT Ev) mx d 53 9 ls (v :: st) h Q) := x_getf rfl
theorem s_53_9 {x z : Int32} : wp V (cdT Ev) mx d 53 9 ls (.int z :: .int x :: st) h Q = (if z ≤ x then wp V (cdT Ev) mx d 53 45 ls st h Q else wp V (cdT Ev) mx d 53 12 ls st h Q) := x_if2 (c := fun x z => z ≤ x) rfl
theorem s_53_12 {a : Nat} : wp V (cdT Ev) mx d 53 12 [some (.ref a), l1, l2] st h Q = wp V (cdT Ev) mx d 53 13 [some (.ref a), l1, l2] (.ref a :: st) h Q := x_aload (len := 1) rfl rfl
theorem s_53_12_n : wp V (cdT Ev) mx d 53 12 [some .null, l1, l2] st h Q = wp V (cdT Ev) mx d 53 13 [some .null, l1, l2] (.null :: st) h Q := x_aloadN (len := 1) rfl rfl
theorem s_53_13 {a : Nat} : wp V (cdT Ev) mx d 53 13 ls (.ref a :: st) h Q = gf [10] 1 h a (fun v => wp V (cdT Ev) mx d 53 16 ls (v :: st) h Q) := x_getf rfl
theorem s_53_16 {x : Int32} : wp V (cdT Ev) mx d 53 16 [l0, l1, some (.int x)] st h Q = wp V (cdT Ev) mx d 53 17 [l0, l1, some (.int x)] (.int x :: st) h Q := x_iload (len := 1) rfl rfl
theorem s_53_17 {i : Int32} {a : Nat} : wp V (cdT Ev) mx d 53 17 ls (.int i :: .ref a :: st) h Q = aa i h a (fun v => wp V (cdT Ev) mx d 53 18 ls (v :: st) h Q) := x_aald rfl
theorem s_53_18 {a : Nat} : wp V (cdT Ev) mx d 53 18 ls (.ref a :: st) h Q = wp V (cdT Ev) mx d 53 21 ls st h Q := x_ifnull rfl
theorem s_53_18_n : wp V (cdT Ev) mx d 53 18 ls (.null :: st) h Q = wp V (cdT Ev) mx d 53 39 ls st h Q := x_ifnullN rfl
theorem s_53_21 {a : Nat} : wp V (cdT Ev) mx d 53 21 [some (.ref a), l1, l2] st h Q = wp V (cdT Ev) mx d 53 22 [some (.ref a), l1, l2] (.ref a :: st) h Q := x_aload (len := 1) rfl rfl
theorem s_53_21_n : wp V (cdT Ev) mx d 53 21 [some .null, l1, l2] st h Q = wp V (cdT Ev) mx d 53 22 [some .null, l1, l2] (.null :: st) h Q := x_aloadN (len := 1) rfl rfl
theorem s_53_22 {a : Nat} : wp V (cdT Ev) mx d 53 22 ls (.ref a :: st) h Q = gf [10] 1 h a (fun v => wp V (cdT Ev) mx d 53 25 ls (v :: st) h Q) := x_getf rfl
theorem s_53_25 {x : Int32} : wp V (cdT Ev) mx d 53 25 [l0, l1, some (.int x)] st h Q = wp V (cdT Ev) mx d 53 26 [l0, l1, some (.int x)] (.int x :: st) h Q := x_iload (len := 1) rfl rfl
theorem s_53_26 {i : Int32} {a : Nat} : wp V (cdT Ev) mx d 53 26 ls (.int i :: .ref a :: st) h Q = aa i h a (fun v => wp V (cdT Ev) mx d 53 27 ls (v :: st) h Q) := x_aald rfl
theorem s_53_27 {a : Nat} : wp V (cdT Ev) mx d 53 27 ls (.ref a :: st) h Q = gf [1, 2, 3, 4, 5, 6, 8] 4 h a (fun v => wp V (cdT Ev) mx d 53 30 ls (v :: st) h Q) := x_getf rfl
theorem s_53_30 {x : Int32} : wp V (cdT Ev) mx d 53 30 ls (.int x :: st) h Q = (if x = 0 then wp V (cdT Ev) mx d 53 39 ls st h Q else wp V (cdT Ev) mx d 53 33 ls st h Q) := x_if1 (c := fun x => x = 0) rfl
theorem s_53_33 {x : Int32} : wp V (cdT Ev) mx d 53 33 [l0, some (.int x), l2] st h Q = wp V (cdT Ev) mx d 53 34 [l0, some (.int x), l2] (.int x :: st) h Q := x_iload (len := 1) rfl rfl
theorem s_53_34 : wp V (cdT Ev) mx d 53 34 ls st h Q = wp V (cdT Ev) mx d 53 35 ls ((.int (1)) :: st) h Q := x_push (v := (.int (1))) (len := 1) rfl
theorem s_53_35 {x : Int32} : wp V (cdT Ev) mx d 53 35 [l0, l1, some (.int x)] st h Q = wp V (cdT Ev) mx d 53 36 [l0, l1, some (.int x)] (.int x :: st) h Q := x_iload (len := 1) rfl rfl
theorem s_53_36 {x z : Int32} : wp V (cdT Ev) mx d 53 36 ls (.int z :: .int x :: st) h Q = wp V (cdT Ev) mx d 53 37 ls (.int (x <<< (z &&& 31)) :: st) h Q := x_ib (f := fun x z => x <<< (z &&& 31)) rfl
theorem s_53_37 {x z : Int32} : wp V (cdT Ev) mx d 53 37 ls (.int z :: .int x :: st) h Q = wp V (cdT Ev) mx d 53 38 ls (.int (x ||| z) :: st) h Q := x_ib (f := fun x z => x ||| z) rfl
theorem s_53_38 {x : Int32} (hn : nl l0 = true) : wp V (cdT Ev) mx d 53 38 [l0, l1, l2] (.int x :: st) h Q = wp V (cdT Ev) mx d 53 39 [l0, some (.int x), l2] st h Q := x_istore (len := 1) rfl (Nat.le_of_ble_eq_true rfl) (okp_nl rfl hn) rfl
theorem s_53_39 {x : Int32} : wp V (cdT Ev) mx d 53 39 [l0, l1, some (.int x)] st h Q = wp V (cdT Ev) mx d 53 42 [l0, l1, some (.int (x + (1)))] st h Q := x_iinc rfl rfl rfl
theorem s_53_42 : wp V (cdT Ev) mx d 53 42 ls st h Q = wp V (cdT Ev) mx d 53 4 ls st h Q := x_goto rfl
theorem s_53_45 {x : Int32} : wp V (cdT Ev) mx d 53 45 [l0, some (.int x), l2] st h Q = wp V (cdT Ev) mx d 53 46 [l0, some (.int x), l2] (.int x :: st) h Q := x_iload (len := 1) rfl rfl
theorem s_53_46 {x : Int32} : wp V (cdT Ev) mx d 53 46 ls [.int x] h Q = Q (some (.int x)) h := x_ret rfl rfl
theorem e_53 {a : Nat} : WP V (cdT Ev) mx (d + 1) 53 [.ref a] h Q = wp V (cdT Ev) mx d 53 0 [some (.ref a), none, none] [] h Q := propext (WP_eq (Nat.le_of_ble_eq_true rfl))
theorem s_54_0 : wp V (cdT Ev) mx d 54 0 ls st h Q = wp V (cdT Ev) mx d 54 1 ls ((.int (0)) :: st) h Q := x_push (v := (.int (0))) (len := 1) rfl
theorem s_54_1 {x : Int32} (hn : nl l0 = true) : wp V (cdT Ev) mx d 54 1 [l0, l1, l2] (.int x :: st) h Q = wp V (cdT Ev) mx d 54 2 [l0, some (.int x), l2] st h Q := x_istore (len := 1) rfl (Nat.le_of_ble_eq_true rfl) (okp_nl rfl hn) rfl
theorem s_54_2 : wp V (cdT Ev) mx d 54 2 ls st h Q = wp V (cdT Ev) mx d 54 3 ls ((.int (0)) :: st) h Q := x_push (v := (.int (0))) (len := 1) rfl
theorem s_54_3 {x : Int32} (hn : nl l1 = true) : wp V (cdT Ev) mx d 54 3 [l0, l1, l2] (.int x :: st) h Q = wp V (cdT Ev) mx d 54 4 [l0, l1, some (.int x)] st h Q := x_istore (len := 1) rfl (Nat.le_of_ble_eq_true rfl) (okp_nl rfl hn) rfl
theorem s_54_4 {x : Int32} : wp V (cdT Ev) mx d 54 4 [l0, l1, some (.int x)] st h Q = wp V (cdT Ev) mx d 54 5 [l0, l1, some (.int x)] (.int x :: st) h Q := x_iload (len := 1) rfl rfl
theorem s_54_5 {a : Nat} : wp V (cdT Ev) mx d 54 5 [some (.ref a), l1, l2] st h Q = wp V (cdT Ev) mx d 54 6 [some (.ref a), l1, l2] (.ref a :: st) h Q := x_aload (len := 1) rfl rfl
theorem s_54_5_n : wp V (cdT Ev) mx d 54 5 [some .null, l1, l2] st h Q = wp V (cdT Ev) mx d 54 6 [some .null, l1, l2] (.null :: st) h Q := x_aloadN (len := 1) rfl rfl
theorem s_54_6 {a : Nat} : wp V (cdT Ev) mx d 54 6 ls (.ref a :: st) h Q = gf [10] 2 h a (fun v => wp V (cdT Ev) mx d 54 9 ls (v :: st) h Q) := x_getf rfl
theorem s_54_9 {x z : Int32} : wp V (cdT Ev) mx d 54 9 ls (.int z :: .int x :: st) h Q = (if z ≤ x then wp V (cdT Ev) mx d 54 39 ls st h Q else wp V (cdT Ev) mx d 54 12 ls st h Q) := x_if2 (c := fun x z => z ≤ x) rfl
theorem s_54_12 {a : Nat} : wp V (cdT Ev) mx d 54 12 [some (.ref a), l1, l2] st h Q = wp V (cdT Ev) mx d 54 13 [some (.ref a), l1, l2] (.ref a :: st) h Q := x_aload (len := 1) rfl rfl
theorem s_54_12_n : wp V (cdT Ev) mx d 54 12 [some .null, l1, l2] st h Q = wp V (cdT Ev) mx d 54 13 [some .null, l1, l2] (.null :: st) h Q := x_aloadN (len := 1) rfl rfl
theorem s_54_13 {a : Nat} : wp V (cdT Ev) mx d 54 13 ls (.ref a :: st) h Q = gf [10] 1 h a (fun v => wp V (cdT Ev) mx d 54 16 ls (v :: st) h Q) := x_getf rfl
theorem s_54_16 {x : Int32} : wp V (cdT Ev) mx d 54 16 [l0, l1, some (.int x)] st h Q = wp V (cdT Ev) mx d 54 17 [l0, l1, some (.int x)] (.int x :: st) h Q := x_iload (len := 1) rfl rfl
theorem s_54_17 {i : Int32} {a : Nat} : wp V (cdT Ev) mx d 54 17 ls (.int i :: .ref a :: st) h Q = aa i h a (fun v => wp V (cdT Ev) mx d 54 18 ls (v :: st) h Q) := x_aald rfl
theorem s_54_18 {a : Nat} : wp V (cdT Ev) mx d 54 18 ls (.ref a :: st) h Q = wp V (cdT Ev) mx d 54 21 ls st h Q := x_ifnull rfl
theorem s_54_18_n : wp V (cdT Ev) mx d 54 18 ls (.null :: st) h Q = wp V (cdT Ev) mx d 54 33 ls st h Q := x_ifnullN rfl
theorem s_54_21 {x : Int32} : wp V (cdT Ev) mx d 54 21 [l0, some (.int x), l2] st h Q = wp V (cdT Ev) mx d 54 22 [l0, some (.int x), l2] (.int x :: st) h Q := x_iload (len := 1) rfl rfl
theorem s_54_22 {a : Nat} : wp V (cdT Ev) mx d 54 22 [some (.ref a), l1, l2] st h Q = wp V (cdT Ev) mx d 54 23 [some (.ref a), l1, l2] (.ref a :: st) h Q := x_aload (len := 1) rfl rfl
theorem s_54_22_n : wp V (cdT Ev) mx d 54 22 [some .null, l1, l2] st h Q = wp V (cdT Ev) mx d 54 23 [some .null, l1, l2] (.null :: st) h Q := x_aloadN (len := 1) rfl rfl
theorem s_54_23 {a : Nat} : wp V (cdT Ev) mx d 54 23 ls (.ref a :: st) h Q = gf [10] 1 h a (fun v => wp V (cdT Ev) mx d 54 26 ls (v :: st) h Q) := x_getf rfl
theorem s_54_26 {x : Int32} : wp V (cdT Ev) mx d 54 26 [l0, l1, some (.int x)] st h Q = wp V (cdT Ev) mx d 54 27 [l0, l1, some (.int x)] (.int x :: st) h Q := x_iload (len := 1) rfl rfl
theorem s_54_27 {i : Int32} {a : Nat} : wp V (cdT Ev) mx d 54 27 ls (.int i :: .ref a :: st) h Q = aa i h a (fun v => wp V (cdT Ev) mx d 54 28 ls (v :: st) h Q) := x_aald rfl
theorem s_54_28 {a : Nat} : wp V (cdT Ev) mx d 54 28 ls (.ref a :: st) h Q = gf [1, 2, 3, 4, 5, 6, 8] 5 h a (fun v => wp V (cdT Ev) mx d 54 31 ls (v :: st) h Q) := x_getf rfl
theorem s_54_31 {x z : Int32} : wp V (cdT Ev) mx d 54 31 ls (.int z :: .int x :: st) h Q = wp V (cdT Ev) mx d 54 32 ls (.int (x + z) :: st) h Q := x_ib (f := fun x z => x + z) rfl
theorem s_54_32 {x : Int32} (hn : nl l0 = true) : wp V (cdT Ev) mx d 54 32 [l0, l1, l2] (.int x :: st) h Q = wp V (cdT Ev) mx d 54 33 [l0, some (.int x), l2] st h Q := x_istore (len := 1) rfl (Nat.le_of_ble_eq_true rfl) (okp_nl rfl hn) rfl
theorem s_54_33 {x : Int32} : wp V (cdT Ev) mx d 54 33 [l0, l1, some (.int x)] st h Q = wp V (cdT Ev) mx d 54 36 [l0, l1, some (.int (x + (1)))] st h Q := x_iinc rfl rfl rfl
theorem s_54_36 : wp V (cdT Ev) mx d 54 36 ls st h Q = wp V (cdT Ev) mx d 54 4 ls st h Q := x_goto rfl
theorem s_54_39 {x : Int32} : wp V (cdT Ev) mx d 54 39 [l0, some (.int x), l2] st h Q = wp V (cdT Ev) mx d 54 40 [l0, some (.int x), l2] (.int x :: st) h Q := x_iload (len := 1) rfl rfl
theorem s_54_40 {x : Int32} : wp V (cdT Ev) mx d 54 40 ls [.int x] h Q = Q (some (.int x)) h := x_ret rfl rfl
theorem e_54 {a : Nat} : WP V (cdT Ev) mx (d + 1) 54 [.ref a] h Q = wp V (cdT Ev) mx d 54 0 [some (.ref a), none, none] [] h Q := propext (WP_eq (Nat.le_of_ble_eq_true rfl))
theorem s_55_0 : wp V (cdT Ev) mx d 55 0 ls st h Q = wp V (cdT Ev) mx d 55 1 ls ((.int (0)) :: st) h Q := x_push (v := (.int (0))) (len := 1) rfl
theorem s_55_1 {x : Int32} (hn : nl l0 = true) : wp V (cdT Ev) mx d 55 1 [l0, l1, l2] (.int x :: st) h Q = wp V (cdT Ev) mx d 55 2 [l0, some (.int x), l2] st h Q := x_istore (len := 1) rfl (Nat.le_of_ble_eq_true rfl) (okp_nl rfl hn) rfl
theorem s_55_2 : wp V (cdT Ev) mx d 55 2 ls st h Q = wp V (cdT Ev) mx d 55 3 ls ((.int (0)) :: st) h Q := x_push (v := (.int (0))) (len := 1) rfl
theorem s_55_3 {x : Int32} (hn : nl l1 = true) : wp V (cdT Ev) mx d 55 3 [l0, l1, l2] (.int x :: st) h Q = wp V (cdT Ev) mx d 55 4 [l0, l1, some (.int x)] st h Q := x_istore (len := 1) rfl (Nat.le_of_ble_eq_true rfl) (okp_nl rfl hn) rfl
theorem s_55_4 {x : Int32} : wp V (cdT Ev) mx d 55 4 [l0, l1, some (.int x)] st h Q = wp V (cdT Ev) mx d 55 5 [l0, l1, some (.int x)] (.int x :: st) h Q := x_iload (len := 1) rfl rfl
theorem s_55_5 : wp V (cdT Ev) mx d 55 5 ls st h Q = wp V (cdT Ev) mx d 55 7 ls ((.int (12)) :: st) h Q := x_push (v := (.int (12))) (len := 2) rfl
theorem s_55_7 {x z : Int32} : wp V (cdT Ev) mx d 55 7 ls (.int z :: .int x :: st) h Q = (if z ≤ x then wp V (cdT Ev) mx d 55 37 ls st h Q else wp V (cdT Ev) mx d 55 10 ls st h Q) := x_if2 (c := fun x z => z ≤ x) rfl
theorem s_55_10 {a : Nat} : wp V (cdT Ev) mx d 55 10 [some (.ref a), l1, l2] st h Q = wp V (cdT Ev) mx d 55 11 [some (.ref a), l1, l2] (.ref a :: st) h Q := x_aload (len := 1) rfl rfl
theorem s_55_10_n : wp V (cdT Ev) mx d 55 10 [some .null, l1, l2] st h Q = wp V (cdT Ev) mx d 55 11 [some .null, l1, l2] (.null :: st) h Q := x_aloadN (len := 1) rfl rfl
theorem s_55_11 {a : Nat} : wp V (cdT Ev) mx d 55 11 ls (.ref a :: st) h Q = gf [10] 4 h a (fun v => wp V (cdT Ev) mx d 55 14 ls (v :: st) h Q) := x_getf rfl
theorem s_55_14 {x : Int32} : wp V (cdT Ev) mx d 55 14 [l0, l1, some (.int x)] st h Q = wp V (cdT Ev) mx d 55 15 [l0, l1, some (.int x)] (.int x :: st) h Q := x_iload (len := 1) rfl rfl
theorem s_55_15 {x z : Int32} : wp V (cdT Ev) mx d 55 15 ls (.int z :: .int x :: st) h Q = wp V (cdT Ev) mx d 55 16 ls (.int (x >>> (z &&& 31)) :: st) h Q := x_ib (f := fun x z => x >>> (z &&& 31)) rfl
theorem s_55_16 : wp V (cdT Ev) mx d 55 16 ls st h Q = wp V (cdT Ev) mx d 55 17 ls ((.int (1)) :: st) h Q := x_push (v := (.int (1))) (len := 1) rfl
theorem s_55_17 {x z : Int32} : wp V (cdT Ev) mx d 55 17 ls (.int z :: .int x :: st) h Q = wp V (cdT Ev) mx d 55 18 ls (.int (x &&& z) :: st) h Q := x_ib (f := fun x z => x &&& z) rfl
theorem s_55_18 : wp V (cdT Ev) mx d 55 18 ls st h Q = wp V (cdT Ev) mx d 55 19 ls ((.int (1)) :: st) h Q := x_push (v := (.int (1))) (len := 1) rfl
theorem s_55_19 {x z : Int32} : wp V (cdT Ev) mx d 55 19 ls (.int z :: .int x :: st) h Q = (if ¬ x = z then wp V (cdT Ev) mx d 55 31 ls st h Q else wp V (cdT Ev) mx d 55 22 ls st h Q) := x_if2 (c := fun x z => ¬ x = z) rfl
theorem s_55_22 {x : Int32} : wp V (cdT Ev) mx d 55 22 [l0, some (.int x), l2] st h Q = wp V (cdT Ev) mx d 55 23 [l0, some (.int x), l2] (.int x :: st) h Q := x_iload (len := 1) rfl rfl
theorem s_55_23 {a : Nat} : wp V (cdT Ev) mx d 55 23 [some (.ref a), l1, l2] st h Q = wp V (cdT Ev) mx d 55 24 [some (.ref a), l1, l2] (.ref a :: st) h Q := x_aload (len := 1) rfl rfl
theorem s_55_23_n : wp V (cdT Ev) mx d 55 23 [some .null, l1, l2] st h Q = wp V (cdT Ev) mx d 55 24 [some .null, l1, l2] (.null :: st) h Q := x_aloadN (len := 1) rfl rfl
theorem s_55_24 {a : Nat} : wp V (cdT Ev) mx d 55 24 ls (.ref a :: st) h Q = gf [10] 0 h a (fun v => wp V (cdT Ev) mx d 55 27 ls (v :: st) h Q) := x_getf rfl
theorem s_55_27 {x : Int32} : wp V (cdT Ev) mx d 55 27 [l0, l1, some (.int x)] st h Q = wp V (cdT Ev) mx d 55 28 [l0, l1, some (.int x)] (.int x :: st) h Q := x_iload (len := 1) rfl rfl
theorem s_55_28 {i : Int32} {a : Nat} : wp V (cdT Ev) mx d 55 28 ls (.int i :: .ref a :: st) h Q = ai 2 i V h a (fun x => wp V (cdT Ev) mx d 55 29 ls (.int x :: st) h Q) := x_iald rfl
theorem s_55_29 {x z : Int32} : wp V (cdT Ev) mx d 55 29 ls (.int z :: .int x :: st) h Q = wp V (cdT Ev) mx d 55 30 ls (.int (x + z) :: st) h Q := x_ib (f := fun x z => x + z) rfl
theorem s_55_30 {x : Int32} (hn : nl l0 = true) : wp V (cdT Ev) mx d 55 30 [l0, l1, l2] (.int x :: st) h Q = wp V (cdT Ev) mx d 55 31 [l0, some (.int x), l2] st h Q := x_istore (len := 1) rfl (Nat.le_of_ble_eq_true rfl) (okp_nl rfl hn) rfl
theorem s_55_31 {x : Int32} : wp V (cdT Ev) mx d 55 31 [l0, l1, some (.int x)] st h Q = wp V (cdT Ev) mx d 55 34 [l0, l1, some (.int (x + (1)))] st h Q := x_iinc rfl rfl rfl
theorem s_55_34 : wp V (cdT Ev) mx d 55 34 ls st h Q = wp V (cdT Ev) mx d 55 4 ls st h Q := x_goto rfl
theorem s_55_37 {x : Int32} : wp V (cdT Ev) mx d 55 37 [l0, some (.int x), l2] st h Q = wp V (cdT Ev) mx d 55 38 [l0, some (.int x), l2] (.int x :: st) h Q := x_iload (len := 1) rfl rfl
theorem s_55_38 {x : Int32} : wp V (cdT Ev) mx d 55 38 ls [.int x] h Q = Q (some (.int x)) h := x_ret rfl rfl
theorem e_55 {a : Nat} : WP V (cdT Ev) mx (d + 1) 55 [.ref a] h Q = wp V (cdT Ev) mx d 55 0 [some (.ref a), none, none] [] h Q := propext (WP_eq (Nat.le_of_ble_eq_true rfl))
theorem s_56_0 {a : Nat} : wp V (cdT Ev) mx d 56 0 [some (.ref a), l1, l2] st h Q = wp V (cdT Ev) mx d 56 1 [some (.ref a), l1, l2] (.ref a :: st) h Q := x_aload (len := 1) rfl rfl
theorem s_56_0_n : wp V (cdT Ev) mx d 56 0 [some .null, l1, l2] st h Q = wp V (cdT Ev) mx d 56 1 [some .null, l1, l2] (.null :: st) h Q := x_aloadN (len := 1) rfl rfl
theorem s_56_1 {a : Nat} : wp V (cdT Ev) mx d 56 1 ls (.ref a :: st) h Q = gf [10] 9 h a (fun v => wp V (cdT Ev) mx d 56 4 ls (v :: st) h Q) := x_getf rfl
theorem s_56_4 {a : Nat} : wp V (cdT Ev) mx d 56 4 ls (.ref a :: st) h Q = wp V (cdT Ev) mx d 56 14 ls st h Q := x_ifnonnull rfl
theorem s_56_4_n : wp V (cdT Ev) mx d 56 4 ls (.null :: st) h Q = wp V (cdT Ev) mx d 56 7 ls st h Q := x_ifnonnullN rfl
theorem s_56_7 {a : Nat} : wp V (cdT Ev) mx d 56 7 [some (.ref a), l1, l2] st h Q = wp V (cdT Ev) mx d 56 8 [some (.ref a), l1, l2] (.ref a :: st) h Q := x_aload (len := 1) rfl rfl
theorem s_56_7_n : wp V (cdT Ev) mx d 56 7 [some .null, l1, l2] st h Q = wp V (cdT Ev) mx d 56 8 [some .null, l1, l2] (.null :: st) h Q := x_aloadN (len := 1) rfl rfl
theorem s_56_8 {a : Nat} : wp V (cdT Ev) mx d 56 8 ls (.ref a :: st) h Q = gf [10] 0 h a (fun v => wp V (cdT Ev) mx d 56 11 ls (v :: st) h Q) := x_getf rfl
theorem s_56_11 {x : Int32} : wp V (cdT Ev) mx d 56 11 [l0, l1, some (.int x)] st h Q = wp V (cdT Ev) mx d 56 12 [l0, l1, some (.int x)] (.int x :: st) h Q := x_iload (len := 1) rfl rfl
theorem s_56_12 {i : Int32} {a : Nat} : wp V (cdT Ev) mx d 56 12 ls (.int i :: .ref a :: st) h Q = ai 2 i V h a (fun x => wp V (cdT Ev) mx d 56 13 ls (.int x :: st) h Q) := x_iald rfl
theorem s_56_13 {x : Int32} : wp V (cdT Ev) mx d 56 13 ls [.int x] h Q = Q (some (.int x)) h := x_ret rfl rfl
theorem s_56_14 {a : Nat} : wp V (cdT Ev) mx d 56 14 [some (.ref a), l1, l2] st h Q = wp V (cdT Ev) mx d 56 15 [some (.ref a), l1, l2] (.ref a :: st) h Q := x_aload (len := 1) rfl rfl
theorem s_56_14_n : wp V (cdT Ev) mx d 56 14 [some .null, l1, l2] st h Q = wp V (cdT Ev) mx d 56 15 [some .null, l1, l2] (.null :: st) h Q := x_aloadN (len := 1) rfl rfl
theorem s_56_15 {a : Nat} : wp V (cdT Ev) mx d 56 15 ls (.ref a :: st) h Q = gf [10] 10 h a (fun v => wp V (cdT Ev) mx d 56 18 ls (v :: st) h Q) := x_getf rfl
theorem s_56_18 : wp V (cdT Ev) mx d 56 18 ls st h Q = wp V (cdT Ev) mx d 56 19 ls ((.int (0)) :: st) h Q := x_push (v := (.int (0))) (len := 1) rfl
theorem s_56_19 {a : Nat} : wp V (cdT Ev) mx d 56 19 [l0, some (.ref a), l2] st h Q = wp V (cdT Ev) mx d 56 20 [l0, some (.ref a), l2] (.ref a :: st) h Q := x_aload (len := 1) rfl rfl
theorem s_56_19_n : wp V (cdT Ev) mx d 56 19 [l0, some .null, l2] st h Q = wp V (cdT Ev) mx d 56 20 [l0, some .null, l2] (.null :: st) h Q := x_aloadN (len := 1) rfl rfl
theorem s_56_20 {a : Nat} : wp V (cdT Ev) mx d 56 20 ls (.ref a :: st) h Q = gf [1, 2, 3, 4, 5, 6, 8] 1 h a (fun v => wp V (cdT Ev) mx d 56 23 ls (v :: st) h Q) := x_getf rfl
theorem s_56_23 {x i : Int32} {a : Nat} : wp V (cdT Ev) mx d 56 23 ls (.int x :: .int i :: .ref a :: st) h Q = si 2 i (x) h a (fun hh => wp V (cdT Ev) mx d 56 24 ls st hh Q) := x_iast (nw := fun x => x) rfl
theorem s_56_24 {a : Nat} : wp V (cdT Ev) mx d 56 24 [some (.ref a), l1, l2] st h Q = wp V (cdT Ev) mx d 56 25 [some (.ref a), l1, l2] (.ref a :: st) h Q := x_aload (len := 1) rfl rfl
theorem s_56_24_n : wp V (cdT Ev) mx d 56 24 [some .null, l1, l2] st h Q = wp V (cdT Ev) mx d 56 25 [some .null, l1, l2] (.null :: st) h Q := x_aloadN (len := 1) rfl rfl
theorem s_56_25 {a : Nat} : wp V (cdT Ev) mx d 56 25 ls (.ref a :: st) h Q = gf [10] 10 h a (fun v => wp V (cdT Ev) mx d 56 28 ls (v :: st) h Q) := x_getf rfl
theorem s_56_28 : wp V (cdT Ev) mx d 56 28 ls st h Q = wp V (cdT Ev) mx d 56 29 ls ((.int (1)) :: st) h Q := x_push (v := (.int (1))) (len := 1) rfl
theorem s_56_29 {a : Nat} : wp V (cdT Ev) mx d 56 29 [l0, some (.ref a), l2] st h Q = wp V (cdT Ev) mx d 56 30 [l0, some (.ref a), l2] (.ref a :: st) h Q := x_aload (len := 1) rfl rfl
theorem s_56_29_n : wp V (cdT Ev) mx d 56 29 [l0, some .null, l2] st h Q = wp V (cdT Ev) mx d 56 30 [l0, some .null, l2] (.null :: st) h Q := x_aloadN (len := 1) rfl rfl
theorem s_56_30 {a : Nat} : wp V (cdT Ev) mx d 56 30 ls (.ref a :: st) h Q = gf [1, 2, 3, 4, 5, 6, 8] 0 h a (fun v => wp V (cdT Ev) mx d 56 33 ls (v :: st) h Q) := x_getf rfl
theorem s_56_33 {x i : Int32} {a : Nat} : wp V (cdT Ev) mx d 56 33 ls (.int x :: .int i :: .ref a :: st) h Q = si 2 i (x) h a (fun hh => wp V (cdT Ev) mx d 56 34 ls st hh Q) := x_iast (nw := fun x => x) rfl
theorem s_56_34 {a : Nat} : wp V (cdT Ev) mx d 56 34 [some (.ref a), l1, l2] st h Q = wp V (cdT Ev) mx d 56 35 [some (.ref a), l1, l2] (.ref a :: st) h Q := x_aload (len := 1) rfl rfl
theorem s_56_34_n : wp V (cdT Ev) mx d 56 34 [some .null, l1, l2] st h Q = wp V (cdT Ev) mx d 56 35 [some .null, l1, l2] (.null :: st) h Q := x_aloadN (len := 1) rfl rfl
theorem s_56_35 {a : Nat} : wp V (cdT Ev) mx d 56 35 ls (.ref a :: st) h Q = gf [10] 10 h a (fun v => wp V (cdT Ev) mx d 56 38 ls (v :: st) h Q) := x_getf rfl
theorem s_56_38 : wp V (cdT Ev) mx d 56 38 ls st h Q = wp V (cdT Ev) mx d 56 39 ls ((.int (2)) :: st) h Q := x_push (v := (.int (2))) (len := 1) rfl
theorem s_56_39 {a : Nat} : wp V (cdT Ev) mx d 56 39 [l0, some (.ref a), l2] st h Q = wp V (cdT Ev) mx d 56 40 [l0, some (.ref a), l2] (.ref a :: st) h Q := x_aload (len := 1) rfl rfl
theorem s_56_39_n : wp V (cdT Ev) mx d 56 39 [l0, some .null, l2] st h Q = wp V (cdT Ev) mx d 56 40 [l0, some .null, l2] (.null :: st) h Q := x_aloadN (len := 1) rfl rfl
theorem s_56_40 {a : Nat} : wp V (cdT Ev) mx d 56 40 ls (.ref a :: st) h Q = gf [1, 2, 3, 4, 5, 6, 8] 2 h a (fun v => wp V (cdT Ev) mx d 56 43 ls (v :: st) h Q) := x_getf rfl
theorem s_56_43 {x i : Int32} {a : Nat} : wp V (cdT Ev) mx d 56 43 ls (.int x :: .int i :: .ref a :: st) h Q = si 2 i (x) h a (fun hh => wp V (cdT Ev) mx d 56 44 ls st hh Q) := x_iast (nw := fun x => x) rfl
theorem s_56_44 {a : Nat} : wp V (cdT Ev) mx d 56 44 [some (.ref a), l1, l2] st h Q = wp V (cdT Ev) mx d 56 45 [some (.ref a), l1, l2] (.ref a :: st) h Q := x_aload (len := 1) rfl rfl
theorem s_56_44_n : wp V (cdT Ev) mx d 56 44 [some .null, l1, l2] st h Q = wp V (cdT Ev) mx d 56 45 [some .null, l1, l2] (.null :: st) h Q := x_aloadN (len := 1) rfl rfl
theorem s_56_45 {a : Nat} : wp V (cdT Ev) mx d 56 45 ls (.ref a :: st) h Q = gf [10] 10 h a (fun v => wp V (cdT Ev) mx d 56 48 ls (v :: st) h Q) := x_getf rfl
theorem s_56_48 : wp V (cdT Ev) mx d 56 48 ls st h Q = wp V (cdT Ev) mx d 56 49 ls ((.int (3)) :: st) h Q := x_push (v := (.int (3))) (len := 1) rfl
theorem s_56_49 {x : Int32} : wp V (cdT Ev) mx d 56 49 [l0, l1, some (.int x)] st h Q = wp V (cdT Ev) mx d 56 50 [l0, l1, some (.int x)] (.int x :: st) h Q := x_iload (len := 1) rfl rfl
theorem s_56_50 {x i : Int32} {a : Nat} : wp V (cdT Ev) mx d 56 50 ls (.int x :: .int i :: .ref a :: st) h Q = si 2 i (x) h a (fun hh => wp V (cdT Ev) mx d 56 51 ls st hh Q) := x_iast (nw := fun x => x) rfl
theorem s_56_51 {a : Nat} : wp V (cdT Ev) mx d 56 51 [some (.ref a), l1, l2] st h Q = wp V (cdT Ev) mx d 56 52 [some (.ref a), l1, l2] (.ref a :: st) h Q := x_aload (len := 1) rfl rfl
theorem s_56_51_n : wp V (cdT Ev) mx d 56 51 [some .null, l1, l2] st h Q = wp V (cdT Ev) mx d 56 52 [some .null, l1, l2] (.null :: st) h Q := x_aloadN (len := 1) rfl rfl
theorem s_56_52 {a : Nat} : wp V (cdT Ev) mx d 56 52 ls (.ref a :: st) h Q = gf [10] 10 h a (fun v => wp V (cdT Ev) mx d 56 55 ls (v :: st) h Q) := x_getf rfl
theorem s_56_55 : wp V (cdT Ev) mx d 56 55 ls st h Q = wp V (cdT Ev) mx d 56 56 ls ((.int (4)) :: st) h Q := x_push (v := (.int (4))) (len := 1) rfl
theorem s_56_56 {a : Nat} : wp V (cdT Ev) mx d 56 56 [some (.ref a), l1, l2] st h Q = wp V (cdT Ev) mx d 56 57 [some (.ref a), l1, l2] (.ref a :: st) h Q := x_aload (len := 1) rfl rfl
theorem s_56_56_n : wp V (cdT Ev) mx d 56 56 [some .null, l1, l2] st h Q = wp V (cdT Ev) mx d 56 57 [some .null, l1, l2] (.null :: st) h Q := x_aloadN (len := 1) rfl rfl
theorem s_56_57 {a : Nat} : wp V (cdT Ev) mx d 56 57 ls (.ref a :: st) h Q = gf [10] 0 h a (fun v => wp V (cdT Ev) mx d 56 60 ls (v :: st) h Q) := x_getf rfl
theorem s_56_60 {x : Int32} : wp V (cdT Ev) mx d 56 60 [l0, l1, some (.int x)] st h Q = wp V (cdT Ev) mx d 56 61 [l0, l1, some (.int x)] (.int x :: st) h Q := x_iload (len := 1) rfl rfl
theorem s_56_61 {i : Int32} {a : Nat} : wp V (cdT Ev) mx d 56 61 ls (.int i :: .ref a :: st) h Q = ai 2 i V h a (fun x => wp V (cdT Ev) mx d 56 62 ls (.int x :: st) h Q) := x_iald rfl
theorem s_56_62 {x i : Int32} {a : Nat} : wp V (cdT Ev) mx d 56 62 ls (.int x :: .int i :: .ref a :: st) h Q = si 2 i (x) h a (fun hh => wp V (cdT Ev) mx d 56 63 ls st hh Q) := x_iast (nw := fun x => x) rfl
theorem s_56_63 {a : Nat} : wp V (cdT Ev) mx d 56 63 [some (.ref a), l1, l2] st h Q = wp V (cdT Ev) mx d 56 64 [some (.ref a), l1, l2] (.ref a :: st) h Q := x_aload (len := 1) rfl rfl
theorem s_56_63_n : wp V (cdT Ev) mx d 56 63 [some .null, l1, l2] st h Q = wp V (cdT Ev) mx d 56 64 [some .null, l1, l2] (.null :: st) h Q := x_aloadN (len := 1) rfl rfl
theorem s_56_64 {a : Nat} : wp V (cdT Ev) mx d 56 64 ls (.ref a :: st) h Q = gf [10] 10 h a (fun v => wp V (cdT Ev) mx d 56 67 ls (v :: st) h Q) := x_getf rfl
theorem s_56_67 : wp V (cdT Ev) mx d 56 67 ls st h Q = wp V (cdT Ev) mx d 56 68 ls ((.int (5)) :: st) h Q := x_push (v := (.int (5))) (len := 1) rfl
theorem s_56_68 {a : Nat} : wp V (cdT Ev) mx d 56 68 [some (.ref a), l1, l2] st h Q = wp V (cdT Ev) mx d 56 69 [some (.ref a), l1, l2] (.ref a :: st) h Q := x_aload (len := 1) rfl rfl
theorem s_56_68_n : wp V (cdT Ev) mx d 56 68 [some .null, l1, l2] st h Q = wp V (cdT Ev) mx d 56 69 [some .null, l1, l2] (.null :: st) h Q := x_aloadN (len := 1) rfl rfl
theorem s_56_69 {a : Nat} : wp V (cdT Ev) mx d 56 69 ls (.ref a :: st) h Q = gf [10] 5 h a (fun v => wp V (cdT Ev) mx d 56 72 ls (v :: st) h Q) := x_getf rfl
theorem s_56_72 : wp V (cdT Ev) mx d 56 72 ls st h Q = wp V (cdT Ev) mx d 56 74 ls ((.int (10)) :: st) h Q := x_push (v := (.int (10))) (len := 2) rfl
theorem s_56_74 {x z : Int32} : wp V (cdT Ev) mx d 56 74 ls (.int z :: .int x :: st) h Q = (¬ z = 0 ∧ wp V (cdT Ev) mx d 56 75 ls (.int (x - x / z * z) :: st) h Q) := x_ibz (f := fun x z => x - x / z * z) rfl
theorem s_56_75 {x i : Int32} {a : Nat} : wp V (cdT Ev) mx d 56 75 ls (.int x :: .int i :: .ref a :: st) h Q = si 2 i (x) h a (fun hh => wp V (cdT Ev) mx d 56 76 ls st hh Q) := x_iast (nw := fun x => x) rfl
theorem s_56_76 {a : Nat} : wp V (cdT Ev) mx d 56 76 [some (.ref a), l1, l2] st h Q = wp V (cdT Ev) mx d 56 77 [some (.ref a), l1, l2] (.ref a :: st) h Q := x_aload (len := 1) rfl rfl
theorem s_56_76_n : wp V (cdT Ev) mx d 56 76 [some .null, l1, l2] st h Q = wp V (cdT Ev) mx d 56 77 [some .null, l1, l2] (.null :: st) h Q := x_aloadN (len := 1) rfl rfl
theorem s_56_77 {a : Nat} : wp V (cdT Ev) mx d 56 77 ls (.ref a :: st) h Q = gf [10] 0 h a (fun v => wp V (cdT Ev) mx d 56 80 ls (v :: st) h Q) := x_getf rfl
theorem s_56_80 {x : Int32} : wp V (cdT Ev) mx d 56 80 [l0, l1, some (.int x)] st h Q = wp V (cdT Ev) mx d 56 81 [l0, l1, some (.int x)] (.int x :: st) h Q := x_iload (len := 1) rfl rfl
theorem s_56_81 {i : Int32} {a : Nat} : wp V (cdT Ev) mx d 56 81 ls (.int i :: .ref a :: st) h Q = ai 2 i V h a (fun x => wp V (cdT Ev) mx d 56 82 ls (.int x :: st) h Q) := x_iald rfl
theorem s_56_82 {a : Nat} : wp V (cdT Ev) mx d 56 82 [some (.ref a), l1, l2] st h Q = wp V (cdT Ev) mx d 56 83 [some (.ref a), l1, l2] (.ref a :: st) h Q := x_aload (len := 1) rfl rfl
theorem s_56_82_n : wp V (cdT Ev) mx d 56 82 [some .null, l1, l2] st h Q = wp V (cdT Ev) mx d 56 83 [some .null, l1, l2] (.null :: st) h Q := x_aloadN (len := 1) rfl rfl
theorem s_56_83 {a : Nat} : wp V (cdT Ev) mx d 56 83 ls (.ref a :: st) h Q = gf [10] 9 h a (fun v => wp V (cdT Ev) mx d 56 86 ls (v :: st) h Q) := x_getf rfl
theorem s_56_86 {a : Nat} : wp V (cdT Ev) mx d 56 86 [some (.ref a), l1, l2] st h Q = wp V (cdT Ev) mx d 56 87 [some (.ref a), l1, l2] (.ref a :: st) h Q := x_aload (len := 1) rfl rfl
theorem s_56_86_n : wp V (cdT Ev) mx d 56 86 [some .null, l1, l2] st h Q = wp V (cdT Ev) mx d 56 87 [some .null, l1, l2] (.null :: st) h Q := x_aloadN (len := 1) rfl rfl
theorem s_56_87 {a : Nat} : wp V (cdT Ev) mx d 56 87 ls (.ref a :: st) h Q = gf [10] 10 h a (fun v => wp V (cdT Ev) mx d 56 90 ls (v :: st) h Q) := x_getf rfl
theorem s_56_90 {b : Nat} {v0 : Value} (hst : st.length ≤ 4) : wp V (cdT Ev) mx d 56 90 ls (v0 :: .ref b :: st) h Q = cv [(0, 13)] h b (fun y' => WP V (cdT Ev) mx d y' [.ref b, v0] h (fun r h' => wp V (cdT Ev) mx d 56 93 ls (rts r st) h' Q)) := x_cv (sg := [v0]) rfl hst rfl rfl
theorem s_56_93 {x z : Int32} : wp V (cdT Ev) mx d 56 93 ls (.int z :: .int x :: st) h Q = wp V (cdT Ev) mx d 56 94 ls (.int (x + z) :: st) h Q := x_ib (f := fun x z => x + z) rfl
theorem s_56_94 {x : Int32} : wp V (cdT Ev) mx d 56 94 ls [.int x] h Q = Q (some (.int x)) h := x_ret rfl rfl
theorem e_56 {a : Nat} {p0 : Nat} {p1 : Int32} : WP V (cdT Ev) mx (d + 1) 56 [.ref a, .ref p0, .int p1] h Q = wp V (cdT Ev) mx d 56 0 [some (.ref a), some (.ref p0), some (.int p1)] [] h Q := propext (WP_eq (Nat.le_of_ble_eq_true rfl))
theorem s_57_0 {a : Nat} : wp V (cdT Ev) mx d 57 0 [l0, some (.ref a), l2, l3] st h Q = wp V (cdT Ev) mx d 57 1 [l0, some (.ref a), l2, l3] (.ref a :: st) h Q := x_aload (len := 1) rfl rfl
theorem s_57_0_n : wp V (cdT Ev) mx d 57 0 [l0, some .null, l2, l3] st h Q = wp V (cdT Ev) mx d 57 1 [l0, some .null, l2, l3] (.null :: st) h Q := x_aloadN (len := 1) rfl rfl
theorem s_57_1 {x : Int32} : wp V (cdT Ev) mx d 57 1 [l0, l1, some (.int x), l3] st h Q = wp V (cdT Ev) mx d 57 2 [l0, l1, some (.int x), l3] (.int x :: st) h Q := x_iload (len := 1) rfl rfl
theorem s_57_2 {a : Nat} : wp V (cdT Ev) mx d 57 2 [some (.ref a), l1, l2, l3] st h Q = wp V (cdT Ev) mx d 57 3 [some (.ref a), l1, l2, l3] (.ref a :: st) h Q := x_aload (len := 1) rfl rfl
theorem s_57_2_n : wp V (cdT Ev) mx d 57 2 [some .null, l1, l2, l3] st h Q = wp V (cdT Ev) mx d 57 3 [some .null, l1, l2, l3] (.null :: st) h Q := x_aloadN (len := 1) rfl rfl
theorem s_57_3 {a : Nat} : wp V (cdT Ev) mx d 57 3 [l0, some (.ref a), l2, l3] st h Q = wp V (cdT Ev) mx d 57 4 [l0, some (.ref a), l2, l3] (.ref a :: st) h Q := x_aload (len := 1) rfl rfl
theorem s_57_3_n : wp V (cdT Ev) mx d 57 3 [l0, some .null, l2, l3] st h Q = wp V (cdT Ev) mx d 57 4 [l0, some .null, l2, l3] (.null :: st) h Q := x_aloadN (len := 1) rfl rfl
theorem s_57_4 {x : Int32} : wp V (cdT Ev) mx d 57 4 [l0, l1, some (.int x), l3] st h Q = wp V (cdT Ev) mx d 57 5 [l0, l1, some (.int x), l3] (.int x :: st) h Q := x_iload (len := 1) rfl rfl
theorem s_57_5 {b : Nat} {v0 v1 : Value} (hst : st.length ≤ 4) : wp V (cdT Ev) mx d 57 5 ls (v1 :: v0 :: .ref b :: st) h Q = cv [(10, 56)] h b (fun y' => WP V (cdT Ev) mx d y' [.ref b, v0, v1] h (fun r h' => wp V (cdT Ev) mx d 57 8 ls (rts r st) h' Q)) := x_cv (sg := [v1, v0]) rfl hst rfl rfl
theorem s_57_8 {x : Int32} : wp V (cdT Ev) mx d 57 8 [l0, l1, l2, some (.int x)] st h Q = wp V (cdT Ev) mx d 57 9 [l0, l1, l2, some (.int x)] (.int x :: st) h Q := x_iload (len := 1) rfl rfl
theorem s_57_9 {b : Nat} {v0 v1 v2 : Value} (hst : st.length ≤ 4) : wp V (cdT Ev) mx d 57 9 ls (v2 :: v1 :: v0 :: .ref b :: st) h Q = cv [(1, 16), (2, 19), (3, 22), (4, 26), (5, 31), (6, 35), (8, 43)] h b (fun y' => WP V (cdT Ev) mx d y' [.ref b, v0, v1, v2] h (fun r h' => wp V (cdT Ev) mx d 57 12 ls (rts r st) h' Q)) := x_cv (sg := [v2, v1, v0]) rfl hst rfl rfl
theorem s_57_12 {x : Int32} : wp V (cdT Ev) mx d 57 12 ls [.int x] h Q = Q (some (.int x)) h := x_ret rfl rfl
theorem e_57 {a : Nat} {p0 : Nat} {p1 : Int32} {p2 : Int32} : WP V (cdT Ev) mx (d + 1) 57 [.ref a, .ref p0, .int p1, .int p2] h Q = wp V (cdT Ev) mx d 57 0 [some (.ref a), some (.ref p0), some (.int p1), some (.int p2)] [] h Q := propext (WP_eq (Nat.le_of_ble_eq_true rfl))
theorem s_58_0 {x : Int32} : wp V (cdT Ev) mx d 58 0 [l0, l1, some (.int x), l3, l4, l5, l6, l7] st h Q = wp V (cdT Ev) mx d 58 1 [l0, l1, some (.int x), l3, l4, l5, l6, l7] (.int x :: st) h Q := x_iload (len := 1) rfl rfl
theorem s_58_1 {v0 : Value} (hst : st.length ≤ 4) : wp V (cdT Ev) mx d 58 1 ls (v0 :: st) h Q = WP V (cdT Ev) mx d 195 [v0] h (fun r h' => wp V (cdT Ev) mx d 58 4 ls (rts r st) h' Q) := x_cs (sg := [v0]) rfl hst rfl rfl
theorem s_58_4 {x : Int32} (hn : nl l2 = true) : wp V (cdT Ev) mx d 58 4 [l0, l1, l2, l3, l4, l5, l6, l7] (.int x :: st) h Q = wp V (cdT Ev) mx d 58 5 [l0, l1, l2, some (.int x), l4, l5, l6, l7] st h Q := x_istore (len := 1) rfl (Nat.le_of_ble_eq_true rfl) (okp_nl rfl hn) rfl
theorem s_58_5 : wp V (cdT Ev) mx d 58 5 ls st h Q = wp V (cdT Ev) mx d 58 6 ls ((.int (-1)) :: st) h Q := x_push (v := (.int (-1))) (len := 1) rfl
theorem s_58_6 {x : Int32} (hn : nl l3 = true) : wp V (cdT Ev) mx d 58 6 [l0, l1, l2, l3, l4, l5, l6, l7] (.int x :: st) h Q = wp V (cdT Ev) mx d 58 8 [l0, l1, l2, l3, some (.int x), l5, l6, l7] st h Q := x_istore (len := 2) rfl (Nat.le_of_ble_eq_true rfl) (okp_nl rfl hn) rfl
theorem s_58_8 : wp V (cdT Ev) mx d 58 8 ls st h Q = wp V (cdT Ev) mx d 58 9 ls ((.int (0)) :: st) h Q := x_push (v := (.int (0))) (len := 1) rfl
theorem s_58_9 {x : Int32} (hn : nl l4 = true) : wp V (cdT Ev) mx d 58 9 [l0, l1, l2, l3, l4, l5, l6, l7] (.int x :: st) h Q = wp V (cdT Ev) mx d 58 11 [l0, l1, l2, l3, l4, some (.int x), l6, l7] st h Q := x_istore (len := 2) rfl (Nat.le_of_ble_eq_true rfl) (okp_nl rfl hn) rfl
theorem s_58_11 : wp V (cdT Ev) mx d 58 11 ls st h Q = wp V (cdT Ev) mx d 58 12 ls ((.int (0)) :: st) h Q := x_push (v := (.int (0))) (len := 1) rfl
theorem s_58_12 {x : Int32} (hn : nl l5 = true) : wp V (cdT Ev) mx d 58 12 [l0, l1, l2, l3, l4, l5, l6, l7] (.int x :: st) h Q = wp V (cdT Ev) mx d 58 14 [l0, l1, l2, l3, l4, l5, some (.int x), l7] st h Q := x_istore (len := 2) rfl (Nat.le_of_ble_eq_true rfl) (okp_nl rfl hn) rfl
theorem s_58_14 {x : Int32} : wp V (cdT Ev) mx d 58 14 [l0, l1, l2, l3, l4, l5, some (.int x), l7] st h Q = wp V (cdT Ev) mx d 58 16 [l0, l1, l2, l3, l4, l5, some (.int x), l7] (.int x :: st) h Q := x_iload (len := 2) rfl rfl
theorem s_58_16 : wp V (cdT Ev) mx d 58 16 ls st h Q = wp V (cdT Ev) mx d 58 18 ls ((.int (12)) :: st) h Q := x_push (v := (.int (12))) (len := 2) rfl
theorem s_58_18 {x z : Int32} : wp V (cdT Ev) mx d 58 18 ls (.int z :: .int x :: st) h Q = (if z ≤ x then wp V (cdT Ev) mx d 58 68 ls st h Q else wp V (cdT Ev) mx d 58 21 ls st h Q) := x_if2 (c := fun x z => z ≤ x) rfl
theorem s_58_21 {x : Int32} : wp V (cdT Ev) mx d 58 21 [l0, l1, some (.int x), l3, l4, l5, l6, l7] st h Q = wp V (cdT Ev) mx d 58 22 [l0, l1, some (.int x), l3, l4, l5, l6, l7] (.int x :: st) h Q := x_iload (len := 1) rfl rfl
theorem s_58_22 {x : Int32} : wp V (cdT Ev) mx d 58 22 [l0, l1, l2, l3, l4, l5, some (.int x), l7] st h Q = wp V (cdT Ev) mx d 58 24 [l0, l1, l2, l3, l4, l5, some (.int x), l7] (.int x :: st) h Q := x_iload (len := 2) rfl rfl
theorem s_58_24 {x z : Int32} : wp V (cdT Ev) mx d 58 24 ls (.int z :: .int x :: st) h Q = wp V (cdT Ev) mx d 58 25 ls (.int (x >>> (z &&& 31)) :: st) h Q := x_ib (f := fun x z => x >>> (z &&& 31)) rfl
theorem s_58_25 : wp V (cdT Ev) mx d 58 25 ls st h Q = wp V (cdT Ev) mx d 58 26 ls ((.int (1)) :: st) h Q := x_push (v := (.int (1))) (len := 1) rfl
theorem s_58_26 {x z : Int32} : wp V (cdT Ev) mx d 58 26 ls (.int z :: .int x :: st) h Q = wp V (cdT Ev) mx d 58 27 ls (.int (x &&& z) :: st) h Q := x_ib (f := fun x z => x &&& z) rfl
theorem s_58_27 : wp V (cdT Ev) mx d 58 27 ls st h Q = wp V (cdT Ev) mx d 58 28 ls ((.int (1)) :: st) h Q := x_push (v := (.int (1))) (len := 1) rfl
theorem s_58_28 {x z : Int32} : wp V (cdT Ev) mx d 58 28 ls (.int z :: .int x :: st) h Q = (if ¬ x = z then wp V (cdT Ev) mx d 58 62 ls st h Q else wp V (cdT Ev) mx d 58 31 ls st h Q) := x_if2 (c := fun x z => ¬ x = z) rfl
theorem s_58_31 {a : Nat} : wp V (cdT Ev) mx d 58 31 [l0, some (.ref a), l2, l3, l4, l5, l6, l7] st h Q = wp V (cdT Ev) mx d 58 32 [l0, some (.ref a), l2, l3, l4, l5, l6, l7] (.ref a :: st) h Q := x_aload (len := 1) rfl rfl
theorem s_58_31_n : wp V (cdT Ev) mx d 58 31 [l0, some .null, l2, l3, l4, l5, l6, l7] st h Q = wp V (cdT Ev) mx d 58 32 [l0, some .null, l2, l3, l4, l5, l6, l7] (.null :: st) h Q := x_aloadN (len := 1) rfl rfl
theorem s_58_32 {x : Int32} : wp V (cdT Ev) mx d 58 32 [l0, l1, l2, l3, l4, l5, some (.int x), l7] st h Q = wp V (cdT Ev) mx d 58 34 [l0, l1, l2, l3, l4, l5, some (.int x), l7] (.int x :: st) h Q := x_iload (len := 2) rfl rfl
theorem s_58_34 {a : Nat} : wp V (cdT Ev) mx d 58 34 [some (.ref a), l1, l2, l3, l4, l5, l6, l7] st h Q = wp V (cdT Ev) mx d 58 35 [some (.ref a), l1, l2, l3, l4, l5, l6, l7] (.ref a :: st) h Q := x_aload (len := 1) rfl rfl
theorem s_58_34_n : wp V (cdT Ev) mx d 58 34 [some .null, l1, l2, l3, l4, l5, l6, l7] st h Q = wp V (cdT Ev) mx d 58 35 [some .null, l1, l2, l3, l4, l5, l6, l7] (.null :: st) h Q := x_aloadN (len := 1) rfl rfl
theorem s_58_35 {a : Nat} : wp V (cdT Ev) mx d 58 35 [l0, some (.ref a), l2, l3, l4, l5, l6, l7] st h Q = wp V (cdT Ev) mx d 58 36 [l0, some (.ref a), l2, l3, l4, l5, l6, l7] (.ref a :: st) h Q := x_aload (len := 1) rfl rfl
theorem s_58_35_n : wp V (cdT Ev) mx d 58 35 [l0, some .null, l2, l3, l4, l5, l6, l7] st h Q = wp V (cdT Ev) mx d 58 36 [l0, some .null, l2, l3, l4, l5, l6, l7] (.null :: st) h Q := x_aloadN (len := 1) rfl rfl
theorem s_58_36 {x : Int32} : wp V (cdT Ev) mx d 58 36 [l0, l1, l2, l3, l4, l5, some (.int x), l7] st h Q = wp V (cdT Ev) mx d 58 38 [l0, l1, l2, l3, l4, l5, some (.int x), l7] (.int x :: st) h Q := x_iload (len := 2) rfl rfl
theorem s_58_38 {b : Nat} {v0 v1 : Value} (hst : st.length ≤ 4) : wp V (cdT Ev) mx d 58 38 ls (v1 :: v0 :: .ref b :: st) h Q = cv [(10, 56)] h b (fun y' => WP V (cdT Ev) mx d y' [.ref b, v0, v1] h (fun r h' => wp V (cdT Ev) mx d 58 41 ls (rts r st) h' Q)) := x_cv (sg := [v1, v0]) rfl hst rfl rfl
theorem s_58_41 {x : Int32} : wp V (cdT Ev) mx d 58 41 [l0, l1, l2, some (.int x), l4, l5, l6, l7] st h Q = wp V (cdT Ev) mx d 58 42 [l0, l1, l2, some (.int x), l4, l5, l6, l7] (.int x :: st) h Q := x_iload (len := 1) rfl rfl
theorem s_58_42 {b : Nat} {v0 v1 v2 : Value} (hst : st.length ≤ 4) : wp V (cdT Ev) mx d 58 42 ls (v2 :: v1 :: v0 :: .ref b :: st) h Q = cv [(1, 16), (2, 19), (3, 22), (4, 26), (5, 31), (6, 35), (8, 43)] h b (fun y' => WP V (cdT Ev) mx d y' [.ref b, v0, v1, v2] h (fun r h' => wp V (cdT Ev) mx d 58 45 ls (rts r st) h' Q)) := x_cv (sg := [v2, v1, v0]) rfl hst rfl rfl
theorem s_58_45 {x : Int32} (hn : nl l6 = true) : wp V (cdT Ev) mx d 58 45 [l0, l1, l2, l3, l4, l5, l6, l7] (.int x :: st) h Q = wp V (cdT Ev) mx d 58 47 [l0, l1, l2, l3, l4, l5, l6, some (.int x)] st h Q := x_istore (len := 2) rfl (Nat.le_of_ble_eq_true rfl) (okp_nl rfl hn) rfl
theorem s_58_47 {x : Int32} : wp V (cdT Ev) mx d 58 47 [l0, l1, l2, l3, l4, l5, l6, some (.int x)] st h Q = wp V (cdT Ev) mx d 58 49 [l0, l1, l2, l3, l4, l5, l6, some (.int x)] (.int x :: st) h Q := x_iload (len := 2) rfl rfl
theorem s_58_49 {x : Int32} : wp V (cdT Ev) mx d 58 49 [l0, l1, l2, l3, l4, some (.int x), l6, l7] st h Q = wp V (cdT Ev) mx d 58 51 [l0, l1, l2, l3, l4, some (.int x), l6, l7] (.int x :: st) h Q := x_iload (len := 2) rfl rfl
theorem s_58_51 {x z : Int32} : wp V (cdT Ev) mx d 58 51 ls (.int z :: .int x :: st) h Q = (if x ≤ z then wp V (cdT Ev) mx d 58 62 ls st h Q else wp V (cdT Ev) mx d 58 54 ls st h Q) := x_if2 (c := fun x z => x ≤ z) rfl
theorem s_58_54 {x : Int32} : wp V (cdT Ev) mx d 58 54 [l0, l1, l2, l3, l4, l5, l6, some (.int x)] st h Q = wp V (cdT Ev) mx d 58 56 [l0, l1, l2, l3, l4, l5, l6, some (.int x)] (.int x :: st) h Q := x_iload (len := 2) rfl rfl
theorem s_58_56 {x : Int32} (hn : nl l4 = true) : wp V (cdT Ev) mx d 58 56 [l0, l1, l2, l3, l4, l5, l6, l7] (.int x :: st) h Q = wp V (cdT Ev) mx d 58 58 [l0, l1, l2, l3, l4, some (.int x), l6, l7] st h Q := x_istore (len := 2) rfl (Nat.le_of_ble_eq_true rfl) (okp_nl rfl hn) rfl
theorem s_58_58 {x : Int32} : wp V (cdT Ev) mx d 58 58 [l0, l1, l2, l3, l4, l5, some (.int x), l7] st h Q = wp V (cdT Ev) mx d 58 60 [l0, l1, l2, l3, l4, l5, some (.int x), l7] (.int x :: st) h Q := x_iload (len := 2) rfl rfl
theorem s_58_60 {x : Int32} (hn : nl l3 = true) : wp V (cdT Ev) mx d 58 60 [l0, l1, l2, l3, l4, l5, l6, l7] (.int x :: st) h Q = wp V (cdT Ev) mx d 58 62 [l0, l1, l2, l3, some (.int x), l5, l6, l7] st h Q := x_istore (len := 2) rfl (Nat.le_of_ble_eq_true rfl) (okp_nl rfl hn) rfl
theorem s_58_62 {x : Int32} : wp V (cdT Ev) mx d 58 62 [l0, l1, l2, l3, l4, l5, some (.int x), l7] st h Q = wp V (cdT Ev) mx d 58 65 [l0, l1, l2, l3, l4, l5, some (.int (x + (1))), l7] st h Q := x_iinc rfl rfl rfl
theorem s_58_65 : wp V (cdT Ev) mx d 58 65 ls st h Q = wp V (cdT Ev) mx d 58 14 ls st h Q := x_goto rfl
theorem s_58_68 {x : Int32} : wp V (cdT Ev) mx d 58 68 [l0, l1, l2, l3, some (.int x), l5, l6, l7] st h Q = wp V (cdT Ev) mx d 58 70 [l0, l1, l2, l3, some (.int x), l5, l6, l7] (.int x :: st) h Q := x_iload (len := 2) rfl rfl
theorem s_58_70 {x : Int32} : wp V (cdT Ev) mx d 58 70 ls [.int x] h Q = Q (some (.int x)) h := x_ret rfl rfl
theorem e_58 {a : Nat} {p0 : Nat} {p1 : Int32} : WP V (cdT Ev) mx (d + 1) 58 [.ref a, .ref p0, .int p1] h Q = wp V (cdT Ev) mx d 58 0 [some (.ref a), some (.ref p0), some (.int p1), none, none, none, none, none] [] h Q := propext (WP_eq (Nat.le_of_ble_eq_true rfl))
theorem s_59_0 : wp V (cdT Ev) mx d 59 0 ls st h Q = wp V (cdT Ev) mx d 59 1 ls ((.int (0)) :: st) h Q := x_push (v := (.int (0))) (len := 1) rfl
theorem s_59_1 {x : Int32} (hn : nl l2 = true) : wp V (cdT Ev) mx d 59 1 [l0, l1, l2, l3] (.int x :: st) h Q = wp V (cdT Ev) mx d 59 2 [l0, l1, l2, some (.int x)] st h Q := x_istore (len := 1) rfl (Nat.le_of_ble_eq_true rfl) (okp_nl rfl hn) rfl
theorem s_59_2 {x : Int32} : wp V (cdT Ev) mx d 59 2 [l0, l1, l2, some (.int x)] st h Q = wp V (cdT Ev) mx d 59 3 [l0, l1, l2, some (.int x)] (.int x :: st) h Q := x_iload (len := 1) rfl rfl
theorem s_59_3 {x : Int32} : wp V (cdT Ev) mx d 59 3 [l0, some (.int x), l2, l3] st h Q = wp V (cdT Ev) mx d 59 4 [l0, some (.int x), l2, l3] (.int x :: st) h Q := x_iload (len := 1) rfl rfl
theorem s_59_4 {x z : Int32} : wp V (cdT Ev) mx d 59 4 ls (.int z :: .int x :: st) h Q = (if z ≤ x then wp V (cdT Ev) mx d 59 18 ls st h Q else wp V (cdT Ev) mx d 59 7 ls st h Q) := x_if2 (c := fun x z => z ≤ x) rfl
theorem s_59_7 {a : Nat} : wp V (cdT Ev) mx d 59 7 [some (.ref a), l1, l2, l3] st h Q = wp V (cdT Ev) mx d 59 8 [some (.ref a), l1, l2, l3] (.ref a :: st) h Q := x_aload (len := 1) rfl rfl
theorem s_59_7_n : wp V (cdT Ev) mx d 59 7 [some .null, l1, l2, l3] st h Q = wp V (cdT Ev) mx d 59 8 [some .null, l1, l2, l3] (.null :: st) h Q := x_aloadN (len := 1) rfl rfl
theorem s_59_8 {x : Int32} : wp V (cdT Ev) mx d 59 8 [l0, l1, some (.int x), l3] st h Q = wp V (cdT Ev) mx d 59 9 [l0, l1, some (.int x), l3] (.int x :: st) h Q := x_iload (len := 1) rfl rfl
theorem s_59_9 {b : Nat} {v0 : Value} (hst : st.length ≤ 4) : wp V (cdT Ev) mx d 59 9 ls (v0 :: .ref b :: st) h Q = cv [(10, 60)] h b (fun y' => WP V (cdT Ev) mx d y' [.ref b, v0] h (fun r h' => wp V (cdT Ev) mx d 59 12 ls (rts r st) h' Q)) := x_cv (sg := [v0]) rfl hst rfl rfl
theorem s_59_12 {x : Int32} : wp V (cdT Ev) mx d 59 12 [l0, l1, l2, some (.int x)] st h Q = wp V (cdT Ev) mx d 59 15 [l0, l1, l2, some (.int (x + (1)))] st h Q := x_iinc rfl rfl rfl
theorem s_59_15 : wp V (cdT Ev) mx d 59 15 ls st h Q = wp V (cdT Ev) mx d 59 2 ls st h Q := x_goto rfl
theorem s_59_18 : wp V (cdT Ev) mx d 59 18 ls [] h Q = Q none h := x_retv rfl
theorem e_59 {a : Nat} {p0 : Int32} {p1 : Int32} : WP V (cdT Ev) mx (d + 1) 59 [.ref a, .int p0, .int p1] h Q = wp V (cdT Ev) mx d 59 0 [some (.ref a), some (.int p0), some (.int p1), none] [] h Q := propext (WP_eq (Nat.le_of_ble_eq_true rfl))
theorem s_60_0 : wp V (cdT Ev) mx d 60 0 ls st h Q = wp V (cdT Ev) mx d 60 1 ls ((.int (0)) :: st) h Q := x_push (v := (.int (0))) (len := 1) rfl
theorem s_60_1 {x : Int32} (hn : nl l1 = true) : wp V (cdT Ev) mx d 60 1 [l0, l1, l2] (.int x :: st) h Q = wp V (cdT Ev) mx d 60 2 [l0, l1, some (.int x)] st h Q := x_istore (len := 1) rfl (Nat.le_of_ble_eq_true rfl) (okp_nl rfl hn) rfl
theorem s_60_2 {x : Int32} : wp V (cdT Ev) mx d 60 2 [l0, l1, some (.int x)] st h Q = wp V (cdT Ev) mx d 60 3 [l0, l1, some (.int x)] (.int x :: st) h Q := x_iload (len := 1) rfl rfl
theorem s_60_3 {a : Nat} : wp V (cdT Ev) mx d 60 3 [some (.ref a), l1, l2] st h Q = wp V (cdT Ev) mx d 60 4 [some (.ref a), l1, l2] (.ref a :: st) h Q := x_aload (len := 1) rfl rfl
theorem s_60_3_n : wp V (cdT Ev) mx d 60 3 [some .null, l1, l2] st h Q = wp V (cdT Ev) mx d 60 4 [some .null, l1, l2] (.null :: st) h Q := x_aloadN (len := 1) rfl rfl
theorem s_60_4 {a : Nat} : wp V (cdT Ev) mx d 60 4 ls (.ref a :: st) h Q = gf [10] 2 h a (fun v => wp V (cdT Ev) mx d 60 7 ls (v :: st) h Q) := x_getf rfl
theorem s_60_7 {x z : Int32} : wp V (cdT Ev) mx d 60 7 ls (.int z :: .int x :: st) h Q = (if z ≤ x then wp V (cdT Ev) mx d 60 36 ls st h Q else wp V (cdT Ev) mx d 60 10 ls st h Q) := x_if2 (c := fun x z => z ≤ x) rfl
theorem s_60_10 {a : Nat} : wp V (cdT Ev) mx d 60 10 [some (.ref a), l1, l2] st h Q = wp V (cdT Ev) mx d 60 11 [some (.ref a), l1, l2] (.ref a :: st) h Q := x_aload (len := 1) rfl rfl
theorem s_60_10_n : wp V (cdT Ev) mx d 60 10 [some .null, l1, l2] st h Q = wp V (cdT Ev) mx d 60 11 [some .null, l1, l2] (.null :: st) h Q := x_aloadN (len := 1) rfl rfl
theorem s_60_11 {a : Nat} : wp V (cdT Ev) mx d 60 11 ls (.ref a :: st) h Q = gf [10] 1 h a (fun v => wp V (cdT Ev) mx d 60 14 ls (v :: st) h Q) := x_getf rfl
theorem s_60_14 {x : Int32} : wp V (cdT Ev) mx d 60 14 [l0, l1, some (.int x)] st h Q = wp V (cdT Ev) mx d 60 15 [l0, l1, some (.int x)] (.int x :: st) h Q := x_iload (len := 1) rfl rfl
theorem s_60_15 {i : Int32} {a : Nat} : wp V (cdT Ev) mx d 60 15 ls (.int i :: .ref a :: st) h Q = aa i h a (fun v => wp V (cdT Ev) mx d 60 16 ls (v :: st) h Q) := x_aald rfl
theorem s_60_16 {a : Nat} : wp V (cdT Ev) mx d 60 16 ls (.ref a :: st) h Q = wp V (cdT Ev) mx d 60 19 ls st h Q := x_ifnull rfl
theorem s_60_16_n : wp V (cdT Ev) mx d 60 16 ls (.null :: st) h Q = wp V (cdT Ev) mx d 60 30 ls st h Q := x_ifnullN rfl
theorem s_60_19 {a : Nat} : wp V (cdT Ev) mx d 60 19 [some (.ref a), l1, l2] st h Q = wp V (cdT Ev) mx d 60 20 [some (.ref a), l1, l2] (.ref a :: st) h Q := x_aload (len := 1) rfl rfl
theorem s_60_19_n : wp V (cdT Ev) mx d 60 19 [some .null, l1, l2] st h Q = wp V (cdT Ev) mx d 60 20 [some .null, l1, l2] (.null :: st) h Q := x_aloadN (len := 1) rfl rfl
theorem s_60_20 {a : Nat} : wp V (cdT Ev) mx d 60 20 [some (.ref a), l1, l2] st h Q = wp V (cdT Ev) mx d 60 21 [some (.ref a), l1, l2] (.ref a :: st) h Q := x_aload (len := 1) rfl rfl
theorem s_60_20_n : wp V (cdT Ev) mx d 60 20 [some .null, l1, l2] st h Q = wp V (cdT Ev) mx d 60 21 [some .null, l1, l2] (.null :: st) h Q := x_aloadN (len := 1) rfl rfl
theorem s_60_21 {a : Nat} : wp V (cdT Ev) mx d 60 21 ls (.ref a :: st) h Q = gf [10] 1 h a (fun v => wp V (cdT Ev) mx d 60 24 ls (v :: st) h Q) := x_getf rfl
theorem s_60_24 {x : Int32} : wp V (cdT Ev) mx d 60 24 [l0, l1, some (.int x)] st h Q = wp V (cdT Ev) mx d 60 25 [l0, l1, some (.int x)] (.int x :: st) h Q := x_iload (len := 1) rfl rfl
theorem s_60_25 {i : Int32} {a : Nat} : wp V (cdT Ev) mx d 60 25 ls (.int i :: .ref a :: st) h Q = aa i h a (fun v => wp V (cdT Ev) mx d 60 26 ls (v :: st) h Q) := x_aald rfl
theorem s_60_26 {x : Int32} : wp V (cdT Ev) mx d 60 26 [l0, some (.int x), l2] st h Q = wp V (cdT Ev) mx d 60 27 [l0, some (.int x), l2] (.int x :: st) h Q := x_iload (len := 1) rfl rfl
theorem s_60_27 {b : Nat} {v0 v1 : Value} (hst : st.length ≤ 4) : wp V (cdT Ev) mx d 60 27 ls (v1 :: v0 :: .ref b :: st) h Q = cv [(10, 61)] h b (fun y' => WP V (cdT Ev) mx d y' [.ref b, v0, v1] h (fun r h' => wp V (cdT Ev) mx d 60 30 ls (rts r st) h' Q)) := x_cv (sg := [v1, v0]) rfl hst rfl rfl
theorem s_60_30 {x : Int32} : wp V (cdT Ev) mx d 60 30 [l0, l1, some (.int x)] st h Q = wp V (cdT Ev) mx d 60 33 [l0, l1, some (.int (x + (1)))] st h Q := x_iinc rfl rfl rfl
theorem s_60_33 : wp V (cdT Ev) mx d 60 33 ls st h Q = wp V (cdT Ev) mx d 60 2 ls st h Q := x_goto rfl
theorem s_60_36 {a : Nat} : wp V (cdT Ev) mx d 60 36 [some (.ref a), l1, l2] st h Q = wp V (cdT Ev) mx d 60 37 [some (.ref a), l1, l2] (.ref a :: st) h Q := x_aload (len := 1) rfl rfl
theorem s_60_36_n : wp V (cdT Ev) mx d 60 36 [some .null, l1, l2] st h Q = wp V (cdT Ev) mx d 60 37 [some .null, l1, l2] (.null :: st) h Q := x_aloadN (len := 1) rfl rfl
theorem s_60_37 {b : Nat} (hst : st.length ≤ 4) : wp V (cdT Ev) mx d 60 37 ls (.ref b :: st) h Q = cv [(10, 52)] h b (fun y' => WP V (cdT Ev) mx d y' [.ref b] h (fun r h' => wp V (cdT Ev) mx d 60 40 ls (rts r st) h' Q)) := x_cv (sg := []) rfl hst rfl rfl
theorem s_60_40 {x : Int32} (hn : nl l1 = true) : wp V (cdT Ev) mx d 60 40 [l0, l1, l2] (.int x :: st) h Q = wp V (cdT Ev) mx d 60 41 [l0, l1, some (.int x)] st h Q := x_istore (len := 1) rfl (Nat.le_of_ble_eq_true rfl) (okp_nl rfl hn) rfl
theorem s_60_41 {x : Int32} : wp V (cdT Ev) mx d 60 41 [l0, l1, some (.int x)] st h Q = wp V (cdT Ev) mx d 60 42 [l0, l1, some (.int x)] (.int x :: st) h Q := x_iload (len := 1) rfl rfl
theorem s_60_42 {x : Int32} : wp V (cdT Ev) mx d 60 42 ls (.int x :: st) h Q = (if x ≤ 0 then wp V (cdT Ev) mx d 60 68 ls st h Q else wp V (cdT Ev) mx d 60 45 ls st h Q) := x_if1 (c := fun x => x ≤ 0) rfl
theorem s_60_45 {a : Nat} : wp V (cdT Ev) mx d 60 45 [some (.ref a), l1, l2] st h Q = wp V (cdT Ev) mx d 60 46 [some (.ref a), l1, l2] (.ref a :: st) h Q := x_aload (len := 1) rfl rfl
theorem s_60_45_n : wp V (cdT Ev) mx d 60 45 [some .null, l1, l2] st h Q = wp V (cdT Ev) mx d 60 46 [some .null, l1, l2] (.null :: st) h Q := x_aloadN (len := 1) rfl rfl
theorem s_60_46 {a : Nat} : wp V (cdT Ev) mx d 60 46 ls (.ref a :: st) h Q = gf [10] 5 h a (fun v => wp V (cdT Ev) mx d 60 49 ls (v :: st) h Q) := x_getf rfl
theorem s_60_49 {x : Int32} : wp V (cdT Ev) mx d 60 49 [l0, l1, some (.int x)] st h Q = wp V (cdT Ev) mx d 60 50 [l0, l1, some (.int x)] (.int x :: st) h Q := x_iload (len := 1) rfl rfl
theorem s_60_50 {x z : Int32} : wp V (cdT Ev) mx d 60 50 ls (.int z :: .int x :: st) h Q = (¬ z = 0 ∧ wp V (cdT Ev) mx d 60 51 ls (.int (x - x / z * z) :: st) h Q) := x_ibz (f := fun x z => x - x / z * z) rfl
theorem s_60_51 {x : Int32} : wp V (cdT Ev) mx d 60 51 ls (.int x :: st) h Q = (if ¬ x = 0 then wp V (cdT Ev) mx d 60 68 ls st h Q else wp V (cdT Ev) mx d 60 54 ls st h Q) := x_if1 (c := fun x => ¬ x = 0) rfl
theorem s_60_54 {a : Nat} : wp V (cdT Ev) mx d 60 54 [some (.ref a), l1, l2] st h Q = wp V (cdT Ev) mx d 60 55 [some (.ref a), l1, l2] (.ref a :: st) h Q := x_aload (len := 1) rfl rfl
theorem s_60_54_n : wp V (cdT Ev) mx d 60 54 [some .null, l1, l2] st h Q = wp V (cdT Ev) mx d 60 55 [some .null, l1, l2] (.null :: st) h Q := x_aloadN (len := 1) rfl rfl
theorem s_60_55 {a : Nat} : wp V (cdT Ev) mx d 60 55 [some (.ref a), l1, l2] st h Q = wp V (cdT Ev) mx d 60 56 [some (.ref a), l1, l2] (.ref a :: st) h Q := x_aload (len := 1) rfl rfl
theorem s_60_55_n : wp V (cdT Ev) mx d 60 55 [some .null, l1, l2] st h Q = wp V (cdT Ev) mx d 60 56 [some .null, l1, l2] (.null :: st) h Q := x_aloadN (len := 1) rfl rfl
theorem s_60_56 {a : Nat} : wp V (cdT Ev) mx d 60 56 ls (.ref a :: st) h Q = gf [10] 3 h a (fun v => wp V (cdT Ev) mx d 60 59 ls (v :: st) h Q) := x_getf rfl
theorem s_60_59 {a : Nat} : wp V (cdT Ev) mx d 60 59 [some (.ref a), l1, l2] st h Q = wp V (cdT Ev) mx d 60 60 [some (.ref a), l1, l2] (.ref a :: st) h Q := x_aload (len := 1) rfl rfl
theorem s_60_59_n : wp V (cdT Ev) mx d 60 59 [some .null, l1, l2] st h Q = wp V (cdT Ev) mx d 60 60 [some .null, l1, l2] (.null :: st) h Q := x_aloadN (len := 1) rfl rfl
theorem s_60_60 {a : Nat} : wp V (cdT Ev) mx d 60 60 ls (.ref a :: st) h Q = gf [10] 3 h a (fun v => wp V (cdT Ev) mx d 60 63 ls (v :: st) h Q) := x_getf rfl
theorem s_60_63 {x : Int32} : wp V (cdT Ev) mx d 60 63 ls (.int x :: st) h Q = wp V (cdT Ev) mx d 60 64 ls (.int (-x) :: st) h Q := x_iu (f := fun x => -x) rfl
theorem s_60_64 {x z : Int32} : wp V (cdT Ev) mx d 60 64 ls (.int z :: .int x :: st) h Q = wp V (cdT Ev) mx d 60 65 ls (.int (x &&& z) :: st) h Q := x_ib (f := fun x z => x &&& z) rfl
theorem s_60_65 {b : Nat} {v0 : Value} (hst : st.length ≤ 4) : wp V (cdT Ev) mx d 60 65 ls (v0 :: .ref b :: st) h Q = cv [(10, 62)] h b (fun y' => WP V (cdT Ev) mx d y' [.ref b, v0] h (fun r h' => wp V (cdT Ev) mx d 60 68 ls (rts r st) h' Q)) := x_cv (sg := [v0]) rfl hst rfl rfl
theorem s_60_68 {a : Nat} : wp V (cdT Ev) mx d 60 68 [some (.ref a), l1, l2] st h Q = wp V (cdT Ev) mx d 60 69 [some (.ref a), l1, l2] (.ref a :: st) h Q := x_aload (len := 1) rfl rfl
theorem s_60_68_n : wp V (cdT Ev) mx d 60 68 [some .null, l1, l2] st h Q = wp V (cdT Ev) mx d 60 69 [some .null, l1, l2] (.null :: st) h Q := x_aloadN (len := 1) rfl rfl
theorem s_60_69 {a : Nat} : wp V (cdT Ev) mx d 60 69 ls (.ref a :: st) h Q = wp V (cdT Ev) mx d 60 70 ls (.ref a :: .ref a :: st) h Q := x_dup rfl rfl
theorem s_60_69_i {x : Int32} : wp V (cdT Ev) mx d 60 69 ls (.int x :: st) h Q = wp V (cdT Ev) mx d 60 70 ls (.int x :: .int x :: st) h Q := x_dup rfl rfl
theorem s_60_70 {a : Nat} : wp V (cdT Ev) mx d 60 70 ls (.ref a :: st) h Q = gf [10] 5 h a (fun v => wp V (cdT Ev) mx d 60 73 ls (v :: st) h Q) := x_getf rfl
theorem s_60_73 : wp V (cdT Ev) mx d 60 73 ls st h Q = wp V (cdT Ev) mx d 60 74 ls ((.int (1)) :: st) h Q := x_push (v := (.int (1))) (len := 1) rfl
theorem s_60_74 {x z : Int32} : wp V (cdT Ev) mx d 60 74 ls (.int z :: .int x :: st) h Q = wp V (cdT Ev) mx d 60 75 ls (.int (x + z) :: st) h Q := x_ib (f := fun x z => x + z) rfl
theorem s_60_75 {w : Value} {a : Nat} : wp V (cdT Ev) mx d 60 75 ls (w :: .ref a :: st) h Q = pf [10] 5 0 w h a (fun hh => wp V (cdT Ev) mx d 60 78 ls st hh Q) := x_putf rfl
theorem s_60_78 : wp V (cdT Ev) mx d 60 78 ls [] h Q = Q none h := x_retv rfl
theorem e_60 {a : Nat} {p0 : Int32} : WP V (cdT Ev) mx (d + 1) 60 [.ref a, .int p0] h Q = wp V (cdT Ev) mx d 60 0 [some (.ref a), some (.int p0), none] [] h Q := propext (WP_eq (Nat.le_of_ble_eq_true rfl))
theorem s_61_0 {a : Nat} : wp V (cdT Ev) mx d 61 0 [some (.ref a), l1, l2, l3, l4] st h Q = wp V (cdT Ev) mx d 61 1 [some (.ref a), l1, l2, l3, l4] (.ref a :: st) h Q := x_aload (len := 1) rfl rfl
theorem s_61_0_n : wp V (cdT Ev) mx d 61 0 [some .null, l1, l2, l3, l4] st h Q = wp V (cdT Ev) mx d 61 1 [some .null, l1, l2, l3, l4] (.null :: st) h Q := x_aloadN (len := 1) rfl rfl
theorem s_61_1 {a : Nat} : wp V (cdT Ev) mx d 61 1 [l0, some (.ref a), l2, l3, l4] st h Q = wp V (cdT Ev) mx d 61 2 [l0, some (.ref a), l2, l3, l4] (.ref a :: st) h Q := x_aload (len := 1) rfl rfl
theorem s_61_1_n : wp V (cdT Ev) mx d 61 1 [l0, some .null, l2, l3, l4] st h Q = wp V (cdT Ev) mx d 61 2 [l0, some .null, l2, l3, l4] (.null :: st) h Q := x_aloadN (len := 1) rfl rfl
theorem s_61_2 {a : Nat} : wp V (cdT Ev) mx d 61 2 [l0, some (.ref a), l2, l3, l4] st h Q = wp V (cdT Ev) mx d 61 3 [l0, some (.ref a), l2, l3, l4] (.ref a :: st) h Q := x_aload (len := 1) rfl rfl
theorem s_61_2_n : wp V (cdT Ev) mx d 61 2 [l0, some .null, l2, l3, l4] st h Q = wp V (cdT Ev) mx d 61 3 [l0, some .null, l2, l3, l4] (.null :: st) h Q := x_aloadN (len := 1) rfl rfl
theorem s_61_3 {a : Nat} : wp V (cdT Ev) mx d 61 3 ls (.ref a :: st) h Q = gf [1, 2, 3, 4, 5, 6, 8] 3 h a (fun v => wp V (cdT Ev) mx d 61 6 ls (v :: st) h Q) := x_getf rfl
theorem s_61_6 {b : Nat} {v0 v1 : Value} (hst : st.length ≤ 4) : wp V (cdT Ev) mx d 61 6 ls (v1 :: v0 :: .ref b :: st) h Q = cv [(10, 58)] h b (fun y' => WP V (cdT Ev) mx d y' [.ref b, v0, v1] h (fun r h' => wp V (cdT Ev) mx d 61 9 ls (rts r st) h' Q)) := x_cv (sg := [v1, v0]) rfl hst rfl rfl
theorem s_61_9 {x : Int32} (hn : nl l2 = true) : wp V (cdT Ev) mx d 61 9 [l0, l1, l2, l3, l4] (.int x :: st) h Q = wp V (cdT Ev) mx d 61 10 [l0, l1, l2, some (.int x), l4] st h Q := x_istore (len := 1) rfl (Nat.le_of_ble_eq_true rfl) (okp_nl rfl hn) rfl
theorem s_61_10 {x : Int32} : wp V (cdT Ev) mx d 61 10 [l0, l1, l2, some (.int x), l4] st h Q = wp V (cdT Ev) mx d 61 11 [l0, l1, l2, some (.int x), l4] (.int x :: st) h Q := x_iload (len := 1) rfl rfl
theorem s_61_11 {x : Int32} : wp V (cdT Ev) mx d 61 11 ls (.int x :: st) h Q = (if 0 ≤ x then wp V (cdT Ev) mx d 61 40 ls st h Q else wp V (cdT Ev) mx d 61 14 ls st h Q) := x_if1 (c := fun x => 0 ≤ x) rfl
theorem s_61_14 {a : Nat} : wp V (cdT Ev) mx d 61 14 [l0, some (.ref a), l2, l3, l4] st h Q = wp V (cdT Ev) mx d 61 15 [l0, some (.ref a), l2, l3, l4] (.ref a :: st) h Q := x_aload (len := 1) rfl rfl
theorem s_61_14_n : wp V (cdT Ev) mx d 61 14 [l0, some .null, l2, l3, l4] st h Q = wp V (cdT Ev) mx d 61 15 [l0, some .null, l2, l3, l4] (.null :: st) h Q := x_aloadN (len := 1) rfl rfl
theorem s_61_15 {a : Nat} : wp V (cdT Ev) mx d 61 15 ls (.ref a :: st) h Q = gf [1, 2, 3, 4, 5, 6, 8] 4 h a (fun v => wp V (cdT Ev) mx d 61 18 ls (v :: st) h Q) := x_getf rfl
theorem s_61_18 {x : Int32} : wp V (cdT Ev) mx d 61 18 ls (.int x :: st) h Q = (if ¬ x = 0 then wp V (cdT Ev) mx d 61 39 ls st h Q else wp V (cdT Ev) mx d 61 21 ls st h Q) := x_if1 (c := fun x => ¬ x = 0) rfl
theorem s_61_21 {a : Nat} : wp V (cdT Ev) mx d 61 21 [l0, some (.ref a), l2, l3, l4] st h Q = wp V (cdT Ev) mx d 61 22 [l0, some (.ref a), l2, l3, l4] (.ref a :: st) h Q := x_aload (len := 1) rfl rfl
theorem s_61_21_n : wp V (cdT Ev) mx d 61 21 [l0, some .null, l2, l3, l4] st h Q = wp V (cdT Ev) mx d 61 22 [l0, some .null, l2, l3, l4] (.null :: st) h Q := x_aloadN (len := 1) rfl rfl
theorem s_61_22 {a : Nat} : wp V (cdT Ev) mx d 61 22 ls (.ref a :: st) h Q = gf [1, 2, 3, 4, 5, 6, 8] 5 h a (fun v => wp V (cdT Ev) mx d 61 25 ls (v :: st) h Q) := x_getf rfl
theorem s_61_25 {x : Int32} : wp V (cdT Ev) mx d 61 25 [l0, l1, some (.int x), l3, l4] st h Q = wp V (cdT Ev) mx d 61 26 [l0, l1, some (.int x), l3, l4] (.int x :: st) h Q := x_iload (len := 1) rfl rfl
theorem s_61_26 {x z : Int32} : wp V (cdT Ev) mx d 61 26 ls (.int z :: .int x :: st) h Q = (if z ≤ x then wp V (cdT Ev) mx d 61 39 ls st h Q else wp V (cdT Ev) mx d 61 29 ls st h Q) := x_if2 (c := fun x z => z ≤ x) rfl
theorem s_61_29 {a : Nat} : wp V (cdT Ev) mx d 61 29 [l0, some (.ref a), l2, l3, l4] st h Q = wp V (cdT Ev) mx d 61 30 [l0, some (.ref a), l2, l3, l4] (.ref a :: st) h Q := x_aload (len := 1) rfl rfl
theorem s_61_29_n : wp V (cdT Ev) mx d 61 29 [l0, some .null, l2, l3, l4] st h Q = wp V (cdT Ev) mx d 61 30 [l0, some .null, l2, l3, l4] (.null :: st) h Q := x_aloadN (len := 1) rfl rfl
theorem s_61_30 {a : Nat} : wp V (cdT Ev) mx d 61 30 ls (.ref a :: st) h Q = wp V (cdT Ev) mx d 61 31 ls (.ref a :: .ref a :: st) h Q := x_dup rfl rfl
theorem s_61_30_i {x : Int32} : wp V (cdT Ev) mx d 61 30 ls (.int x :: st) h Q = wp V (cdT Ev) mx d 61 31 ls (.int x :: .int x :: st) h Q := x_dup rfl rfl
theorem s_61_31 {a : Nat} : wp V (cdT Ev) mx d 61 31 ls (.ref a :: st) h Q = gf [1, 2, 3, 4, 5, 6, 8] 5 h a (fun v => wp V (cdT Ev) mx d 61 34 ls (v :: st) h Q) := x_getf rfl
theorem s_61_34 : wp V (cdT Ev) mx d 61 34 ls st h Q = wp V (cdT Ev) mx d 61 35 ls ((.int (1)) :: st) h Q := x_push (v := (.int (1))) (len := 1) rfl
theorem s_61_35 {x z : Int32} : wp V (cdT Ev) mx d 61 35 ls (.int z :: .int x :: st) h Q = wp V (cdT Ev) mx d 61 36 ls (.int (x + z) :: st) h Q := x_ib (f := fun x z => x + z) rfl
theorem s_61_36 {w : Value} {a : Nat} : wp V (cdT Ev) mx d 61 36 ls (w :: .ref a :: st) h Q = pf [1, 2, 3, 4, 5, 6, 8] 5 0 w h a (fun hh => wp V (cdT Ev) mx d 61 39 ls st hh Q) := x_putf rfl
theorem s_61_39 : wp V (cdT Ev) mx d 61 39 ls [] h Q = Q none h := x_retv rfl
theorem s_61_40 : wp V (cdT Ev) mx d 61 40 ls st h Q = wp V (cdT Ev) mx d 61 41 ls ((.int (1)) :: st) h Q := x_push (v := (.int (1))) (len := 1) rfl
theorem s_61_41 {x : Int32} : wp V (cdT Ev) mx d 61 41 [l0, l1, l2, some (.int x), l4] st h Q = wp V (cdT Ev) mx d 61 42 [l0, l1, l2, some (.int x), l4] (.int x :: st) h Q := x_iload (len := 1) rfl rfl
theorem s_61_42 {x z : Int32} : wp V (cdT Ev) mx d 61 42 ls (.int z :: .int x :: st) h Q = wp V (cdT Ev) mx d 61 43 ls (.int (x <<< (z &&& 31)) :: st) h Q := x_ib (f := fun x z => x <<< (z &&& 31)) rfl
theorem s_61_43 {x : Int32} (hn : nl l3 = true) : wp V (cdT Ev) mx d 61 43 [l0, l1, l2, l3, l4] (.int x :: st) h Q = wp V (cdT Ev) mx d 61 45 [l0, l1, l2, l3, some (.int x)] st h Q := x_istore (len := 2) rfl (Nat.le_of_ble_eq_true rfl) (okp_nl rfl hn) rfl
theorem s_61_45 {a : Nat} : wp V (cdT Ev) mx d 61 45 [l0, some (.ref a), l2, l3, l4] st h Q = wp V (cdT Ev) mx d 61 46 [l0, some (.ref a), l2, l3, l4] (.ref a :: st) h Q := x_aload (len := 1) rfl rfl
theorem s_61_45_n : wp V (cdT Ev) mx d 61 45 [l0, some .null, l2, l3, l4] st h Q = wp V (cdT Ev) mx d 61 46 [l0, some .null, l2, l3, l4] (.null :: st) h Q := x_aloadN (len := 1) rfl rfl
theorem s_61_46 {a : Nat} : wp V (cdT Ev) mx d 61 46 ls (.ref a :: st) h Q = wp V (cdT Ev) mx d 61 47 ls (.ref a :: .ref a :: st) h Q := x_dup rfl rfl
theorem s_61_46_i {x : Int32} : wp V (cdT Ev) mx d 61 46 ls (.int x :: st) h Q = wp V (cdT Ev) mx d 61 47 ls (.int x :: .int x :: st) h Q := x_dup rfl rfl
theorem s_61_47 {a : Nat} : wp V (cdT Ev) mx d 61 47 ls (.ref a :: st) h Q = gf [1, 2, 3, 4, 5, 6, 8] 3 h a (fun v => wp V (cdT Ev) mx d 61 50 ls (v :: st) h Q) := x_getf rfl
theorem s_61_50 {x : Int32} : wp V (cdT Ev) mx d 61 50 [l0, l1, l2, l3, some (.int x)] st h Q = wp V (cdT Ev) mx d 61 52 [l0, l1, l2, l3, some (.int x)] (.int x :: st) h Q := x_iload (len := 2) rfl rfl
theorem s_61_52 : wp V (cdT Ev) mx d 61 52 ls st h Q = wp V (cdT Ev) mx d 61 53 ls ((.int (-1)) :: st) h Q := x_push (v := (.int (-1))) (len := 1) rfl
theorem s_61_53 {x z : Int32} : wp V (cdT Ev) mx d 61 53 ls (.int z :: .int x :: st) h Q = wp V (cdT Ev) mx d 61 54 ls (.int (x ^^^ z) :: st) h Q := x_ib (f := fun x z => x ^^^ z) rfl
theorem s_61_54 {x z : Int32} : wp V (cdT Ev) mx d 61 54 ls (.int z :: .int x :: st) h Q = wp V (cdT Ev) mx d 61 55 ls (.int (x &&& z) :: st) h Q := x_ib (f := fun x z => x &&& z) rfl
theorem s_61_55 {w : Value} {a : Nat} : wp V (cdT Ev) mx d 61 55 ls (w :: .ref a :: st) h Q = pf [1, 2, 3, 4, 5, 6, 8] 3 0 w h a (fun hh => wp V (cdT Ev) mx d 61 58 ls st hh Q) := x_putf rfl
theorem s_61_58 {a : Nat} : wp V (cdT Ev) mx d 61 58 [l0, some (.ref a), l2, l3, l4] st h Q = wp V (cdT Ev) mx d 61 59 [l0, some (.ref a), l2, l3, l4] (.ref a :: st) h Q := x_aload (len := 1) rfl rfl
theorem s_61_58_n : wp V (cdT Ev) mx d 61 58 [l0, some .null, l2, l3, l4] st h Q = wp V (cdT Ev) mx d 61 59 [l0, some .null, l2, l3, l4] (.null :: st) h Q := x_aloadN (len := 1) rfl rfl
theorem s_61_59 {a : Nat} : wp V (cdT Ev) mx d 61 59 ls (.ref a :: st) h Q = gf [1, 2, 3, 4, 5, 6, 8] 4 h a (fun v => wp V (cdT Ev) mx d 61 62 ls (v :: st) h Q) := x_getf rfl
theorem s_61_62 {x : Int32} : wp V (cdT Ev) mx d 61 62 ls (.int x :: st) h Q = (if x = 0 then wp V (cdT Ev) mx d 61 79 ls st h Q else wp V (cdT Ev) mx d 61 65 ls st h Q) := x_if1 (c := fun x => x = 0) rfl
theorem s_61_65 {a : Nat} : wp V (cdT Ev) mx d 61 65 [some (.ref a), l1, l2, l3, l4] st h Q = wp V (cdT Ev) mx d 61 66 [some (.ref a), l1, l2, l3, l4] (.ref a :: st) h Q := x_aload (len := 1) rfl rfl
theorem s_61_65_n : wp V (cdT Ev) mx d 61 65 [some .null, l1, l2, l3, l4] st h Q = wp V (cdT Ev) mx d 61 66 [some .null, l1, l2, l3, l4] (.null :: st) h Q := x_aloadN (len := 1) rfl rfl
theorem s_61_66 {a : Nat} : wp V (cdT Ev) mx d 61 66 ls (.ref a :: st) h Q = wp V (cdT Ev) mx d 61 67 ls (.ref a :: .ref a :: st) h Q := x_dup rfl rfl
theorem s_61_66_i {x : Int32} : wp V (cdT Ev) mx d 61 66 ls (.int x :: st) h Q = wp V (cdT Ev) mx d 61 67 ls (.int x :: .int x :: st) h Q := x_dup rfl rfl
theorem s_61_67 {a : Nat} : wp V (cdT Ev) mx d 61 67 ls (.ref a :: st) h Q = gf [10] 4 h a (fun v => wp V (cdT Ev) mx d 61 70 ls (v :: st) h Q) := x_getf rfl
theorem s_61_70 {x : Int32} : wp V (cdT Ev) mx d 61 70 [l0, l1, l2, l3, some (.int x)] st h Q = wp V (cdT Ev) mx d 61 72 [l0, l1, l2, l3, some (.int x)] (.int x :: st) h Q := x_iload (len := 2) rfl rfl
theorem s_61_72 {x z : Int32} : wp V (cdT Ev) mx d 61 72 ls (.int z :: .int x :: st) h Q = wp V (cdT Ev) mx d 61 73 ls (.int (x ||| z) :: st) h Q := x_ib (f := fun x z => x ||| z) rfl
theorem s_61_73 {w : Value} {a : Nat} : wp V (cdT Ev) mx d 61 73 ls (w :: .ref a :: st) h Q = pf [10] 4 0 w h a (fun hh => wp V (cdT Ev) mx d 61 76 ls st hh Q) := x_putf rfl
theorem s_61_76 : wp V (cdT Ev) mx d 61 76 ls st h Q = wp V (cdT Ev) mx d 61 95 ls st h Q := x_goto rfl
theorem s_61_79 {a : Nat} : wp V (cdT Ev) mx d 61 79 [some (.ref a), l1, l2, l3, l4] st h Q = wp V (cdT Ev) mx d 61 80 [some (.ref a), l1, l2, l3, l4] (.ref a :: st) h Q := x_aload (len := 1) rfl rfl
theorem s_61_79_n : wp V (cdT Ev) mx d 61 79 [some .null, l1, l2, l3, l4] st h Q = wp V (cdT Ev) mx d 61 80 [some .null, l1, l2, l3, l4] (.null :: st) h Q := x_aloadN (len := 1) rfl rfl
theorem s_61_80 {a : Nat} : wp V (cdT Ev) mx d 61 80 ls (.ref a :: st) h Q = wp V (cdT Ev) mx d 61 81 ls (.ref a :: .ref a :: st) h Q := x_dup rfl rfl
theorem s_61_80_i {x : Int32} : wp V (cdT Ev) mx d 61 80 ls (.int x :: st) h Q = wp V (cdT Ev) mx d 61 81 ls (.int x :: .int x :: st) h Q := x_dup rfl rfl
theorem s_61_81 {a : Nat} : wp V (cdT Ev) mx d 61 81 ls (.ref a :: st) h Q = gf [10] 3 h a (fun v => wp V (cdT Ev) mx d 61 84 ls (v :: st) h Q) := x_getf rfl
theorem s_61_84 {x : Int32} : wp V (cdT Ev) mx d 61 84 [l0, l1, l2, l3, some (.int x)] st h Q = wp V (cdT Ev) mx d 61 86 [l0, l1, l2, l3, some (.int x)] (.int x :: st) h Q := x_iload (len := 2) rfl rfl
theorem s_61_86 {x z : Int32} : wp V (cdT Ev) mx d 61 86 ls (.int z :: .int x :: st) h Q = wp V (cdT Ev) mx d 61 87 ls (.int (x ||| z) :: st) h Q := x_ib (f := fun x z => x ||| z) rfl
theorem s_61_87 {w : Value} {a : Nat} : wp V (cdT Ev) mx d 61 87 ls (w :: .ref a :: st) h Q = pf [10] 3 0 w h a (fun hh => wp V (cdT Ev) mx d 61 90 ls st hh Q) := x_putf rfl
theorem s_61_90 {a : Nat} : wp V (cdT Ev) mx d 61 90 [l0, some (.ref a), l2, l3, l4] st h Q = wp V (cdT Ev) mx d 61 91 [l0, some (.ref a), l2, l3, l4] (.ref a :: st) h Q := x_aload (len := 1) rfl rfl
theorem s_61_90_n : wp V (cdT Ev) mx d 61 90 [l0, some .null, l2, l3, l4] st h Q = wp V (cdT Ev) mx d 61 91 [l0, some .null, l2, l3, l4] (.null :: st) h Q := x_aloadN (len := 1) rfl rfl
theorem s_61_91 : wp V (cdT Ev) mx d 61 91 ls st h Q = wp V (cdT Ev) mx d 61 92 ls ((.int (1)) :: st) h Q := x_push (v := (.int (1))) (len := 1) rfl
theorem s_61_92 {w : Value} {a : Nat} : wp V (cdT Ev) mx d 61 92 ls (w :: .ref a :: st) h Q = pf [1, 2, 3, 4, 5, 6, 8] 4 1 w h a (fun hh => wp V (cdT Ev) mx d 61 95 ls st hh Q) := x_putf rfl
theorem s_61_95 : wp V (cdT Ev) mx d 61 95 ls [] h Q = Q none h := x_retv rfl
theorem e_61 {a : Nat} {p0 : Nat} {p1 : Int32} : WP V (cdT Ev) mx (d + 1) 61 [.ref a, .ref p0, .int p1] h Q = wp V (cdT Ev) mx d 61 0 [some (.ref a), some (.ref p0), some (.int p1), none, none] [] h Q := propext (WP_eq (Nat.le_of_ble_eq_true rfl))
theorem s_62_0 {a : Nat} : wp V (cdT Ev) mx d 62 0 [some (.ref a), l1] st h Q = wp V (cdT Ev) mx d 62 1 [some (.ref a), l1] (.ref a :: st) h Q := x_aload (len := 1) rfl rfl
theorem s_62_0_n : wp V (cdT Ev) mx d 62 0 [some .null, l1] st h Q = wp V (cdT Ev) mx d 62 1 [some .null, l1] (.null :: st) h Q := x_aloadN (len := 1) rfl rfl
theorem s_62_1 {a : Nat} : wp V (cdT Ev) mx d 62 1 ls (.ref a :: st) h Q = wp V (cdT Ev) mx d 62 2 ls (.ref a :: .ref a :: st) h Q := x_dup rfl rfl
theorem s_62_1_i {x : Int32} : wp V (cdT Ev) mx d 62 1 ls (.int x :: st) h Q = wp V (cdT Ev) mx d 62 2 ls (.int x :: .int x :: st) h Q := x_dup rfl rfl
theorem s_62_2 {a : Nat} : wp V (cdT Ev) mx d 62 2 ls (.ref a :: st) h Q = gf [10] 4 h a (fun v => wp V (cdT Ev) mx d 62 5 ls (v :: st) h Q) := x_getf rfl
theorem s_62_5 {x : Int32} : wp V (cdT Ev) mx d 62 5 [l0, some (.int x)] st h Q = wp V (cdT Ev) mx d 62 6 [l0, some (.int x)] (.int x :: st) h Q := x_iload (len := 1) rfl rfl
theorem s_62_6 {x z : Int32} : wp V (cdT Ev) mx d 62 6 ls (.int z :: .int x :: st) h Q = wp V (cdT Ev) mx d 62 7 ls (.int (x ||| z) :: st) h Q := x_ib (f := fun x z => x ||| z) rfl
theorem s_62_7 {w : Value} {a : Nat} : wp V (cdT Ev) mx d 62 7 ls (w :: .ref a :: st) h Q = pf [10] 4 0 w h a (fun hh => wp V (cdT Ev) mx d 62 10 ls st hh Q) := x_putf rfl
theorem s_62_10 {a : Nat} : wp V (cdT Ev) mx d 62 10 [some (.ref a), l1] st h Q = wp V (cdT Ev) mx d 62 11 [some (.ref a), l1] (.ref a :: st) h Q := x_aload (len := 1) rfl rfl
theorem s_62_10_n : wp V (cdT Ev) mx d 62 10 [some .null, l1] st h Q = wp V (cdT Ev) mx d 62 11 [some .null, l1] (.null :: st) h Q := x_aloadN (len := 1) rfl rfl
theorem s_62_11 {a : Nat} : wp V (cdT Ev) mx d 62 11 ls (.ref a :: st) h Q = wp V (cdT Ev) mx d 62 12 ls (.ref a :: .ref a :: st) h Q := x_dup rfl rfl
theorem s_62_11_i {x : Int32} : wp V (cdT Ev) mx d 62 11 ls (.int x :: st) h Q = wp V (cdT Ev) mx d 62 12 ls (.int x :: .int x :: st) h Q := x_dup rfl rfl
theorem s_62_12 {a : Nat} : wp V (cdT Ev) mx d 62 12 ls (.ref a :: st) h Q = gf [10] 3 h a (fun v => wp V (cdT Ev) mx d 62 15 ls (v :: st) h Q) := x_getf rfl
theorem s_62_15 {x : Int32} : wp V (cdT Ev) mx d 62 15 [l0, some (.int x)] st h Q = wp V (cdT Ev) mx d 62 16 [l0, some (.int x)] (.int x :: st) h Q := x_iload (len := 1) rfl rfl
theorem s_62_16 : wp V (cdT Ev) mx d 62 16 ls st h Q = wp V (cdT Ev) mx d 62 17 ls ((.int (-1)) :: st) h Q := x_push (v := (.int (-1))) (len := 1) rfl
theorem s_62_17 {x z : Int32} : wp V (cdT Ev) mx d 62 17 ls (.int z :: .int x :: st) h Q = wp V (cdT Ev) mx d 62 18 ls (.int (x ^^^ z) :: st) h Q := x_ib (f := fun x z => x ^^^ z) rfl
theorem s_62_18 {x z : Int32} : wp V (cdT Ev) mx d 62 18 ls (.int z :: .int x :: st) h Q = wp V (cdT Ev) mx d 62 19 ls (.int (x &&& z) :: st) h Q := x_ib (f := fun x z => x &&& z) rfl
theorem s_62_19 {w : Value} {a : Nat} : wp V (cdT Ev) mx d 62 19 ls (w :: .ref a :: st) h Q = pf [10] 3 0 w h a (fun hh => wp V (cdT Ev) mx d 62 22 ls st hh Q) := x_putf rfl
theorem s_62_22 : wp V (cdT Ev) mx d 62 22 ls [] h Q = Q none h := x_retv rfl
theorem e_62 {a : Nat} {p0 : Int32} : WP V (cdT Ev) mx (d + 1) 62 [.ref a, .int p0] h Q = wp V (cdT Ev) mx d 62 0 [some (.ref a), some (.int p0)] [] h Q := propext (WP_eq (Nat.le_of_ble_eq_true rfl))
theorem s_63_0 : wp V (cdT Ev) mx d 63 0 ls st h Q = wp V (cdT Ev) mx d 63 2 ls ((.int (-2)) :: st) h Q := x_push (v := (.int (-2))) (len := 2) rfl
theorem s_63_2 {x : Int32} (hn : nl l1 = true) : wp V (cdT Ev) mx d 63 2 [l0, l1, l2, l3] (.int x :: st) h Q = wp V (cdT Ev) mx d 63 3 [l0, l1, some (.int x), l3] st h Q := x_istore (len := 1) rfl (Nat.le_of_ble_eq_true rfl) (okp_nl rfl hn) rfl
theorem s_63_3 : wp V (cdT Ev) mx d 63 3 ls st h Q = wp V (cdT Ev) mx d 63 4 ls ((.int (0)) :: st) h Q := x_push (v := (.int (0))) (len := 1) rfl
theorem s_63_4 {x : Int32} (hn : nl l2 = true) : wp V (cdT Ev) mx d 63 4 [l0, l1, l2, l3] (.int x :: st) h Q = wp V (cdT Ev) mx d 63 5 [l0, l1, l2, some (.int x)] st h Q := x_istore (len := 1) rfl (Nat.le_of_ble_eq_true rfl) (okp_nl rfl hn) rfl
theorem s_63_5 {x : Int32} : wp V (cdT Ev) mx d 63 5 [l0, l1, l2, some (.int x)] st h Q = wp V (cdT Ev) mx d 63 6 [l0, l1, l2, some (.int x)] (.int x :: st) h Q := x_iload (len := 1) rfl rfl
theorem s_63_6 {a : Nat} : wp V (cdT Ev) mx d 63 6 [some (.ref a), l1, l2, l3] st h Q = wp V (cdT Ev) mx d 63 7 [some (.ref a), l1, l2, l3] (.ref a :: st) h Q := x_aload (len := 1) rfl rfl
theorem s_63_6_n : wp V (cdT Ev) mx d 63 6 [some .null, l1, l2, l3] st h Q = wp V (cdT Ev) mx d 63 7 [some .null, l1, l2, l3] (.null :: st) h Q := x_aloadN (len := 1) rfl rfl
theorem s_63_7 {a : Nat} : wp V (cdT Ev) mx d 63 7 ls (.ref a :: st) h Q = gf [10] 6 h a (fun v => wp V (cdT Ev) mx d 63 10 ls (v :: st) h Q) := x_getf rfl
theorem s_63_10 {a : Nat} : wp V (cdT Ev) mx d 63 10 ls (.ref a :: st) h Q = gf [7] 2 h a (fun v => wp V (cdT Ev) mx d 63 13 ls (v :: st) h Q) := x_getf rfl
theorem s_63_13 {x z : Int32} : wp V (cdT Ev) mx d 63 13 ls (.int z :: .int x :: st) h Q = (if z ≤ x then wp V (cdT Ev) mx d 63 67 ls st h Q else wp V (cdT Ev) mx d 63 16 ls st h Q) := x_if2 (c := fun x z => z ≤ x) rfl
theorem s_63_16 {a : Nat} : wp V (cdT Ev) mx d 63 16 [some (.ref a), l1, l2, l3] st h Q = wp V (cdT Ev) mx d 63 17 [some (.ref a), l1, l2, l3] (.ref a :: st) h Q := x_aload (len := 1) rfl rfl
theorem s_63_16_n : wp V (cdT Ev) mx d 63 16 [some .null, l1, l2, l3] st h Q = wp V (cdT Ev) mx d 63 17 [some .null, l1, l2, l3] (.null :: st) h Q := x_aloadN (len := 1) rfl rfl
theorem s_63_17 {a : Nat} : wp V (cdT Ev) mx d 63 17 ls (.ref a :: st) h Q = gf [10] 6 h a (fun v => wp V (cdT Ev) mx d 63 20 ls (v :: st) h Q) := x_getf rfl
theorem s_63_20 {a : Nat} : wp V (cdT Ev) mx d 63 20 ls (.ref a :: st) h Q = gf [7] 0 h a (fun v => wp V (cdT Ev) mx d 63 23 ls (v :: st) h Q) := x_getf rfl
theorem s_63_23 {x : Int32} : wp V (cdT Ev) mx d 63 23 [l0, l1, l2, some (.int x)] st h Q = wp V (cdT Ev) mx d 63 24 [l0, l1, l2, some (.int x)] (.int x :: st) h Q := x_iload (len := 1) rfl rfl
theorem s_63_24 {i : Int32} {a : Nat} : wp V (cdT Ev) mx d 63 24 ls (.int i :: .ref a :: st) h Q = ai 2 i V h a (fun x => wp V (cdT Ev) mx d 63 25 ls (.int x :: st) h Q) := x_iald rfl
theorem s_63_25 {x : Int32} : wp V (cdT Ev) mx d 63 25 [l0, some (.int x), l2, l3] st h Q = wp V (cdT Ev) mx d 63 26 [l0, some (.int x), l2, l3] (.int x :: st) h Q := x_iload (len := 1) rfl rfl
theorem s_63_26 {x z : Int32} : wp V (cdT Ev) mx d 63 26 ls (.int z :: .int x :: st) h Q = (if ¬ x = z then wp V (cdT Ev) mx d 63 61 ls st h Q else wp V (cdT Ev) mx d 63 29 ls st h Q) := x_if2 (c := fun x z => ¬ x = z) rfl
theorem s_63_29 {x : Int32} : wp V (cdT Ev) mx d 63 29 [l0, l1, some (.int x), l3] st h Q = wp V (cdT Ev) mx d 63 30 [l0, l1, some (.int x), l3] (.int x :: st) h Q := x_iload (len := 1) rfl rfl
theorem s_63_30 : wp V (cdT Ev) mx d 63 30 ls st h Q = wp V (cdT Ev) mx d 63 32 ls ((.int (-2)) :: st) h Q := x_push (v := (.int (-2))) (len := 2) rfl
theorem s_63_32 {x z : Int32} : wp V (cdT Ev) mx d 63 32 ls (.int z :: .int x :: st) h Q = (if x = z then wp V (cdT Ev) mx d 63 51 ls st h Q else wp V (cdT Ev) mx d 63 35 ls st h Q) := x_if2 (c := fun x z => x = z) rfl
theorem s_63_35 {x : Int32} : wp V (cdT Ev) mx d 63 35 [l0, l1, some (.int x), l3] st h Q = wp V (cdT Ev) mx d 63 36 [l0, l1, some (.int x), l3] (.int x :: st) h Q := x_iload (len := 1) rfl rfl
theorem s_63_36 {a : Nat} : wp V (cdT Ev) mx d 63 36 [some (.ref a), l1, l2, l3] st h Q = wp V (cdT Ev) mx d 63 37 [some (.ref a), l1, l2, l3] (.ref a :: st) h Q := x_aload (len := 1) rfl rfl
theorem s_63_36_n : wp V (cdT Ev) mx d 63 36 [some .null, l1, l2, l3] st h Q = wp V (cdT Ev) mx d 63 37 [some .null, l1, l2, l3] (.null :: st) h Q := x_aloadN (len := 1) rfl rfl
theorem s_63_37 {a : Nat} : wp V (cdT Ev) mx d 63 37 ls (.ref a :: st) h Q = gf [10] 6 h a (fun v => wp V (cdT Ev) mx d 63 40 ls (v :: st) h Q) := x_getf rfl
theorem s_63_40 {a : Nat} : wp V (cdT Ev) mx d 63 40 ls (.ref a :: st) h Q = gf [7] 1 h a (fun v => wp V (cdT Ev) mx d 63 43 ls (v :: st) h Q) := x_getf rfl
theorem s_63_43 {x : Int32} : wp V (cdT Ev) mx d 63 43 [l0, l1, l2, some (.int x)] st h Q = wp V (cdT Ev) mx d 63 44 [l0, l1, l2, some (.int x)] (.int x :: st) h Q := x_iload (len := 1) rfl rfl
theorem s_63_44 {i : Int32} {a : Nat} : wp V (cdT Ev) mx d 63 44 ls (.int i :: .ref a :: st) h Q = ai 2 i V h a (fun x => wp V (cdT Ev) mx d 63 45 ls (.int x :: st) h Q) := x_iald rfl
theorem s_63_45 {x z : Int32} : wp V (cdT Ev) mx d 63 45 ls (.int z :: .int x :: st) h Q = (if x = z then wp V (cdT Ev) mx d 63 51 ls st h Q else wp V (cdT Ev) mx d 63 48 ls st h Q) := x_if2 (c := fun x z => x = z) rfl
theorem s_63_48 : wp V (cdT Ev) mx d 63 48 ls st h Q = wp V (cdT Ev) mx d 63 50 ls ((.int (-3)) :: st) h Q := x_push (v := (.int (-3))) (len := 2) rfl
theorem s_63_50 {x : Int32} : wp V (cdT Ev) mx d 63 50 ls [.int x] h Q = Q (some (.int x)) h := x_ret rfl rfl
theorem s_63_51 {a : Nat} : wp V (cdT Ev) mx d 63 51 [some (.ref a), l1, l2, l3] st h Q = wp V (cdT Ev) mx d 63 52 [some (.ref a), l1, l2, l3] (.ref a :: st) h Q := x_aload (len := 1) rfl rfl
theorem s_63_51_n : wp V (cdT Ev) mx d 63 51 [some .null, l1, l2, l3] st h Q = wp V (cdT Ev) mx d 63 52 [some .null, l1, l2, l3] (.null :: st) h Q := x_aloadN (len := 1) rfl rfl
theorem s_63_52 {a : Nat} : wp V (cdT Ev) mx d 63 52 ls (.ref a :: st) h Q = gf [10] 6 h a (fun v => wp V (cdT Ev) mx d 63 55 ls (v :: st) h Q) := x_getf rfl
theorem s_63_55 {a : Nat} : wp V (cdT Ev) mx d 63 55 ls (.ref a :: st) h Q = gf [7] 1 h a (fun v => wp V (cdT Ev) mx d 63 58 ls (v :: st) h Q) := x_getf rfl
theorem s_63_58 {x : Int32} : wp V (cdT Ev) mx d 63 58 [l0, l1, l2, some (.int x)] st h Q = wp V (cdT Ev) mx d 63 59 [l0, l1, l2, some (.int x)] (.int x :: st) h Q := x_iload (len := 1) rfl rfl
theorem s_63_59 {i : Int32} {a : Nat} : wp V (cdT Ev) mx d 63 59 ls (.int i :: .ref a :: st) h Q = ai 2 i V h a (fun x => wp V (cdT Ev) mx d 63 60 ls (.int x :: st) h Q) := x_iald rfl
theorem s_63_60 {x : Int32} (hn : nl l1 = true) : wp V (cdT Ev) mx d 63 60 [l0, l1, l2, l3] (.int x :: st) h Q = wp V (cdT Ev) mx d 63 61 [l0, l1, some (.int x), l3] st h Q := x_istore (len := 1) rfl (Nat.le_of_ble_eq_true rfl) (okp_nl rfl hn) rfl
theorem s_63_61 {x : Int32} : wp V (cdT Ev) mx d 63 61 [l0, l1, l2, some (.int x)] st h Q = wp V (cdT Ev) mx d 63 64 [l0, l1, l2, some (.int (x + (1)))] st h Q := x_iinc rfl rfl rfl
theorem s_63_64 : wp V (cdT Ev) mx d 63 64 ls st h Q = wp V (cdT Ev) mx d 63 5 ls st h Q := x_goto rfl
theorem s_63_67 {x : Int32} : wp V (cdT Ev) mx d 63 67 [l0, l1, some (.int x), l3] st h Q = wp V (cdT Ev) mx d 63 68 [l0, l1, some (.int x), l3] (.int x :: st) h Q := x_iload (len := 1) rfl rfl
theorem s_63_68 {x : Int32} : wp V (cdT Ev) mx d 63 68 ls [.int x] h Q = Q (some (.int x)) h := x_ret rfl rfl
theorem e_63 {a : Nat} {p0 : Int32} : WP V (cdT Ev) mx (d + 1) 63 [.ref a, .int p0] h Q = wp V (cdT Ev) mx d 63 0 [some (.ref a), some (.int p0), none, none] [] h Q := propext (WP_eq (Nat.le_of_ble_eq_true rfl))
theorem s_64_0 : wp V (cdT Ev) mx d 64 0 ls st h Q = wp V (cdT Ev) mx d 64 1 ls ((.int (0)) :: st) h Q := x_push (v := (.int (0))) (len := 1) rfl
theorem s_64_1 {x : Int32} (hn : nl l0 = true) : wp V (cdT Ev) mx d 64 1 [l0, l1, l2] (.int x :: st) h Q = wp V (cdT Ev) mx d 64 2 [l0, some (.int x), l2] st h Q := x_istore (len := 1) rfl (Nat.le_of_ble_eq_true rfl) (okp_nl rfl hn) rfl
theorem s_64_2 {x : Int32} : wp V (cdT Ev) mx d 64 2 [l0, some (.int x), l2] st h Q = wp V (cdT Ev) mx d 64 3 [l0, some (.int x), l2] (.int x :: st) h Q := x_iload (len := 1) rfl rfl
theorem s_64_3 {a : Nat} : wp V (cdT Ev) mx d 64 3 [some (.ref a), l1, l2] st h Q = wp V (cdT Ev) mx d 64 4 [some (.ref a), l1, l2] (.ref a :: st) h Q := x_aload (len := 1) rfl rfl
theorem s_64_3_n : wp V (cdT Ev) mx d 64 3 [some .null, l1, l2] st h Q = wp V (cdT Ev) mx d 64 4 [some .null, l1, l2] (.null :: st) h Q := x_aloadN (len := 1) rfl rfl
theorem s_64_4 {a : Nat} : wp V (cdT Ev) mx d 64 4 ls (.ref a :: st) h Q = gf [10] 6 h a (fun v => wp V (cdT Ev) mx d 64 7 ls (v :: st) h Q) := x_getf rfl
theorem s_64_7 {a : Nat} : wp V (cdT Ev) mx d 64 7 ls (.ref a :: st) h Q = gf [7] 2 h a (fun v => wp V (cdT Ev) mx d 64 10 ls (v :: st) h Q) := x_getf rfl
theorem s_64_10 {x z : Int32} : wp V (cdT Ev) mx d 64 10 ls (.int z :: .int x :: st) h Q = (if z ≤ x then wp V (cdT Ev) mx d 64 60 ls st h Q else wp V (cdT Ev) mx d 64 13 ls st h Q) := x_if2 (c := fun x z => z ≤ x) rfl
theorem s_64_13 {a : Nat} : wp V (cdT Ev) mx d 64 13 [some (.ref a), l1, l2] st h Q = wp V (cdT Ev) mx d 64 14 [some (.ref a), l1, l2] (.ref a :: st) h Q := x_aload (len := 1) rfl rfl
theorem s_64_13_n : wp V (cdT Ev) mx d 64 13 [some .null, l1, l2] st h Q = wp V (cdT Ev) mx d 64 14 [some .null, l1, l2] (.null :: st) h Q := x_aloadN (len := 1) rfl rfl
theorem s_64_14 {a : Nat} : wp V (cdT Ev) mx d 64 14 [some (.ref a), l1, l2] st h Q = wp V (cdT Ev) mx d 64 15 [some (.ref a), l1, l2] (.ref a :: st) h Q := x_aload (len := 1) rfl rfl
theorem s_64_14_n : wp V (cdT Ev) mx d 64 14 [some .null, l1, l2] st h Q = wp V (cdT Ev) mx d 64 15 [some .null, l1, l2] (.null :: st) h Q := x_aloadN (len := 1) rfl rfl
theorem s_64_15 {a : Nat} : wp V (cdT Ev) mx d 64 15 ls (.ref a :: st) h Q = gf [10] 6 h a (fun v => wp V (cdT Ev) mx d 64 18 ls (v :: st) h Q) := x_getf rfl
theorem s_64_18 {a : Nat} : wp V (cdT Ev) mx d 64 18 ls (.ref a :: st) h Q = gf [7] 0 h a (fun v => wp V (cdT Ev) mx d 64 21 ls (v :: st) h Q) := x_getf rfl
theorem s_64_21 {x : Int32} : wp V (cdT Ev) mx d 64 21 [l0, some (.int x), l2] st h Q = wp V (cdT Ev) mx d 64 22 [l0, some (.int x), l2] (.int x :: st) h Q := x_iload (len := 1) rfl rfl
theorem s_64_22 {i : Int32} {a : Nat} : wp V (cdT Ev) mx d 64 22 ls (.int i :: .ref a :: st) h Q = ai 2 i V h a (fun x => wp V (cdT Ev) mx d 64 23 ls (.int x :: st) h Q) := x_iald rfl
theorem s_64_23 {b : Nat} {v0 : Value} (hst : st.length ≤ 4) : wp V (cdT Ev) mx d 64 23 ls (v0 :: .ref b :: st) h Q = cv [(10, 51)] h b (fun y' => WP V (cdT Ev) mx d y' [.ref b, v0] h (fun r h' => wp V (cdT Ev) mx d 64 26 ls (rts r st) h' Q)) := x_cv (sg := [v0]) rfl hst rfl rfl
theorem s_64_26 {a : Nat} (hn : nl l1 = true) : wp V (cdT Ev) mx d 64 26 [l0, l1, l2] (.ref a :: st) h Q = wp V (cdT Ev) mx d 64 27 [l0, l1, some (.ref a)] st h Q := x_astore (len := 1) rfl (Nat.le_of_ble_eq_true rfl) (okp_nl rfl hn) rfl
theorem s_64_26_n (hn : nl l1 = true) : wp V (cdT Ev) mx d 64 26 [l0, l1, l2] (.null :: st) h Q = wp V (cdT Ev) mx d 64 27 [l0, l1, some .null] st h Q := x_astoreN (len := 1) rfl (Nat.le_of_ble_eq_true rfl) (okp_nl rfl hn) rfl
theorem s_64_27 {a : Nat} : wp V (cdT Ev) mx d 64 27 [l0, l1, some (.ref a)] st h Q = wp V (cdT Ev) mx d 64 28 [l0, l1, some (.ref a)] (.ref a :: st) h Q := x_aload (len := 1) rfl rfl
theorem s_64_27_n : wp V (cdT Ev) mx d 64 27 [l0, l1, some .null] st h Q = wp V (cdT Ev) mx d 64 28 [l0, l1, some .null] (.null :: st) h Q := x_aloadN (len := 1) rfl rfl
theorem s_64_28 {a : Nat} : wp V (cdT Ev) mx d 64 28 ls (.ref a :: st) h Q = wp V (cdT Ev) mx d 64 31 ls st h Q := x_ifnull rfl
theorem s_64_28_n : wp V (cdT Ev) mx d 64 28 ls (.null :: st) h Q = wp V (cdT Ev) mx d 64 52 ls st h Q := x_ifnullN rfl
theorem s_64_31 {a : Nat} : wp V (cdT Ev) mx d 64 31 [some (.ref a), l1, l2] st h Q = wp V (cdT Ev) mx d 64 32 [some (.ref a), l1, l2] (.ref a :: st) h Q := x_aload (len := 1) rfl rfl
theorem s_64_31_n : wp V (cdT Ev) mx d 64 31 [some .null, l1, l2] st h Q = wp V (cdT Ev) mx d 64 32 [some .null, l1, l2] (.null :: st) h Q := x_aloadN (len := 1) rfl rfl
theorem s_64_32 {a : Nat} : wp V (cdT Ev) mx d 64 32 [l0, l1, some (.ref a)] st h Q = wp V (cdT Ev) mx d 64 33 [l0, l1, some (.ref a)] (.ref a :: st) h Q := x_aload (len := 1) rfl rfl
theorem s_64_32_n : wp V (cdT Ev) mx d 64 32 [l0, l1, some .null] st h Q = wp V (cdT Ev) mx d 64 33 [l0, l1, some .null] (.null :: st) h Q := x_aloadN (len := 1) rfl rfl
theorem s_64_33 {a : Nat} : wp V (cdT Ev) mx d 64 33 [l0, l1, some (.ref a)] st h Q = wp V (cdT Ev) mx d 64 34 [l0, l1, some (.ref a)] (.ref a :: st) h Q := x_aload (len := 1) rfl rfl
theorem s_64_33_n : wp V (cdT Ev) mx d 64 33 [l0, l1, some .null] st h Q = wp V (cdT Ev) mx d 64 34 [l0, l1, some .null] (.null :: st) h Q := x_aloadN (len := 1) rfl rfl
theorem s_64_34 {a : Nat} : wp V (cdT Ev) mx d 64 34 ls (.ref a :: st) h Q = gf [1, 2, 3, 4, 5, 6, 8] 3 h a (fun v => wp V (cdT Ev) mx d 64 37 ls (v :: st) h Q) := x_getf rfl
theorem s_64_37 {b : Nat} {v0 v1 : Value} (hst : st.length ≤ 4) : wp V (cdT Ev) mx d 64 37 ls (v1 :: v0 :: .ref b :: st) h Q = cv [(10, 58)] h b (fun y' => WP V (cdT Ev) mx d y' [.ref b, v0, v1] h (fun r h' => wp V (cdT Ev) mx d 64 40 ls (rts r st) h' Q)) := x_cv (sg := [v1, v0]) rfl hst rfl rfl
theorem s_64_40 {a : Nat} : wp V (cdT Ev) mx d 64 40 [some (.ref a), l1, l2] st h Q = wp V (cdT Ev) mx d 64 41 [some (.ref a), l1, l2] (.ref a :: st) h Q := x_aload (len := 1) rfl rfl
theorem s_64_40_n : wp V (cdT Ev) mx d 64 40 [some .null, l1, l2] st h Q = wp V (cdT Ev) mx d 64 41 [some .null, l1, l2] (.null :: st) h Q := x_aloadN (len := 1) rfl rfl
theorem s_64_41 {a : Nat} : wp V (cdT Ev) mx d 64 41 ls (.ref a :: st) h Q = gf [10] 6 h a (fun v => wp V (cdT Ev) mx d 64 44 ls (v :: st) h Q) := x_getf rfl
theorem s_64_44 {a : Nat} : wp V (cdT Ev) mx d 64 44 ls (.ref a :: st) h Q = gf [7] 1 h a (fun v => wp V (cdT Ev) mx d 64 47 ls (v :: st) h Q) := x_getf rfl
theorem s_64_47 {x : Int32} : wp V (cdT Ev) mx d 64 47 [l0, some (.int x), l2] st h Q = wp V (cdT Ev) mx d 64 48 [l0, some (.int x), l2] (.int x :: st) h Q := x_iload (len := 1) rfl rfl
theorem s_64_48 {i : Int32} {a : Nat} : wp V (cdT Ev) mx d 64 48 ls (.int i :: .ref a :: st) h Q = ai 2 i V h a (fun x => wp V (cdT Ev) mx d 64 49 ls (.int x :: st) h Q) := x_iald rfl
theorem s_64_49 {x z : Int32} : wp V (cdT Ev) mx d 64 49 ls (.int z :: .int x :: st) h Q = (if x = z then wp V (cdT Ev) mx d 64 54 ls st h Q else wp V (cdT Ev) mx d 64 52 ls st h Q) := x_if2 (c := fun x z => x = z) rfl
theorem s_64_52 : wp V (cdT Ev) mx d 64 52 ls st h Q = wp V (cdT Ev) mx d 64 53 ls ((.int (0)) :: st) h Q := x_push (v := (.int (0))) (len := 1) rfl
theorem s_64_53 {x : Int32} (hx : okr 1 (.int x) = true) : wp V (cdT Ev) mx d 64 53 ls [.int x] h Q = Q (some (.int x)) h := x_ret rfl hx
theorem s_64_54 {x : Int32} : wp V (cdT Ev) mx d 64 54 [l0, some (.int x), l2] st h Q = wp V (cdT Ev) mx d 64 57 [l0, some (.int (x + (1))), l2] st h Q := x_iinc rfl rfl rfl
theorem s_64_57 : wp V (cdT Ev) mx d 64 57 ls st h Q = wp V (cdT Ev) mx d 64 2 ls st h Q := x_goto rfl
theorem s_64_60 : wp V (cdT Ev) mx d 64 60 ls st h Q = wp V (cdT Ev) mx d 64 61 ls ((.int (1)) :: st) h Q := x_push (v := (.int (1))) (len := 1) rfl
theorem s_64_61 {x : Int32} (hx : okr 1 (.int x) = true) : wp V (cdT Ev) mx d 64 61 ls [.int x] h Q = Q (some (.int x)) h := x_ret rfl hx
theorem e_64 {a : Nat} : WP V (cdT Ev) mx (d + 1) 64 [.ref a] h Q = wp V (cdT Ev) mx d 64 0 [some (.ref a), none, none] [] h Q := propext (WP_eq (Nat.le_of_ble_eq_true rfl))
theorem s_65_0 : wp V (cdT Ev) mx d 65 0 ls st h Q = wp V (cdT Ev) mx d 65 1 ls ((.int (0)) :: st) h Q := x_push (v := (.int (0))) (len := 1) rfl
theorem s_65_1 {x : Int32} (hn : nl l2 = true) : wp V (cdT Ev) mx d 65 1 [l0, l1, l2, l3, l4] (.int x :: st) h Q = wp V (cdT Ev) mx d 65 2 [l0, l1, l2, some (.int x), l4] st h Q := x_istore (len := 1) rfl (Nat.le_of_ble_eq_true rfl) (okp_nl rfl hn) rfl
theorem s_65_2 : wp V (cdT Ev) mx d 65 2 ls st h Q = wp V (cdT Ev) mx d 65 3 ls ((.int (1)) :: st) h Q := x_push (v := (.int (1))) (len := 1) rfl
theorem s_65_3 {x : Int32} (hn : nl l3 = true) : wp V (cdT Ev) mx d 65 3 [l0, l1, l2, l3, l4] (.int x :: st) h Q = wp V (cdT Ev) mx d 65 5 [l0, l1, l2, l3, some (.int x)] st h Q := x_istore (len := 2) rfl (Nat.le_of_ble_eq_true rfl) (okp_nl rfl hn) rfl
theorem s_65_5 {x : Int32} : wp V (cdT Ev) mx d 65 5 [l0, l1, l2, l3, some (.int x)] st h Q = wp V (cdT Ev) mx d 65 7 [l0, l1, l2, l3, some (.int x)] (.int x :: st) h Q := x_iload (len := 2) rfl rfl
theorem s_65_7 : wp V (cdT Ev) mx d 65 7 ls st h Q = wp V (cdT Ev) mx d 65 9 ls ((.int (12)) :: st) h Q := x_push (v := (.int (12))) (len := 2) rfl
theorem s_65_9 {x z : Int32} : wp V (cdT Ev) mx d 65 9 ls (.int z :: .int x :: st) h Q = (if z < x then wp V (cdT Ev) mx d 65 36 ls st h Q else wp V (cdT Ev) mx d 65 12 ls st h Q) := x_if2 (c := fun x z => z < x) rfl
theorem s_65_12 {x : Int32} : wp V (cdT Ev) mx d 65 12 [l0, l1, l2, some (.int x), l4] st h Q = wp V (cdT Ev) mx d 65 13 [l0, l1, l2, some (.int x), l4] (.int x :: st) h Q := x_iload (len := 1) rfl rfl
theorem s_65_13 {a : Nat} : wp V (cdT Ev) mx d 65 13 [some (.ref a), l1, l2, l3, l4] st h Q = wp V (cdT Ev) mx d 65 14 [some (.ref a), l1, l2, l3, l4] (.ref a :: st) h Q := x_aload (len := 1) rfl rfl
theorem s_65_13_n : wp V (cdT Ev) mx d 65 13 [some .null, l1, l2, l3, l4] st h Q = wp V (cdT Ev) mx d 65 14 [some .null, l1, l2, l3, l4] (.null :: st) h Q := x_aloadN (len := 1) rfl rfl
theorem s_65_14 {a : Nat} : wp V (cdT Ev) mx d 65 14 [l0, some (.ref a), l2, l3, l4] st h Q = wp V (cdT Ev) mx d 65 15 [l0, some (.ref a), l2, l3, l4] (.ref a :: st) h Q := x_aload (len := 1) rfl rfl
theorem s_65_14_n : wp V (cdT Ev) mx d 65 14 [l0, some .null, l2, l3, l4] st h Q = wp V (cdT Ev) mx d 65 15 [l0, some .null, l2, l3, l4] (.null :: st) h Q := x_aloadN (len := 1) rfl rfl
theorem s_65_15 {x : Int32} : wp V (cdT Ev) mx d 65 15 [l0, l1, some (.int x), l3, l4] st h Q = wp V (cdT Ev) mx d 65 16 [l0, l1, some (.int x), l3, l4] (.int x :: st) h Q := x_iload (len := 1) rfl rfl
theorem s_65_16 {x : Int32} : wp V (cdT Ev) mx d 65 16 [l0, l1, l2, l3, some (.int x)] st h Q = wp V (cdT Ev) mx d 65 18 [l0, l1, l2, l3, some (.int x)] (.int x :: st) h Q := x_iload (len := 2) rfl rfl
theorem s_65_18 {b : Nat} {v0 v1 v2 : Value} (hst : st.length ≤ 4) : wp V (cdT Ev) mx d 65 18 ls (v2 :: v1 :: v0 :: .ref b :: st) h Q = cv [(10, 67)] h b (fun y' => WP V (cdT Ev) mx d y' [.ref b, v0, v1, v2] h (fun r h' => wp V (cdT Ev) mx d 65 21 ls (rts r st) h' Q)) := x_cv (sg := [v2, v1, v0]) rfl hst rfl rfl
theorem s_65_21 {x : Int32} : wp V (cdT Ev) mx d 65 21 [l0, l1, l2, l3, some (.int x)] st h Q = wp V (cdT Ev) mx d 65 23 [l0, l1, l2, l3, some (.int x)] (.int x :: st) h Q := x_iload (len := 2) rfl rfl
theorem s_65_23 : wp V (cdT Ev) mx d 65 23 ls st h Q = wp V (cdT Ev) mx d 65 24 ls ((.int (1)) :: st) h Q := x_push (v := (.int (1))) (len := 1) rfl
theorem s_65_24 {x z : Int32} : wp V (cdT Ev) mx d 65 24 ls (.int z :: .int x :: st) h Q = wp V (cdT Ev) mx d 65 25 ls (.int (x - z) :: st) h Q := x_ib (f := fun x z => x - z) rfl
theorem s_65_25 {v0 v1 : Value} (hst : st.length ≤ 4) : wp V (cdT Ev) mx d 65 25 ls (v1 :: v0 :: st) h Q = WP V (cdT Ev) mx d 111 [v0, v1] h (fun r h' => wp V (cdT Ev) mx d 65 28 ls (rts r st) h' Q) := x_cs (sg := [v1, v0]) rfl hst rfl rfl
theorem s_65_28 {x z : Int32} : wp V (cdT Ev) mx d 65 28 ls (.int z :: .int x :: st) h Q = wp V (cdT Ev) mx d 65 29 ls (.int (x + z) :: st) h Q := x_ib (f := fun x z => x + z) rfl
theorem s_65_29 {x : Int32} (hn : nl l2 = true) : wp V (cdT Ev) mx d 65 29 [l0, l1, l2, l3, l4] (.int x :: st) h Q = wp V (cdT Ev) mx d 65 30 [l0, l1, l2, some (.int x), l4] st h Q := x_istore (len := 1) rfl (Nat.le_of_ble_eq_true rfl) (okp_nl rfl hn) rfl
theorem s_65_30 {x : Int32} : wp V (cdT Ev) mx d 65 30 [l0, l1, l2, l3, some (.int x)] st h Q = wp V (cdT Ev) mx d 65 33 [l0, l1, l2, l3, some (.int (x + (1)))] st h Q := x_iinc rfl rfl rfl
theorem s_65_33 : wp V (cdT Ev) mx d 65 33 ls st h Q = wp V (cdT Ev) mx d 65 5 ls st h Q := x_goto rfl
theorem s_65_36 {x : Int32} : wp V (cdT Ev) mx d 65 36 [l0, l1, l2, some (.int x), l4] st h Q = wp V (cdT Ev) mx d 65 37 [l0, l1, l2, some (.int x), l4] (.int x :: st) h Q := x_iload (len := 1) rfl rfl
theorem s_65_37 {x : Int32} : wp V (cdT Ev) mx d 65 37 ls [.int x] h Q = Q (some (.int x)) h := x_ret rfl rfl
theorem e_65 {a : Nat} {p0 : Nat} {p1 : Int32} : WP V (cdT Ev) mx (d + 1) 65 [.ref a, .ref p0, .int p1] h Q = wp V (cdT Ev) mx d 65 0 [some (.ref a), some (.ref p0), some (.int p1), none, none] [] h Q := propext (WP_eq (Nat.le_of_ble_eq_true rfl))
theorem s_66_0 : wp V (cdT Ev) mx d 66 0 ls st h Q = wp V (cdT Ev) mx d 66 1 ls ((.int (0)) :: st) h Q := x_push (v := (.int (0))) (len := 1) rfl
theorem s_66_1 {x : Int32} (hn : nl l1 = true) : wp V (cdT Ev) mx d 66 1 [l0, l1, l2, l3, l4, l5] (.int x :: st) h Q = wp V (cdT Ev) mx d 66 2 [l0, l1, some (.int x), l3, l4, l5] st h Q := x_istore (len := 1) rfl (Nat.le_of_ble_eq_true rfl) (okp_nl rfl hn) rfl
theorem s_66_2 : wp V (cdT Ev) mx d 66 2 ls st h Q = wp V (cdT Ev) mx d 66 3 ls ((.int (0)) :: st) h Q := x_push (v := (.int (0))) (len := 1) rfl
theorem s_66_3 {x : Int32} (hn : nl l2 = true) : wp V (cdT Ev) mx d 66 3 [l0, l1, l2, l3, l4, l5] (.int x :: st) h Q = wp V (cdT Ev) mx d 66 4 [l0, l1, l2, some (.int x), l4, l5] st h Q := x_istore (len := 1) rfl (Nat.le_of_ble_eq_true rfl) (okp_nl rfl hn) rfl
theorem s_66_4 {x : Int32} : wp V (cdT Ev) mx d 66 4 [l0, l1, l2, some (.int x), l4, l5] st h Q = wp V (cdT Ev) mx d 66 5 [l0, l1, l2, some (.int x), l4, l5] (.int x :: st) h Q := x_iload (len := 1) rfl rfl
theorem s_66_5 : wp V (cdT Ev) mx d 66 5 ls st h Q = wp V (cdT Ev) mx d 66 7 ls ((.int (12)) :: st) h Q := x_push (v := (.int (12))) (len := 2) rfl
theorem s_66_7 {x z : Int32} : wp V (cdT Ev) mx d 66 7 ls (.int z :: .int x :: st) h Q = (if z < x then wp V (cdT Ev) mx d 66 58 ls st h Q else wp V (cdT Ev) mx d 66 10 ls st h Q) := x_if2 (c := fun x z => z < x) rfl
theorem s_66_10 : wp V (cdT Ev) mx d 66 10 ls st h Q = wp V (cdT Ev) mx d 66 11 ls ((.int (0)) :: st) h Q := x_push (v := (.int (0))) (len := 1) rfl
theorem s_66_11 {x : Int32} (hn : nl l3 = true) : wp V (cdT Ev) mx d 66 11 [l0, l1, l2, l3, l4, l5] (.int x :: st) h Q = wp V (cdT Ev) mx d 66 13 [l0, l1, l2, l3, some (.int x), l5] st h Q := x_istore (len := 2) rfl (Nat.le_of_ble_eq_true rfl) (okp_nl rfl hn) rfl
theorem s_66_13 : wp V (cdT Ev) mx d 66 13 ls st h Q = wp V (cdT Ev) mx d 66 14 ls ((.int (0)) :: st) h Q := x_push (v := (.int (0))) (len := 1) rfl
theorem s_66_14 {x : Int32} (hn : nl l4 = true) : wp V (cdT Ev) mx d 66 14 [l0, l1, l2, l3, l4, l5] (.int x :: st) h Q = wp V (cdT Ev) mx d 66 16 [l0, l1, l2, l3, l4, some (.int x)] st h Q := x_istore (len := 2) rfl (Nat.le_of_ble_eq_true rfl) (okp_nl rfl hn) rfl
theorem s_66_16 {x : Int32} : wp V (cdT Ev) mx d 66 16 [l0, l1, l2, l3, l4, some (.int x)] st h Q = wp V (cdT Ev) mx d 66 18 [l0, l1, l2, l3, l4, some (.int x)] (.int x :: st) h Q := x_iload (len := 2) rfl rfl
theorem s_66_18 : wp V (cdT Ev) mx d 66 18 ls st h Q = wp V (cdT Ev) mx d 66 20 ls ((.int (12)) :: st) h Q := x_push (v := (.int (12))) (len := 2) rfl
theorem s_66_20 {x z : Int32} : wp V (cdT Ev) mx d 66 20 ls (.int z :: .int x :: st) h Q = (if z ≤ x then wp V (cdT Ev) mx d 66 43 ls st h Q else wp V (cdT Ev) mx d 66 23 ls st h Q) := x_if2 (c := fun x z => z ≤ x) rfl
theorem s_66_23 {a : Nat} : wp V (cdT Ev) mx d 66 23 [some (.ref a), l1, l2, l3, l4, l5] st h Q = wp V (cdT Ev) mx d 66 24 [some (.ref a), l1, l2, l3, l4, l5] (.ref a :: st) h Q := x_aload (len := 1) rfl rfl
theorem s_66_23_n : wp V (cdT Ev) mx d 66 23 [some .null, l1, l2, l3, l4, l5] st h Q = wp V (cdT Ev) mx d 66 24 [some .null, l1, l2, l3, l4, l5] (.null :: st) h Q := x_aloadN (len := 1) rfl rfl
theorem s_66_24 {a : Nat} : wp V (cdT Ev) mx d 66 24 [l0, some (.ref a), l2, l3, l4, l5] st h Q = wp V (cdT Ev) mx d 66 25 [l0, some (.ref a), l2, l3, l4, l5] (.ref a :: st) h Q := x_aload (len := 1) rfl rfl
theorem s_66_24_n : wp V (cdT Ev) mx d 66 24 [l0, some .null, l2, l3, l4, l5] st h Q = wp V (cdT Ev) mx d 66 25 [l0, some .null, l2, l3, l4, l5] (.null :: st) h Q := x_aloadN (len := 1) rfl rfl
theorem s_66_25 {x : Int32} : wp V (cdT Ev) mx d 66 25 [l0, l1, l2, l3, l4, some (.int x)] st h Q = wp V (cdT Ev) mx d 66 27 [l0, l1, l2, l3, l4, some (.int x)] (.int x :: st) h Q := x_iload (len := 2) rfl rfl
theorem s_66_27 {x : Int32} : wp V (cdT Ev) mx d 66 27 [l0, l1, l2, some (.int x), l4, l5] st h Q = wp V (cdT Ev) mx d 66 28 [l0, l1, l2, some (.int x), l4, l5] (.int x :: st) h Q := x_iload (len := 1) rfl rfl
theorem s_66_28 {b : Nat} {v0 v1 v2 : Value} (hst : st.length ≤ 4) : wp V (cdT Ev) mx d 66 28 ls (v2 :: v1 :: v0 :: .ref b :: st) h Q = cv [(10, 57)] h b (fun y' => WP V (cdT Ev) mx d y' [.ref b, v0, v1, v2] h (fun r h' => wp V (cdT Ev) mx d 66 31 ls (rts r st) h' Q)) := x_cv (sg := [v2, v1, v0]) rfl hst rfl rfl
theorem s_66_31 {x : Int32} : wp V (cdT Ev) mx d 66 31 ls (.int x :: st) h Q = (if 0 < x then wp V (cdT Ev) mx d 66 37 ls st h Q else wp V (cdT Ev) mx d 66 34 ls st h Q) := x_if1 (c := fun x => 0 < x) rfl
theorem s_66_34 {x : Int32} : wp V (cdT Ev) mx d 66 34 [l0, l1, l2, l3, some (.int x), l5] st h Q = wp V (cdT Ev) mx d 66 37 [l0, l1, l2, l3, some (.int (x + (1))), l5] st h Q := x_iinc rfl rfl rfl
theorem s_66_37 {x : Int32} : wp V (cdT Ev) mx d 66 37 [l0, l1, l2, l3, l4, some (.int x)] st h Q = wp V (cdT Ev) mx d 66 40 [l0, l1, l2, l3, l4, some (.int (x + (1)))] st h Q := x_iinc rfl rfl rfl
theorem s_66_40 : wp V (cdT Ev) mx d 66 40 ls st h Q = wp V (cdT Ev) mx d 66 16 ls st h Q := x_goto rfl
theorem s_66_43 {x : Int32} : wp V (cdT Ev) mx d 66 43 [l0, l1, some (.int x), l3, l4, l5] st h Q = wp V (cdT Ev) mx d 66 44 [l0, l1, some (.int x), l3, l4, l5] (.int x :: st) h Q := x_iload (len := 1) rfl rfl
theorem s_66_44 {x : Int32} : wp V (cdT Ev) mx d 66 44 [l0, l1, l2, l3, some (.int x), l5] st h Q = wp V (cdT Ev) mx d 66 46 [l0, l1, l2, l3, some (.int x), l5] (.int x :: st) h Q := x_iload (len := 2) rfl rfl
theorem s_66_46 {x : Int32} : wp V (cdT Ev) mx d 66 46 [l0, l1, l2, some (.int x), l4, l5] st h Q = wp V (cdT Ev) mx d 66 47 [l0, l1, l2, some (.int x), l4, l5] (.int x :: st) h Q := x_iload (len := 1) rfl rfl
theorem s_66_47 {v0 v1 : Value} (hst : st.length ≤ 4) : wp V (cdT Ev) mx d 66 47 ls (v1 :: v0 :: st) h Q = WP V (cdT Ev) mx d 111 [v0, v1] h (fun r h' => wp V (cdT Ev) mx d 66 50 ls (rts r st) h' Q) := x_cs (sg := [v1, v0]) rfl hst rfl rfl
theorem s_66_50 {x z : Int32} : wp V (cdT Ev) mx d 66 50 ls (.int z :: .int x :: st) h Q = wp V (cdT Ev) mx d 66 51 ls (.int (x + z) :: st) h Q := x_ib (f := fun x z => x + z) rfl
theorem s_66_51 {x : Int32} (hn : nl l1 = true) : wp V (cdT Ev) mx d 66 51 [l0, l1, l2, l3, l4, l5] (.int x :: st) h Q = wp V (cdT Ev) mx d 66 52 [l0, l1, some (.int x), l3, l4, l5] st h Q := x_istore (len := 1) rfl (Nat.le_of_ble_eq_true rfl) (okp_nl rfl hn) rfl
theorem s_66_52 {x : Int32} : wp V (cdT Ev) mx d 66 52 [l0, l1, l2, some (.int x), l4, l5] st h Q = wp V (cdT Ev) mx d 66 55 [l0, l1, l2, some (.int (x + (1))), l4, l5] st h Q := x_iinc rfl rfl rfl
theorem s_66_55 : wp V (cdT Ev) mx d 66 55 ls st h Q = wp V (cdT Ev) mx d 66 4 ls st h Q := x_goto rfl
theorem s_66_58 {x : Int32} : wp V (cdT Ev) mx d 66 58 [l0, l1, some (.int x), l3, l4, l5] st h Q = wp V (cdT Ev) mx d 66 59 [l0, l1, some (.int x), l3, l4, l5] (.int x :: st) h Q := x_iload (len := 1) rfl rfl
theorem s_66_59 {x : Int32} : wp V (cdT Ev) mx d 66 59 ls [.int x] h Q = Q (some (.int x)) h := x_ret rfl rfl
theorem e_66 {a : Nat} {p0 : Nat} : WP V (cdT Ev) mx (d + 1) 66 [.ref a, .ref p0] h Q = wp V (cdT Ev) mx d 66 0 [some (.ref a), some (.ref p0), none, none, none, none] [] h Q := propext (WP_eq (Nat.le_of_ble_eq_true rfl))
theorem s_67_0 {a : Nat} : wp V (cdT Ev) mx d 67 0 [some (.ref a), l1, l2, l3, l4, l5, l6, l7] st h Q = wp V (cdT Ev) mx d 67 1 [some (.ref a), l1, l2, l3, l4, l5, l6, l7] (.ref a :: st) h Q := x_aload (len := 1) rfl rfl
theorem s_67_0_n : wp V (cdT Ev) mx d 67 0 [some .null, l1, l2, l3, l4, l5, l6, l7] st h Q = wp V (cdT Ev) mx d 67 1 [some .null, l1, l2, l3, l4, l5, l6, l7] (.null :: st) h Q := x_aloadN (len := 1) rfl rfl
theorem s_67_1 {a : Nat} : wp V (cdT Ev) mx d 67 1 [l0, some (.ref a), l2, l3, l4, l5, l6, l7] st h Q = wp V (cdT Ev) mx d 67 2 [l0, some (.ref a), l2, l3, l4, l5, l6, l7] (.ref a :: st) h Q := x_aload (len := 1) rfl rfl
theorem s_67_1_n : wp V (cdT Ev) mx d 67 1 [l0, some .null, l2, l3, l4, l5, l6, l7] st h Q = wp V (cdT Ev) mx d 67 2 [l0, some .null, l2, l3, l4, l5, l6, l7] (.null :: st) h Q := x_aloadN (len := 1) rfl rfl
theorem s_67_2 {x : Int32} : wp V (cdT Ev) mx d 67 2 [l0, l1, some (.int x), l3, l4, l5, l6, l7] st h Q = wp V (cdT Ev) mx d 67 3 [l0, l1, some (.int x), l3, l4, l5, l6, l7] (.int x :: st) h Q := x_iload (len := 1) rfl rfl
theorem s_67_3 {x : Int32} : wp V (cdT Ev) mx d 67 3 [l0, l1, l2, some (.int x), l4, l5, l6, l7] st h Q = wp V (cdT Ev) mx d 67 4 [l0, l1, l2, some (.int x), l4, l5, l6, l7] (.int x :: st) h Q := x_iload (len := 1) rfl rfl
theorem s_67_4 {b : Nat} {v0 v1 v2 : Value} (hst : st.length ≤ 4) : wp V (cdT Ev) mx d 67 4 ls (v2 :: v1 :: v0 :: .ref b :: st) h Q = cv [(10, 57)] h b (fun y' => WP V (cdT Ev) mx d y' [.ref b, v0, v1, v2] h (fun r h' => wp V (cdT Ev) mx d 67 7 ls (rts r st) h' Q)) := x_cv (sg := [v2, v1, v0]) rfl hst rfl rfl
theorem s_67_7 {x : Int32} (hn : nl l3 = true) : wp V (cdT Ev) mx d 67 7 [l0, l1, l2, l3, l4, l5, l6, l7] (.int x :: st) h Q = wp V (cdT Ev) mx d 67 9 [l0, l1, l2, l3, some (.int x), l5, l6, l7] st h Q := x_istore (len := 2) rfl (Nat.le_of_ble_eq_true rfl) (okp_nl rfl hn) rfl
theorem s_67_9 {x : Int32} : wp V (cdT Ev) mx d 67 9 [l0, l1, l2, l3, some (.int x), l5, l6, l7] st h Q = wp V (cdT Ev) mx d 67 11 [l0, l1, l2, l3, some (.int x), l5, l6, l7] (.int x :: st) h Q := x_iload (len := 2) rfl rfl
theorem s_67_11 {x : Int32} : wp V (cdT Ev) mx d 67 11 ls (.int x :: st) h Q = (if 0 < x then wp V (cdT Ev) mx d 67 16 ls st h Q else wp V (cdT Ev) mx d 67 14 ls st h Q) := x_if1 (c := fun x => 0 < x) rfl
theorem s_67_14 : wp V (cdT Ev) mx d 67 14 ls st h Q = wp V (cdT Ev) mx d 67 15 ls ((.int (-1)) :: st) h Q := x_push (v := (.int (-1))) (len := 1) rfl
theorem s_67_15 {x : Int32} : wp V (cdT Ev) mx d 67 15 ls [.int x] h Q = Q (some (.int x)) h := x_ret rfl rfl
theorem s_67_16 : wp V (cdT Ev) mx d 67 16 ls st h Q = wp V (cdT Ev) mx d 67 17 ls ((.int (0)) :: st) h Q := x_push (v := (.int (0))) (len := 1) rfl
theorem s_67_17 {x : Int32} (hn : nl l4 = true) : wp V (cdT Ev) mx d 67 17 [l0, l1, l2, l3, l4, l5, l6, l7] (.int x :: st) h Q = wp V (cdT Ev) mx d 67 19 [l0, l1, l2, l3, l4, some (.int x), l6, l7] st h Q := x_istore (len := 2) rfl (Nat.le_of_ble_eq_true rfl) (okp_nl rfl hn) rfl
theorem s_67_19 : wp V (cdT Ev) mx d 67 19 ls st h Q = wp V (cdT Ev) mx d 67 20 ls ((.int (0)) :: st) h Q := x_push (v := (.int (0))) (len := 1) rfl
theorem s_67_20 {x : Int32} (hn : nl l5 = true) : wp V (cdT Ev) mx d 67 20 [l0, l1, l2, l3, l4, l5, l6, l7] (.int x :: st) h Q = wp V (cdT Ev) mx d 67 22 [l0, l1, l2, l3, l4, l5, some (.int x), l7] st h Q := x_istore (len := 2) rfl (Nat.le_of_ble_eq_true rfl) (okp_nl rfl hn) rfl
theorem s_67_22 {x : Int32} : wp V (cdT Ev) mx d 67 22 [l0, l1, l2, l3, l4, l5, some (.int x), l7] st h Q = wp V (cdT Ev) mx d 67 24 [l0, l1, l2, l3, l4, l5, some (.int x), l7] (.int x :: st) h Q := x_iload (len := 2) rfl rfl
theorem s_67_24 : wp V (cdT Ev) mx d 67 24 ls st h Q = wp V (cdT Ev) mx d 67 26 ls ((.int (12)) :: st) h Q := x_push (v := (.int (12))) (len := 2) rfl
theorem s_67_26 {x z : Int32} : wp V (cdT Ev) mx d 67 26 ls (.int z :: .int x :: st) h Q = (if z ≤ x then wp V (cdT Ev) mx d 67 68 ls st h Q else wp V (cdT Ev) mx d 67 29 ls st h Q) := x_if2 (c := fun x z => z ≤ x) rfl
theorem s_67_29 {a : Nat} : wp V (cdT Ev) mx d 67 29 [some (.ref a), l1, l2, l3, l4, l5, l6, l7] st h Q = wp V (cdT Ev) mx d 67 30 [some (.ref a), l1, l2, l3, l4, l5, l6, l7] (.ref a :: st) h Q := x_aload (len := 1) rfl rfl
theorem s_67_29_n : wp V (cdT Ev) mx d 67 29 [some .null, l1, l2, l3, l4, l5, l6, l7] st h Q = wp V (cdT Ev) mx d 67 30 [some .null, l1, l2, l3, l4, l5, l6, l7] (.null :: st) h Q := x_aloadN (len := 1) rfl rfl
theorem s_67_30 {a : Nat} : wp V (cdT Ev) mx d 67 30 [l0, some (.ref a), l2, l3, l4, l5, l6, l7] st h Q = wp V (cdT Ev) mx d 67 31 [l0, some (.ref a), l2, l3, l4, l5, l6, l7] (.ref a :: st) h Q := x_aload (len := 1) rfl rfl
theorem s_67_30_n : wp V (cdT Ev) mx d 67 30 [l0, some .null, l2, l3, l4, l5, l6, l7] st h Q = wp V (cdT Ev) mx d 67 31 [l0, some .null, l2, l3, l4, l5, l6, l7] (.null :: st) h Q := x_aloadN (len := 1) rfl rfl
theorem s_67_31 {x : Int32} : wp V (cdT Ev) mx d 67 31 [l0, l1, l2, l3, l4, l5, some (.int x), l7] st h Q = wp V (cdT Ev) mx d 67 33 [l0, l1, l2, l3, l4, l5, some (.int x), l7] (.int x :: st) h Q := x_iload (len := 2) rfl rfl
theorem s_67_33 {x : Int32} : wp V (cdT Ev) mx d 67 33 [l0, l1, l2, some (.int x), l4, l5, l6, l7] st h Q = wp V (cdT Ev) mx d 67 34 [l0, l1, l2, some (.int x), l4, l5, l6, l7] (.int x :: st) h Q := x_iload (len := 1) rfl rfl
theorem s_67_34 {b : Nat} {v0 v1 v2 : Value} (hst : st.length ≤ 4) : wp V (cdT Ev) mx d 67 34 ls (v2 :: v1 :: v0 :: .ref b :: st) h Q = cv [(10, 57)] h b (fun y' => WP V (cdT Ev) mx d y' [.ref b, v0, v1, v2] h (fun r h' => wp V (cdT Ev) mx d 67 37 ls (rts r st) h' Q)) := x_cv (sg := [v2, v1, v0]) rfl hst rfl rfl
theorem s_67_37 {x : Int32} (hn : nl l6 = true) : wp V (cdT Ev) mx d 67 37 [l0, l1, l2, l3, l4, l5, l6, l7] (.int x :: st) h Q = wp V (cdT Ev) mx d 67 39 [l0, l1, l2, l3, l4, l5, l6, some (.int x)] st h Q := x_istore (len := 2) rfl (Nat.le_of_ble_eq_true rfl) (okp_nl rfl hn) rfl
theorem s_67_39 {x : Int32} : wp V (cdT Ev) mx d 67 39 [l0, l1, l2, l3, l4, l5, l6, some (.int x)] st h Q = wp V (cdT Ev) mx d 67 41 [l0, l1, l2, l3, l4, l5, l6, some (.int x)] (.int x :: st) h Q := x_iload (len := 2) rfl rfl
theorem s_67_41 {x : Int32} : wp V (cdT Ev) mx d 67 41 [l0, l1, l2, l3, some (.int x), l5, l6, l7] st h Q = wp V (cdT Ev) mx d 67 43 [l0, l1, l2, l3, some (.int x), l5, l6, l7] (.int x :: st) h Q := x_iload (len := 2) rfl rfl
theorem s_67_43 {x z : Int32} : wp V (cdT Ev) mx d 67 43 ls (.int z :: .int x :: st) h Q = (if x < z then wp V (cdT Ev) mx d 67 59 ls st h Q else wp V (cdT Ev) mx d 67 46 ls st h Q) := x_if2 (c := fun x z => x < z) rfl
theorem s_67_46 {x : Int32} : wp V (cdT Ev) mx d 67 46 [l0, l1, l2, l3, l4, l5, l6, some (.int x)] st h Q = wp V (cdT Ev) mx d 67 48 [l0, l1, l2, l3, l4, l5, l6, some (.int x)] (.int x :: st) h Q := x_iload (len := 2) rfl rfl
theorem s_67_48 {x : Int32} : wp V (cdT Ev) mx d 67 48 [l0, l1, l2, l3, some (.int x), l5, l6, l7] st h Q = wp V (cdT Ev) mx d 67 50 [l0, l1, l2, l3, some (.int x), l5, l6, l7] (.int x :: st) h Q := x_iload (len := 2) rfl rfl
theorem s_67_50 {x z : Int32} : wp V (cdT Ev) mx d 67 50 ls (.int z :: .int x :: st) h Q = (if ¬ x = z then wp V (cdT Ev) mx d 67 62 ls st h Q else wp V (cdT Ev) mx d 67 53 ls st h Q) := x_if2 (c := fun x z => ¬ x = z) rfl
theorem s_67_53 {x : Int32} : wp V (cdT Ev) mx d 67 53 [l0, l1, l2, l3, l4, l5, some (.int x), l7] st h Q = wp V (cdT Ev) mx d 67 55 [l0, l1, l2, l3, l4, l5, some (.int x), l7] (.int x :: st) h Q := x_iload (len := 2) rfl rfl
theorem s_67_55 {x : Int32} : wp V (cdT Ev) mx d 67 55 [l0, l1, some (.int x), l3, l4, l5, l6, l7] st h Q = wp V (cdT Ev) mx d 67 56 [l0, l1, some (.int x), l3, l4, l5, l6, l7] (.int x :: st) h Q := x_iload (len := 1) rfl rfl
theorem s_67_56 {x z : Int32} : wp V (cdT Ev) mx d 67 56 ls (.int z :: .int x :: st) h Q = (if x ≤ z then wp V (cdT Ev) mx d 67 62 ls st h Q else wp V (cdT Ev) mx d 67 59 ls st h Q) := x_if2 (c := fun x z => x ≤ z) rfl
theorem s_67_59 {x : Int32} : wp V (cdT Ev) mx d 67 59 [l0, l1, l2, l3, l4, some (.int x), l6, l7] st h Q = wp V (cdT Ev) mx d 67 62 [l0, l1, l2, l3, l4, some (.int (x + (1))), l6, l7] st h Q := x_iinc rfl rfl rfl
theorem s_67_62 {x : Int32} : wp V (cdT Ev) mx d 67 62 [l0, l1, l2, l3, l4, l5, some (.int x), l7] st h Q = wp V (cdT Ev) mx d 67 65 [l0, l1, l2, l3, l4, l5, some (.int (x + (1))), l7] st h Q := x_iinc rfl rfl rfl
theorem s_67_65 : wp V (cdT Ev) mx d 67 65 ls st h Q = wp V (cdT Ev) mx d 67 22 ls st h Q := x_goto rfl
theorem s_67_68 {x : Int32} : wp V (cdT Ev) mx d 67 68 [l0, l1, l2, l3, l4, some (.int x), l6, l7] st h Q = wp V (cdT Ev) mx d 67 70 [l0, l1, l2, l3, l4, some (.int x), l6, l7] (.int x :: st) h Q := x_iload (len := 2) rfl rfl
theorem s_67_70 {x : Int32} : wp V (cdT Ev) mx d 67 70 ls [.int x] h Q = Q (some (.int x)) h := x_ret rfl rfl
theorem e_67 {a : Nat} {p0 : Nat} {p1 : Int32} {p2 : Int32} : WP V (cdT Ev) mx (d + 1) 67 [.ref a, .ref p0, .int p1, .int p2] h Q = wp V (cdT Ev) mx d 67 0 [some (.ref a), some (.ref p0), some (.int p1), some (.int p2), none, none, none, none] [] h Q := propext (WP_eq (Nat.le_of_ble_eq_true rfl))
theorem s_68_0 {a : Nat} : wp V (cdT Ev) mx d 68 0 [some (.ref a)] st h Q = wp V (cdT Ev) mx d 68 1 [some (.ref a)] (.ref a :: st) h Q := x_aload (len := 1) rfl rfl
theorem s_68_0_n : wp V (cdT Ev) mx d 68 0 [some .null] st h Q = wp V (cdT Ev) mx d 68 1 [some .null] (.null :: st) h Q := x_aloadN (len := 1) rfl rfl
theorem s_68_1 {a : Nat} (hst : st.length ≤ 4) : wp V (cdT Ev) mx d 68 1 ls (.ref a :: st) h Q = wp V (cdT Ev) mx d 68 4 ls st h Q := x_oi rfl hst
theorem s_68_4 {a : Nat} : wp V (cdT Ev) mx d 68 4 [some (.ref a)] st h Q = wp V (cdT Ev) mx d 68 5 [some (.ref a)] (.ref a :: st) h Q := x_aload (len := 1) rfl rfl
theorem s_68_4_n : wp V (cdT Ev) mx d 68 4 [some .null] st h Q = wp V (cdT Ev) mx d 68 5 [some .null] (.null :: st) h Q := x_aloadN (len := 1) rfl rfl
theorem s_68_5 : wp V (cdT Ev) mx d 68 5 ls st h Q = wp V (cdT Ev) mx d 68 8 ls (.ref h.2.1 :: st) (hnew h (.inr (10, [.null, .null, .int 0, .int 0, .int 0, .int 0, .null, .null, .null, .null, .null])) 11) Q := x_new rfl
theorem s_68_8 {a : Nat} : wp V (cdT Ev) mx d 68 8 ls (.ref a :: st) h Q = wp V (cdT Ev) mx d 68 9 ls (.ref a :: .ref a :: st) h Q := x_dup rfl rfl
theorem s_68_8_i {x : Int32} : wp V (cdT Ev) mx d 68 8 ls (.int x :: st) h Q = wp V (cdT Ev) mx d 68 9 ls (.int x :: .int x :: st) h Q := x_dup rfl rfl
theorem s_68_9 {b : Nat} (hst : st.length ≤ 4) : wp V (cdT Ev) mx d 68 9 ls (.ref b :: st) h Q = WP V (cdT Ev) mx d 48 [.ref b] h (fun r h' => wp V (cdT Ev) mx d 68 12 ls (rts r st) h' Q) := x_ci (sg := []) rfl hst rfl rfl
theorem s_68_12 {w : Value} {a : Nat} : wp V (cdT Ev) mx d 68 12 ls (w :: .ref a :: st) h Q = pf [11] 0 2 w h a (fun hh => wp V (cdT Ev) mx d 68 15 ls st hh Q) := x_putf rfl
theorem s_68_15 {a : Nat} : wp V (cdT Ev) mx d 68 15 [some (.ref a)] st h Q = wp V (cdT Ev) mx d 68 16 [some (.ref a)] (.ref a :: st) h Q := x_aload (len := 1) rfl rfl
theorem s_68_15_n : wp V (cdT Ev) mx d 68 15 [some .null] st h Q = wp V (cdT Ev) mx d 68 16 [some .null] (.null :: st) h Q := x_aloadN (len := 1) rfl rfl
theorem s_68_16 : wp V (cdT Ev) mx d 68 16 ls st h Q = wp V (cdT Ev) mx d 68 19 ls (.ref h.2.1 :: st) (hnew h (.inr (10, [.null, .null, .int 0, .int 0, .int 0, .int 0, .null, .null, .null, .null, .null])) 11) Q := x_new rfl
theorem s_68_19 {a : Nat} : wp V (cdT Ev) mx d 68 19 ls (.ref a :: st) h Q = wp V (cdT Ev) mx d 68 20 ls (.ref a :: .ref a :: st) h Q := x_dup rfl rfl
theorem s_68_19_i {x : Int32} : wp V (cdT Ev) mx d 68 19 ls (.int x :: st) h Q = wp V (cdT Ev) mx d 68 20 ls (.int x :: .int x :: st) h Q := x_dup rfl rfl
theorem s_68_20 {b : Nat} (hst : st.length ≤ 4) : wp V (cdT Ev) mx d 68 20 ls (.ref b :: st) h Q = WP V (cdT Ev) mx d 48 [.ref b] h (fun r h' => wp V (cdT Ev) mx d 68 23 ls (rts r st) h' Q) := x_ci (sg := []) rfl hst rfl rfl
theorem s_68_23 {w : Value} {a : Nat} : wp V (cdT Ev) mx d 68 23 ls (w :: .ref a :: st) h Q = pf [11] 1 2 w h a (fun hh => wp V (cdT Ev) mx d 68 26 ls st hh Q) := x_putf rfl
theorem s_68_26 {a : Nat} : wp V (cdT Ev) mx d 68 26 [some (.ref a)] st h Q = wp V (cdT Ev) mx d 68 27 [some (.ref a)] (.ref a :: st) h Q := x_aload (len := 1) rfl rfl
theorem s_68_26_n : wp V (cdT Ev) mx d 68 26 [some .null] st h Q = wp V (cdT Ev) mx d 68 27 [some .null] (.null :: st) h Q := x_aloadN (len := 1) rfl rfl
theorem s_68_27 : wp V (cdT Ev) mx d 68 27 ls st h Q = wp V (cdT Ev) mx d 68 30 ls (.ref h.2.1 :: st) (hnew h (.inr (10, [.null, .null, .int 0, .int 0, .int 0, .int 0, .null, .null, .null, .null, .null])) 11) Q := x_new rfl
theorem s_68_30 {a : Nat} : wp V (cdT Ev) mx d 68 30 ls (.ref a :: st) h Q = wp V (cdT Ev) mx d 68 31 ls (.ref a :: .ref a :: st) h Q := x_dup rfl rfl
theorem s_68_30_i {x : Int32} : wp V (cdT Ev) mx d 68 30 ls (.int x :: st) h Q = wp V (cdT Ev) mx d 68 31 ls (.int x :: .int x :: st) h Q := x_dup rfl rfl
theorem s_68_31 {b : Nat} (hst : st.length ≤ 4) : wp V (cdT Ev) mx d 68 31 ls (.ref b :: st) h Q = WP V (cdT Ev) mx d 48 [.ref b] h (fun r h' => wp V (cdT Ev) mx d 68 34 ls (rts r st) h' Q) := x_ci (sg := []) rfl hst rfl rfl
theorem s_68_34 {w : Value} {a : Nat} : wp V (cdT Ev) mx d 68 34 ls (w :: .ref a :: st) h Q = pf [11] 2 2 w h a (fun hh => wp V (cdT Ev) mx d 68 37 ls st hh Q) := x_putf rfl
theorem s_68_37 {a : Nat} : wp V (cdT Ev) mx d 68 37 [some (.ref a)] st h Q = wp V (cdT Ev) mx d 68 38 [some (.ref a)] (.ref a :: st) h Q := x_aload (len := 1) rfl rfl
theorem s_68_37_n : wp V (cdT Ev) mx d 68 37 [some .null] st h Q = wp V (cdT Ev) mx d 68 38 [some .null] (.null :: st) h Q := x_aloadN (len := 1) rfl rfl
theorem s_68_38 : wp V (cdT Ev) mx d 68 38 ls st h Q = wp V (cdT Ev) mx d 68 41 ls (.ref h.2.1 :: st) (hnew h (.inr (0, [.null, .int 0, .int 0, .null, .int 0, .null, .null, .int 0, .int 0])) 9) Q := x_new rfl
theorem s_68_41 {a : Nat} : wp V (cdT Ev) mx d 68 41 ls (.ref a :: st) h Q = wp V (cdT Ev) mx d 68 42 ls (.ref a :: .ref a :: st) h Q := x_dup rfl rfl
theorem s_68_41_i {x : Int32} : wp V (cdT Ev) mx d 68 41 ls (.int x :: st) h Q = wp V (cdT Ev) mx d 68 42 ls (.int x :: .int x :: st) h Q := x_dup rfl rfl
theorem s_68_42 {b : Nat} (hst : st.length ≤ 4) : wp V (cdT Ev) mx d 68 42 ls (.ref b :: st) h Q = WP V (cdT Ev) mx d 1 [.ref b] h (fun r h' => wp V (cdT Ev) mx d 68 45 ls (rts r st) h' Q) := x_ci (sg := []) rfl hst rfl rfl
theorem s_68_45 {w : Value} {a : Nat} : wp V (cdT Ev) mx d 68 45 ls (w :: .ref a :: st) h Q = pf [11] 4 2 w h a (fun hh => wp V (cdT Ev) mx d 68 48 ls st hh Q) := x_putf rfl
theorem s_68_48 {a : Nat} : wp V (cdT Ev) mx d 68 48 [some (.ref a)] st h Q = wp V (cdT Ev) mx d 68 49 [some (.ref a)] (.ref a :: st) h Q := x_aload (len := 1) rfl rfl
theorem s_68_48_n : wp V (cdT Ev) mx d 68 48 [some .null] st h Q = wp V (cdT Ev) mx d 68 49 [some .null] (.null :: st) h Q := x_aloadN (len := 1) rfl rfl
theorem s_68_49 : wp V (cdT Ev) mx d 68 49 ls st h Q = wp V (cdT Ev) mx d 68 52 ls (.ref h.2.1 :: st) (hnew h (.inr (9, [.null, .int 0])) 2) Q := x_new rfl
theorem s_68_52 {a : Nat} : wp V (cdT Ev) mx d 68 52 ls (.ref a :: st) h Q = wp V (cdT Ev) mx d 68 53 ls (.ref a :: .ref a :: st) h Q := x_dup rfl rfl
theorem s_68_52_i {x : Int32} : wp V (cdT Ev) mx d 68 52 ls (.int x :: st) h Q = wp V (cdT Ev) mx d 68 53 ls (.int x :: .int x :: st) h Q := x_dup rfl rfl
theorem s_68_53 {b : Nat} (hst : st.length ≤ 4) : wp V (cdT Ev) mx d 68 53 ls (.ref b :: st) h Q = WP V (cdT Ev) mx d 46 [.ref b] h (fun r h' => wp V (cdT Ev) mx d 68 56 ls (rts r st) h' Q) := x_ci (sg := []) rfl hst rfl rfl
theorem s_68_56 {w : Value} {a : Nat} : wp V (cdT Ev) mx d 68 56 ls (w :: .ref a :: st) h Q = pf [11] 6 2 w h a (fun hh => wp V (cdT Ev) mx d 68 59 ls st hh Q) := x_putf rfl
theorem s_68_59 {a : Nat} : wp V (cdT Ev) mx d 68 59 [some (.ref a)] st h Q = wp V (cdT Ev) mx d 68 60 [some (.ref a)] (.ref a :: st) h Q := x_aload (len := 1) rfl rfl
theorem s_68_59_n : wp V (cdT Ev) mx d 68 59 [some .null] st h Q = wp V (cdT Ev) mx d 68 60 [some .null] (.null :: st) h Q := x_aloadN (len := 1) rfl rfl
theorem s_68_60 : wp V (cdT Ev) mx d 68 60 ls st h Q = wp V (cdT Ev) mx d 68 62 ls ((.int (6)) :: st) h Q := x_push (v := (.int (6))) (len := 2) rfl
theorem s_68_62 {x : Int32} : wp V (cdT Ev) mx d 68 62 ls (.int x :: st) h Q = (¬ (x < 0 ∨ 1000 < x.toNatClampNeg) ∧ wp V (cdT Ev) mx d 68 64 ls (.ref h.2.1 :: st) (hnew h (.inl (2, x.toNatClampNeg, (.inl (fun _ => 0)))) x.toNatClampNeg) Q) := x_newa (len := 2) rfl
theorem s_68_64 {a : Nat} : wp V (cdT Ev) mx d 68 64 ls (.ref a :: st) h Q = wp V (cdT Ev) mx d 68 65 ls (.ref a :: .ref a :: st) h Q := x_dup rfl rfl
theorem s_68_64_i {x : Int32} : wp V (cdT Ev) mx d 68 64 ls (.int x :: st) h Q = wp V (cdT Ev) mx d 68 65 ls (.int x :: .int x :: st) h Q := x_dup rfl rfl
theorem s_68_65 : wp V (cdT Ev) mx d 68 65 ls st h Q = wp V (cdT Ev) mx d 68 66 ls ((.int (0)) :: st) h Q := x_push (v := (.int (0))) (len := 1) rfl
theorem s_68_66 : wp V (cdT Ev) mx d 68 66 ls st h Q = wp V (cdT Ev) mx d 68 67 ls ((.int (-1)) :: st) h Q := x_push (v := (.int (-1))) (len := 1) rfl
theorem s_68_67 {x i : Int32} {a : Nat} : wp V (cdT Ev) mx d 68 67 ls (.int x :: .int i :: .ref a :: st) h Q = si 2 i (x) h a (fun hh => wp V (cdT Ev) mx d 68 68 ls st hh Q) := x_iast (nw := fun x => x) rfl
theorem s_68_68 {a : Nat} : wp V (cdT Ev) mx d 68 68 ls (.ref a :: st) h Q = wp V (cdT Ev) mx d 68 69 ls (.ref a :: .ref a :: st) h Q := x_dup rfl rfl
theorem s_68_68_i {x : Int32} : wp V (cdT Ev) mx d 68 68 ls (.int x :: st) h Q = wp V (cdT Ev) mx d 68 69 ls (.int x :: .int x :: st) h Q := x_dup rfl rfl
theorem s_68_69 : wp V (cdT Ev) mx d 68 69 ls st h Q = wp V (cdT Ev) mx d 68 70 ls ((.int (1)) :: st) h Q := x_push (v := (.int (1))) (len := 1) rfl
theorem s_68_70 : wp V (cdT Ev) mx d 68 70 ls st h Q = wp V (cdT Ev) mx d 68 71 ls ((.int (-1)) :: st) h Q := x_push (v := (.int (-1))) (len := 1) rfl
theorem s_68_71 {x i : Int32} {a : Nat} : wp V (cdT Ev) mx d 68 71 ls (.int x :: .int i :: .ref a :: st) h Q = si 2 i (x) h a (fun hh => wp V (cdT Ev) mx d 68 72 ls st hh Q) := x_iast (nw := fun x => x) rfl
theorem s_68_72 {a : Nat} : wp V (cdT Ev) mx d 68 72 ls (.ref a :: st) h Q = wp V (cdT Ev) mx d 68 73 ls (.ref a :: .ref a :: st) h Q := x_dup rfl rfl
theorem s_68_72_i {x : Int32} : wp V (cdT Ev) mx d 68 72 ls (.int x :: st) h Q = wp V (cdT Ev) mx d 68 73 ls (.int x :: .int x :: st) h Q := x_dup rfl rfl
theorem s_68_73 : wp V (cdT Ev) mx d 68 73 ls st h Q = wp V (cdT Ev) mx d 68 74 ls ((.int (2)) :: st) h Q := x_push (v := (.int (2))) (len := 1) rfl
theorem s_68_74 : wp V (cdT Ev) mx d 68 74 ls st h Q = wp V (cdT Ev) mx d 68 75 ls ((.int (-1)) :: st) h Q := x_push (v := (.int (-1))) (len := 1) rfl
theorem s_68_75 {x i : Int32} {a : Nat} : wp V (cdT Ev) mx d 68 75 ls (.int x :: .int i :: .ref a :: st) h Q = si 2 i (x) h a (fun hh => wp V (cdT Ev) mx d 68 76 ls st hh Q) := x_iast (nw := fun x => x) rfl
theorem s_68_76 {a : Nat} : wp V (cdT Ev) mx d 68 76 ls (.ref a :: st) h Q = wp V (cdT Ev) mx d 68 77 ls (.ref a :: .ref a :: st) h Q := x_dup rfl rfl
theorem s_68_76_i {x : Int32} : wp V (cdT Ev) mx d 68 76 ls (.int x :: st) h Q = wp V (cdT Ev) mx d 68 77 ls (.int x :: .int x :: st) h Q := x_dup rfl rfl
theorem s_68_77 : wp V (cdT Ev) mx d 68 77 ls st h Q = wp V (cdT Ev) mx d 68 78 ls ((.int (3)) :: st) h Q := x_push (v := (.int (3))) (len := 1) rfl
theorem s_68_78 : wp V (cdT Ev) mx d 68 78 ls st h Q = wp V (cdT Ev) mx d 68 79 ls ((.int (-1)) :: st) h Q := x_push (v := (.int (-1))) (len := 1) rfl
theorem s_68_79 {x i : Int32} {a : Nat} : wp V (cdT Ev) mx d 68 79 ls (.int x :: .int i :: .ref a :: st) h Q = si 2 i (x) h a (fun hh => wp V (cdT Ev) mx d 68 80 ls st hh Q) := x_iast (nw := fun x => x) rfl
theorem s_68_80 {a : Nat} : wp V (cdT Ev) mx d 68 80 ls (.ref a :: st) h Q = wp V (cdT Ev) mx d 68 81 ls (.ref a :: .ref a :: st) h Q := x_dup rfl rfl
theorem s_68_80_i {x : Int32} : wp V (cdT Ev) mx d 68 80 ls (.int x :: st) h Q = wp V (cdT Ev) mx d 68 81 ls (.int x :: .int x :: st) h Q := x_dup rfl rfl
theorem s_68_81 : wp V (cdT Ev) mx d 68 81 ls st h Q = wp V (cdT Ev) mx d 68 82 ls ((.int (4)) :: st) h Q := x_push (v := (.int (4))) (len := 1) rfl
theorem s_68_82 : wp V (cdT Ev) mx d 68 82 ls st h Q = wp V (cdT Ev) mx d 68 83 ls ((.int (-1)) :: st) h Q := x_push (v := (.int (-1))) (len := 1) rfl
theorem s_68_83 {x i : Int32} {a : Nat} : wp V (cdT Ev) mx d 68 83 ls (.int x :: .int i :: .ref a :: st) h Q = si 2 i (x) h a (fun hh => wp V (cdT Ev) mx d 68 84 ls st hh Q) := x_iast (nw := fun x => x) rfl
theorem s_68_84 {a : Nat} : wp V (cdT Ev) mx d 68 84 ls (.ref a :: st) h Q = wp V (cdT Ev) mx d 68 85 ls (.ref a :: .ref a :: st) h Q := x_dup rfl rfl
theorem s_68_84_i {x : Int32} : wp V (cdT Ev) mx d 68 84 ls (.int x :: st) h Q = wp V (cdT Ev) mx d 68 85 ls (.int x :: .int x :: st) h Q := x_dup rfl rfl
theorem s_68_85 : wp V (cdT Ev) mx d 68 85 ls st h Q = wp V (cdT Ev) mx d 68 86 ls ((.int (5)) :: st) h Q := x_push (v := (.int (5))) (len := 1) rfl
theorem s_68_86 : wp V (cdT Ev) mx d 68 86 ls st h Q = wp V (cdT Ev) mx d 68 87 ls ((.int (-1)) :: st) h Q := x_push (v := (.int (-1))) (len := 1) rfl
theorem s_68_87 {x i : Int32} {a : Nat} : wp V (cdT Ev) mx d 68 87 ls (.int x :: .int i :: .ref a :: st) h Q = si 2 i (x) h a (fun hh => wp V (cdT Ev) mx d 68 88 ls st hh Q) := x_iast (nw := fun x => x) rfl
theorem s_68_88 {w : Value} {a : Nat} : wp V (cdT Ev) mx d 68 88 ls (w :: .ref a :: st) h Q = pf [11] 7 2 w h a (fun hh => wp V (cdT Ev) mx d 68 91 ls st hh Q) := x_putf rfl
theorem s_68_91 {a : Nat} : wp V (cdT Ev) mx d 68 91 [some (.ref a)] st h Q = wp V (cdT Ev) mx d 68 92 [some (.ref a)] (.ref a :: st) h Q := x_aload (len := 1) rfl rfl
theorem s_68_91_n : wp V (cdT Ev) mx d 68 91 [some .null] st h Q = wp V (cdT Ev) mx d 68 92 [some .null] (.null :: st) h Q := x_aloadN (len := 1) rfl rfl
theorem s_68_92 : wp V (cdT Ev) mx d 68 92 ls st h Q = wp V (cdT Ev) mx d 68 94 ls ((.int (6)) :: st) h Q := x_push (v := (.int (6))) (len := 2) rfl
theorem s_68_94 {x : Int32} : wp V (cdT Ev) mx d 68 94 ls (.int x :: st) h Q = (¬ (x < 0 ∨ 1000 < x.toNatClampNeg) ∧ wp V (cdT Ev) mx d 68 96 ls (.ref h.2.1 :: st) (hnew h (.inl (2, x.toNatClampNeg, (.inl (fun _ => 0)))) x.toNatClampNeg) Q) := x_newa (len := 2) rfl
theorem s_68_96 {w : Value} {a : Nat} : wp V (cdT Ev) mx d 68 96 ls (w :: .ref a :: st) h Q = pf [11] 8 2 w h a (fun hh => wp V (cdT Ev) mx d 68 99 ls st hh Q) := x_putf rfl
theorem s_68_99 {a : Nat} : wp V (cdT Ev) mx d 68 99 [some (.ref a)] st h Q = wp V (cdT Ev) mx d 68 100 [some (.ref a)] (.ref a :: st) h Q := x_aload (len := 1) rfl rfl
theorem s_68_99_n : wp V (cdT Ev) mx d 68 99 [some .null] st h Q = wp V (cdT Ev) mx d 68 100 [some .null] (.null :: st) h Q := x_aloadN (len := 1) rfl rfl
theorem s_68_100 : wp V (cdT Ev) mx d 68 100 ls st h Q = wp V (cdT Ev) mx d 68 102 ls ((.int (6)) :: st) h Q := x_push (v := (.int (6))) (len := 2) rfl
theorem s_68_102 : wp V (cdT Ev) mx d 68 102 ls st h Q = wp V (cdT Ev) mx d 68 104 ls ((.int (60)) :: st) h Q := x_push (v := (.int (60))) (len := 2) rfl
theorem s_68_104 {k n : Int32} : wp V (cdT Ev) mx d 68 104 ls (.int k :: .int n :: st) h Q = (¬ (n < 0 ∨ k < 0 ∨ 1000 < n.toNatClampNeg ∨ 1000 < k.toNatClampNeg) ∧ wp V (cdT Ev) mx d 68 108 ls (.ref h.2.1 :: st) (hrows (hnew h (.inl (5, n.toNatClampNeg, .inr (.inr (.inr (.inr (fun i => if i < n.toNatClampNeg then some (h.2.1 + 1 + i) else none)))))) n.toNatClampNeg) k.toNatClampNeg n.toNatClampNeg) Q) := x_mna rfl
theorem s_68_108 {w : Value} {a : Nat} : wp V (cdT Ev) mx d 68 108 ls (w :: .ref a :: st) h Q = pf [11] 9 2 w h a (fun hh => wp V (cdT Ev) mx d 68 111 ls st hh Q) := x_putf rfl
theorem s_68_111 : wp V (cdT Ev) mx d 68 111 ls [] h Q = Q none h := x_retv rfl
theorem e_68 {a : Nat} : WP V (cdT Ev) mx (d + 1) 68 [.ref a] h Q = wp V (cdT Ev) mx d 68 0 [some (.ref a)] [] h Q := propext (WP_eq (Nat.le_of_ble_eq_true rfl))
theorem s_69_0 {x : Int32} : wp V (cdT Ev) mx d 69 0 [l0, some (.int x), l2, l3, l4] st h Q = wp V (cdT Ev) mx d 69 1 [l0, some (.int x), l2, l3, l4] (.int x :: st) h Q := x_iload (len := 1) rfl rfl
theorem s_69_1 {x : Int32} : wp V (cdT Ev) mx d 69 1 ls (.int x :: st) h Q = (if x < 0 then wp V (cdT Ev) mx d 69 12 ls st h Q else wp V (cdT Ev) mx d 69 4 ls st h Q) := x_if1 (c := fun x => x < 0) rfl
theorem s_69_4 {x : Int32} : wp V (cdT Ev) mx d 69 4 [l0, some (.int x), l2, l3, l4] st h Q = wp V (cdT Ev) mx d 69 5 [l0, some (.int x), l2, l3, l4] (.int x :: st) h Q := x_iload (len := 1) rfl rfl
theorem s_69_5 : wp V (cdT Ev) mx d 69 5 ls st h Q = wp V (cdT Ev) mx d 69 8 ls ((Ev 0) :: st) h Q := x_push (v := (Ev 0)) (len := 3) rfl
theorem s_69_8 {a : Nat} : wp V (cdT Ev) mx d 69 8 ls (.ref a :: st) h Q = ln V h a (fun x => wp V (cdT Ev) mx d 69 9 ls (.int x :: st) h Q) := x_alen rfl
theorem s_69_9 {x z : Int32} : wp V (cdT Ev) mx d 69 9 ls (.int z :: .int x :: st) h Q = (if x < z then wp V (cdT Ev) mx d 69 14 ls st h Q else wp V (cdT Ev) mx d 69 12 ls st h Q) := x_if2 (c := fun x z => x < z) rfl
theorem s_69_12 : wp V (cdT Ev) mx d 69 12 ls st h Q = wp V (cdT Ev) mx d 69 13 ls ((.int (-1)) :: st) h Q := x_push (v := (.int (-1))) (len := 1) rfl
theorem s_69_13 {x : Int32} : wp V (cdT Ev) mx d 69 13 ls [.int x] h Q = Q (some (.int x)) h := x_ret rfl rfl
theorem s_69_14 {x : Int32} : wp V (cdT Ev) mx d 69 14 [l0, l1, some (.int x), l3, l4] st h Q = wp V (cdT Ev) mx d 69 15 [l0, l1, some (.int x), l3, l4] (.int x :: st) h Q := x_iload (len := 1) rfl rfl
theorem s_69_15 {x : Int32} : wp V (cdT Ev) mx d 69 15 ls (.int x :: st) h Q = (if x < 0 then wp V (cdT Ev) mx d 69 31 ls st h Q else wp V (cdT Ev) mx d 69 18 ls st h Q) := x_if1 (c := fun x => x < 0) rfl
theorem s_69_18 {x : Int32} : wp V (cdT Ev) mx d 69 18 [l0, l1, some (.int x), l3, l4] st h Q = wp V (cdT Ev) mx d 69 19 [l0, l1, some (.int x), l3, l4] (.int x :: st) h Q := x_iload (len := 1) rfl rfl
theorem s_69_19 : wp V (cdT Ev) mx d 69 19 ls st h Q = wp V (cdT Ev) mx d 69 21 ls ((.int (9)) :: st) h Q := x_push (v := (.int (9))) (len := 2) rfl
theorem s_69_21 {x z : Int32} : wp V (cdT Ev) mx d 69 21 ls (.int z :: .int x :: st) h Q = (if z < x then wp V (cdT Ev) mx d 69 31 ls st h Q else wp V (cdT Ev) mx d 69 24 ls st h Q) := x_if2 (c := fun x z => z < x) rfl
theorem s_69_24 {x : Int32} : wp V (cdT Ev) mx d 69 24 [l0, l1, l2, some (.int x), l4] st h Q = wp V (cdT Ev) mx d 69 25 [l0, l1, l2, some (.int x), l4] (.int x :: st) h Q := x_iload (len := 1) rfl rfl
theorem s_69_25 {v0 : Value} (hst : st.length ≤ 4) : wp V (cdT Ev) mx d 69 25 ls (v0 :: st) h Q = WP V (cdT Ev) mx d 102 [v0] h (fun r h' => wp V (cdT Ev) mx d 69 28 ls (rts r st) h' Q) := x_cs (sg := [v0]) rfl hst rfl rfl
theorem s_69_28 {x : Int32} : wp V (cdT Ev) mx d 69 28 ls (.int x :: st) h Q = (if ¬ x = 0 then wp V (cdT Ev) mx d 69 34 ls st h Q else wp V (cdT Ev) mx d 69 31 ls st h Q) := x_if1 (c := fun x => ¬ x = 0) rfl
theorem s_69_31 : wp V (cdT Ev) mx d 69 31 ls st h Q = wp V (cdT Ev) mx d 69 33 ls ((.int (-2)) :: st) h Q := x_push (v := (.int (-2))) (len := 2) rfl
theorem s_69_33 {x : Int32} : wp V (cdT Ev) mx d 69 33 ls [.int x] h Q = Q (some (.int x)) h := x_ret rfl rfl
theorem s_69_34 {a : Nat} : wp V (cdT Ev) mx d 69 34 [some (.ref a), l1, l2, l3, l4] st h Q = wp V (cdT Ev) mx d 69 35 [some (.ref a), l1, l2, l3, l4] (.ref a :: st) h Q := x_aload (len := 1) rfl rfl
theorem s_69_34_n : wp V (cdT Ev) mx d 69 34 [some .null, l1, l2, l3, l4] st h Q = wp V (cdT Ev) mx d 69 35 [some .null, l1, l2, l3, l4] (.null :: st) h Q := x_aloadN (len := 1) rfl rfl
theorem s_69_35 {a : Nat} : wp V (cdT Ev) mx d 69 35 ls (.ref a :: st) h Q = gf [11] 0 h a (fun v => wp V (cdT Ev) mx d 69 38 ls (v :: st) h Q) := x_getf rfl
theorem s_69_38 {a : Nat} : wp V (cdT Ev) mx d 69 38 ls (.ref a :: st) h Q = gf [10] 2 h a (fun v => wp V (cdT Ev) mx d 69 41 ls (v :: st) h Q) := x_getf rfl
theorem s_69_41 : wp V (cdT Ev) mx d 69 41 ls st h Q = wp V (cdT Ev) mx d 69 43 ls ((.int (6)) :: st) h Q := x_push (v := (.int (6))) (len := 2) rfl
theorem s_69_43 {x z : Int32} : wp V (cdT Ev) mx d 69 43 ls (.int z :: .int x :: st) h Q = (if x < z then wp V (cdT Ev) mx d 69 49 ls st h Q else wp V (cdT Ev) mx d 69 46 ls st h Q) := x_if2 (c := fun x z => x < z) rfl
theorem s_69_46 : wp V (cdT Ev) mx d 69 46 ls st h Q = wp V (cdT Ev) mx d 69 48 ls ((.int (-4)) :: st) h Q := x_push (v := (.int (-4))) (len := 2) rfl
theorem s_69_48 {x : Int32} : wp V (cdT Ev) mx d 69 48 ls [.int x] h Q = Q (some (.int x)) h := x_ret rfl rfl
theorem s_69_49 {x : Int32} : wp V (cdT Ev) mx d 69 49 [l0, some (.int x), l2, l3, l4] st h Q = wp V (cdT Ev) mx d 69 50 [l0, some (.int x), l2, l3, l4] (.int x :: st) h Q := x_iload (len := 1) rfl rfl
theorem s_69_50 {a : Nat} : wp V (cdT Ev) mx d 69 50 [some (.ref a), l1, l2, l3, l4] st h Q = wp V (cdT Ev) mx d 69 51 [some (.ref a), l1, l2, l3, l4] (.ref a :: st) h Q := x_aload (len := 1) rfl rfl
theorem s_69_50_n : wp V (cdT Ev) mx d 69 50 [some .null, l1, l2, l3, l4] st h Q = wp V (cdT Ev) mx d 69 51 [some .null, l1, l2, l3, l4] (.null :: st) h Q := x_aloadN (len := 1) rfl rfl
theorem s_69_51 {a : Nat} : wp V (cdT Ev) mx d 69 51 ls (.ref a :: st) h Q = gf [11] 0 h a (fun v => wp V (cdT Ev) mx d 69 54 ls (v :: st) h Q) := x_getf rfl
theorem s_69_54 {a : Nat} : wp V (cdT Ev) mx d 69 54 ls (.ref a :: st) h Q = gf [10] 2 h a (fun v => wp V (cdT Ev) mx d 69 57 ls (v :: st) h Q) := x_getf rfl
theorem s_69_57 {v0 v1 : Value} (hst : st.length ≤ 4) : wp V (cdT Ev) mx d 69 57 ls (v1 :: v0 :: st) h Q = WP V (cdT Ev) mx d 112 [v0, v1] h (fun r h' => wp V (cdT Ev) mx d 69 60 ls (rts r st) h' Q) := x_cs (sg := [v1, v0]) rfl hst rfl rfl
theorem s_69_60 {a : Nat} (hn : nl l3 = true) : wp V (cdT Ev) mx d 69 60 [l0, l1, l2, l3, l4] (.ref a :: st) h Q = wp V (cdT Ev) mx d 69 62 [l0, l1, l2, l3, some (.ref a)] st h Q := x_astore (len := 2) rfl (Nat.le_of_ble_eq_true rfl) (okp_nl rfl hn) rfl
theorem s_69_60_n (hn : nl l3 = true) : wp V (cdT Ev) mx d 69 60 [l0, l1, l2, l3, l4] (.null :: st) h Q = wp V (cdT Ev) mx d 69 62 [l0, l1, l2, l3, some .null] st h Q := x_astoreN (len := 2) rfl (Nat.le_of_ble_eq_true rfl) (okp_nl rfl hn) rfl
theorem s_69_62 {a : Nat} : wp V (cdT Ev) mx d 69 62 [l0, l1, l2, l3, some (.ref a)] st h Q = wp V (cdT Ev) mx d 69 64 [l0, l1, l2, l3, some (.ref a)] (.ref a :: st) h Q := x_aload (len := 2) rfl rfl
theorem s_69_62_n : wp V (cdT Ev) mx d 69 62 [l0, l1, l2, l3, some .null] st h Q = wp V (cdT Ev) mx d 69 64 [l0, l1, l2, l3, some .null] (.null :: st) h Q := x_aloadN (len := 2) rfl rfl
theorem s_69_64 {x : Int32} : wp V (cdT Ev) mx d 69 64 [l0, l1, some (.int x), l3, l4] st h Q = wp V (cdT Ev) mx d 69 65 [l0, l1, some (.int x), l3, l4] (.int x :: st) h Q := x_iload (len := 1) rfl rfl
theorem s_69_65 {w : Value} {a : Nat} : wp V (cdT Ev) mx d 69 65 ls (w :: .ref a :: st) h Q = pf [1, 2, 3, 4, 5, 6, 8] 2 0 w h a (fun hh => wp V (cdT Ev) mx d 69 68 ls st hh Q) := x_putf rfl
theorem s_69_68 {a : Nat} : wp V (cdT Ev) mx d 69 68 [l0, l1, l2, l3, some (.ref a)] st h Q = wp V (cdT Ev) mx d 69 70 [l0, l1, l2, l3, some (.ref a)] (.ref a :: st) h Q := x_aload (len := 2) rfl rfl
theorem s_69_68_n : wp V (cdT Ev) mx d 69 68 [l0, l1, l2, l3, some .null] st h Q = wp V (cdT Ev) mx d 69 70 [l0, l1, l2, l3, some .null] (.null :: st) h Q := x_aloadN (len := 2) rfl rfl
theorem s_69_70 {x : Int32} : wp V (cdT Ev) mx d 69 70 [l0, l1, l2, some (.int x), l4] st h Q = wp V (cdT Ev) mx d 69 71 [l0, l1, l2, some (.int x), l4] (.int x :: st) h Q := x_iload (len := 1) rfl rfl
theorem s_69_71 {w : Value} {a : Nat} : wp V (cdT Ev) mx d 69 71 ls (w :: .ref a :: st) h Q = pf [1, 2, 3, 4, 5, 6, 8] 3 0 w h a (fun hh => wp V (cdT Ev) mx d 69 74 ls st hh Q) := x_putf rfl
theorem s_69_74 {a : Nat} : wp V (cdT Ev) mx d 69 74 [some (.ref a), l1, l2, l3, l4] st h Q = wp V (cdT Ev) mx d 69 75 [some (.ref a), l1, l2, l3, l4] (.ref a :: st) h Q := x_aload (len := 1) rfl rfl
theorem s_69_74_n : wp V (cdT Ev) mx d 69 74 [some .null, l1, l2, l3, l4] st h Q = wp V (cdT Ev) mx d 69 75 [some .null, l1, l2, l3, l4] (.null :: st) h Q := x_aloadN (len := 1) rfl rfl
theorem s_69_75 {a : Nat} : wp V (cdT Ev) mx d 69 75 ls (.ref a :: st) h Q = gf [11] 0 h a (fun v => wp V (cdT Ev) mx d 69 78 ls (v :: st) h Q) := x_getf rfl
theorem s_69_78 {a : Nat} : wp V (cdT Ev) mx d 69 78 ls (.ref a :: st) h Q = gf [10] 1 h a (fun v => wp V (cdT Ev) mx d 69 81 ls (v :: st) h Q) := x_getf rfl
theorem s_69_81 {a : Nat} : wp V (cdT Ev) mx d 69 81 [some (.ref a), l1, l2, l3, l4] st h Q = wp V (cdT Ev) mx d 69 82 [some (.ref a), l1, l2, l3, l4] (.ref a :: st) h Q := x_aload (len := 1) rfl rfl
theorem s_69_81_n : wp V (cdT Ev) mx d 69 81 [some .null, l1, l2, l3, l4] st h Q = wp V (cdT Ev) mx d 69 82 [some .null, l1, l2, l3, l4] (.null :: st) h Q := x_aloadN (len := 1) rfl rfl
theorem s_69_82 {a : Nat} : wp V (cdT Ev) mx d 69 82 ls (.ref a :: st) h Q = gf [11] 0 h a (fun v => wp V (cdT Ev) mx d 69 85 ls (v :: st) h Q) := x_getf rfl
theorem s_69_85 {a : Nat} : wp V (cdT Ev) mx d 69 85 ls (.ref a :: st) h Q = gf [10] 2 h a (fun v => wp V (cdT Ev) mx d 69 88 ls (v :: st) h Q) := x_getf rfl
theorem s_69_88 {a : Nat} : wp V (cdT Ev) mx d 69 88 [l0, l1, l2, l3, some (.ref a)] st h Q = wp V (cdT Ev) mx d 69 90 [l0, l1, l2, l3, some (.ref a)] (.ref a :: st) h Q := x_aload (len := 2) rfl rfl
theorem s_69_88_n : wp V (cdT Ev) mx d 69 88 [l0, l1, l2, l3, some .null] st h Q = wp V (cdT Ev) mx d 69 90 [l0, l1, l2, l3, some .null] (.null :: st) h Q := x_aloadN (len := 2) rfl rfl
theorem s_69_90 {i : Int32} {a v : Nat} : wp V (cdT Ev) mx d 69 90 ls (.ref v :: .int i :: .ref a :: st) h Q = sa [1, 2, 3, 4, 5, 6, 8] i v h a (fun hh => wp V (cdT Ev) mx d 69 91 ls st hh Q) := x_aast rfl
theorem s_69_91 {a : Nat} : wp V (cdT Ev) mx d 69 91 [some (.ref a), l1, l2, l3, l4] st h Q = wp V (cdT Ev) mx d 69 92 [some (.ref a), l1, l2, l3, l4] (.ref a :: st) h Q := x_aload (len := 1) rfl rfl
theorem s_69_91_n : wp V (cdT Ev) mx d 69 91 [some .null, l1, l2, l3, l4] st h Q = wp V (cdT Ev) mx d 69 92 [some .null, l1, l2, l3, l4] (.null :: st) h Q := x_aloadN (len := 1) rfl rfl
theorem s_69_92 {a : Nat} : wp V (cdT Ev) mx d 69 92 ls (.ref a :: st) h Q = gf [11] 0 h a (fun v => wp V (cdT Ev) mx d 69 95 ls (v :: st) h Q) := x_getf rfl
theorem s_69_95 {a : Nat} : wp V (cdT Ev) mx d 69 95 ls (.ref a :: st) h Q = wp V (cdT Ev) mx d 69 96 ls (.ref a :: .ref a :: st) h Q := x_dup rfl rfl
theorem s_69_95_i {x : Int32} : wp V (cdT Ev) mx d 69 95 ls (.int x :: st) h Q = wp V (cdT Ev) mx d 69 96 ls (.int x :: .int x :: st) h Q := x_dup rfl rfl
theorem s_69_96 {a : Nat} : wp V (cdT Ev) mx d 69 96 ls (.ref a :: st) h Q = gf [10] 2 h a (fun v => wp V (cdT Ev) mx d 69 99 ls (v :: st) h Q) := x_getf rfl
theorem s_69_99 : wp V (cdT Ev) mx d 69 99 ls st h Q = wp V (cdT Ev) mx d 69 100 ls ((.int (1)) :: st) h Q := x_push (v := (.int (1))) (len := 1) rfl
theorem s_69_100 {x z : Int32} : wp V (cdT Ev) mx d 69 100 ls (.int z :: .int x :: st) h Q = wp V (cdT Ev) mx d 69 101 ls (.int (x + z) :: st) h Q := x_ib (f := fun x z => x + z) rfl
theorem s_69_101 {w : Value} {a : Nat} : wp V (cdT Ev) mx d 69 101 ls (w :: .ref a :: st) h Q = pf [10] 2 0 w h a (fun hh => wp V (cdT Ev) mx d 69 104 ls st hh Q) := x_putf rfl
theorem s_69_104 {a : Nat} : wp V (cdT Ev) mx d 69 104 [l0, l1, l2, l3, some (.ref a)] st h Q = wp V (cdT Ev) mx d 69 106 [l0, l1, l2, l3, some (.ref a)] (.ref a :: st) h Q := x_aload (len := 2) rfl rfl
theorem s_69_104_n : wp V (cdT Ev) mx d 69 104 [l0, l1, l2, l3, some .null] st h Q = wp V (cdT Ev) mx d 69 106 [l0, l1, l2, l3, some .null] (.null :: st) h Q := x_aloadN (len := 2) rfl rfl
theorem s_69_106 {a : Nat} : wp V (cdT Ev) mx d 69 106 ls (.ref a :: st) h Q = gf [1, 2, 3, 4, 5, 6, 8] 1 h a (fun v => wp V (cdT Ev) mx d 69 109 ls (v :: st) h Q) := x_getf rfl
theorem s_69_109 {x : Int32} : wp V (cdT Ev) mx d 69 109 ls [.int x] h Q = Q (some (.int x)) h := x_ret rfl rfl
theorem e_69 {a : Nat} {p0 : Int32} {p1 : Int32} {p2 : Int32} : WP V (cdT Ev) mx (d + 1) 69 [.ref a, .int p0, .int p1, .int p2] h Q = wp V (cdT Ev) mx d 69 0 [some (.ref a), some (.int p0), some (.int p1), some (.int p2), none] [] h Q := propext (WP_eq (Nat.le_of_ble_eq_true rfl))
theorem s_70_0 {a : Nat} : wp V (cdT Ev) mx d 70 0 [some (.ref a), l1, l2, l3] st h Q = wp V (cdT Ev) mx d 70 1 [some (.ref a), l1, l2, l3] (.ref a :: st) h Q := x_aload (len := 1) rfl rfl
theorem s_70_0_n : wp V (cdT Ev) mx d 70 0 [some .null, l1, l2, l3] st h Q = wp V (cdT Ev) mx d 70 1 [some .null, l1, l2, l3] (.null :: st) h Q := x_aloadN (len := 1) rfl rfl
theorem s_70_1 {a : Nat} : wp V (cdT Ev) mx d 70 1 ls (.ref a :: st) h Q = gf [11] 0 h a (fun v => wp V (cdT Ev) mx d 70 4 ls (v :: st) h Q) := x_getf rfl
theorem s_70_4 {x : Int32} : wp V (cdT Ev) mx d 70 4 [l0, some (.int x), l2, l3] st h Q = wp V (cdT Ev) mx d 70 5 [l0, some (.int x), l2, l3] (.int x :: st) h Q := x_iload (len := 1) rfl rfl
theorem s_70_5 {b : Nat} {v0 : Value} (hst : st.length ≤ 4) : wp V (cdT Ev) mx d 70 5 ls (v0 :: .ref b :: st) h Q = cv [(10, 51)] h b (fun y' => WP V (cdT Ev) mx d y' [.ref b, v0] h (fun r h' => wp V (cdT Ev) mx d 70 8 ls (rts r st) h' Q)) := x_cv (sg := [v0]) rfl hst rfl rfl
theorem s_70_8 {a : Nat} (hn : nl l2 = true) : wp V (cdT Ev) mx d 70 8 [l0, l1, l2, l3] (.ref a :: st) h Q = wp V (cdT Ev) mx d 70 9 [l0, l1, l2, some (.ref a)] st h Q := x_astore (len := 1) rfl (Nat.le_of_ble_eq_true rfl) (okp_nl rfl hn) rfl
theorem s_70_8_n (hn : nl l2 = true) : wp V (cdT Ev) mx d 70 8 [l0, l1, l2, l3] (.null :: st) h Q = wp V (cdT Ev) mx d 70 9 [l0, l1, l2, some .null] st h Q := x_astoreN (len := 1) rfl (Nat.le_of_ble_eq_true rfl) (okp_nl rfl hn) rfl
theorem s_70_9 {a : Nat} : wp V (cdT Ev) mx d 70 9 [l0, l1, l2, some (.ref a)] st h Q = wp V (cdT Ev) mx d 70 10 [l0, l1, l2, some (.ref a)] (.ref a :: st) h Q := x_aload (len := 1) rfl rfl
theorem s_70_9_n : wp V (cdT Ev) mx d 70 9 [l0, l1, l2, some .null] st h Q = wp V (cdT Ev) mx d 70 10 [l0, l1, l2, some .null] (.null :: st) h Q := x_aloadN (len := 1) rfl rfl
theorem s_70_10 {a : Nat} : wp V (cdT Ev) mx d 70 10 ls (.ref a :: st) h Q = wp V (cdT Ev) mx d 70 15 ls st h Q := x_ifnonnull rfl
theorem s_70_10_n : wp V (cdT Ev) mx d 70 10 ls (.null :: st) h Q = wp V (cdT Ev) mx d 70 13 ls st h Q := x_ifnonnullN rfl
theorem s_70_13 : wp V (cdT Ev) mx d 70 13 ls st h Q = wp V (cdT Ev) mx d 70 14 ls ((.int (-1)) :: st) h Q := x_push (v := (.int (-1))) (len := 1) rfl
theorem s_70_14 {x : Int32} : wp V (cdT Ev) mx d 70 14 ls [.int x] h Q = Q (some (.int x)) h := x_ret rfl rfl
theorem s_70_15 {x : Int32} : wp V (cdT Ev) mx d 70 15 [l0, l1, some (.int x), l3] st h Q = wp V (cdT Ev) mx d 70 16 [l0, l1, some (.int x), l3] (.int x :: st) h Q := x_iload (len := 1) rfl rfl
theorem s_70_16 {x : Int32} : wp V (cdT Ev) mx d 70 16 ls (.int x :: st) h Q = (if x = 0 then wp V (cdT Ev) mx d 70 68 ls st h Q else (if x = 1 then wp V (cdT Ev) mx d 70 73 ls st h Q else (if x = 2 then wp V (cdT Ev) mx d 70 78 ls st h Q else (if x = 3 then wp V (cdT Ev) mx d 70 83 ls st h Q else (if x = 4 then wp V (cdT Ev) mx d 70 96 ls st h Q else (if x = 5 then wp V (cdT Ev) mx d 70 101 ls st h Q else (if x = 6 then wp V (cdT Ev) mx d 70 117 ls st h Q else (if x = 7 then wp V (cdT Ev) mx d 70 123 ls st h Q else (if x = 8 then wp V (cdT Ev) mx d 70 129 ls st h Q else wp V (cdT Ev) mx d 70 148 ls st h Q))))))))) := x_sw (t := 148) (l := [(0, 68), (1, 73), (2, 78), (3, 83), (4, 96), (5, 101), (6, 117), (7, 123), (8, 129)]) rfl
theorem s_70_68 {a : Nat} : wp V (cdT Ev) mx d 70 68 [l0, l1, l2, some (.ref a)] st h Q = wp V (cdT Ev) mx d 70 69 [l0, l1, l2, some (.ref a)] (.ref a :: st) h Q := x_aload (len := 1) rfl rfl
theorem s_70_68_n : wp V (cdT Ev) mx d 70 68 [l0, l1, l2, some .null] st h Q = wp V (cdT Ev) mx d 70 69 [l0, l1, l2, some .null] (.null :: st) h Q := x_aloadN (len := 1) rfl rfl
theorem s_70_69 {a : Nat} : wp V (cdT Ev) mx d 70 69 ls (.ref a :: st) h Q = gf [1, 2, 3, 4, 5, 6, 8] 0 h a (fun v => wp V (cdT Ev) mx d 70 72 ls (v :: st) h Q) := x_getf rfl
theorem s_70_72 {x : Int32} : wp V (cdT Ev) mx d 70 72 ls [.int x] h Q = Q (some (.int x)) h := x_ret rfl rfl
theorem s_70_73 {a : Nat} : wp V (cdT Ev) mx d 70 73 [l0, l1, l2, some (.ref a)] st h Q = wp V (cdT Ev) mx d 70 74 [l0, l1, l2, some (.ref a)] (.ref a :: st) h Q := x_aload (len := 1) rfl rfl
theorem s_70_73_n : wp V (cdT Ev) mx d 70 73 [l0, l1, l2, some .null] st h Q = wp V (cdT Ev) mx d 70 74 [l0, l1, l2, some .null] (.null :: st) h Q := x_aloadN (len := 1) rfl rfl
theorem s_70_74 {a : Nat} : wp V (cdT Ev) mx d 70 74 ls (.ref a :: st) h Q = gf [1, 2, 3, 4, 5, 6, 8] 2 h a (fun v => wp V (cdT Ev) mx d 70 77 ls (v :: st) h Q) := x_getf rfl
theorem s_70_77 {x : Int32} : wp V (cdT Ev) mx d 70 77 ls [.int x] h Q = Q (some (.int x)) h := x_ret rfl rfl
theorem s_70_78 {a : Nat} : wp V (cdT Ev) mx d 70 78 [l0, l1, l2, some (.ref a)] st h Q = wp V (cdT Ev) mx d 70 79 [l0, l1, l2, some (.ref a)] (.ref a :: st) h Q := x_aload (len := 1) rfl rfl
theorem s_70_78_n : wp V (cdT Ev) mx d 70 78 [l0, l1, l2, some .null] st h Q = wp V (cdT Ev) mx d 70 79 [l0, l1, l2, some .null] (.null :: st) h Q := x_aloadN (len := 1) rfl rfl
theorem s_70_79 {a : Nat} : wp V (cdT Ev) mx d 70 79 ls (.ref a :: st) h Q = gf [1, 2, 3, 4, 5, 6, 8] 3 h a (fun v => wp V (cdT Ev) mx d 70 82 ls (v :: st) h Q) := x_getf rfl
theorem s_70_82 {x : Int32} : wp V (cdT Ev) mx d 70 82 ls [.int x] h Q = Q (some (.int x)) h := x_ret rfl rfl
theorem s_70_83 {a : Nat} : wp V (cdT Ev) mx d 70 83 [l0, l1, l2, some (.ref a)] st h Q = wp V (cdT Ev) mx d 70 84 [l0, l1, l2, some (.ref a)] (.ref a :: st) h Q := x_aload (len := 1) rfl rfl
theorem s_70_83_n : wp V (cdT Ev) mx d 70 83 [l0, l1, l2, some .null] st h Q = wp V (cdT Ev) mx d 70 84 [l0, l1, l2, some .null] (.null :: st) h Q := x_aloadN (len := 1) rfl rfl
theorem s_70_84 {a : Nat} : wp V (cdT Ev) mx d 70 84 ls (.ref a :: st) h Q = gf [1, 2, 3, 4, 5, 6, 8] 4 h a (fun v => wp V (cdT Ev) mx d 70 87 ls (v :: st) h Q) := x_getf rfl
theorem s_70_87 {x : Int32} : wp V (cdT Ev) mx d 70 87 ls (.int x :: st) h Q = (if x = 0 then wp V (cdT Ev) mx d 70 94 ls st h Q else wp V (cdT Ev) mx d 70 90 ls st h Q) := x_if1 (c := fun x => x = 0) rfl
theorem s_70_90 : wp V (cdT Ev) mx d 70 90 ls st h Q = wp V (cdT Ev) mx d 70 91 ls ((.int (1)) :: st) h Q := x_push (v := (.int (1))) (len := 1) rfl
theorem s_70_91 : wp V (cdT Ev) mx d 70 91 ls st h Q = wp V (cdT Ev) mx d 70 95 ls st h Q := x_goto rfl
theorem s_70_94 : wp V (cdT Ev) mx d 70 94 ls st h Q = wp V (cdT Ev) mx d 70 95 ls ((.int (0)) :: st) h Q := x_push (v := (.int (0))) (len := 1) rfl
theorem s_70_95 {x : Int32} : wp V (cdT Ev) mx d 70 95 ls [.int x] h Q = Q (some (.int x)) h := x_ret rfl rfl
theorem s_70_96 {a : Nat} : wp V (cdT Ev) mx d 70 96 [l0, l1, l2, some (.ref a)] st h Q = wp V (cdT Ev) mx d 70 97 [l0, l1, l2, some (.ref a)] (.ref a :: st) h Q := x_aload (len := 1) rfl rfl
theorem s_70_96_n : wp V (cdT Ev) mx d 70 96 [l0, l1, l2, some .null] st h Q = wp V (cdT Ev) mx d 70 97 [l0, l1, l2, some .null] (.null :: st) h Q := x_aloadN (len := 1) rfl rfl
theorem s_70_97 {a : Nat} : wp V (cdT Ev) mx d 70 97 ls (.ref a :: st) h Q = gf [1, 2, 3, 4, 5, 6, 8] 5 h a (fun v => wp V (cdT Ev) mx d 70 100 ls (v :: st) h Q) := x_getf rfl
theorem s_70_100 {x : Int32} : wp V (cdT Ev) mx d 70 100 ls [.int x] h Q = Q (some (.int x)) h := x_ret rfl rfl
theorem s_70_101 {a : Nat} : wp V (cdT Ev) mx d 70 101 [some (.ref a), l1, l2, l3] st h Q = wp V (cdT Ev) mx d 70 102 [some (.ref a), l1, l2, l3] (.ref a :: st) h Q := x_aload (len := 1) rfl rfl
theorem s_70_101_n : wp V (cdT Ev) mx d 70 101 [some .null, l1, l2, l3] st h Q = wp V (cdT Ev) mx d 70 102 [some .null, l1, l2, l3] (.null :: st) h Q := x_aloadN (len := 1) rfl rfl
theorem s_70_102 {a : Nat} : wp V (cdT Ev) mx d 70 102 ls (.ref a :: st) h Q = gf [11] 0 h a (fun v => wp V (cdT Ev) mx d 70 105 ls (v :: st) h Q) := x_getf rfl
theorem s_70_105 {a : Nat} : wp V (cdT Ev) mx d 70 105 [l0, l1, l2, some (.ref a)] st h Q = wp V (cdT Ev) mx d 70 106 [l0, l1, l2, some (.ref a)] (.ref a :: st) h Q := x_aload (len := 1) rfl rfl
theorem s_70_105_n : wp V (cdT Ev) mx d 70 105 [l0, l1, l2, some .null] st h Q = wp V (cdT Ev) mx d 70 106 [l0, l1, l2, some .null] (.null :: st) h Q := x_aloadN (len := 1) rfl rfl
theorem s_70_106 {a : Nat} : wp V (cdT Ev) mx d 70 106 [l0, l1, l2, some (.ref a)] st h Q = wp V (cdT Ev) mx d 70 107 [l0, l1, l2, some (.ref a)] (.ref a :: st) h Q := x_aload (len := 1) rfl rfl
theorem s_70_106_n : wp V (cdT Ev) mx d 70 106 [l0, l1, l2, some .null] st h Q = wp V (cdT Ev) mx d 70 107 [l0, l1, l2, some .null] (.null :: st) h Q := x_aloadN (len := 1) rfl rfl
theorem s_70_107 {a : Nat} : wp V (cdT Ev) mx d 70 107 ls (.ref a :: st) h Q = gf [1, 2, 3, 4, 5, 6, 8] 3 h a (fun v => wp V (cdT Ev) mx d 70 110 ls (v :: st) h Q) := x_getf rfl
theorem s_70_110 {b : Nat} {v0 v1 : Value} (hst : st.length ≤ 4) : wp V (cdT Ev) mx d 70 110 ls (v1 :: v0 :: .ref b :: st) h Q = cv [(10, 58)] h b (fun y' => WP V (cdT Ev) mx d y' [.ref b, v0, v1] h (fun r h' => wp V (cdT Ev) mx d 70 113 ls (rts r st) h' Q)) := x_cv (sg := [v1, v0]) rfl hst rfl rfl
theorem s_70_113 {v0 : Value} (hst : st.length ≤ 4) : wp V (cdT Ev) mx d 70 113 ls (v0 :: st) h Q = WP V (cdT Ev) mx d 107 [v0] h (fun r h' => wp V (cdT Ev) mx d 70 116 ls (rts r st) h' Q) := x_cs (sg := [v0]) rfl hst rfl rfl
theorem s_70_116 {x : Int32} : wp V (cdT Ev) mx d 70 116 ls [.int x] h Q = Q (some (.int x)) h := x_ret rfl rfl
theorem s_70_117 {a : Nat} : wp V (cdT Ev) mx d 70 117 [some (.ref a), l1, l2, l3] st h Q = wp V (cdT Ev) mx d 70 118 [some (.ref a), l1, l2, l3] (.ref a :: st) h Q := x_aload (len := 1) rfl rfl
theorem s_70_117_n : wp V (cdT Ev) mx d 70 117 [some .null, l1, l2, l3] st h Q = wp V (cdT Ev) mx d 70 118 [some .null, l1, l2, l3] (.null :: st) h Q := x_aloadN (len := 1) rfl rfl
theorem s_70_118 {a : Nat} : wp V (cdT Ev) mx d 70 118 [l0, l1, l2, some (.ref a)] st h Q = wp V (cdT Ev) mx d 70 119 [l0, l1, l2, some (.ref a)] (.ref a :: st) h Q := x_aload (len := 1) rfl rfl
theorem s_70_118_n : wp V (cdT Ev) mx d 70 118 [l0, l1, l2, some .null] st h Q = wp V (cdT Ev) mx d 70 119 [l0, l1, l2, some .null] (.null :: st) h Q := x_aloadN (len := 1) rfl rfl
theorem s_70_119 {b : Nat} {v0 : Value} (hst : st.length ≤ 4) : wp V (cdT Ev) mx d 70 119 ls (v0 :: .ref b :: st) h Q = cv [(11, 113)] h b (fun y' => WP V (cdT Ev) mx d y' [.ref b, v0] h (fun r h' => wp V (cdT Ev) mx d 70 122 ls (rts r st) h' Q)) := x_cv (sg := [v0]) rfl hst rfl rfl
theorem s_70_122 {x : Int32} : wp V (cdT Ev) mx d 70 122 ls [.int x] h Q = Q (some (.int x)) h := x_ret rfl rfl
theorem s_70_123 {a : Nat} : wp V (cdT Ev) mx d 70 123 [some (.ref a), l1, l2, l3] st h Q = wp V (cdT Ev) mx d 70 124 [some (.ref a), l1, l2, l3] (.ref a :: st) h Q := x_aload (len := 1) rfl rfl
theorem s_70_123_n : wp V (cdT Ev) mx d 70 123 [some .null, l1, l2, l3] st h Q = wp V (cdT Ev) mx d 70 124 [some .null, l1, l2, l3] (.null :: st) h Q := x_aloadN (len := 1) rfl rfl
theorem s_70_124 {a : Nat} : wp V (cdT Ev) mx d 70 124 [l0, l1, l2, some (.ref a)] st h Q = wp V (cdT Ev) mx d 70 125 [l0, l1, l2, some (.ref a)] (.ref a :: st) h Q := x_aload (len := 1) rfl rfl
theorem s_70_124_n : wp V (cdT Ev) mx d 70 124 [l0, l1, l2, some .null] st h Q = wp V (cdT Ev) mx d 70 125 [l0, l1, l2, some .null] (.null :: st) h Q := x_aloadN (len := 1) rfl rfl
theorem s_70_125 {b : Nat} {v0 : Value} (hst : st.length ≤ 4) : wp V (cdT Ev) mx d 70 125 ls (v0 :: .ref b :: st) h Q = cv [(11, 114)] h b (fun y' => WP V (cdT Ev) mx d y' [.ref b, v0] h (fun r h' => wp V (cdT Ev) mx d 70 128 ls (rts r st) h' Q)) := x_cv (sg := [v0]) rfl hst rfl rfl
theorem s_70_128 {x : Int32} : wp V (cdT Ev) mx d 70 128 ls [.int x] h Q = Q (some (.int x)) h := x_ret rfl rfl
theorem s_70_129 {a : Nat} : wp V (cdT Ev) mx d 70 129 [some (.ref a), l1, l2, l3] st h Q = wp V (cdT Ev) mx d 70 130 [some (.ref a), l1, l2, l3] (.ref a :: st) h Q := x_aload (len := 1) rfl rfl
theorem s_70_129_n : wp V (cdT Ev) mx d 70 129 [some .null, l1, l2, l3] st h Q = wp V (cdT Ev) mx d 70 130 [some .null, l1, l2, l3] (.null :: st) h Q := x_aloadN (len := 1) rfl rfl
theorem s_70_130 {a : Nat} : wp V (cdT Ev) mx d 70 130 [l0, l1, l2, some (.ref a)] st h Q = wp V (cdT Ev) mx d 70 131 [l0, l1, l2, some (.ref a)] (.ref a :: st) h Q := x_aload (len := 1) rfl rfl
theorem s_70_130_n : wp V (cdT Ev) mx d 70 130 [l0, l1, l2, some .null] st h Q = wp V (cdT Ev) mx d 70 131 [l0, l1, l2, some .null] (.null :: st) h Q := x_aloadN (len := 1) rfl rfl
theorem s_70_131 {b : Nat} {v0 : Value} (hst : st.length ≤ 4) : wp V (cdT Ev) mx d 70 131 ls (v0 :: .ref b :: st) h Q = cv [(11, 114)] h b (fun y' => WP V (cdT Ev) mx d y' [.ref b, v0] h (fun r h' => wp V (cdT Ev) mx d 70 134 ls (rts r st) h' Q)) := x_cv (sg := [v0]) rfl hst rfl rfl
theorem s_70_134 {x : Int32} : wp V (cdT Ev) mx d 70 134 ls (.int x :: st) h Q = (if ¬ x = 0 then wp V (cdT Ev) mx d 70 142 ls st h Q else wp V (cdT Ev) mx d 70 137 ls st h Q) := x_if1 (c := fun x => ¬ x = 0) rfl
theorem s_70_137 : wp V (cdT Ev) mx d 70 137 ls st h Q = wp V (cdT Ev) mx d 70 139 ls ((.int (-5)) :: st) h Q := x_push (v := (.int (-5))) (len := 2) rfl
theorem s_70_139 : wp V (cdT Ev) mx d 70 139 ls st h Q = wp V (cdT Ev) mx d 70 147 ls st h Q := x_goto rfl
theorem s_70_142 {a : Nat} : wp V (cdT Ev) mx d 70 142 [some (.ref a), l1, l2, l3] st h Q = wp V (cdT Ev) mx d 70 143 [some (.ref a), l1, l2, l3] (.ref a :: st) h Q := x_aload (len := 1) rfl rfl
theorem s_70_142_n : wp V (cdT Ev) mx d 70 142 [some .null, l1, l2, l3] st h Q = wp V (cdT Ev) mx d 70 143 [some .null, l1, l2, l3] (.null :: st) h Q := x_aloadN (len := 1) rfl rfl
theorem s_70_143 {a : Nat} : wp V (cdT Ev) mx d 70 143 [l0, l1, l2, some (.ref a)] st h Q = wp V (cdT Ev) mx d 70 144 [l0, l1, l2, some (.ref a)] (.ref a :: st) h Q := x_aload (len := 1) rfl rfl
theorem s_70_143_n : wp V (cdT Ev) mx d 70 143 [l0, l1, l2, some .null] st h Q = wp V (cdT Ev) mx d 70 144 [l0, l1, l2, some .null] (.null :: st) h Q := x_aloadN (len := 1) rfl rfl
theorem s_70_144 {b : Nat} {v0 : Value} (hst : st.length ≤ 4) : wp V (cdT Ev) mx d 70 144 ls (v0 :: .ref b :: st) h Q = cv [(11, 115)] h b (fun y' => WP V (cdT Ev) mx d y' [.ref b, v0] h (fun r h' => wp V (cdT Ev) mx d 70 147 ls (rts r st) h' Q)) := x_cv (sg := [v0]) rfl hst rfl rfl
theorem s_70_147 {x : Int32} : wp V (cdT Ev) mx d 70 147 ls [.int x] h Q = Q (some (.int x)) h := x_ret rfl rfl
theorem s_70_148 : wp V (cdT Ev) mx d 70 148 ls st h Q = wp V (cdT Ev) mx d 70 149 ls ((.int (-1)) :: st) h Q := x_push (v := (.int (-1))) (len := 1) rfl
theorem s_70_149 {x : Int32} : wp V (cdT Ev) mx d 70 149 ls [.int x] h Q = Q (some (.int x)) h := x_ret rfl rfl
theorem e_70 {a : Nat} {p0 : Int32} {p1 : Int32} : WP V (cdT Ev) mx (d + 1) 70 [.ref a, .int p0, .int p1] h Q = wp V (cdT Ev) mx d 70 0 [some (.ref a), some (.int p0), some (.int p1), none] [] h Q := propext (WP_eq (Nat.le_of_ble_eq_true rfl))
theorem s_71_0 {a : Nat} : wp V (cdT Ev) mx d 71 0 [some (.ref a), l1, l2, l3] st h Q = wp V (cdT Ev) mx d 71 1 [some (.ref a), l1, l2, l3] (.ref a :: st) h Q := x_aload (len := 1) rfl rfl
theorem s_71_0_n : wp V (cdT Ev) mx d 71 0 [some .null, l1, l2, l3] st h Q = wp V (cdT Ev) mx d 71 1 [some .null, l1, l2, l3] (.null :: st) h Q := x_aloadN (len := 1) rfl rfl
theorem s_71_1 {a : Nat} : wp V (cdT Ev) mx d 71 1 ls (.ref a :: st) h Q = gf [11] 0 h a (fun v => wp V (cdT Ev) mx d 71 4 ls (v :: st) h Q) := x_getf rfl
theorem s_71_4 {x : Int32} : wp V (cdT Ev) mx d 71 4 [l0, some (.int x), l2, l3] st h Q = wp V (cdT Ev) mx d 71 5 [l0, some (.int x), l2, l3] (.int x :: st) h Q := x_iload (len := 1) rfl rfl
theorem s_71_5 {b : Nat} {v0 : Value} (hst : st.length ≤ 4) : wp V (cdT Ev) mx d 71 5 ls (v0 :: .ref b :: st) h Q = cv [(10, 51)] h b (fun y' => WP V (cdT Ev) mx d y' [.ref b, v0] h (fun r h' => wp V (cdT Ev) mx d 71 8 ls (rts r st) h' Q)) := x_cv (sg := [v0]) rfl hst rfl rfl
theorem s_71_8 {a : Nat} (hn : nl l2 = true) : wp V (cdT Ev) mx d 71 8 [l0, l1, l2, l3] (.ref a :: st) h Q = wp V (cdT Ev) mx d 71 9 [l0, l1, l2, some (.ref a)] st h Q := x_astore (len := 1) rfl (Nat.le_of_ble_eq_true rfl) (okp_nl rfl hn) rfl
theorem s_71_8_n (hn : nl l2 = true) : wp V (cdT Ev) mx d 71 8 [l0, l1, l2, l3] (.null :: st) h Q = wp V (cdT Ev) mx d 71 9 [l0, l1, l2, some .null] st h Q := x_astoreN (len := 1) rfl (Nat.le_of_ble_eq_true rfl) (okp_nl rfl hn) rfl
theorem s_71_9 {a : Nat} : wp V (cdT Ev) mx d 71 9 [l0, l1, l2, some (.ref a)] st h Q = wp V (cdT Ev) mx d 71 10 [l0, l1, l2, some (.ref a)] (.ref a :: st) h Q := x_aload (len := 1) rfl rfl
theorem s_71_9_n : wp V (cdT Ev) mx d 71 9 [l0, l1, l2, some .null] st h Q = wp V (cdT Ev) mx d 71 10 [l0, l1, l2, some .null] (.null :: st) h Q := x_aloadN (len := 1) rfl rfl
theorem s_71_10 {a : Nat} : wp V (cdT Ev) mx d 71 10 ls (.ref a :: st) h Q = wp V (cdT Ev) mx d 71 13 ls st h Q := x_ifnull rfl
theorem s_71_10_n : wp V (cdT Ev) mx d 71 10 ls (.null :: st) h Q = wp V (cdT Ev) mx d 71 20 ls st h Q := x_ifnullN rfl
theorem s_71_13 {x : Int32} : wp V (cdT Ev) mx d 71 13 [l0, l1, some (.int x), l3] st h Q = wp V (cdT Ev) mx d 71 14 [l0, l1, some (.int x), l3] (.int x :: st) h Q := x_iload (len := 1) rfl rfl
theorem s_71_14 {v0 : Value} (hst : st.length ≤ 4) : wp V (cdT Ev) mx d 71 14 ls (v0 :: st) h Q = WP V (cdT Ev) mx d 101 [v0] h (fun r h' => wp V (cdT Ev) mx d 71 17 ls (rts r st) h' Q) := x_cs (sg := [v0]) rfl hst rfl rfl
theorem s_71_17 {x : Int32} : wp V (cdT Ev) mx d 71 17 ls (.int x :: st) h Q = (if ¬ x = 0 then wp V (cdT Ev) mx d 71 24 ls st h Q else wp V (cdT Ev) mx d 71 20 ls st h Q) := x_if1 (c := fun x => ¬ x = 0) rfl
theorem s_71_20 : wp V (cdT Ev) mx d 71 20 ls st h Q = wp V (cdT Ev) mx d 71 23 ls ((.int (-10001)) :: st) h Q := x_push (v := (.int (-10001))) (len := 3) rfl
theorem s_71_23 {x : Int32} : wp V (cdT Ev) mx d 71 23 ls [.int x] h Q = Q (some (.int x)) h := x_ret rfl rfl
theorem s_71_24 {a : Nat} : wp V (cdT Ev) mx d 71 24 [some (.ref a), l1, l2, l3] st h Q = wp V (cdT Ev) mx d 71 25 [some (.ref a), l1, l2, l3] (.ref a :: st) h Q := x_aload (len := 1) rfl rfl
theorem s_71_24_n : wp V (cdT Ev) mx d 71 24 [some .null, l1, l2, l3] st h Q = wp V (cdT Ev) mx d 71 25 [some .null, l1, l2, l3] (.null :: st) h Q := x_aloadN (len := 1) rfl rfl
theorem s_71_25 {a : Nat} : wp V (cdT Ev) mx d 71 25 ls (.ref a :: st) h Q = gf [11] 0 h a (fun v => wp V (cdT Ev) mx d 71 28 ls (v :: st) h Q) := x_getf rfl
theorem s_71_28 {a : Nat} : wp V (cdT Ev) mx d 71 28 [l0, l1, l2, some (.ref a)] st h Q = wp V (cdT Ev) mx d 71 29 [l0, l1, l2, some (.ref a)] (.ref a :: st) h Q := x_aload (len := 1) rfl rfl
theorem s_71_28_n : wp V (cdT Ev) mx d 71 28 [l0, l1, l2, some .null] st h Q = wp V (cdT Ev) mx d 71 29 [l0, l1, l2, some .null] (.null :: st) h Q := x_aloadN (len := 1) rfl rfl
theorem s_71_29 {x : Int32} : wp V (cdT Ev) mx d 71 29 [l0, l1, some (.int x), l3] st h Q = wp V (cdT Ev) mx d 71 30 [l0, l1, some (.int x), l3] (.int x :: st) h Q := x_iload (len := 1) rfl rfl
theorem s_71_30 {a : Nat} : wp V (cdT Ev) mx d 71 30 [l0, l1, l2, some (.ref a)] st h Q = wp V (cdT Ev) mx d 71 31 [l0, l1, l2, some (.ref a)] (.ref a :: st) h Q := x_aload (len := 1) rfl rfl
theorem s_71_30_n : wp V (cdT Ev) mx d 71 30 [l0, l1, l2, some .null] st h Q = wp V (cdT Ev) mx d 71 31 [l0, l1, l2, some .null] (.null :: st) h Q := x_aloadN (len := 1) rfl rfl
theorem s_71_31 {a : Nat} : wp V (cdT Ev) mx d 71 31 ls (.ref a :: st) h Q = gf [1, 2, 3, 4, 5, 6, 8] 3 h a (fun v => wp V (cdT Ev) mx d 71 34 ls (v :: st) h Q) := x_getf rfl
theorem s_71_34 {v0 : Value} (hst : st.length ≤ 4) : wp V (cdT Ev) mx d 71 34 ls (v0 :: st) h Q = WP V (cdT Ev) mx d 195 [v0] h (fun r h' => wp V (cdT Ev) mx d 71 37 ls (rts r st) h' Q) := x_cs (sg := [v0]) rfl hst rfl rfl
theorem s_71_37 {b : Nat} {v0 v1 v2 : Value} (hst : st.length ≤ 4) : wp V (cdT Ev) mx d 71 37 ls (v2 :: v1 :: v0 :: .ref b :: st) h Q = cv [(10, 57)] h b (fun y' => WP V (cdT Ev) mx d y' [.ref b, v0, v1, v2] h (fun r h' => wp V (cdT Ev) mx d 71 40 ls (rts r st) h' Q)) := x_cv (sg := [v2, v1, v0]) rfl hst rfl rfl
theorem s_71_40 {x : Int32} : wp V (cdT Ev) mx d 71 40 ls [.int x] h Q = Q (some (.int x)) h := x_ret rfl rfl
theorem e_71 {a : Nat} {p0 : Int32} {p1 : Int32} : WP V (cdT Ev) mx (d + 1) 71 [.ref a, .int p0, .int p1] h Q = wp V (cdT Ev) mx d 71 0 [some (.ref a), some (.int p0), some (.int p1), none] [] h Q := propext (WP_eq (Nat.le_of_ble_eq_true rfl))
theorem s_72_0 {a : Nat} : wp V (cdT Ev) mx d 72 0 [some (.ref a), l1, l2, l3, l4] st h Q = wp V (cdT Ev) mx d 72 1 [some (.ref a), l1, l2, l3, l4] (.ref a :: st) h Q := x_aload (len := 1) rfl rfl
theorem s_72_0_n : wp V (cdT Ev) mx d 72 0 [some .null, l1, l2, l3, l4] st h Q = wp V (cdT Ev) mx d 72 1 [some .null, l1, l2, l3, l4] (.null :: st) h Q := x_aloadN (len := 1) rfl rfl
theorem s_72_1 {a : Nat} : wp V (cdT Ev) mx d 72 1 ls (.ref a :: st) h Q = gf [11] 0 h a (fun v => wp V (cdT Ev) mx d 72 4 ls (v :: st) h Q) := x_getf rfl
theorem s_72_4 {x : Int32} : wp V (cdT Ev) mx d 72 4 [l0, some (.int x), l2, l3, l4] st h Q = wp V (cdT Ev) mx d 72 5 [l0, some (.int x), l2, l3, l4] (.int x :: st) h Q := x_iload (len := 1) rfl rfl
theorem s_72_5 {b : Nat} {v0 : Value} (hst : st.length ≤ 4) : wp V (cdT Ev) mx d 72 5 ls (v0 :: .ref b :: st) h Q = cv [(10, 51)] h b (fun y' => WP V (cdT Ev) mx d y' [.ref b, v0] h (fun r h' => wp V (cdT Ev) mx d 72 8 ls (rts r st) h' Q)) := x_cv (sg := [v0]) rfl hst rfl rfl
theorem s_72_8 {a : Nat} (hn : nl l2 = true) : wp V (cdT Ev) mx d 72 8 [l0, l1, l2, l3, l4] (.ref a :: st) h Q = wp V (cdT Ev) mx d 72 9 [l0, l1, l2, some (.ref a), l4] st h Q := x_astore (len := 1) rfl (Nat.le_of_ble_eq_true rfl) (okp_nl rfl hn) rfl
theorem s_72_8_n (hn : nl l2 = true) : wp V (cdT Ev) mx d 72 8 [l0, l1, l2, l3, l4] (.null :: st) h Q = wp V (cdT Ev) mx d 72 9 [l0, l1, l2, some .null, l4] st h Q := x_astoreN (len := 1) rfl (Nat.le_of_ble_eq_true rfl) (okp_nl rfl hn) rfl
theorem s_72_9 {a : Nat} : wp V (cdT Ev) mx d 72 9 [l0, l1, l2, some (.ref a), l4] st h Q = wp V (cdT Ev) mx d 72 10 [l0, l1, l2, some (.ref a), l4] (.ref a :: st) h Q := x_aload (len := 1) rfl rfl
theorem s_72_9_n : wp V (cdT Ev) mx d 72 9 [l0, l1, l2, some .null, l4] st h Q = wp V (cdT Ev) mx d 72 10 [l0, l1, l2, some .null, l4] (.null :: st) h Q := x_aloadN (len := 1) rfl rfl
theorem s_72_10 {a : Nat} : wp V (cdT Ev) mx d 72 10 ls (.ref a :: st) h Q = wp V (cdT Ev) mx d 72 15 ls st h Q := x_ifnonnull rfl
theorem s_72_10_n : wp V (cdT Ev) mx d 72 10 ls (.null :: st) h Q = wp V (cdT Ev) mx d 72 13 ls st h Q := x_ifnonnullN rfl
theorem s_72_13 : wp V (cdT Ev) mx d 72 13 ls st h Q = wp V (cdT Ev) mx d 72 14 ls ((.int (-1)) :: st) h Q := x_push (v := (.int (-1))) (len := 1) rfl
theorem s_72_14 {x : Int32} : wp V (cdT Ev) mx d 72 14 ls [.int x] h Q = Q (some (.int x)) h := x_ret rfl rfl
theorem s_72_15 {x : Int32} : wp V (cdT Ev) mx d 72 15 [l0, l1, some (.int x), l3, l4] st h Q = wp V (cdT Ev) mx d 72 16 [l0, l1, some (.int x), l3, l4] (.int x :: st) h Q := x_iload (len := 1) rfl rfl
theorem s_72_16 {v0 : Value} (hst : st.length ≤ 4) : wp V (cdT Ev) mx d 72 16 ls (v0 :: st) h Q = WP V (cdT Ev) mx d 102 [v0] h (fun r h' => wp V (cdT Ev) mx d 72 19 ls (rts r st) h' Q) := x_cs (sg := [v0]) rfl hst rfl rfl
theorem s_72_19 {x : Int32} : wp V (cdT Ev) mx d 72 19 ls (.int x :: st) h Q = (if ¬ x = 0 then wp V (cdT Ev) mx d 72 25 ls st h Q else wp V (cdT Ev) mx d 72 22 ls st h Q) := x_if1 (c := fun x => ¬ x = 0) rfl
theorem s_72_22 : wp V (cdT Ev) mx d 72 22 ls st h Q = wp V (cdT Ev) mx d 72 24 ls ((.int (-2)) :: st) h Q := x_push (v := (.int (-2))) (len := 2) rfl
theorem s_72_24 {x : Int32} : wp V (cdT Ev) mx d 72 24 ls [.int x] h Q = Q (some (.int x)) h := x_ret rfl rfl
theorem s_72_25 {a : Nat} : wp V (cdT Ev) mx d 72 25 [l0, l1, l2, some (.ref a), l4] st h Q = wp V (cdT Ev) mx d 72 26 [l0, l1, l2, some (.ref a), l4] (.ref a :: st) h Q := x_aload (len := 1) rfl rfl
theorem s_72_25_n : wp V (cdT Ev) mx d 72 25 [l0, l1, l2, some .null, l4] st h Q = wp V (cdT Ev) mx d 72 26 [l0, l1, l2, some .null, l4] (.null :: st) h Q := x_aloadN (len := 1) rfl rfl
theorem s_72_26 {a : Nat} : wp V (cdT Ev) mx d 72 26 ls (.ref a :: st) h Q = gf [1, 2, 3, 4, 5, 6, 8] 3 h a (fun v => wp V (cdT Ev) mx d 72 29 ls (v :: st) h Q) := x_getf rfl
theorem s_72_29 {x : Int32} (hn : nl l3 = true) : wp V (cdT Ev) mx d 72 29 [l0, l1, l2, l3, l4] (.int x :: st) h Q = wp V (cdT Ev) mx d 72 31 [l0, l1, l2, l3, some (.int x)] st h Q := x_istore (len := 2) rfl (Nat.le_of_ble_eq_true rfl) (okp_nl rfl hn) rfl
theorem s_72_31 {a : Nat} : wp V (cdT Ev) mx d 72 31 [l0, l1, l2, some (.ref a), l4] st h Q = wp V (cdT Ev) mx d 72 32 [l0, l1, l2, some (.ref a), l4] (.ref a :: st) h Q := x_aload (len := 1) rfl rfl
theorem s_72_31_n : wp V (cdT Ev) mx d 72 31 [l0, l1, l2, some .null, l4] st h Q = wp V (cdT Ev) mx d 72 32 [l0, l1, l2, some .null, l4] (.null :: st) h Q := x_aloadN (len := 1) rfl rfl
theorem s_72_32 {x : Int32} : wp V (cdT Ev) mx d 72 32 [l0, l1, some (.int x), l3, l4] st h Q = wp V (cdT Ev) mx d 72 33 [l0, l1, some (.int x), l3, l4] (.int x :: st) h Q := x_iload (len := 1) rfl rfl
theorem s_72_33 {w : Value} {a : Nat} : wp V (cdT Ev) mx d 72 33 ls (w :: .ref a :: st) h Q = pf [1, 2, 3, 4, 5, 6, 8] 3 0 w h a (fun hh => wp V (cdT Ev) mx d 72 36 ls st hh Q) := x_putf rfl
theorem s_72_36 {x : Int32} : wp V (cdT Ev) mx d 72 36 [l0, l1, l2, l3, some (.int x)] st h Q = wp V (cdT Ev) mx d 72 38 [l0, l1, l2, l3, some (.int x)] (.int x :: st) h Q := x_iload (len := 2) rfl rfl
theorem s_72_38 {x : Int32} : wp V (cdT Ev) mx d 72 38 ls [.int x] h Q = Q (some (.int x)) h := x_ret rfl rfl
theorem e_72 {a : Nat} {p0 : Int32} {p1 : Int32} : WP V (cdT Ev) mx (d + 1) 72 [.ref a, .int p0, .int p1] h Q = wp V (cdT Ev) mx d 72 0 [some (.ref a), some (.int p0), some (.int p1), none, none] [] h Q := propext (WP_eq (Nat.le_of_ble_eq_true rfl))
theorem s_73_0 {a : Nat} : wp V (cdT Ev) mx d 73 0 [some (.ref a), l1, l2, l3, l4] st h Q = wp V (cdT Ev) mx d 73 1 [some (.ref a), l1, l2, l3, l4] (.ref a :: st) h Q := x_aload (len := 1) rfl rfl
theorem s_73_0_n : wp V (cdT Ev) mx d 73 0 [some .null, l1, l2, l3, l4] st h Q = wp V (cdT Ev) mx d 73 1 [some .null, l1, l2, l3, l4] (.null :: st) h Q := x_aloadN (len := 1) rfl rfl
theorem s_73_1 {a : Nat} : wp V (cdT Ev) mx d 73 1 ls (.ref a :: st) h Q = gf [11] 0 h a (fun v => wp V (cdT Ev) mx d 73 4 ls (v :: st) h Q) := x_getf rfl
theorem s_73_4 {x : Int32} : wp V (cdT Ev) mx d 73 4 [l0, some (.int x), l2, l3, l4] st h Q = wp V (cdT Ev) mx d 73 5 [l0, some (.int x), l2, l3, l4] (.int x :: st) h Q := x_iload (len := 1) rfl rfl
theorem s_73_5 {b : Nat} {v0 : Value} (hst : st.length ≤ 4) : wp V (cdT Ev) mx d 73 5 ls (v0 :: .ref b :: st) h Q = cv [(10, 51)] h b (fun y' => WP V (cdT Ev) mx d y' [.ref b, v0] h (fun r h' => wp V (cdT Ev) mx d 73 8 ls (rts r st) h' Q)) := x_cv (sg := [v0]) rfl hst rfl rfl
theorem s_73_8 {a : Nat} (hn : nl l2 = true) : wp V (cdT Ev) mx d 73 8 [l0, l1, l2, l3, l4] (.ref a :: st) h Q = wp V (cdT Ev) mx d 73 9 [l0, l1, l2, some (.ref a), l4] st h Q := x_astore (len := 1) rfl (Nat.le_of_ble_eq_true rfl) (okp_nl rfl hn) rfl
theorem s_73_8_n (hn : nl l2 = true) : wp V (cdT Ev) mx d 73 8 [l0, l1, l2, l3, l4] (.null :: st) h Q = wp V (cdT Ev) mx d 73 9 [l0, l1, l2, some .null, l4] st h Q := x_astoreN (len := 1) rfl (Nat.le_of_ble_eq_true rfl) (okp_nl rfl hn) rfl
theorem s_73_9 {a : Nat} : wp V (cdT Ev) mx d 73 9 [l0, l1, l2, some (.ref a), l4] st h Q = wp V (cdT Ev) mx d 73 10 [l0, l1, l2, some (.ref a), l4] (.ref a :: st) h Q := x_aload (len := 1) rfl rfl
theorem s_73_9_n : wp V (cdT Ev) mx d 73 9 [l0, l1, l2, some .null, l4] st h Q = wp V (cdT Ev) mx d 73 10 [l0, l1, l2, some .null, l4] (.null :: st) h Q := x_aloadN (len := 1) rfl rfl
theorem s_73_10 {a : Nat} : wp V (cdT Ev) mx d 73 10 ls (.ref a :: st) h Q = wp V (cdT Ev) mx d 73 15 ls st h Q := x_ifnonnull rfl
theorem s_73_10_n : wp V (cdT Ev) mx d 73 10 ls (.null :: st) h Q = wp V (cdT Ev) mx d 73 13 ls st h Q := x_ifnonnullN rfl
theorem s_73_13 : wp V (cdT Ev) mx d 73 13 ls st h Q = wp V (cdT Ev) mx d 73 14 ls ((.int (-1)) :: st) h Q := x_push (v := (.int (-1))) (len := 1) rfl
theorem s_73_14 {x : Int32} : wp V (cdT Ev) mx d 73 14 ls [.int x] h Q = Q (some (.int x)) h := x_ret rfl rfl
theorem s_73_15 {a : Nat} : wp V (cdT Ev) mx d 73 15 [l0, l1, l2, some (.ref a), l4] st h Q = wp V (cdT Ev) mx d 73 16 [l0, l1, l2, some (.ref a), l4] (.ref a :: st) h Q := x_aload (len := 1) rfl rfl
theorem s_73_15_n : wp V (cdT Ev) mx d 73 15 [l0, l1, l2, some .null, l4] st h Q = wp V (cdT Ev) mx d 73 16 [l0, l1, l2, some .null, l4] (.null :: st) h Q := x_aloadN (len := 1) rfl rfl
theorem s_73_16 {a : Nat} : wp V (cdT Ev) mx d 73 16 ls (.ref a :: st) h Q = gf [1, 2, 3, 4, 5, 6, 8] 4 h a (fun v => wp V (cdT Ev) mx d 73 19 ls (v :: st) h Q) := x_getf rfl
theorem s_73_19 {x : Int32} : wp V (cdT Ev) mx d 73 19 ls (.int x :: st) h Q = (if x = 0 then wp V (cdT Ev) mx d 73 26 ls st h Q else wp V (cdT Ev) mx d 73 22 ls st h Q) := x_if1 (c := fun x => x = 0) rfl
theorem s_73_22 : wp V (cdT Ev) mx d 73 22 ls st h Q = wp V (cdT Ev) mx d 73 23 ls ((.int (1)) :: st) h Q := x_push (v := (.int (1))) (len := 1) rfl
theorem s_73_23 : wp V (cdT Ev) mx d 73 23 ls st h Q = wp V (cdT Ev) mx d 73 27 ls st h Q := x_goto rfl
theorem s_73_26 : wp V (cdT Ev) mx d 73 26 ls st h Q = wp V (cdT Ev) mx d 73 27 ls ((.int (0)) :: st) h Q := x_push (v := (.int (0))) (len := 1) rfl
theorem s_73_27 {x : Int32} (hn : nl l3 = true) : wp V (cdT Ev) mx d 73 27 [l0, l1, l2, l3, l4] (.int x :: st) h Q = wp V (cdT Ev) mx d 73 29 [l0, l1, l2, l3, some (.int x)] st h Q := x_istore (len := 2) rfl (Nat.le_of_ble_eq_true rfl) (okp_nl rfl hn) rfl
theorem s_73_29 {a : Nat} : wp V (cdT Ev) mx d 73 29 [l0, l1, l2, some (.ref a), l4] st h Q = wp V (cdT Ev) mx d 73 30 [l0, l1, l2, some (.ref a), l4] (.ref a :: st) h Q := x_aload (len := 1) rfl rfl
theorem s_73_29_n : wp V (cdT Ev) mx d 73 29 [l0, l1, l2, some .null, l4] st h Q = wp V (cdT Ev) mx d 73 30 [l0, l1, l2, some .null, l4] (.null :: st) h Q := x_aloadN (len := 1) rfl rfl
theorem s_73_30 {x : Int32} : wp V (cdT Ev) mx d 73 30 [l0, l1, some (.int x), l3, l4] st h Q = wp V (cdT Ev) mx d 73 31 [l0, l1, some (.int x), l3, l4] (.int x :: st) h Q := x_iload (len := 1) rfl rfl
theorem s_73_31 {w : Value} {a : Nat} : wp V (cdT Ev) mx d 73 31 ls (w :: .ref a :: st) h Q = pf [1, 2, 3, 4, 5, 6, 8] 4 1 w h a (fun hh => wp V (cdT Ev) mx d 73 34 ls st hh Q) := x_putf rfl
theorem s_73_34 {x : Int32} : wp V (cdT Ev) mx d 73 34 [l0, l1, l2, l3, some (.int x)] st h Q = wp V (cdT Ev) mx d 73 36 [l0, l1, l2, l3, some (.int x)] (.int x :: st) h Q := x_iload (len := 2) rfl rfl
theorem s_73_36 {x : Int32} : wp V (cdT Ev) mx d 73 36 ls [.int x] h Q = Q (some (.int x)) h := x_ret rfl rfl
theorem e_73 {a : Nat} {p0 : Int32} {p1 : Int32} : WP V (cdT Ev) mx (d + 1) 73 [.ref a, .int p0, .int p1] h Q = wp V (cdT Ev) mx d 73 0 [some (.ref a), some (.int p0), some (.int p1), none, none] [] h Q := propext (WP_eq (Nat.le_of_ble_eq_true rfl))
theorem s_74_0 {x : Int32} : wp V (cdT Ev) mx d 74 0 [l0, some (.int x), l2, l3] st h Q = wp V (cdT Ev) mx d 74 1 [l0, some (.int x), l2, l3] (.int x :: st) h Q := x_iload (len := 1) rfl rfl
theorem s_74_1 {v0 : Value} (hst : st.length ≤ 4) : wp V (cdT Ev) mx d 74 1 ls (v0 :: st) h Q = WP V (cdT Ev) mx d 101 [v0] h (fun r h' => wp V (cdT Ev) mx d 74 4 ls (rts r st) h' Q) := x_cs (sg := [v0]) rfl hst rfl rfl
theorem s_74_4 {x : Int32} : wp V (cdT Ev) mx d 74 4 ls (.int x :: st) h Q = (if ¬ x = 0 then wp V (cdT Ev) mx d 74 9 ls st h Q else wp V (cdT Ev) mx d 74 7 ls st h Q) := x_if1 (c := fun x => ¬ x = 0) rfl
theorem s_74_7 : wp V (cdT Ev) mx d 74 7 ls st h Q = wp V (cdT Ev) mx d 74 8 ls ((.int (-1)) :: st) h Q := x_push (v := (.int (-1))) (len := 1) rfl
theorem s_74_8 {x : Int32} : wp V (cdT Ev) mx d 74 8 ls [.int x] h Q = Q (some (.int x)) h := x_ret rfl rfl
theorem s_74_9 {x : Int32} : wp V (cdT Ev) mx d 74 9 [l0, l1, some (.int x), l3] st h Q = wp V (cdT Ev) mx d 74 10 [l0, l1, some (.int x), l3] (.int x :: st) h Q := x_iload (len := 1) rfl rfl
theorem s_74_10 {v0 : Value} (hst : st.length ≤ 4) : wp V (cdT Ev) mx d 74 10 ls (v0 :: st) h Q = WP V (cdT Ev) mx d 103 [v0] h (fun r h' => wp V (cdT Ev) mx d 74 13 ls (rts r st) h' Q) := x_cs (sg := [v0]) rfl hst rfl rfl
theorem s_74_13 {x : Int32} : wp V (cdT Ev) mx d 74 13 ls (.int x :: st) h Q = (if ¬ x = 0 then wp V (cdT Ev) mx d 74 19 ls st h Q else wp V (cdT Ev) mx d 74 16 ls st h Q) := x_if1 (c := fun x => ¬ x = 0) rfl
theorem s_74_16 : wp V (cdT Ev) mx d 74 16 ls st h Q = wp V (cdT Ev) mx d 74 18 ls ((.int (-2)) :: st) h Q := x_push (v := (.int (-2))) (len := 2) rfl
theorem s_74_18 {x : Int32} : wp V (cdT Ev) mx d 74 18 ls [.int x] h Q = Q (some (.int x)) h := x_ret rfl rfl
theorem s_74_19 {a : Nat} : wp V (cdT Ev) mx d 74 19 [some (.ref a), l1, l2, l3] st h Q = wp V (cdT Ev) mx d 74 20 [some (.ref a), l1, l2, l3] (.ref a :: st) h Q := x_aload (len := 1) rfl rfl
theorem s_74_19_n : wp V (cdT Ev) mx d 74 19 [some .null, l1, l2, l3] st h Q = wp V (cdT Ev) mx d 74 20 [some .null, l1, l2, l3] (.null :: st) h Q := x_aloadN (len := 1) rfl rfl
theorem s_74_20 {a : Nat} : wp V (cdT Ev) mx d 74 20 ls (.ref a :: st) h Q = gf [11] 0 h a (fun v => wp V (cdT Ev) mx d 74 23 ls (v :: st) h Q) := x_getf rfl
theorem s_74_23 {a : Nat} : wp V (cdT Ev) mx d 74 23 ls (.ref a :: st) h Q = gf [10] 0 h a (fun v => wp V (cdT Ev) mx d 74 26 ls (v :: st) h Q) := x_getf rfl
theorem s_74_26 {x : Int32} : wp V (cdT Ev) mx d 74 26 [l0, some (.int x), l2, l3] st h Q = wp V (cdT Ev) mx d 74 27 [l0, some (.int x), l2, l3] (.int x :: st) h Q := x_iload (len := 1) rfl rfl
theorem s_74_27 {i : Int32} {a : Nat} : wp V (cdT Ev) mx d 74 27 ls (.int i :: .ref a :: st) h Q = ai 2 i V h a (fun x => wp V (cdT Ev) mx d 74 28 ls (.int x :: st) h Q) := x_iald rfl
theorem s_74_28 {x : Int32} (hn : nl l2 = true) : wp V (cdT Ev) mx d 74 28 [l0, l1, l2, l3] (.int x :: st) h Q = wp V (cdT Ev) mx d 74 29 [l0, l1, l2, some (.int x)] st h Q := x_istore (len := 1) rfl (Nat.le_of_ble_eq_true rfl) (okp_nl rfl hn) rfl
theorem s_74_29 {a : Nat} : wp V (cdT Ev) mx d 74 29 [some (.ref a), l1, l2, l3] st h Q = wp V (cdT Ev) mx d 74 30 [some (.ref a), l1, l2, l3] (.ref a :: st) h Q := x_aload (len := 1) rfl rfl
theorem s_74_29_n : wp V (cdT Ev) mx d 74 29 [some .null, l1, l2, l3] st h Q = wp V (cdT Ev) mx d 74 30 [some .null, l1, l2, l3] (.null :: st) h Q := x_aloadN (len := 1) rfl rfl
theorem s_74_30 {a : Nat} : wp V (cdT Ev) mx d 74 30 ls (.ref a :: st) h Q = gf [11] 0 h a (fun v => wp V (cdT Ev) mx d 74 33 ls (v :: st) h Q) := x_getf rfl
theorem s_74_33 {a : Nat} : wp V (cdT Ev) mx d 74 33 ls (.ref a :: st) h Q = gf [10] 0 h a (fun v => wp V (cdT Ev) mx d 74 36 ls (v :: st) h Q) := x_getf rfl
theorem s_74_36 {x : Int32} : wp V (cdT Ev) mx d 74 36 [l0, some (.int x), l2, l3] st h Q = wp V (cdT Ev) mx d 74 37 [l0, some (.int x), l2, l3] (.int x :: st) h Q := x_iload (len := 1) rfl rfl
theorem s_74_37 {x : Int32} : wp V (cdT Ev) mx d 74 37 [l0, l1, some (.int x), l3] st h Q = wp V (cdT Ev) mx d 74 38 [l0, l1, some (.int x), l3] (.int x :: st) h Q := x_iload (len := 1) rfl rfl
theorem s_74_38 {x i : Int32} {a : Nat} : wp V (cdT Ev) mx d 74 38 ls (.int x :: .int i :: .ref a :: st) h Q = si 2 i (x) h a (fun hh => wp V (cdT Ev) mx d 74 39 ls st hh Q) := x_iast (nw := fun x => x) rfl
theorem s_74_39 {x : Int32} : wp V (cdT Ev) mx d 74 39 [l0, l1, l2, some (.int x)] st h Q = wp V (cdT Ev) mx d 74 40 [l0, l1, l2, some (.int x)] (.int x :: st) h Q := x_iload (len := 1) rfl rfl
theorem s_74_40 {x : Int32} : wp V (cdT Ev) mx d 74 40 ls [.int x] h Q = Q (some (.int x)) h := x_ret rfl rfl
theorem e_74 {a : Nat} {p0 : Int32} {p1 : Int32} : WP V (cdT Ev) mx (d + 1) 74 [.ref a, .int p0, .int p1] h Q = wp V (cdT Ev) mx d 74 0 [some (.ref a), some (.int p0), some (.int p1), none] [] h Q := propext (WP_eq (Nat.le_of_ble_eq_true rfl))
theorem s_75_0 {a : Nat} : wp V (cdT Ev) mx d 75 0 [some (.ref a), l1, l2, l3, l4, l5, l6] st h Q = wp V (cdT Ev) mx d 75 1 [some (.ref a), l1, l2, l3, l4, l5, l6] (.ref a :: st) h Q := x_aload (len := 1) rfl rfl
theorem s_75_0_n : wp V (cdT Ev) mx d 75 0 [some .null, l1, l2, l3, l4, l5, l6] st h Q = wp V (cdT Ev) mx d 75 1 [some .null, l1, l2, l3, l4, l5, l6] (.null :: st) h Q := x_aloadN (len := 1) rfl rfl
theorem s_75_1 {a : Nat} : wp V (cdT Ev) mx d 75 1 ls (.ref a :: st) h Q = gf [11] 0 h a (fun v => wp V (cdT Ev) mx d 75 4 ls (v :: st) h Q) := x_getf rfl
theorem s_75_4 {x : Int32} : wp V (cdT Ev) mx d 75 4 [l0, some (.int x), l2, l3, l4, l5, l6] st h Q = wp V (cdT Ev) mx d 75 5 [l0, some (.int x), l2, l3, l4, l5, l6] (.int x :: st) h Q := x_iload (len := 1) rfl rfl
theorem s_75_5 {b : Nat} {v0 : Value} (hst : st.length ≤ 4) : wp V (cdT Ev) mx d 75 5 ls (v0 :: .ref b :: st) h Q = cv [(10, 51)] h b (fun y' => WP V (cdT Ev) mx d y' [.ref b, v0] h (fun r h' => wp V (cdT Ev) mx d 75 8 ls (rts r st) h' Q)) := x_cv (sg := [v0]) rfl hst rfl rfl
theorem s_75_8 {a : Nat} (hn : nl l3 = true) : wp V (cdT Ev) mx d 75 8 [l0, l1, l2, l3, l4, l5, l6] (.ref a :: st) h Q = wp V (cdT Ev) mx d 75 10 [l0, l1, l2, l3, some (.ref a), l5, l6] st h Q := x_astore (len := 2) rfl (Nat.le_of_ble_eq_true rfl) (okp_nl rfl hn) rfl
theorem s_75_8_n (hn : nl l3 = true) : wp V (cdT Ev) mx d 75 8 [l0, l1, l2, l3, l4, l5, l6] (.null :: st) h Q = wp V (cdT Ev) mx d 75 10 [l0, l1, l2, l3, some .null, l5, l6] st h Q := x_astoreN (len := 2) rfl (Nat.le_of_ble_eq_true rfl) (okp_nl rfl hn) rfl
theorem s_75_10 {a : Nat} : wp V (cdT Ev) mx d 75 10 [l0, l1, l2, l3, some (.ref a), l5, l6] st h Q = wp V (cdT Ev) mx d 75 12 [l0, l1, l2, l3, some (.ref a), l5, l6] (.ref a :: st) h Q := x_aload (len := 2) rfl rfl
theorem s_75_10_n : wp V (cdT Ev) mx d 75 10 [l0, l1, l2, l3, some .null, l5, l6] st h Q = wp V (cdT Ev) mx d 75 12 [l0, l1, l2, l3, some .null, l5, l6] (.null :: st) h Q := x_aloadN (len := 2) rfl rfl
theorem s_75_12 {a : Nat} : wp V (cdT Ev) mx d 75 12 ls (.ref a :: st) h Q = wp V (cdT Ev) mx d 75 15 ls st h Q := x_ifnull rfl
theorem s_75_12_n : wp V (cdT Ev) mx d 75 12 ls (.null :: st) h Q = wp V (cdT Ev) mx d 75 24 ls st h Q := x_ifnullN rfl
theorem s_75_15 {x : Int32} : wp V (cdT Ev) mx d 75 15 [l0, l1, some (.int x), l3, l4, l5, l6] st h Q = wp V (cdT Ev) mx d 75 16 [l0, l1, some (.int x), l3, l4, l5, l6] (.int x :: st) h Q := x_iload (len := 1) rfl rfl
theorem s_75_16 {x : Int32} : wp V (cdT Ev) mx d 75 16 ls (.int x :: st) h Q = (if x < 0 then wp V (cdT Ev) mx d 75 24 ls st h Q else wp V (cdT Ev) mx d 75 19 ls st h Q) := x_if1 (c := fun x => x < 0) rfl
theorem s_75_19 {x : Int32} : wp V (cdT Ev) mx d 75 19 [l0, l1, some (.int x), l3, l4, l5, l6] st h Q = wp V (cdT Ev) mx d 75 20 [l0, l1, some (.int x), l3, l4, l5, l6] (.int x :: st) h Q := x_iload (len := 1) rfl rfl
theorem s_75_20 : wp V (cdT Ev) mx d 75 20 ls st h Q = wp V (cdT Ev) mx d 75 21 ls ((.int (4)) :: st) h Q := x_push (v := (.int (4))) (len := 1) rfl
theorem s_75_21 {x z : Int32} : wp V (cdT Ev) mx d 75 21 ls (.int z :: .int x :: st) h Q = (if x < z then wp V (cdT Ev) mx d 75 26 ls st h Q else wp V (cdT Ev) mx d 75 24 ls st h Q) := x_if2 (c := fun x z => x < z) rfl
theorem s_75_24 : wp V (cdT Ev) mx d 75 24 ls st h Q = wp V (cdT Ev) mx d 75 25 ls ((.int (-1)) :: st) h Q := x_push (v := (.int (-1))) (len := 1) rfl
theorem s_75_25 {x : Int32} : wp V (cdT Ev) mx d 75 25 ls [.int x] h Q = Q (some (.int x)) h := x_ret rfl rfl
theorem s_75_26 {x : Int32} : wp V (cdT Ev) mx d 75 26 [l0, l1, l2, some (.int x), l4, l5, l6] st h Q = wp V (cdT Ev) mx d 75 27 [l0, l1, l2, some (.int x), l4, l5, l6] (.int x :: st) h Q := x_iload (len := 1) rfl rfl
theorem s_75_27 {x : Int32} : wp V (cdT Ev) mx d 75 27 ls (.int x :: st) h Q = (if x < 0 then wp V (cdT Ev) mx d 75 36 ls st h Q else wp V (cdT Ev) mx d 75 30 ls st h Q) := x_if1 (c := fun x => x < 0) rfl
theorem s_75_30 {x : Int32} : wp V (cdT Ev) mx d 75 30 [l0, l1, l2, some (.int x), l4, l5, l6] st h Q = wp V (cdT Ev) mx d 75 31 [l0, l1, l2, some (.int x), l4, l5, l6] (.int x :: st) h Q := x_iload (len := 1) rfl rfl
theorem s_75_31 : wp V (cdT Ev) mx d 75 31 ls st h Q = wp V (cdT Ev) mx d 75 33 ls ((.int (9)) :: st) h Q := x_push (v := (.int (9))) (len := 2) rfl
theorem s_75_33 {x z : Int32} : wp V (cdT Ev) mx d 75 33 ls (.int z :: .int x :: st) h Q = (if x ≤ z then wp V (cdT Ev) mx d 75 39 ls st h Q else wp V (cdT Ev) mx d 75 36 ls st h Q) := x_if2 (c := fun x z => x ≤ z) rfl
theorem s_75_36 : wp V (cdT Ev) mx d 75 36 ls st h Q = wp V (cdT Ev) mx d 75 38 ls ((.int (-2)) :: st) h Q := x_push (v := (.int (-2))) (len := 2) rfl
theorem s_75_38 {x : Int32} : wp V (cdT Ev) mx d 75 38 ls [.int x] h Q = Q (some (.int x)) h := x_ret rfl rfl
theorem s_75_39 {a : Nat} : wp V (cdT Ev) mx d 75 39 [l0, l1, l2, l3, some (.ref a), l5, l6] st h Q = wp V (cdT Ev) mx d 75 41 [l0, l1, l2, l3, some (.ref a), l5, l6] (.ref a :: st) h Q := x_aload (len := 2) rfl rfl
theorem s_75_39_n : wp V (cdT Ev) mx d 75 39 [l0, l1, l2, l3, some .null, l5, l6] st h Q = wp V (cdT Ev) mx d 75 41 [l0, l1, l2, l3, some .null, l5, l6] (.null :: st) h Q := x_aloadN (len := 2) rfl rfl
theorem s_75_41 {a : Nat} : wp V (cdT Ev) mx d 75 41 ls (.ref a :: st) h Q = io [8] [1, 2, 3, 4, 5, 6] h a (fun x => wp V (cdT Ev) mx d 75 44 ls (.int x :: st) h Q) := x_inst rfl
theorem s_75_41_n : wp V (cdT Ev) mx d 75 41 ls (.null :: st) h Q = wp V (cdT Ev) mx d 75 44 ls (.int 0 :: st) h Q := x_instN rfl
theorem s_75_44 {x : Int32} : wp V (cdT Ev) mx d 75 44 ls (.int x :: st) h Q = (if x = 0 then wp V (cdT Ev) mx d 75 74 ls st h Q else wp V (cdT Ev) mx d 75 47 ls st h Q) := x_if1 (c := fun x => x = 0) rfl
theorem s_75_47 {a : Nat} : wp V (cdT Ev) mx d 75 47 [l0, l1, l2, l3, some (.ref a), l5, l6] st h Q = wp V (cdT Ev) mx d 75 49 [l0, l1, l2, l3, some (.ref a), l5, l6] (.ref a :: st) h Q := x_aload (len := 2) rfl rfl
theorem s_75_47_n : wp V (cdT Ev) mx d 75 47 [l0, l1, l2, l3, some .null, l5, l6] st h Q = wp V (cdT Ev) mx d 75 49 [l0, l1, l2, l3, some .null, l5, l6] (.null :: st) h Q := x_aloadN (len := 2) rfl rfl
theorem s_75_49 {a : Nat} : wp V (cdT Ev) mx d 75 49 ls (.ref a :: st) h Q = co [8] h a (wp V (cdT Ev) mx d 75 52 ls (.ref a :: st) h Q) := x_cast rfl
theorem s_75_52 {a : Nat} (hn : nl l4 = true) : wp V (cdT Ev) mx d 75 52 [l0, l1, l2, l3, l4, l5, l6] (.ref a :: st) h Q = wp V (cdT Ev) mx d 75 54 [l0, l1, l2, l3, l4, some (.ref a), l6] st h Q := x_astore (len := 2) rfl (Nat.le_of_ble_eq_true rfl) (okp_nl rfl hn) rfl
theorem s_75_52_n (hn : nl l4 = true) : wp V (cdT Ev) mx d 75 52 [l0, l1, l2, l3, l4, l5, l6] (.null :: st) h Q = wp V (cdT Ev) mx d 75 54 [l0, l1, l2, l3, l4, some .null, l6] st h Q := x_astoreN (len := 2) rfl (Nat.le_of_ble_eq_true rfl) (okp_nl rfl hn) rfl
theorem s_75_54 {a : Nat} : wp V (cdT Ev) mx d 75 54 [l0, l1, l2, l3, l4, some (.ref a), l6] st h Q = wp V (cdT Ev) mx d 75 56 [l0, l1, l2, l3, l4, some (.ref a), l6] (.ref a :: st) h Q := x_aload (len := 2) rfl rfl
theorem s_75_54_n : wp V (cdT Ev) mx d 75 54 [l0, l1, l2, l3, l4, some .null, l6] st h Q = wp V (cdT Ev) mx d 75 56 [l0, l1, l2, l3, l4, some .null, l6] (.null :: st) h Q := x_aloadN (len := 2) rfl rfl
theorem s_75_56 {a : Nat} : wp V (cdT Ev) mx d 75 56 ls (.ref a :: st) h Q = gf [8] 6 h a (fun v => wp V (cdT Ev) mx d 75 59 ls (v :: st) h Q) := x_getf rfl
theorem s_75_59 {x : Int32} : wp V (cdT Ev) mx d 75 59 [l0, l1, some (.int x), l3, l4, l5, l6] st h Q = wp V (cdT Ev) mx d 75 60 [l0, l1, some (.int x), l3, l4, l5, l6] (.int x :: st) h Q := x_iload (len := 1) rfl rfl
theorem s_75_60 {i : Int32} {a : Nat} : wp V (cdT Ev) mx d 75 60 ls (.int i :: .ref a :: st) h Q = ai 2 i V h a (fun x => wp V (cdT Ev) mx d 75 61 ls (.int x :: st) h Q) := x_iald rfl
theorem s_75_61 {x : Int32} (hn : nl l5 = true) : wp V (cdT Ev) mx d 75 61 [l0, l1, l2, l3, l4, l5, l6] (.int x :: st) h Q = wp V (cdT Ev) mx d 75 63 [l0, l1, l2, l3, l4, l5, some (.int x)] st h Q := x_istore (len := 2) rfl (Nat.le_of_ble_eq_true rfl) (okp_nl rfl hn) rfl
theorem s_75_63 {a : Nat} : wp V (cdT Ev) mx d 75 63 [l0, l1, l2, l3, l4, some (.ref a), l6] st h Q = wp V (cdT Ev) mx d 75 65 [l0, l1, l2, l3, l4, some (.ref a), l6] (.ref a :: st) h Q := x_aload (len := 2) rfl rfl
theorem s_75_63_n : wp V (cdT Ev) mx d 75 63 [l0, l1, l2, l3, l4, some .null, l6] st h Q = wp V (cdT Ev) mx d 75 65 [l0, l1, l2, l3, l4, some .null, l6] (.null :: st) h Q := x_aloadN (len := 2) rfl rfl
theorem s_75_65 {a : Nat} : wp V (cdT Ev) mx d 75 65 ls (.ref a :: st) h Q = gf [8] 6 h a (fun v => wp V (cdT Ev) mx d 75 68 ls (v :: st) h Q) := x_getf rfl
theorem s_75_68 {x : Int32} : wp V (cdT Ev) mx d 75 68 [l0, l1, some (.int x), l3, l4, l5, l6] st h Q = wp V (cdT Ev) mx d 75 69 [l0, l1, some (.int x), l3, l4, l5, l6] (.int x :: st) h Q := x_iload (len := 1) rfl rfl
theorem s_75_69 {x : Int32} : wp V (cdT Ev) mx d 75 69 [l0, l1, l2, some (.int x), l4, l5, l6] st h Q = wp V (cdT Ev) mx d 75 70 [l0, l1, l2, some (.int x), l4, l5, l6] (.int x :: st) h Q := x_iload (len := 1) rfl rfl
theorem s_75_70 {x i : Int32} {a : Nat} : wp V (cdT Ev) mx d 75 70 ls (.int x :: .int i :: .ref a :: st) h Q = si 2 i (x) h a (fun hh => wp V (cdT Ev) mx d 75 71 ls st hh Q) := x_iast (nw := fun x => x) rfl
theorem s_75_71 {x : Int32} : wp V (cdT Ev) mx d 75 71 [l0, l1, l2, l3, l4, l5, some (.int x)] st h Q = wp V (cdT Ev) mx d 75 73 [l0, l1, l2, l3, l4, l5, some (.int x)] (.int x :: st) h Q := x_iload (len := 2) rfl rfl
theorem s_75_73 {x : Int32} : wp V (cdT Ev) mx d 75 73 ls [.int x] h Q = Q (some (.int x)) h := x_ret rfl rfl
theorem s_75_74 : wp V (cdT Ev) mx d 75 74 ls st h Q = wp V (cdT Ev) mx d 75 76 ls ((.int (-3)) :: st) h Q := x_push (v := (.int (-3))) (len := 2) rfl
theorem s_75_76 {x : Int32} : wp V (cdT Ev) mx d 75 76 ls [.int x] h Q = Q (some (.int x)) h := x_ret rfl rfl
theorem e_75 {a : Nat} {p0 : Int32} {p1 : Int32} {p2 : Int32} : WP V (cdT Ev) mx (d + 1) 75 [.ref a, .int p0, .int p1, .int p2] h Q = wp V (cdT Ev) mx d 75 0 [some (.ref a), some (.int p0), some (.int p1), some (.int p2), none, none, none] [] h Q := propext (WP_eq (Nat.le_of_ble_eq_true rfl))
theorem s_76_0 {x : Int32} : wp V (cdT Ev) mx d 76 0 [l0, some (.int x)] st h Q = wp V (cdT Ev) mx d 76 1 [l0, some (.int x)] (.int x :: st) h Q := x_iload (len := 1) rfl rfl
theorem s_76_1 {x : Int32} : wp V (cdT Ev) mx d 76 1 ls (.int x :: st) h Q = (if x < 0 then wp V (cdT Ev) mx d 76 10 ls st h Q else wp V (cdT Ev) mx d 76 4 ls st h Q) := x_if1 (c := fun x => x < 0) rfl
theorem s_76_4 {x : Int32} : wp V (cdT Ev) mx d 76 4 [l0, some (.int x)] st h Q = wp V (cdT Ev) mx d 76 5 [l0, some (.int x)] (.int x :: st) h Q := x_iload (len := 1) rfl rfl
theorem s_76_5 : wp V (cdT Ev) mx d 76 5 ls st h Q = wp V (cdT Ev) mx d 76 7 ls ((.int (127)) :: st) h Q := x_push (v := (.int (127))) (len := 2) rfl
theorem s_76_7 {x z : Int32} : wp V (cdT Ev) mx d 76 7 ls (.int z :: .int x :: st) h Q = (if x ≤ z then wp V (cdT Ev) mx d 76 13 ls st h Q else wp V (cdT Ev) mx d 76 10 ls st h Q) := x_if2 (c := fun x z => x ≤ z) rfl
theorem s_76_10 : wp V (cdT Ev) mx d 76 10 ls st h Q = wp V (cdT Ev) mx d 76 12 ls ((.int (-2)) :: st) h Q := x_push (v := (.int (-2))) (len := 2) rfl
theorem s_76_12 {x : Int32} : wp V (cdT Ev) mx d 76 12 ls [.int x] h Q = Q (some (.int x)) h := x_ret rfl rfl
theorem s_76_13 {a : Nat} : wp V (cdT Ev) mx d 76 13 [some (.ref a), l1] st h Q = wp V (cdT Ev) mx d 76 14 [some (.ref a), l1] (.ref a :: st) h Q := x_aload (len := 1) rfl rfl
theorem s_76_13_n : wp V (cdT Ev) mx d 76 13 [some .null, l1] st h Q = wp V (cdT Ev) mx d 76 14 [some .null, l1] (.null :: st) h Q := x_aloadN (len := 1) rfl rfl
theorem s_76_14 {a : Nat} : wp V (cdT Ev) mx d 76 14 ls (.ref a :: st) h Q = gf [11] 4 h a (fun v => wp V (cdT Ev) mx d 76 17 ls (v :: st) h Q) := x_getf rfl
theorem s_76_17 {a : Nat} : wp V (cdT Ev) mx d 76 17 ls (.ref a :: st) h Q = gf [0] 1 h a (fun v => wp V (cdT Ev) mx d 76 20 ls (v :: st) h Q) := x_getf rfl
theorem s_76_20 : wp V (cdT Ev) mx d 76 20 ls st h Q = wp V (cdT Ev) mx d 76 22 ls ((.int (100)) :: st) h Q := x_push (v := (.int (100))) (len := 2) rfl
theorem s_76_22 {x z : Int32} : wp V (cdT Ev) mx d 76 22 ls (.int z :: .int x :: st) h Q = (if x < z then wp V (cdT Ev) mx d 76 28 ls st h Q else wp V (cdT Ev) mx d 76 25 ls st h Q) := x_if2 (c := fun x z => x < z) rfl
theorem s_76_25 : wp V (cdT Ev) mx d 76 25 ls st h Q = wp V (cdT Ev) mx d 76 27 ls ((.int (-4)) :: st) h Q := x_push (v := (.int (-4))) (len := 2) rfl
theorem s_76_27 {x : Int32} : wp V (cdT Ev) mx d 76 27 ls [.int x] h Q = Q (some (.int x)) h := x_ret rfl rfl
theorem s_76_28 {a : Nat} : wp V (cdT Ev) mx d 76 28 [some (.ref a), l1] st h Q = wp V (cdT Ev) mx d 76 29 [some (.ref a), l1] (.ref a :: st) h Q := x_aload (len := 1) rfl rfl
theorem s_76_28_n : wp V (cdT Ev) mx d 76 28 [some .null, l1] st h Q = wp V (cdT Ev) mx d 76 29 [some .null, l1] (.null :: st) h Q := x_aloadN (len := 1) rfl rfl
theorem s_76_29 {a : Nat} : wp V (cdT Ev) mx d 76 29 ls (.ref a :: st) h Q = gf [11] 4 h a (fun v => wp V (cdT Ev) mx d 76 32 ls (v :: st) h Q) := x_getf rfl
theorem s_76_32 {a : Nat} : wp V (cdT Ev) mx d 76 32 ls (.ref a :: st) h Q = gf [0] 0 h a (fun v => wp V (cdT Ev) mx d 76 35 ls (v :: st) h Q) := x_getf rfl
theorem s_76_35 {a : Nat} : wp V (cdT Ev) mx d 76 35 [some (.ref a), l1] st h Q = wp V (cdT Ev) mx d 76 36 [some (.ref a), l1] (.ref a :: st) h Q := x_aload (len := 1) rfl rfl
theorem s_76_35_n : wp V (cdT Ev) mx d 76 35 [some .null, l1] st h Q = wp V (cdT Ev) mx d 76 36 [some .null, l1] (.null :: st) h Q := x_aloadN (len := 1) rfl rfl
theorem s_76_36 {a : Nat} : wp V (cdT Ev) mx d 76 36 ls (.ref a :: st) h Q = gf [11] 4 h a (fun v => wp V (cdT Ev) mx d 76 39 ls (v :: st) h Q) := x_getf rfl
theorem s_76_39 {a : Nat} : wp V (cdT Ev) mx d 76 39 ls (.ref a :: st) h Q = gf [0] 1 h a (fun v => wp V (cdT Ev) mx d 76 42 ls (v :: st) h Q) := x_getf rfl
theorem s_76_42 {x : Int32} : wp V (cdT Ev) mx d 76 42 [l0, some (.int x)] st h Q = wp V (cdT Ev) mx d 76 43 [l0, some (.int x)] (.int x :: st) h Q := x_iload (len := 1) rfl rfl
theorem s_76_43 {x : Int32} : wp V (cdT Ev) mx d 76 43 ls (.int x :: st) h Q = wp V (cdT Ev) mx d 76 44 ls (.int (x.toInt8.toInt32) :: st) h Q := x_iu (f := fun x => x.toInt8.toInt32) rfl
theorem s_76_44 {x i : Int32} {a : Nat} : wp V (cdT Ev) mx d 76 44 ls (.int x :: .int i :: .ref a :: st) h Q = si 0 i (vp_nar .byte x) h a (fun hh => wp V (cdT Ev) mx d 76 45 ls st hh Q) := x_iast (nw := fun x => vp_nar .byte x) rfl
theorem s_76_45 {a : Nat} : wp V (cdT Ev) mx d 76 45 [some (.ref a), l1] st h Q = wp V (cdT Ev) mx d 76 46 [some (.ref a), l1] (.ref a :: st) h Q := x_aload (len := 1) rfl rfl
theorem s_76_45_n : wp V (cdT Ev) mx d 76 45 [some .null, l1] st h Q = wp V (cdT Ev) mx d 76 46 [some .null, l1] (.null :: st) h Q := x_aloadN (len := 1) rfl rfl
theorem s_76_46 {a : Nat} : wp V (cdT Ev) mx d 76 46 ls (.ref a :: st) h Q = gf [11] 4 h a (fun v => wp V (cdT Ev) mx d 76 49 ls (v :: st) h Q) := x_getf rfl
theorem s_76_49 {a : Nat} : wp V (cdT Ev) mx d 76 49 ls (.ref a :: st) h Q = wp V (cdT Ev) mx d 76 50 ls (.ref a :: .ref a :: st) h Q := x_dup rfl rfl
theorem s_76_49_i {x : Int32} : wp V (cdT Ev) mx d 76 49 ls (.int x :: st) h Q = wp V (cdT Ev) mx d 76 50 ls (.int x :: .int x :: st) h Q := x_dup rfl rfl
theorem s_76_50 {a : Nat} : wp V (cdT Ev) mx d 76 50 ls (.ref a :: st) h Q = gf [0] 1 h a (fun v => wp V (cdT Ev) mx d 76 53 ls (v :: st) h Q) := x_getf rfl
theorem s_76_53 : wp V (cdT Ev) mx d 76 53 ls st h Q = wp V (cdT Ev) mx d 76 54 ls ((.int (1)) :: st) h Q := x_push (v := (.int (1))) (len := 1) rfl
theorem s_76_54 {x z : Int32} : wp V (cdT Ev) mx d 76 54 ls (.int z :: .int x :: st) h Q = wp V (cdT Ev) mx d 76 55 ls (.int (x + z) :: st) h Q := x_ib (f := fun x z => x + z) rfl
theorem s_76_55 {w : Value} {a : Nat} : wp V (cdT Ev) mx d 76 55 ls (w :: .ref a :: st) h Q = pf [0] 1 0 w h a (fun hh => wp V (cdT Ev) mx d 76 58 ls st hh Q) := x_putf rfl
theorem s_76_58 {a : Nat} : wp V (cdT Ev) mx d 76 58 [some (.ref a), l1] st h Q = wp V (cdT Ev) mx d 76 59 [some (.ref a), l1] (.ref a :: st) h Q := x_aload (len := 1) rfl rfl
theorem s_76_58_n : wp V (cdT Ev) mx d 76 58 [some .null, l1] st h Q = wp V (cdT Ev) mx d 76 59 [some .null, l1] (.null :: st) h Q := x_aloadN (len := 1) rfl rfl
theorem s_76_59 {a : Nat} : wp V (cdT Ev) mx d 76 59 ls (.ref a :: st) h Q = gf [11] 4 h a (fun v => wp V (cdT Ev) mx d 76 62 ls (v :: st) h Q) := x_getf rfl
theorem s_76_62 {a : Nat} : wp V (cdT Ev) mx d 76 62 ls (.ref a :: st) h Q = gf [0] 1 h a (fun v => wp V (cdT Ev) mx d 76 65 ls (v :: st) h Q) := x_getf rfl
theorem s_76_65 {x : Int32} : wp V (cdT Ev) mx d 76 65 ls [.int x] h Q = Q (some (.int x)) h := x_ret rfl rfl
theorem e_76 {a : Nat} {p0 : Int32} : WP V (cdT Ev) mx (d + 1) 76 [.ref a, .int p0] h Q = wp V (cdT Ev) mx d 76 0 [some (.ref a), some (.int p0)] [] h Q := propext (WP_eq (Nat.le_of_ble_eq_true rfl))
theorem s_77_0 {a : Nat} : wp V (cdT Ev) mx d 77 0 [some (.ref a), l1] st h Q = wp V (cdT Ev) mx d 77 1 [some (.ref a), l1] (.ref a :: st) h Q := x_aload (len := 1) rfl rfl
theorem s_77_0_n : wp V (cdT Ev) mx d 77 0 [some .null, l1] st h Q = wp V (cdT Ev) mx d 77 1 [some .null, l1] (.null :: st) h Q := x_aloadN (len := 1) rfl rfl
theorem s_77_1 {a : Nat} : wp V (cdT Ev) mx d 77 1 ls (.ref a :: st) h Q = gf [11] 5 h a (fun v => wp V (cdT Ev) mx d 77 4 ls (v :: st) h Q) := x_getf rfl
theorem s_77_4 : wp V (cdT Ev) mx d 77 4 ls st h Q = wp V (cdT Ev) mx d 77 6 ls ((.int (6)) :: st) h Q := x_push (v := (.int (6))) (len := 2) rfl
theorem s_77_6 {x z : Int32} : wp V (cdT Ev) mx d 77 6 ls (.int z :: .int x :: st) h Q = (if x < z then wp V (cdT Ev) mx d 77 12 ls st h Q else wp V (cdT Ev) mx d 77 9 ls st h Q) := x_if2 (c := fun x z => x < z) rfl
theorem s_77_9 : wp V (cdT Ev) mx d 77 9 ls st h Q = wp V (cdT Ev) mx d 77 11 ls ((.int (-4)) :: st) h Q := x_push (v := (.int (-4))) (len := 2) rfl
theorem s_77_11 {x : Int32} : wp V (cdT Ev) mx d 77 11 ls [.int x] h Q = Q (some (.int x)) h := x_ret rfl rfl
theorem s_77_12 {a : Nat} : wp V (cdT Ev) mx d 77 12 [some (.ref a), l1] st h Q = wp V (cdT Ev) mx d 77 13 [some (.ref a), l1] (.ref a :: st) h Q := x_aload (len := 1) rfl rfl
theorem s_77_12_n : wp V (cdT Ev) mx d 77 12 [some .null, l1] st h Q = wp V (cdT Ev) mx d 77 13 [some .null, l1] (.null :: st) h Q := x_aloadN (len := 1) rfl rfl
theorem s_77_13 {a : Nat} : wp V (cdT Ev) mx d 77 13 ls (.ref a :: st) h Q = gf [11] 4 h a (fun v => wp V (cdT Ev) mx d 77 16 ls (v :: st) h Q) := x_getf rfl
theorem s_77_16 {b : Nat} (hst : st.length ≤ 4) : wp V (cdT Ev) mx d 77 16 ls (.ref b :: st) h Q = cv [(0, 2)] h b (fun y' => WP V (cdT Ev) mx d y' [.ref b] h (fun r h' => wp V (cdT Ev) mx d 77 19 ls (rts r st) h' Q)) := x_cv (sg := []) rfl hst rfl rfl
theorem s_77_19 {x : Int32} (hn : nl l0 = true) : wp V (cdT Ev) mx d 77 19 [l0, l1] (.int x :: st) h Q = wp V (cdT Ev) mx d 77 20 [l0, some (.int x)] st h Q := x_istore (len := 1) rfl (Nat.le_of_ble_eq_true rfl) (okp_nl rfl hn) rfl
theorem s_77_20 {x : Int32} : wp V (cdT Ev) mx d 77 20 [l0, some (.int x)] st h Q = wp V (cdT Ev) mx d 77 21 [l0, some (.int x)] (.int x :: st) h Q := x_iload (len := 1) rfl rfl
theorem s_77_21 {x : Int32} : wp V (cdT Ev) mx d 77 21 ls (.int x :: st) h Q = (if x < 0 then wp V (cdT Ev) mx d 77 37 ls st h Q else wp V (cdT Ev) mx d 77 24 ls st h Q) := x_if1 (c := fun x => x < 0) rfl
theorem s_77_24 {a : Nat} : wp V (cdT Ev) mx d 77 24 [some (.ref a), l1] st h Q = wp V (cdT Ev) mx d 77 25 [some (.ref a), l1] (.ref a :: st) h Q := x_aload (len := 1) rfl rfl
theorem s_77_24_n : wp V (cdT Ev) mx d 77 24 [some .null, l1] st h Q = wp V (cdT Ev) mx d 77 25 [some .null, l1] (.null :: st) h Q := x_aloadN (len := 1) rfl rfl
theorem s_77_25 {a : Nat} : wp V (cdT Ev) mx d 77 25 ls (.ref a :: st) h Q = gf [11] 4 h a (fun v => wp V (cdT Ev) mx d 77 28 ls (v :: st) h Q) := x_getf rfl
theorem s_77_28 : wp V (cdT Ev) mx d 77 28 ls st h Q = wp V (cdT Ev) mx d 77 29 ls ((.int (0)) :: st) h Q := x_push (v := (.int (0))) (len := 1) rfl
theorem s_77_29 {w : Value} {a : Nat} : wp V (cdT Ev) mx d 77 29 ls (w :: .ref a :: st) h Q = pf [0] 1 0 w h a (fun hh => wp V (cdT Ev) mx d 77 32 ls st hh Q) := x_putf rfl
theorem s_77_32 : wp V (cdT Ev) mx d 77 32 ls st h Q = wp V (cdT Ev) mx d 77 34 ls ((.int (-10)) :: st) h Q := x_push (v := (.int (-10))) (len := 2) rfl
theorem s_77_34 {x : Int32} : wp V (cdT Ev) mx d 77 34 [l0, some (.int x)] st h Q = wp V (cdT Ev) mx d 77 35 [l0, some (.int x)] (.int x :: st) h Q := x_iload (len := 1) rfl rfl
theorem s_77_35 {x z : Int32} : wp V (cdT Ev) mx d 77 35 ls (.int z :: .int x :: st) h Q = wp V (cdT Ev) mx d 77 36 ls (.int (x - z) :: st) h Q := x_ib (f := fun x z => x - z) rfl
theorem s_77_36 {x : Int32} : wp V (cdT Ev) mx d 77 36 ls [.int x] h Q = Q (some (.int x)) h := x_ret rfl rfl
theorem s_77_37 {a : Nat} : wp V (cdT Ev) mx d 77 37 [some (.ref a), l1] st h Q = wp V (cdT Ev) mx d 77 38 [some (.ref a), l1] (.ref a :: st) h Q := x_aload (len := 1) rfl rfl
theorem s_77_37_n : wp V (cdT Ev) mx d 77 37 [some .null, l1] st h Q = wp V (cdT Ev) mx d 77 38 [some .null, l1] (.null :: st) h Q := x_aloadN (len := 1) rfl rfl
theorem s_77_38 {a : Nat} : wp V (cdT Ev) mx d 77 38 ls (.ref a :: st) h Q = gf [11] 0 h a (fun v => wp V (cdT Ev) mx d 77 41 ls (v :: st) h Q) := x_getf rfl
theorem s_77_41 {a : Nat} : wp V (cdT Ev) mx d 77 41 [some (.ref a), l1] st h Q = wp V (cdT Ev) mx d 77 42 [some (.ref a), l1] (.ref a :: st) h Q := x_aload (len := 1) rfl rfl
theorem s_77_41_n : wp V (cdT Ev) mx d 77 41 [some .null, l1] st h Q = wp V (cdT Ev) mx d 77 42 [some .null, l1] (.null :: st) h Q := x_aloadN (len := 1) rfl rfl
theorem s_77_42 {a : Nat} : wp V (cdT Ev) mx d 77 42 ls (.ref a :: st) h Q = gf [11] 4 h a (fun v => wp V (cdT Ev) mx d 77 45 ls (v :: st) h Q) := x_getf rfl
theorem s_77_45 {w : Value} {a : Nat} : wp V (cdT Ev) mx d 77 45 ls (w :: .ref a :: st) h Q = pf [10] 9 2 w h a (fun hh => wp V (cdT Ev) mx d 77 48 ls st hh Q) := x_putf rfl
theorem s_77_48 {a : Nat} : wp V (cdT Ev) mx d 77 48 [some (.ref a), l1] st h Q = wp V (cdT Ev) mx d 77 49 [some (.ref a), l1] (.ref a :: st) h Q := x_aload (len := 1) rfl rfl
theorem s_77_48_n : wp V (cdT Ev) mx d 77 48 [some .null, l1] st h Q = wp V (cdT Ev) mx d 77 49 [some .null, l1] (.null :: st) h Q := x_aloadN (len := 1) rfl rfl
theorem s_77_49 : wp V (cdT Ev) mx d 77 49 ls st h Q = wp V (cdT Ev) mx d 77 52 ls (.ref h.2.1 :: st) (hnew h (.inr (0, [.null, .int 0, .int 0, .null, .int 0, .null, .null, .int 0, .int 0])) 9) Q := x_new rfl
theorem s_77_52 {a : Nat} : wp V (cdT Ev) mx d 77 52 ls (.ref a :: st) h Q = wp V (cdT Ev) mx d 77 53 ls (.ref a :: .ref a :: st) h Q := x_dup rfl rfl
theorem s_77_52_i {x : Int32} : wp V (cdT Ev) mx d 77 52 ls (.int x :: st) h Q = wp V (cdT Ev) mx d 77 53 ls (.int x :: .int x :: st) h Q := x_dup rfl rfl
theorem s_77_53 {b : Nat} (hst : st.length ≤ 4) : wp V (cdT Ev) mx d 77 53 ls (.ref b :: st) h Q = WP V (cdT Ev) mx d 1 [.ref b] h (fun r h' => wp V (cdT Ev) mx d 77 56 ls (rts r st) h' Q) := x_ci (sg := []) rfl hst rfl rfl
theorem s_77_56 {w : Value} {a : Nat} : wp V (cdT Ev) mx d 77 56 ls (w :: .ref a :: st) h Q = pf [11] 4 2 w h a (fun hh => wp V (cdT Ev) mx d 77 59 ls st hh Q) := x_putf rfl
theorem s_77_59 {a : Nat} : wp V (cdT Ev) mx d 77 59 [some (.ref a), l1] st h Q = wp V (cdT Ev) mx d 77 60 [some (.ref a), l1] (.ref a :: st) h Q := x_aload (len := 1) rfl rfl
theorem s_77_59_n : wp V (cdT Ev) mx d 77 59 [some .null, l1] st h Q = wp V (cdT Ev) mx d 77 60 [some .null, l1] (.null :: st) h Q := x_aloadN (len := 1) rfl rfl
theorem s_77_60 {a : Nat} : wp V (cdT Ev) mx d 77 60 ls (.ref a :: st) h Q = wp V (cdT Ev) mx d 77 61 ls (.ref a :: .ref a :: st) h Q := x_dup rfl rfl
theorem s_77_60_i {x : Int32} : wp V (cdT Ev) mx d 77 60 ls (.int x :: st) h Q = wp V (cdT Ev) mx d 77 61 ls (.int x :: .int x :: st) h Q := x_dup rfl rfl
theorem s_77_61 {a : Nat} : wp V (cdT Ev) mx d 77 61 ls (.ref a :: st) h Q = gf [11] 5 h a (fun v => wp V (cdT Ev) mx d 77 64 ls (v :: st) h Q) := x_getf rfl
theorem s_77_64 : wp V (cdT Ev) mx d 77 64 ls st h Q = wp V (cdT Ev) mx d 77 65 ls ((.int (1)) :: st) h Q := x_push (v := (.int (1))) (len := 1) rfl
theorem s_77_65 {x z : Int32} : wp V (cdT Ev) mx d 77 65 ls (.int z :: .int x :: st) h Q = wp V (cdT Ev) mx d 77 66 ls (.int (x + z) :: st) h Q := x_ib (f := fun x z => x + z) rfl
theorem s_77_66 {w : Value} {a : Nat} : wp V (cdT Ev) mx d 77 66 ls (w :: .ref a :: st) h Q = pf [11] 5 0 w h a (fun hh => wp V (cdT Ev) mx d 77 69 ls st hh Q) := x_putf rfl
theorem s_77_69 {a : Nat} : wp V (cdT Ev) mx d 77 69 [some (.ref a), l1] st h Q = wp V (cdT Ev) mx d 77 70 [some (.ref a), l1] (.ref a :: st) h Q := x_aload (len := 1) rfl rfl
theorem s_77_69_n : wp V (cdT Ev) mx d 77 69 [some .null, l1] st h Q = wp V (cdT Ev) mx d 77 70 [some .null, l1] (.null :: st) h Q := x_aloadN (len := 1) rfl rfl
theorem s_77_70 {a : Nat} : wp V (cdT Ev) mx d 77 70 ls (.ref a :: st) h Q = gf [11] 5 h a (fun v => wp V (cdT Ev) mx d 77 73 ls (v :: st) h Q) := x_getf rfl
theorem s_77_73 : wp V (cdT Ev) mx d 77 73 ls st h Q = wp V (cdT Ev) mx d 77 74 ls ((.int (1)) :: st) h Q := x_push (v := (.int (1))) (len := 1) rfl
theorem s_77_74 {x z : Int32} : wp V (cdT Ev) mx d 77 74 ls (.int z :: .int x :: st) h Q = wp V (cdT Ev) mx d 77 75 ls (.int (x - z) :: st) h Q := x_ib (f := fun x z => x - z) rfl
theorem s_77_75 {x : Int32} : wp V (cdT Ev) mx d 77 75 ls [.int x] h Q = Q (some (.int x)) h := x_ret rfl rfl
theorem e_77 {a : Nat} : WP V (cdT Ev) mx (d + 1) 77 [.ref a] h Q = wp V (cdT Ev) mx d 77 0 [some (.ref a), none] [] h Q := propext (WP_eq (Nat.le_of_ble_eq_true rfl))
theorem s_78_0 {x : Int32} : wp V (cdT Ev) mx d 78 0 [l0, some (.int x)] st h Q = wp V (cdT Ev) mx d 78 1 [l0, some (.int x)] (.int x :: st) h Q := x_iload (len := 1) rfl rfl
theorem s_78_1 {x : Int32} : wp V (cdT Ev) mx d 78 1 ls (.int x :: st) h Q = (if x = 0 then wp V (cdT Ev) mx d 78 36 ls st h Q else (if x = 1 then wp V (cdT Ev) mx d 78 44 ls st h Q else (if x = 2 then wp V (cdT Ev) mx d 78 52 ls st h Q else (if x = 3 then wp V (cdT Ev) mx d 78 60 ls st h Q else (if x = 4 then wp V (cdT Ev) mx d 78 68 ls st h Q else wp V (cdT Ev) mx d 78 76 ls st h Q))))) := x_sw (t := 76) (l := [(0, 36), (1, 44), (2, 52), (3, 60), (4, 68)]) rfl
theorem s_78_36 {a : Nat} : wp V (cdT Ev) mx d 78 36 [some (.ref a), l1] st h Q = wp V (cdT Ev) mx d 78 37 [some (.ref a), l1] (.ref a :: st) h Q := x_aload (len := 1) rfl rfl
theorem s_78_36_n : wp V (cdT Ev) mx d 78 36 [some .null, l1] st h Q = wp V (cdT Ev) mx d 78 37 [some .null, l1] (.null :: st) h Q := x_aloadN (len := 1) rfl rfl
theorem s_78_37 {a : Nat} : wp V (cdT Ev) mx d 78 37 ls (.ref a :: st) h Q = gf [11] 0 h a (fun v => wp V (cdT Ev) mx d 78 40 ls (v :: st) h Q) := x_getf rfl
theorem s_78_40 {a : Nat} : wp V (cdT Ev) mx d 78 40 ls (.ref a :: st) h Q = gf [10] 5 h a (fun v => wp V (cdT Ev) mx d 78 43 ls (v :: st) h Q) := x_getf rfl
theorem s_78_43 {x : Int32} : wp V (cdT Ev) mx d 78 43 ls [.int x] h Q = Q (some (.int x)) h := x_ret rfl rfl
theorem s_78_44 {a : Nat} : wp V (cdT Ev) mx d 78 44 [some (.ref a), l1] st h Q = wp V (cdT Ev) mx d 78 45 [some (.ref a), l1] (.ref a :: st) h Q := x_aload (len := 1) rfl rfl
theorem s_78_44_n : wp V (cdT Ev) mx d 78 44 [some .null, l1] st h Q = wp V (cdT Ev) mx d 78 45 [some .null, l1] (.null :: st) h Q := x_aloadN (len := 1) rfl rfl
theorem s_78_45 {a : Nat} : wp V (cdT Ev) mx d 78 45 ls (.ref a :: st) h Q = gf [11] 0 h a (fun v => wp V (cdT Ev) mx d 78 48 ls (v :: st) h Q) := x_getf rfl
theorem s_78_48 {b : Nat} (hst : st.length ≤ 4) : wp V (cdT Ev) mx d 78 48 ls (.ref b :: st) h Q = cv [(10, 52)] h b (fun y' => WP V (cdT Ev) mx d y' [.ref b] h (fun r h' => wp V (cdT Ev) mx d 78 51 ls (rts r st) h' Q)) := x_cv (sg := []) rfl hst rfl rfl
theorem s_78_51 {x : Int32} : wp V (cdT Ev) mx d 78 51 ls [.int x] h Q = Q (some (.int x)) h := x_ret rfl rfl
theorem s_78_52 {a : Nat} : wp V (cdT Ev) mx d 78 52 [some (.ref a), l1] st h Q = wp V (cdT Ev) mx d 78 53 [some (.ref a), l1] (.ref a :: st) h Q := x_aload (len := 1) rfl rfl
theorem s_78_52_n : wp V (cdT Ev) mx d 78 52 [some .null, l1] st h Q = wp V (cdT Ev) mx d 78 53 [some .null, l1] (.null :: st) h Q := x_aloadN (len := 1) rfl rfl
theorem s_78_53 {a : Nat} : wp V (cdT Ev) mx d 78 53 ls (.ref a :: st) h Q = gf [11] 0 h a (fun v => wp V (cdT Ev) mx d 78 56 ls (v :: st) h Q) := x_getf rfl
theorem s_78_56 {a : Nat} : wp V (cdT Ev) mx d 78 56 ls (.ref a :: st) h Q = gf [10] 3 h a (fun v => wp V (cdT Ev) mx d 78 59 ls (v :: st) h Q) := x_getf rfl
theorem s_78_59 {x : Int32} : wp V (cdT Ev) mx d 78 59 ls [.int x] h Q = Q (some (.int x)) h := x_ret rfl rfl
theorem s_78_60 {a : Nat} : wp V (cdT Ev) mx d 78 60 [some (.ref a), l1] st h Q = wp V (cdT Ev) mx d 78 61 [some (.ref a), l1] (.ref a :: st) h Q := x_aload (len := 1) rfl rfl
theorem s_78_60_n : wp V (cdT Ev) mx d 78 60 [some .null, l1] st h Q = wp V (cdT Ev) mx d 78 61 [some .null, l1] (.null :: st) h Q := x_aloadN (len := 1) rfl rfl
theorem s_78_61 {a : Nat} : wp V (cdT Ev) mx d 78 61 ls (.ref a :: st) h Q = gf [11] 0 h a (fun v => wp V (cdT Ev) mx d 78 64 ls (v :: st) h Q) := x_getf rfl
theorem s_78_64 {a : Nat} : wp V (cdT Ev) mx d 78 64 ls (.ref a :: st) h Q = gf [10] 4 h a (fun v => wp V (cdT Ev) mx d 78 67 ls (v :: st) h Q) := x_getf rfl
theorem s_78_67 {x : Int32} : wp V (cdT Ev) mx d 78 67 ls [.int x] h Q = Q (some (.int x)) h := x_ret rfl rfl
theorem s_78_68 {a : Nat} : wp V (cdT Ev) mx d 78 68 [some (.ref a), l1] st h Q = wp V (cdT Ev) mx d 78 69 [some (.ref a), l1] (.ref a :: st) h Q := x_aload (len := 1) rfl rfl
theorem s_78_68_n : wp V (cdT Ev) mx d 78 68 [some .null, l1] st h Q = wp V (cdT Ev) mx d 78 69 [some .null, l1] (.null :: st) h Q := x_aloadN (len := 1) rfl rfl
theorem s_78_69 {a : Nat} : wp V (cdT Ev) mx d 78 69 ls (.ref a :: st) h Q = gf [11] 0 h a (fun v => wp V (cdT Ev) mx d 78 72 ls (v :: st) h Q) := x_getf rfl
theorem s_78_72 {b : Nat} (hst : st.length ≤ 4) : wp V (cdT Ev) mx d 78 72 ls (.ref b :: st) h Q = cv [(10, 53)] h b (fun y' => WP V (cdT Ev) mx d y' [.ref b] h (fun r h' => wp V (cdT Ev) mx d 78 75 ls (rts r st) h' Q)) := x_cv (sg := []) rfl hst rfl rfl
theorem s_78_75 {x : Int32} : wp V (cdT Ev) mx d 78 75 ls [.int x] h Q = Q (some (.int x)) h := x_ret rfl rfl
theorem s_78_76 {x : Int32} : wp V (cdT Ev) mx d 78 76 [l0, some (.int x)] st h Q = wp V (cdT Ev) mx d 78 77 [l0, some (.int x)] (.int x :: st) h Q := x_iload (len := 1) rfl rfl
theorem s_78_77 : wp V (cdT Ev) mx d 78 77 ls st h Q = wp V (cdT Ev) mx d 78 79 ls ((.int (10)) :: st) h Q := x_push (v := (.int (10))) (len := 2) rfl
theorem s_78_79 {x z : Int32} : wp V (cdT Ev) mx d 78 79 ls (.int z :: .int x :: st) h Q = (if x < z then wp V (cdT Ev) mx d 78 101 ls st h Q else wp V (cdT Ev) mx d 78 82 ls st h Q) := x_if2 (c := fun x z => x < z) rfl
theorem s_78_82 {x : Int32} : wp V (cdT Ev) mx d 78 82 [l0, some (.int x)] st h Q = wp V (cdT Ev) mx d 78 83 [l0, some (.int x)] (.int x :: st) h Q := x_iload (len := 1) rfl rfl
theorem s_78_83 : wp V (cdT Ev) mx d 78 83 ls st h Q = wp V (cdT Ev) mx d 78 85 ls ((.int (22)) :: st) h Q := x_push (v := (.int (22))) (len := 2) rfl
theorem s_78_85 {x z : Int32} : wp V (cdT Ev) mx d 78 85 ls (.int z :: .int x :: st) h Q = (if z ≤ x then wp V (cdT Ev) mx d 78 101 ls st h Q else wp V (cdT Ev) mx d 78 88 ls st h Q) := x_if2 (c := fun x z => z ≤ x) rfl
theorem s_78_88 {a : Nat} : wp V (cdT Ev) mx d 78 88 [some (.ref a), l1] st h Q = wp V (cdT Ev) mx d 78 89 [some (.ref a), l1] (.ref a :: st) h Q := x_aload (len := 1) rfl rfl
theorem s_78_88_n : wp V (cdT Ev) mx d 78 88 [some .null, l1] st h Q = wp V (cdT Ev) mx d 78 89 [some .null, l1] (.null :: st) h Q := x_aloadN (len := 1) rfl rfl
theorem s_78_89 {a : Nat} : wp V (cdT Ev) mx d 78 89 ls (.ref a :: st) h Q = gf [11] 0 h a (fun v => wp V (cdT Ev) mx d 78 92 ls (v :: st) h Q) := x_getf rfl
theorem s_78_92 {a : Nat} : wp V (cdT Ev) mx d 78 92 ls (.ref a :: st) h Q = gf [10] 0 h a (fun v => wp V (cdT Ev) mx d 78 95 ls (v :: st) h Q) := x_getf rfl
theorem s_78_95 {x : Int32} : wp V (cdT Ev) mx d 78 95 [l0, some (.int x)] st h Q = wp V (cdT Ev) mx d 78 96 [l0, some (.int x)] (.int x :: st) h Q := x_iload (len := 1) rfl rfl
theorem s_78_96 : wp V (cdT Ev) mx d 78 96 ls st h Q = wp V (cdT Ev) mx d 78 98 ls ((.int (10)) :: st) h Q := x_push (v := (.int (10))) (len := 2) rfl
theorem s_78_98 {x z : Int32} : wp V (cdT Ev) mx d 78 98 ls (.int z :: .int x :: st) h Q = wp V (cdT Ev) mx d 78 99 ls (.int (x - z) :: st) h Q := x_ib (f := fun x z => x - z) rfl
theorem s_78_99 {i : Int32} {a : Nat} : wp V (cdT Ev) mx d 78 99 ls (.int i :: .ref a :: st) h Q = ai 2 i V h a (fun x => wp V (cdT Ev) mx d 78 100 ls (.int x :: st) h Q) := x_iald rfl
theorem s_78_100 {x : Int32} : wp V (cdT Ev) mx d 78 100 ls [.int x] h Q = Q (some (.int x)) h := x_ret rfl rfl
theorem s_78_101 {x : Int32} : wp V (cdT Ev) mx d 78 101 [l0, some (.int x)] st h Q = wp V (cdT Ev) mx d 78 102 [l0, some (.int x)] (.int x :: st) h Q := x_iload (len := 1) rfl rfl
theorem s_78_102 : wp V (cdT Ev) mx d 78 102 ls st h Q = wp V (cdT Ev) mx d 78 104 ls ((.int (30)) :: st) h Q := x_push (v := (.int (30))) (len := 2) rfl
theorem s_78_104 {x z : Int32} : wp V (cdT Ev) mx d 78 104 ls (.int z :: .int x :: st) h Q = (if x < z then wp V (cdT Ev) mx d 78 122 ls st h Q else wp V (cdT Ev) mx d 78 107 ls st h Q) := x_if2 (c := fun x z => x < z) rfl
theorem s_78_107 {x : Int32} : wp V (cdT Ev) mx d 78 107 [l0, some (.int x)] st h Q = wp V (cdT Ev) mx d 78 108 [l0, some (.int x)] (.int x :: st) h Q := x_iload (len := 1) rfl rfl
theorem s_78_108 : wp V (cdT Ev) mx d 78 108 ls st h Q = wp V (cdT Ev) mx d 78 110 ls ((.int (42)) :: st) h Q := x_push (v := (.int (42))) (len := 2) rfl
theorem s_78_110 {x z : Int32} : wp V (cdT Ev) mx d 78 110 ls (.int z :: .int x :: st) h Q = (if z ≤ x then wp V (cdT Ev) mx d 78 122 ls st h Q else wp V (cdT Ev) mx d 78 113 ls st h Q) := x_if2 (c := fun x z => z ≤ x) rfl
theorem s_78_113 {a : Nat} : wp V (cdT Ev) mx d 78 113 [some (.ref a), l1] st h Q = wp V (cdT Ev) mx d 78 114 [some (.ref a), l1] (.ref a :: st) h Q := x_aload (len := 1) rfl rfl
theorem s_78_113_n : wp V (cdT Ev) mx d 78 113 [some .null, l1] st h Q = wp V (cdT Ev) mx d 78 114 [some .null, l1] (.null :: st) h Q := x_aloadN (len := 1) rfl rfl
theorem s_78_114 {x : Int32} : wp V (cdT Ev) mx d 78 114 [l0, some (.int x)] st h Q = wp V (cdT Ev) mx d 78 115 [l0, some (.int x)] (.int x :: st) h Q := x_iload (len := 1) rfl rfl
theorem s_78_115 : wp V (cdT Ev) mx d 78 115 ls st h Q = wp V (cdT Ev) mx d 78 117 ls ((.int (30)) :: st) h Q := x_push (v := (.int (30))) (len := 2) rfl
theorem s_78_117 {x z : Int32} : wp V (cdT Ev) mx d 78 117 ls (.int z :: .int x :: st) h Q = wp V (cdT Ev) mx d 78 118 ls (.int (x - z) :: st) h Q := x_ib (f := fun x z => x - z) rfl
theorem s_78_118 {b : Nat} {v0 : Value} (hst : st.length ≤ 4) : wp V (cdT Ev) mx d 78 118 ls (v0 :: .ref b :: st) h Q = cv [(11, 118)] h b (fun y' => WP V (cdT Ev) mx d y' [.ref b, v0] h (fun r h' => wp V (cdT Ev) mx d 78 121 ls (rts r st) h' Q)) := x_cv (sg := [v0]) rfl hst rfl rfl
theorem s_78_121 {x : Int32} : wp V (cdT Ev) mx d 78 121 ls [.int x] h Q = Q (some (.int x)) h := x_ret rfl rfl
theorem s_78_122 {x : Int32} : wp V (cdT Ev) mx d 78 122 [l0, some (.int x)] st h Q = wp V (cdT Ev) mx d 78 123 [l0, some (.int x)] (.int x :: st) h Q := x_iload (len := 1) rfl rfl
theorem s_78_123 : wp V (cdT Ev) mx d 78 123 ls st h Q = wp V (cdT Ev) mx d 78 125 ls ((.int (50)) :: st) h Q := x_push (v := (.int (50))) (len := 2) rfl
theorem s_78_125 {x z : Int32} : wp V (cdT Ev) mx d 78 125 ls (.int z :: .int x :: st) h Q = (if x < z then wp V (cdT Ev) mx d 78 143 ls st h Q else wp V (cdT Ev) mx d 78 128 ls st h Q) := x_if2 (c := fun x z => x < z) rfl
theorem s_78_128 {x : Int32} : wp V (cdT Ev) mx d 78 128 [l0, some (.int x)] st h Q = wp V (cdT Ev) mx d 78 129 [l0, some (.int x)] (.int x :: st) h Q := x_iload (len := 1) rfl rfl
theorem s_78_129 : wp V (cdT Ev) mx d 78 129 ls st h Q = wp V (cdT Ev) mx d 78 131 ls ((.int (62)) :: st) h Q := x_push (v := (.int (62))) (len := 2) rfl
theorem s_78_131 {x z : Int32} : wp V (cdT Ev) mx d 78 131 ls (.int z :: .int x :: st) h Q = (if z ≤ x then wp V (cdT Ev) mx d 78 143 ls st h Q else wp V (cdT Ev) mx d 78 134 ls st h Q) := x_if2 (c := fun x z => z ≤ x) rfl
theorem s_78_134 {a : Nat} : wp V (cdT Ev) mx d 78 134 [some (.ref a), l1] st h Q = wp V (cdT Ev) mx d 78 135 [some (.ref a), l1] (.ref a :: st) h Q := x_aload (len := 1) rfl rfl
theorem s_78_134_n : wp V (cdT Ev) mx d 78 134 [some .null, l1] st h Q = wp V (cdT Ev) mx d 78 135 [some .null, l1] (.null :: st) h Q := x_aloadN (len := 1) rfl rfl
theorem s_78_135 {x : Int32} : wp V (cdT Ev) mx d 78 135 [l0, some (.int x)] st h Q = wp V (cdT Ev) mx d 78 136 [l0, some (.int x)] (.int x :: st) h Q := x_iload (len := 1) rfl rfl
theorem s_78_136 : wp V (cdT Ev) mx d 78 136 ls st h Q = wp V (cdT Ev) mx d 78 138 ls ((.int (50)) :: st) h Q := x_push (v := (.int (50))) (len := 2) rfl
theorem s_78_138 {x z : Int32} : wp V (cdT Ev) mx d 78 138 ls (.int z :: .int x :: st) h Q = wp V (cdT Ev) mx d 78 139 ls (.int (x - z) :: st) h Q := x_ib (f := fun x z => x - z) rfl
theorem s_78_139 {b : Nat} {v0 : Value} (hst : st.length ≤ 4) : wp V (cdT Ev) mx d 78 139 ls (v0 :: .ref b :: st) h Q = cv [(11, 119)] h b (fun y' => WP V (cdT Ev) mx d y' [.ref b, v0] h (fun r h' => wp V (cdT Ev) mx d 78 142 ls (rts r st) h' Q)) := x_cv (sg := [v0]) rfl hst rfl rfl
theorem s_78_142 {x : Int32} : wp V (cdT Ev) mx d 78 142 ls [.int x] h Q = Q (some (.int x)) h := x_ret rfl rfl
theorem s_78_143 : wp V (cdT Ev) mx d 78 143 ls st h Q = wp V (cdT Ev) mx d 78 144 ls ((.int (-1)) :: st) h Q := x_push (v := (.int (-1))) (len := 1) rfl
theorem s_78_144 {x : Int32} : wp V (cdT Ev) mx d 78 144 ls [.int x] h Q = Q (some (.int x)) h := x_ret rfl rfl
theorem e_78 {a : Nat} {p0 : Int32} : WP V (cdT Ev) mx (d + 1) 78 [.ref a, .int p0] h Q = wp V (cdT Ev) mx d 78 0 [some (.ref a), some (.int p0)] [] h Q := propext (WP_eq (Nat.le_of_ble_eq_true rfl))
theorem s_79_0 {x : Int32} : wp V (cdT Ev) mx d 79 0 [l0, some (.int x)] st h Q = wp V (cdT Ev) mx d 79 1 [l0, some (.int x)] (.int x :: st) h Q := x_iload (len := 1) rfl rfl
theorem s_79_1 {v0 : Value} (hst : st.length ≤ 4) : wp V (cdT Ev) mx d 79 1 ls (v0 :: st) h Q = WP V (cdT Ev) mx d 104 [v0] h (fun r h' => wp V (cdT Ev) mx d 79 4 ls (rts r st) h' Q) := x_cs (sg := [v0]) rfl hst rfl rfl
theorem s_79_4 {x : Int32} : wp V (cdT Ev) mx d 79 4 ls (.int x :: st) h Q = (if ¬ x = 0 then wp V (cdT Ev) mx d 79 10 ls st h Q else wp V (cdT Ev) mx d 79 7 ls st h Q) := x_if1 (c := fun x => ¬ x = 0) rfl
theorem s_79_7 : wp V (cdT Ev) mx d 79 7 ls st h Q = wp V (cdT Ev) mx d 79 9 ls ((.int (-2)) :: st) h Q := x_push (v := (.int (-2))) (len := 2) rfl
theorem s_79_9 {x : Int32} : wp V (cdT Ev) mx d 79 9 ls [.int x] h Q = Q (some (.int x)) h := x_ret rfl rfl
theorem s_79_10 {a : Nat} : wp V (cdT Ev) mx d 79 10 [some (.ref a), l1] st h Q = wp V (cdT Ev) mx d 79 11 [some (.ref a), l1] (.ref a :: st) h Q := x_aload (len := 1) rfl rfl
theorem s_79_10_n : wp V (cdT Ev) mx d 79 10 [some .null, l1] st h Q = wp V (cdT Ev) mx d 79 11 [some .null, l1] (.null :: st) h Q := x_aloadN (len := 1) rfl rfl
theorem s_79_11 {a : Nat} : wp V (cdT Ev) mx d 79 11 ls (.ref a :: st) h Q = gf [11] 0 h a (fun v => wp V (cdT Ev) mx d 79 14 ls (v :: st) h Q) := x_getf rfl
theorem s_79_14 {a : Nat} : wp V (cdT Ev) mx d 79 14 ls (.ref a :: st) h Q = gf [10] 5 h a (fun v => wp V (cdT Ev) mx d 79 17 ls (v :: st) h Q) := x_getf rfl
theorem s_79_17 {x : Int32} : wp V (cdT Ev) mx d 79 17 [l0, some (.int x)] st h Q = wp V (cdT Ev) mx d 79 18 [l0, some (.int x)] (.int x :: st) h Q := x_iload (len := 1) rfl rfl
theorem s_79_18 {x z : Int32} : wp V (cdT Ev) mx d 79 18 ls (.int z :: .int x :: st) h Q = wp V (cdT Ev) mx d 79 19 ls (.int (x + z) :: st) h Q := x_ib (f := fun x z => x + z) rfl
theorem s_79_19 : wp V (cdT Ev) mx d 79 19 ls st h Q = wp V (cdT Ev) mx d 79 22 ls ((.int (9999)) :: st) h Q := x_push (v := (.int (9999))) (len := 3) rfl
theorem s_79_22 {x z : Int32} : wp V (cdT Ev) mx d 79 22 ls (.int z :: .int x :: st) h Q = (if x ≤ z then wp V (cdT Ev) mx d 79 28 ls st h Q else wp V (cdT Ev) mx d 79 25 ls st h Q) := x_if2 (c := fun x z => x ≤ z) rfl
theorem s_79_25 : wp V (cdT Ev) mx d 79 25 ls st h Q = wp V (cdT Ev) mx d 79 27 ls ((.int (-3)) :: st) h Q := x_push (v := (.int (-3))) (len := 2) rfl
theorem s_79_27 {x : Int32} : wp V (cdT Ev) mx d 79 27 ls [.int x] h Q = Q (some (.int x)) h := x_ret rfl rfl
theorem s_79_28 {a : Nat} : wp V (cdT Ev) mx d 79 28 [some (.ref a), l1] st h Q = wp V (cdT Ev) mx d 79 29 [some (.ref a), l1] (.ref a :: st) h Q := x_aload (len := 1) rfl rfl
theorem s_79_28_n : wp V (cdT Ev) mx d 79 28 [some .null, l1] st h Q = wp V (cdT Ev) mx d 79 29 [some .null, l1] (.null :: st) h Q := x_aloadN (len := 1) rfl rfl
theorem s_79_29 {a : Nat} : wp V (cdT Ev) mx d 79 29 ls (.ref a :: st) h Q = gf [11] 0 h a (fun v => wp V (cdT Ev) mx d 79 32 ls (v :: st) h Q) := x_getf rfl
theorem s_79_32 {x : Int32} : wp V (cdT Ev) mx d 79 32 [l0, some (.int x)] st h Q = wp V (cdT Ev) mx d 79 33 [l0, some (.int x)] (.int x :: st) h Q := x_iload (len := 1) rfl rfl
theorem s_79_33 : wp V (cdT Ev) mx d 79 33 ls st h Q = wp V (cdT Ev) mx d 79 36 ls ((.int (9999)) :: st) h Q := x_push (v := (.int (9999))) (len := 3) rfl
theorem s_79_36 {b : Nat} {v0 v1 : Value} (hst : st.length ≤ 4) : wp V (cdT Ev) mx d 79 36 ls (v1 :: v0 :: .ref b :: st) h Q = cv [(10, 59)] h b (fun y' => WP V (cdT Ev) mx d y' [.ref b, v0, v1] h (fun r h' => wp V (cdT Ev) mx d 79 39 ls (rts r st) h' Q)) := x_cv (sg := [v1, v0]) rfl hst rfl rfl
theorem s_79_39 {a : Nat} : wp V (cdT Ev) mx d 79 39 [some (.ref a), l1] st h Q = wp V (cdT Ev) mx d 79 40 [some (.ref a), l1] (.ref a :: st) h Q := x_aload (len := 1) rfl rfl
theorem s_79_39_n : wp V (cdT Ev) mx d 79 39 [some .null, l1] st h Q = wp V (cdT Ev) mx d 79 40 [some .null, l1] (.null :: st) h Q := x_aloadN (len := 1) rfl rfl
theorem s_79_40 {a : Nat} : wp V (cdT Ev) mx d 79 40 ls (.ref a :: st) h Q = gf [11] 0 h a (fun v => wp V (cdT Ev) mx d 79 43 ls (v :: st) h Q) := x_getf rfl
theorem s_79_43 {a : Nat} : wp V (cdT Ev) mx d 79 43 ls (.ref a :: st) h Q = gf [10] 5 h a (fun v => wp V (cdT Ev) mx d 79 46 ls (v :: st) h Q) := x_getf rfl
theorem s_79_46 {x : Int32} : wp V (cdT Ev) mx d 79 46 ls [.int x] h Q = Q (some (.int x)) h := x_ret rfl rfl
theorem e_79 {a : Nat} {p0 : Int32} : WP V (cdT Ev) mx (d + 1) 79 [.ref a, .int p0] h Q = wp V (cdT Ev) mx d 79 0 [some (.ref a), some (.int p0)] [] h Q := propext (WP_eq (Nat.le_of_ble_eq_true rfl))
theorem s_80_0 {a : Nat} : wp V (cdT Ev) mx d 80 0 [some (.ref a), l1, l2, l3, l4] st h Q = wp V (cdT Ev) mx d 80 1 [some (.ref a), l1, l2, l3, l4] (.ref a :: st) h Q := x_aload (len := 1) rfl rfl
theorem s_80_0_n : wp V (cdT Ev) mx d 80 0 [some .null, l1, l2, l3, l4] st h Q = wp V (cdT Ev) mx d 80 1 [some .null, l1, l2, l3, l4] (.null :: st) h Q := x_aloadN (len := 1) rfl rfl
theorem s_80_1 {a : Nat} : wp V (cdT Ev) mx d 80 1 ls (.ref a :: st) h Q = gf [11] 0 h a (fun v => wp V (cdT Ev) mx d 80 4 ls (v :: st) h Q) := x_getf rfl
theorem s_80_4 {x : Int32} : wp V (cdT Ev) mx d 80 4 [l0, l1, some (.int x), l3, l4] st h Q = wp V (cdT Ev) mx d 80 5 [l0, l1, some (.int x), l3, l4] (.int x :: st) h Q := x_iload (len := 1) rfl rfl
theorem s_80_5 : wp V (cdT Ev) mx d 80 5 ls st h Q = wp V (cdT Ev) mx d 80 7 ls ((.int (10)) :: st) h Q := x_push (v := (.int (10))) (len := 2) rfl
theorem s_80_7 {x z : Int32} : wp V (cdT Ev) mx d 80 7 ls (.int z :: .int x :: st) h Q = wp V (cdT Ev) mx d 80 8 ls (.int (x - z) :: st) h Q := x_ib (f := fun x z => x - z) rfl
theorem s_80_8 {b : Nat} {v0 : Value} (hst : st.length ≤ 4) : wp V (cdT Ev) mx d 80 8 ls (v0 :: .ref b :: st) h Q = cv [(10, 51)] h b (fun y' => WP V (cdT Ev) mx d y' [.ref b, v0] h (fun r h' => wp V (cdT Ev) mx d 80 11 ls (rts r st) h' Q)) := x_cv (sg := [v0]) rfl hst rfl rfl
theorem s_80_11 {a : Nat} (hn : nl l2 = true) : wp V (cdT Ev) mx d 80 11 [l0, l1, l2, l3, l4] (.ref a :: st) h Q = wp V (cdT Ev) mx d 80 12 [l0, l1, l2, some (.ref a), l4] st h Q := x_astore (len := 1) rfl (Nat.le_of_ble_eq_true rfl) (okp_nl rfl hn) rfl
theorem s_80_11_n (hn : nl l2 = true) : wp V (cdT Ev) mx d 80 11 [l0, l1, l2, l3, l4] (.null :: st) h Q = wp V (cdT Ev) mx d 80 12 [l0, l1, l2, some .null, l4] st h Q := x_astoreN (len := 1) rfl (Nat.le_of_ble_eq_true rfl) (okp_nl rfl hn) rfl
theorem s_80_12 {x : Int32} : wp V (cdT Ev) mx d 80 12 [l0, l1, some (.int x), l3, l4] st h Q = wp V (cdT Ev) mx d 80 13 [l0, l1, some (.int x), l3, l4] (.int x :: st) h Q := x_iload (len := 1) rfl rfl
theorem s_80_13 {x : Int32} : wp V (cdT Ev) mx d 80 13 ls (.int x :: st) h Q = (if x < 0 then wp V (cdT Ev) mx d 80 21 ls st h Q else wp V (cdT Ev) mx d 80 16 ls st h Q) := x_if1 (c := fun x => x < 0) rfl
theorem s_80_16 {x : Int32} : wp V (cdT Ev) mx d 80 16 [l0, l1, some (.int x), l3, l4] st h Q = wp V (cdT Ev) mx d 80 17 [l0, l1, some (.int x), l3, l4] (.int x :: st) h Q := x_iload (len := 1) rfl rfl
theorem s_80_17 : wp V (cdT Ev) mx d 80 17 ls st h Q = wp V (cdT Ev) mx d 80 18 ls ((.int (2)) :: st) h Q := x_push (v := (.int (2))) (len := 1) rfl
theorem s_80_18 {x z : Int32} : wp V (cdT Ev) mx d 80 18 ls (.int z :: .int x :: st) h Q = (if x ≤ z then wp V (cdT Ev) mx d 80 27 ls st h Q else wp V (cdT Ev) mx d 80 21 ls st h Q) := x_if2 (c := fun x z => x ≤ z) rfl
theorem s_80_21 {a : Nat} : wp V (cdT Ev) mx d 80 21 [l0, l1, l2, some (.ref a), l4] st h Q = wp V (cdT Ev) mx d 80 22 [l0, l1, l2, some (.ref a), l4] (.ref a :: st) h Q := x_aload (len := 1) rfl rfl
theorem s_80_21_n : wp V (cdT Ev) mx d 80 21 [l0, l1, l2, some .null, l4] st h Q = wp V (cdT Ev) mx d 80 22 [l0, l1, l2, some .null, l4] (.null :: st) h Q := x_aloadN (len := 1) rfl rfl
theorem s_80_22 {a : Nat} : wp V (cdT Ev) mx d 80 22 ls (.ref a :: st) h Q = wp V (cdT Ev) mx d 80 27 ls st h Q := x_ifnonnull rfl
theorem s_80_22_n : wp V (cdT Ev) mx d 80 22 ls (.null :: st) h Q = wp V (cdT Ev) mx d 80 25 ls st h Q := x_ifnonnullN rfl
theorem s_80_25 : wp V (cdT Ev) mx d 80 25 ls st h Q = wp V (cdT Ev) mx d 80 26 ls ((.int (-1)) :: st) h Q := x_push (v := (.int (-1))) (len := 1) rfl
theorem s_80_26 {x : Int32} : wp V (cdT Ev) mx d 80 26 ls [.int x] h Q = Q (some (.int x)) h := x_ret rfl rfl
theorem s_80_27 {x : Int32} : wp V (cdT Ev) mx d 80 27 [l0, some (.int x), l2, l3, l4] st h Q = wp V (cdT Ev) mx d 80 28 [l0, some (.int x), l2, l3, l4] (.int x :: st) h Q := x_iload (len := 1) rfl rfl
theorem s_80_28 {v0 : Value} (hst : st.length ≤ 4) : wp V (cdT Ev) mx d 80 28 ls (v0 :: st) h Q = WP V (cdT Ev) mx d 104 [v0] h (fun r h' => wp V (cdT Ev) mx d 80 31 ls (rts r st) h' Q) := x_cs (sg := [v0]) rfl hst rfl rfl
theorem s_80_31 {x : Int32} : wp V (cdT Ev) mx d 80 31 ls (.int x :: st) h Q = (if ¬ x = 0 then wp V (cdT Ev) mx d 80 37 ls st h Q else wp V (cdT Ev) mx d 80 34 ls st h Q) := x_if1 (c := fun x => ¬ x = 0) rfl
theorem s_80_34 : wp V (cdT Ev) mx d 80 34 ls st h Q = wp V (cdT Ev) mx d 80 36 ls ((.int (-2)) :: st) h Q := x_push (v := (.int (-2))) (len := 2) rfl
theorem s_80_36 {x : Int32} : wp V (cdT Ev) mx d 80 36 ls [.int x] h Q = Q (some (.int x)) h := x_ret rfl rfl
theorem s_80_37 {a : Nat} : wp V (cdT Ev) mx d 80 37 [some (.ref a), l1, l2, l3, l4] st h Q = wp V (cdT Ev) mx d 80 38 [some (.ref a), l1, l2, l3, l4] (.ref a :: st) h Q := x_aload (len := 1) rfl rfl
theorem s_80_37_n : wp V (cdT Ev) mx d 80 37 [some .null, l1, l2, l3, l4] st h Q = wp V (cdT Ev) mx d 80 38 [some .null, l1, l2, l3, l4] (.null :: st) h Q := x_aloadN (len := 1) rfl rfl
theorem s_80_38 {a : Nat} : wp V (cdT Ev) mx d 80 38 ls (.ref a :: st) h Q = gf [11] 1 h a (fun v => wp V (cdT Ev) mx d 80 41 ls (v :: st) h Q) := x_getf rfl
theorem s_80_41 {a : Nat} : wp V (cdT Ev) mx d 80 41 [some (.ref a), l1, l2, l3, l4] st h Q = wp V (cdT Ev) mx d 80 42 [some (.ref a), l1, l2, l3, l4] (.ref a :: st) h Q := x_aload (len := 1) rfl rfl
theorem s_80_41_n : wp V (cdT Ev) mx d 80 41 [some .null, l1, l2, l3, l4] st h Q = wp V (cdT Ev) mx d 80 42 [some .null, l1, l2, l3, l4] (.null :: st) h Q := x_aloadN (len := 1) rfl rfl
theorem s_80_42 {a : Nat} : wp V (cdT Ev) mx d 80 42 ls (.ref a :: st) h Q = gf [11] 0 h a (fun v => wp V (cdT Ev) mx d 80 45 ls (v :: st) h Q) := x_getf rfl
theorem s_80_45 {b : Nat} {v0 : Value} (hst : st.length ≤ 4) : wp V (cdT Ev) mx d 80 45 ls (v0 :: .ref b :: st) h Q = cv [(10, 49)] h b (fun y' => WP V (cdT Ev) mx d y' [.ref b, v0] h (fun r h' => wp V (cdT Ev) mx d 80 48 ls (rts r st) h' Q)) := x_cv (sg := [v0]) rfl hst rfl rfl
theorem s_80_48 {a : Nat} : wp V (cdT Ev) mx d 80 48 [some (.ref a), l1, l2, l3, l4] st h Q = wp V (cdT Ev) mx d 80 49 [some (.ref a), l1, l2, l3, l4] (.ref a :: st) h Q := x_aload (len := 1) rfl rfl
theorem s_80_48_n : wp V (cdT Ev) mx d 80 48 [some .null, l1, l2, l3, l4] st h Q = wp V (cdT Ev) mx d 80 49 [some .null, l1, l2, l3, l4] (.null :: st) h Q := x_aloadN (len := 1) rfl rfl
theorem s_80_49 {a : Nat} : wp V (cdT Ev) mx d 80 49 ls (.ref a :: st) h Q = gf [11] 1 h a (fun v => wp V (cdT Ev) mx d 80 52 ls (v :: st) h Q) := x_getf rfl
theorem s_80_52 {x : Int32} : wp V (cdT Ev) mx d 80 52 [l0, some (.int x), l2, l3, l4] st h Q = wp V (cdT Ev) mx d 80 53 [l0, some (.int x), l2, l3, l4] (.int x :: st) h Q := x_iload (len := 1) rfl rfl
theorem s_80_53 : wp V (cdT Ev) mx d 80 53 ls st h Q = wp V (cdT Ev) mx d 80 55 ls ((.int (2147483647)) :: st) h Q := x_push (v := (.int (2147483647))) (len := 2) rfl
theorem s_80_55 {b : Nat} {v0 v1 : Value} (hst : st.length ≤ 4) : wp V (cdT Ev) mx d 80 55 ls (v1 :: v0 :: .ref b :: st) h Q = cv [(10, 59)] h b (fun y' => WP V (cdT Ev) mx d y' [.ref b, v0, v1] h (fun r h' => wp V (cdT Ev) mx d 80 58 ls (rts r st) h' Q)) := x_cv (sg := [v1, v0]) rfl hst rfl rfl
theorem s_80_58 {x : Int32} : wp V (cdT Ev) mx d 80 58 [l0, l1, some (.int x), l3, l4] st h Q = wp V (cdT Ev) mx d 80 59 [l0, l1, some (.int x), l3, l4] (.int x :: st) h Q := x_iload (len := 1) rfl rfl
theorem s_80_59 {x : Int32} : wp V (cdT Ev) mx d 80 59 ls (.int x :: st) h Q = (if x = 0 then wp V (cdT Ev) mx d 80 84 ls st h Q else (if x = 1 then wp V (cdT Ev) mx d 80 92 ls st h Q else (if x = 2 then wp V (cdT Ev) mx d 80 100 ls st h Q else wp V (cdT Ev) mx d 80 108 ls st h Q))) := x_sw (t := 108) (l := [(0, 84), (1, 92), (2, 100)]) rfl
theorem s_80_84 {a : Nat} : wp V (cdT Ev) mx d 80 84 [some (.ref a), l1, l2, l3, l4] st h Q = wp V (cdT Ev) mx d 80 85 [some (.ref a), l1, l2, l3, l4] (.ref a :: st) h Q := x_aload (len := 1) rfl rfl
theorem s_80_84_n : wp V (cdT Ev) mx d 80 84 [some .null, l1, l2, l3, l4] st h Q = wp V (cdT Ev) mx d 80 85 [some .null, l1, l2, l3, l4] (.null :: st) h Q := x_aloadN (len := 1) rfl rfl
theorem s_80_85 {a : Nat} : wp V (cdT Ev) mx d 80 85 ls (.ref a :: st) h Q = gf [11] 1 h a (fun v => wp V (cdT Ev) mx d 80 88 ls (v :: st) h Q) := x_getf rfl
theorem s_80_88 {a : Nat} : wp V (cdT Ev) mx d 80 88 ls (.ref a :: st) h Q = gf [10] 3 h a (fun v => wp V (cdT Ev) mx d 80 91 ls (v :: st) h Q) := x_getf rfl
theorem s_80_91 {x : Int32} : wp V (cdT Ev) mx d 80 91 ls [.int x] h Q = Q (some (.int x)) h := x_ret rfl rfl
theorem s_80_92 {a : Nat} : wp V (cdT Ev) mx d 80 92 [some (.ref a), l1, l2, l3, l4] st h Q = wp V (cdT Ev) mx d 80 93 [some (.ref a), l1, l2, l3, l4] (.ref a :: st) h Q := x_aload (len := 1) rfl rfl
theorem s_80_92_n : wp V (cdT Ev) mx d 80 92 [some .null, l1, l2, l3, l4] st h Q = wp V (cdT Ev) mx d 80 93 [some .null, l1, l2, l3, l4] (.null :: st) h Q := x_aloadN (len := 1) rfl rfl
theorem s_80_93 {a : Nat} : wp V (cdT Ev) mx d 80 93 ls (.ref a :: st) h Q = gf [11] 1 h a (fun v => wp V (cdT Ev) mx d 80 96 ls (v :: st) h Q) := x_getf rfl
theorem s_80_96 {a : Nat} : wp V (cdT Ev) mx d 80 96 ls (.ref a :: st) h Q = gf [10] 4 h a (fun v => wp V (cdT Ev) mx d 80 99 ls (v :: st) h Q) := x_getf rfl
theorem s_80_99 {x : Int32} : wp V (cdT Ev) mx d 80 99 ls [.int x] h Q = Q (some (.int x)) h := x_ret rfl rfl
theorem s_80_100 {a : Nat} : wp V (cdT Ev) mx d 80 100 [some (.ref a), l1, l2, l3, l4] st h Q = wp V (cdT Ev) mx d 80 101 [some (.ref a), l1, l2, l3, l4] (.ref a :: st) h Q := x_aload (len := 1) rfl rfl
theorem s_80_100_n : wp V (cdT Ev) mx d 80 100 [some .null, l1, l2, l3, l4] st h Q = wp V (cdT Ev) mx d 80 101 [some .null, l1, l2, l3, l4] (.null :: st) h Q := x_aloadN (len := 1) rfl rfl
theorem s_80_101 {a : Nat} : wp V (cdT Ev) mx d 80 101 ls (.ref a :: st) h Q = gf [11] 1 h a (fun v => wp V (cdT Ev) mx d 80 104 ls (v :: st) h Q) := x_getf rfl
theorem s_80_104 {b : Nat} (hst : st.length ≤ 4) : wp V (cdT Ev) mx d 80 104 ls (.ref b :: st) h Q = cv [(10, 53)] h b (fun y' => WP V (cdT Ev) mx d y' [.ref b] h (fun r h' => wp V (cdT Ev) mx d 80 107 ls (rts r st) h' Q)) := x_cv (sg := []) rfl hst rfl rfl
theorem s_80_107 {x : Int32} : wp V (cdT Ev) mx d 80 107 ls [.int x] h Q = Q (some (.int x)) h := x_ret rfl rfl
theorem s_80_108 {a : Nat} : wp V (cdT Ev) mx d 80 108 [some (.ref a), l1, l2, l3, l4] st h Q = wp V (cdT Ev) mx d 80 109 [some (.ref a), l1, l2, l3, l4] (.ref a :: st) h Q := x_aload (len := 1) rfl rfl
theorem s_80_108_n : wp V (cdT Ev) mx d 80 108 [some .null, l1, l2, l3, l4] st h Q = wp V (cdT Ev) mx d 80 109 [some .null, l1, l2, l3, l4] (.null :: st) h Q := x_aloadN (len := 1) rfl rfl
theorem s_80_109 {a : Nat} : wp V (cdT Ev) mx d 80 109 ls (.ref a :: st) h Q = gf [11] 1 h a (fun v => wp V (cdT Ev) mx d 80 112 ls (v :: st) h Q) := x_getf rfl
theorem s_80_112 {x : Int32} : wp V (cdT Ev) mx d 80 112 [l0, l1, some (.int x), l3, l4] st h Q = wp V (cdT Ev) mx d 80 113 [l0, l1, some (.int x), l3, l4] (.int x :: st) h Q := x_iload (len := 1) rfl rfl
theorem s_80_113 : wp V (cdT Ev) mx d 80 113 ls st h Q = wp V (cdT Ev) mx d 80 115 ls ((.int (10)) :: st) h Q := x_push (v := (.int (10))) (len := 2) rfl
theorem s_80_115 {x z : Int32} : wp V (cdT Ev) mx d 80 115 ls (.int z :: .int x :: st) h Q = wp V (cdT Ev) mx d 80 116 ls (.int (x - z) :: st) h Q := x_ib (f := fun x z => x - z) rfl
theorem s_80_116 {b : Nat} {v0 : Value} (hst : st.length ≤ 4) : wp V (cdT Ev) mx d 80 116 ls (v0 :: .ref b :: st) h Q = cv [(10, 51)] h b (fun y' => WP V (cdT Ev) mx d y' [.ref b, v0] h (fun r h' => wp V (cdT Ev) mx d 80 119 ls (rts r st) h' Q)) := x_cv (sg := [v0]) rfl hst rfl rfl
theorem s_80_119 {a : Nat} (hn : nl l3 = true) : wp V (cdT Ev) mx d 80 119 [l0, l1, l2, l3, l4] (.ref a :: st) h Q = wp V (cdT Ev) mx d 80 121 [l0, l1, l2, l3, some (.ref a)] st h Q := x_astore (len := 2) rfl (Nat.le_of_ble_eq_true rfl) (okp_nl rfl hn) rfl
theorem s_80_119_n (hn : nl l3 = true) : wp V (cdT Ev) mx d 80 119 [l0, l1, l2, l3, l4] (.null :: st) h Q = wp V (cdT Ev) mx d 80 121 [l0, l1, l2, l3, some .null] st h Q := x_astoreN (len := 2) rfl (Nat.le_of_ble_eq_true rfl) (okp_nl rfl hn) rfl
theorem s_80_121 {a : Nat} : wp V (cdT Ev) mx d 80 121 [l0, l1, l2, l3, some (.ref a)] st h Q = wp V (cdT Ev) mx d 80 123 [l0, l1, l2, l3, some (.ref a)] (.ref a :: st) h Q := x_aload (len := 2) rfl rfl
theorem s_80_121_n : wp V (cdT Ev) mx d 80 121 [l0, l1, l2, l3, some .null] st h Q = wp V (cdT Ev) mx d 80 123 [l0, l1, l2, l3, some .null] (.null :: st) h Q := x_aloadN (len := 2) rfl rfl
theorem s_80_123 {a : Nat} : wp V (cdT Ev) mx d 80 123 ls (.ref a :: st) h Q = wp V (cdT Ev) mx d 80 130 ls st h Q := x_ifnonnull rfl
theorem s_80_123_n : wp V (cdT Ev) mx d 80 123 ls (.null :: st) h Q = wp V (cdT Ev) mx d 80 126 ls st h Q := x_ifnonnullN rfl
theorem s_80_126 : wp V (cdT Ev) mx d 80 126 ls st h Q = wp V (cdT Ev) mx d 80 127 ls ((.int (-1)) :: st) h Q := x_push (v := (.int (-1))) (len := 1) rfl
theorem s_80_127 : wp V (cdT Ev) mx d 80 127 ls st h Q = wp V (cdT Ev) mx d 80 135 ls st h Q := x_goto rfl
theorem s_80_130 {a : Nat} : wp V (cdT Ev) mx d 80 130 [l0, l1, l2, l3, some (.ref a)] st h Q = wp V (cdT Ev) mx d 80 132 [l0, l1, l2, l3, some (.ref a)] (.ref a :: st) h Q := x_aload (len := 2) rfl rfl
theorem s_80_130_n : wp V (cdT Ev) mx d 80 130 [l0, l1, l2, l3, some .null] st h Q = wp V (cdT Ev) mx d 80 132 [l0, l1, l2, l3, some .null] (.null :: st) h Q := x_aloadN (len := 2) rfl rfl
theorem s_80_132 {a : Nat} : wp V (cdT Ev) mx d 80 132 ls (.ref a :: st) h Q = gf [1, 2, 3, 4, 5, 6, 8] 3 h a (fun v => wp V (cdT Ev) mx d 80 135 ls (v :: st) h Q) := x_getf rfl
theorem s_80_135 {x : Int32} : wp V (cdT Ev) mx d 80 135 ls [.int x] h Q = Q (some (.int x)) h := x_ret rfl rfl
theorem e_80 {a : Nat} {p0 : Int32} {p1 : Int32} : WP V (cdT Ev) mx (d + 1) 80 [.ref a, .int p0, .int p1] h Q = wp V (cdT Ev) mx d 80 0 [some (.ref a), some (.int p0), some (.int p1), none, none] [] h Q := propext (WP_eq (Nat.le_of_ble_eq_true rfl))
theorem s_81_0 {a : Nat} : wp V (cdT Ev) mx d 81 0 [some (.ref a), l1, l2, l3] st h Q = wp V (cdT Ev) mx d 81 1 [some (.ref a), l1, l2, l3] (.ref a :: st) h Q := x_aload (len := 1) rfl rfl
theorem s_81_0_n : wp V (cdT Ev) mx d 81 0 [some .null, l1, l2, l3] st h Q = wp V (cdT Ev) mx d 81 1 [some .null, l1, l2, l3] (.null :: st) h Q := x_aloadN (len := 1) rfl rfl
theorem s_81_1 {a : Nat} : wp V (cdT Ev) mx d 81 1 ls (.ref a :: st) h Q = gf [11] 0 h a (fun v => wp V (cdT Ev) mx d 81 4 ls (v :: st) h Q) := x_getf rfl
theorem s_81_4 {x : Int32} : wp V (cdT Ev) mx d 81 4 [l0, some (.int x), l2, l3] st h Q = wp V (cdT Ev) mx d 81 5 [l0, some (.int x), l2, l3] (.int x :: st) h Q := x_iload (len := 1) rfl rfl
theorem s_81_5 {b : Nat} {v0 : Value} (hst : st.length ≤ 4) : wp V (cdT Ev) mx d 81 5 ls (v0 :: .ref b :: st) h Q = cv [(10, 51)] h b (fun y' => WP V (cdT Ev) mx d y' [.ref b, v0] h (fun r h' => wp V (cdT Ev) mx d 81 8 ls (rts r st) h' Q)) := x_cv (sg := [v0]) rfl hst rfl rfl
theorem s_81_8 {a : Nat} (hn : nl l2 = true) : wp V (cdT Ev) mx d 81 8 [l0, l1, l2, l3] (.ref a :: st) h Q = wp V (cdT Ev) mx d 81 9 [l0, l1, l2, some (.ref a)] st h Q := x_astore (len := 1) rfl (Nat.le_of_ble_eq_true rfl) (okp_nl rfl hn) rfl
theorem s_81_8_n (hn : nl l2 = true) : wp V (cdT Ev) mx d 81 8 [l0, l1, l2, l3] (.null :: st) h Q = wp V (cdT Ev) mx d 81 9 [l0, l1, l2, some .null] st h Q := x_astoreN (len := 1) rfl (Nat.le_of_ble_eq_true rfl) (okp_nl rfl hn) rfl
theorem s_81_9 {a : Nat} : wp V (cdT Ev) mx d 81 9 [l0, l1, l2, some (.ref a)] st h Q = wp V (cdT Ev) mx d 81 10 [l0, l1, l2, some (.ref a)] (.ref a :: st) h Q := x_aload (len := 1) rfl rfl
theorem s_81_9_n : wp V (cdT Ev) mx d 81 9 [l0, l1, l2, some .null] st h Q = wp V (cdT Ev) mx d 81 10 [l0, l1, l2, some .null] (.null :: st) h Q := x_aloadN (len := 1) rfl rfl
theorem s_81_10 {a : Nat} : wp V (cdT Ev) mx d 81 10 ls (.ref a :: st) h Q = wp V (cdT Ev) mx d 81 13 ls st h Q := x_ifnull rfl
theorem s_81_10_n : wp V (cdT Ev) mx d 81 10 ls (.null :: st) h Q = wp V (cdT Ev) mx d 81 20 ls st h Q := x_ifnullN rfl
theorem s_81_13 {x : Int32} : wp V (cdT Ev) mx d 81 13 [l0, l1, some (.int x), l3] st h Q = wp V (cdT Ev) mx d 81 14 [l0, l1, some (.int x), l3] (.int x :: st) h Q := x_iload (len := 1) rfl rfl
theorem s_81_14 {v0 : Value} (hst : st.length ≤ 4) : wp V (cdT Ev) mx d 81 14 ls (v0 :: st) h Q = WP V (cdT Ev) mx d 101 [v0] h (fun r h' => wp V (cdT Ev) mx d 81 17 ls (rts r st) h' Q) := x_cs (sg := [v0]) rfl hst rfl rfl
theorem s_81_17 {x : Int32} : wp V (cdT Ev) mx d 81 17 ls (.int x :: st) h Q = (if ¬ x = 0 then wp V (cdT Ev) mx d 81 22 ls st h Q else wp V (cdT Ev) mx d 81 20 ls st h Q) := x_if1 (c := fun x => ¬ x = 0) rfl
theorem s_81_20 : wp V (cdT Ev) mx d 81 20 ls st h Q = wp V (cdT Ev) mx d 81 21 ls ((.int (-1)) :: st) h Q := x_push (v := (.int (-1))) (len := 1) rfl
theorem s_81_21 {x : Int32} : wp V (cdT Ev) mx d 81 21 ls [.int x] h Q = Q (some (.int x)) h := x_ret rfl rfl
theorem s_81_22 {a : Nat} : wp V (cdT Ev) mx d 81 22 [l0, l1, l2, some (.ref a)] st h Q = wp V (cdT Ev) mx d 81 23 [l0, l1, l2, some (.ref a)] (.ref a :: st) h Q := x_aload (len := 1) rfl rfl
theorem s_81_22_n : wp V (cdT Ev) mx d 81 22 [l0, l1, l2, some .null] st h Q = wp V (cdT Ev) mx d 81 23 [l0, l1, l2, some .null] (.null :: st) h Q := x_aloadN (len := 1) rfl rfl
theorem s_81_23 {a : Nat} : wp V (cdT Ev) mx d 81 23 ls (.ref a :: st) h Q = gf [1, 2, 3, 4, 5, 6, 8] 3 h a (fun v => wp V (cdT Ev) mx d 81 26 ls (v :: st) h Q) := x_getf rfl
theorem s_81_26 {x : Int32} : wp V (cdT Ev) mx d 81 26 [l0, l1, some (.int x), l3] st h Q = wp V (cdT Ev) mx d 81 27 [l0, l1, some (.int x), l3] (.int x :: st) h Q := x_iload (len := 1) rfl rfl
theorem s_81_27 {x z : Int32} : wp V (cdT Ev) mx d 81 27 ls (.int z :: .int x :: st) h Q = wp V (cdT Ev) mx d 81 28 ls (.int (x >>> (z &&& 31)) :: st) h Q := x_ib (f := fun x z => x >>> (z &&& 31)) rfl
theorem s_81_28 : wp V (cdT Ev) mx d 81 28 ls st h Q = wp V (cdT Ev) mx d 81 29 ls ((.int (1)) :: st) h Q := x_push (v := (.int (1))) (len := 1) rfl
theorem s_81_29 {x z : Int32} : wp V (cdT Ev) mx d 81 29 ls (.int z :: .int x :: st) h Q = wp V (cdT Ev) mx d 81 30 ls (.int (x &&& z) :: st) h Q := x_ib (f := fun x z => x &&& z) rfl
theorem s_81_30 {x : Int32} : wp V (cdT Ev) mx d 81 30 ls (.int x :: st) h Q = (if ¬ x = 0 then wp V (cdT Ev) mx d 81 36 ls st h Q else wp V (cdT Ev) mx d 81 33 ls st h Q) := x_if1 (c := fun x => ¬ x = 0) rfl
theorem s_81_33 : wp V (cdT Ev) mx d 81 33 ls st h Q = wp V (cdT Ev) mx d 81 35 ls ((.int (-5)) :: st) h Q := x_push (v := (.int (-5))) (len := 2) rfl
theorem s_81_35 {x : Int32} : wp V (cdT Ev) mx d 81 35 ls [.int x] h Q = Q (some (.int x)) h := x_ret rfl rfl
theorem s_81_36 {a : Nat} : wp V (cdT Ev) mx d 81 36 [some (.ref a), l1, l2, l3] st h Q = wp V (cdT Ev) mx d 81 37 [some (.ref a), l1, l2, l3] (.ref a :: st) h Q := x_aload (len := 1) rfl rfl
theorem s_81_36_n : wp V (cdT Ev) mx d 81 36 [some .null, l1, l2, l3] st h Q = wp V (cdT Ev) mx d 81 37 [some .null, l1, l2, l3] (.null :: st) h Q := x_aloadN (len := 1) rfl rfl
theorem s_81_37 {a : Nat} : wp V (cdT Ev) mx d 81 37 [l0, l1, l2, some (.ref a)] st h Q = wp V (cdT Ev) mx d 81 38 [l0, l1, l2, some (.ref a)] (.ref a :: st) h Q := x_aload (len := 1) rfl rfl
theorem s_81_37_n : wp V (cdT Ev) mx d 81 37 [l0, l1, l2, some .null] st h Q = wp V (cdT Ev) mx d 81 38 [l0, l1, l2, some .null] (.null :: st) h Q := x_aloadN (len := 1) rfl rfl
theorem s_81_38 {x : Int32} : wp V (cdT Ev) mx d 81 38 [l0, l1, some (.int x), l3] st h Q = wp V (cdT Ev) mx d 81 39 [l0, l1, some (.int x), l3] (.int x :: st) h Q := x_iload (len := 1) rfl rfl
theorem s_81_39 {b : Nat} {v0 v1 : Value} (hst : st.length ≤ 4) : wp V (cdT Ev) mx d 81 39 ls (v1 :: v0 :: .ref b :: st) h Q = cv [(11, 116)] h b (fun y' => WP V (cdT Ev) mx d y' [.ref b, v0, v1] h (fun r h' => wp V (cdT Ev) mx d 81 42 ls (rts r st) h' Q)) := x_cv (sg := [v1, v0]) rfl hst rfl rfl
theorem s_81_42 {x : Int32} : wp V (cdT Ev) mx d 81 42 ls [.int x] h Q = Q (some (.int x)) h := x_ret rfl rfl
theorem e_81 {a : Nat} {p0 : Int32} {p1 : Int32} : WP V (cdT Ev) mx (d + 1) 81 [.ref a, .int p0, .int p1] h Q = wp V (cdT Ev) mx d 81 0 [some (.ref a), some (.int p0), some (.int p1), none] [] h Q := propext (WP_eq (Nat.le_of_ble_eq_true rfl))
theorem s_82_0 {x : Int32} : wp V (cdT Ev) mx d 82 0 [l0, some (.int x), l2] st h Q = wp V (cdT Ev) mx d 82 1 [l0, some (.int x), l2] (.int x :: st) h Q := x_iload (len := 1) rfl rfl
theorem s_82_1 : wp V (cdT Ev) mx d 82 1 ls st h Q = wp V (cdT Ev) mx d 82 2 ls ((.int (-1)) :: st) h Q := x_push (v := (.int (-1))) (len := 1) rfl
theorem s_82_2 {x z : Int32} : wp V (cdT Ev) mx d 82 2 ls (.int z :: .int x :: st) h Q = (if ¬ x = z then wp V (cdT Ev) mx d 82 16 ls st h Q else wp V (cdT Ev) mx d 82 5 ls st h Q) := x_if2 (c := fun x z => ¬ x = z) rfl
theorem s_82_5 {a : Nat} : wp V (cdT Ev) mx d 82 5 [some (.ref a), l1, l2] st h Q = wp V (cdT Ev) mx d 82 6 [some (.ref a), l1, l2] (.ref a :: st) h Q := x_aload (len := 1) rfl rfl
theorem s_82_5_n : wp V (cdT Ev) mx d 82 5 [some .null, l1, l2] st h Q = wp V (cdT Ev) mx d 82 6 [some .null, l1, l2] (.null :: st) h Q := x_aloadN (len := 1) rfl rfl
theorem s_82_6 {a : Nat} : wp V (cdT Ev) mx d 82 6 ls (.ref a :: st) h Q = gf [11] 0 h a (fun v => wp V (cdT Ev) mx d 82 9 ls (v :: st) h Q) := x_getf rfl
theorem s_82_9 {a : Nat} : wp V (cdT Ev) mx d 82 9 ls (.ref a :: st) h Q = gf [10] 6 h a (fun v => wp V (cdT Ev) mx d 82 12 ls (v :: st) h Q) := x_getf rfl
theorem s_82_12 {b : Nat} (hst : st.length ≤ 4) : wp V (cdT Ev) mx d 82 12 ls (.ref b :: st) h Q = cv [(7, 38)] h b (fun y' => WP V (cdT Ev) mx d y' [.ref b] h (fun r h' => wp V (cdT Ev) mx d 82 15 ls (rts r st) h' Q)) := x_cv (sg := []) rfl hst rfl rfl
theorem s_82_15 {x : Int32} : wp V (cdT Ev) mx d 82 15 ls [.int x] h Q = Q (some (.int x)) h := x_ret rfl rfl
theorem s_82_16 {a : Nat} : wp V (cdT Ev) mx d 82 16 [some (.ref a), l1, l2] st h Q = wp V (cdT Ev) mx d 82 17 [some (.ref a), l1, l2] (.ref a :: st) h Q := x_aload (len := 1) rfl rfl
theorem s_82_16_n : wp V (cdT Ev) mx d 82 16 [some .null, l1, l2] st h Q = wp V (cdT Ev) mx d 82 17 [some .null, l1, l2] (.null :: st) h Q := x_aloadN (len := 1) rfl rfl
theorem s_82_17 {a : Nat} : wp V (cdT Ev) mx d 82 17 ls (.ref a :: st) h Q = gf [11] 0 h a (fun v => wp V (cdT Ev) mx d 82 20 ls (v :: st) h Q) := x_getf rfl
theorem s_82_20 {x : Int32} : wp V (cdT Ev) mx d 82 20 [l0, some (.int x), l2] st h Q = wp V (cdT Ev) mx d 82 21 [l0, some (.int x), l2] (.int x :: st) h Q := x_iload (len := 1) rfl rfl
theorem s_82_21 {b : Nat} {v0 : Value} (hst : st.length ≤ 4) : wp V (cdT Ev) mx d 82 21 ls (v0 :: .ref b :: st) h Q = cv [(10, 51)] h b (fun y' => WP V (cdT Ev) mx d y' [.ref b, v0] h (fun r h' => wp V (cdT Ev) mx d 82 24 ls (rts r st) h' Q)) := x_cv (sg := [v0]) rfl hst rfl rfl
theorem s_82_24 {a : Nat} : wp V (cdT Ev) mx d 82 24 ls (.ref a :: st) h Q = wp V (cdT Ev) mx d 82 27 ls st h Q := x_ifnull rfl
theorem s_82_24_n : wp V (cdT Ev) mx d 82 24 ls (.null :: st) h Q = wp V (cdT Ev) mx d 82 39 ls st h Q := x_ifnullN rfl
theorem s_82_27 {x : Int32} : wp V (cdT Ev) mx d 82 27 [l0, l1, some (.int x)] st h Q = wp V (cdT Ev) mx d 82 28 [l0, l1, some (.int x)] (.int x :: st) h Q := x_iload (len := 1) rfl rfl
theorem s_82_28 : wp V (cdT Ev) mx d 82 28 ls st h Q = wp V (cdT Ev) mx d 82 29 ls ((.int (-1)) :: st) h Q := x_push (v := (.int (-1))) (len := 1) rfl
theorem s_82_29 {x z : Int32} : wp V (cdT Ev) mx d 82 29 ls (.int z :: .int x :: st) h Q = (if x = z then wp V (cdT Ev) mx d 82 41 ls st h Q else wp V (cdT Ev) mx d 82 32 ls st h Q) := x_if2 (c := fun x z => x = z) rfl
theorem s_82_32 {x : Int32} : wp V (cdT Ev) mx d 82 32 [l0, l1, some (.int x)] st h Q = wp V (cdT Ev) mx d 82 33 [l0, l1, some (.int x)] (.int x :: st) h Q := x_iload (len := 1) rfl rfl
theorem s_82_33 {v0 : Value} (hst : st.length ≤ 4) : wp V (cdT Ev) mx d 82 33 ls (v0 :: st) h Q = WP V (cdT Ev) mx d 101 [v0] h (fun r h' => wp V (cdT Ev) mx d 82 36 ls (rts r st) h' Q) := x_cs (sg := [v0]) rfl hst rfl rfl
theorem s_82_36 {x : Int32} : wp V (cdT Ev) mx d 82 36 ls (.int x :: st) h Q = (if ¬ x = 0 then wp V (cdT Ev) mx d 82 41 ls st h Q else wp V (cdT Ev) mx d 82 39 ls st h Q) := x_if1 (c := fun x => ¬ x = 0) rfl
theorem s_82_39 : wp V (cdT Ev) mx d 82 39 ls st h Q = wp V (cdT Ev) mx d 82 40 ls ((.int (-1)) :: st) h Q := x_push (v := (.int (-1))) (len := 1) rfl
theorem s_82_40 {x : Int32} : wp V (cdT Ev) mx d 82 40 ls [.int x] h Q = Q (some (.int x)) h := x_ret rfl rfl
theorem s_82_41 {a : Nat} : wp V (cdT Ev) mx d 82 41 [some (.ref a), l1, l2] st h Q = wp V (cdT Ev) mx d 82 42 [some (.ref a), l1, l2] (.ref a :: st) h Q := x_aload (len := 1) rfl rfl
theorem s_82_41_n : wp V (cdT Ev) mx d 82 41 [some .null, l1, l2] st h Q = wp V (cdT Ev) mx d 82 42 [some .null, l1, l2] (.null :: st) h Q := x_aloadN (len := 1) rfl rfl
theorem s_82_42 {a : Nat} : wp V (cdT Ev) mx d 82 42 ls (.ref a :: st) h Q = gf [11] 0 h a (fun v => wp V (cdT Ev) mx d 82 45 ls (v :: st) h Q) := x_getf rfl
theorem s_82_45 {a : Nat} : wp V (cdT Ev) mx d 82 45 ls (.ref a :: st) h Q = gf [10] 6 h a (fun v => wp V (cdT Ev) mx d 82 48 ls (v :: st) h Q) := x_getf rfl
theorem s_82_48 {x : Int32} : wp V (cdT Ev) mx d 82 48 [l0, some (.int x), l2] st h Q = wp V (cdT Ev) mx d 82 49 [l0, some (.int x), l2] (.int x :: st) h Q := x_iload (len := 1) rfl rfl
theorem s_82_49 {x : Int32} : wp V (cdT Ev) mx d 82 49 [l0, l1, some (.int x)] st h Q = wp V (cdT Ev) mx d 82 50 [l0, l1, some (.int x)] (.int x :: st) h Q := x_iload (len := 1) rfl rfl
theorem s_82_50 {b : Nat} {v0 v1 : Value} (hst : st.length ≤ 4) : wp V (cdT Ev) mx d 82 50 ls (v1 :: v0 :: .ref b :: st) h Q = cv [(7, 39)] h b (fun y' => WP V (cdT Ev) mx d y' [.ref b, v0, v1] h (fun r h' => wp V (cdT Ev) mx d 82 53 ls (rts r st) h' Q)) := x_cv (sg := [v1, v0]) rfl hst rfl rfl
theorem s_82_53 {x : Int32} : wp V (cdT Ev) mx d 82 53 ls [.int x] h Q = Q (some (.int x)) h := x_ret rfl rfl
theorem e_82 {a : Nat} {p0 : Int32} {p1 : Int32} : WP V (cdT Ev) mx (d + 1) 82 [.ref a, .int p0, .int p1] h Q = wp V (cdT Ev) mx d 82 0 [some (.ref a), some (.int p0), some (.int p1)] [] h Q := propext (WP_eq (Nat.le_of_ble_eq_true rfl))
theorem s_83_0 {a : Nat} : wp V (cdT Ev) mx d 83 0 [some (.ref a), l1, l2, l3, l4, l5, l6] st h Q = wp V (cdT Ev) mx d 83 1 [some (.ref a), l1, l2, l3, l4, l5, l6] (.ref a :: st) h Q := x_aload (len := 1) rfl rfl
theorem s_83_0_n : wp V (cdT Ev) mx d 83 0 [some .null, l1, l2, l3, l4, l5, l6] st h Q = wp V (cdT Ev) mx d 83 1 [some .null, l1, l2, l3, l4, l5, l6] (.null :: st) h Q := x_aloadN (len := 1) rfl rfl
theorem s_83_1 {a : Nat} : wp V (cdT Ev) mx d 83 1 ls (.ref a :: st) h Q = gf [11] 0 h a (fun v => wp V (cdT Ev) mx d 83 4 ls (v :: st) h Q) := x_getf rfl
theorem s_83_4 {x : Int32} : wp V (cdT Ev) mx d 83 4 [l0, some (.int x), l2, l3, l4, l5, l6] st h Q = wp V (cdT Ev) mx d 83 5 [l0, some (.int x), l2, l3, l4, l5, l6] (.int x :: st) h Q := x_iload (len := 1) rfl rfl
theorem s_83_5 {b : Nat} {v0 : Value} (hst : st.length ≤ 4) : wp V (cdT Ev) mx d 83 5 ls (v0 :: .ref b :: st) h Q = cv [(10, 51)] h b (fun y' => WP V (cdT Ev) mx d y' [.ref b, v0] h (fun r h' => wp V (cdT Ev) mx d 83 8 ls (rts r st) h' Q)) := x_cv (sg := [v0]) rfl hst rfl rfl
theorem s_83_8 {a : Nat} (hn : nl l2 = true) : wp V (cdT Ev) mx d 83 8 [l0, l1, l2, l3, l4, l5, l6] (.ref a :: st) h Q = wp V (cdT Ev) mx d 83 9 [l0, l1, l2, some (.ref a), l4, l5, l6] st h Q := x_astore (len := 1) rfl (Nat.le_of_ble_eq_true rfl) (okp_nl rfl hn) rfl
theorem s_83_8_n (hn : nl l2 = true) : wp V (cdT Ev) mx d 83 8 [l0, l1, l2, l3, l4, l5, l6] (.null :: st) h Q = wp V (cdT Ev) mx d 83 9 [l0, l1, l2, some .null, l4, l5, l6] st h Q := x_astoreN (len := 1) rfl (Nat.le_of_ble_eq_true rfl) (okp_nl rfl hn) rfl
theorem s_83_9 {a : Nat} : wp V (cdT Ev) mx d 83 9 [l0, l1, l2, some (.ref a), l4, l5, l6] st h Q = wp V (cdT Ev) mx d 83 10 [l0, l1, l2, some (.ref a), l4, l5, l6] (.ref a :: st) h Q := x_aload (len := 1) rfl rfl
theorem s_83_9_n : wp V (cdT Ev) mx d 83 9 [l0, l1, l2, some .null, l4, l5, l6] st h Q = wp V (cdT Ev) mx d 83 10 [l0, l1, l2, some .null, l4, l5, l6] (.null :: st) h Q := x_aloadN (len := 1) rfl rfl
theorem s_83_10 {a : Nat} : wp V (cdT Ev) mx d 83 10 ls (.ref a :: st) h Q = wp V (cdT Ev) mx d 83 13 ls st h Q := x_ifnull rfl
theorem s_83_10_n : wp V (cdT Ev) mx d 83 10 ls (.null :: st) h Q = wp V (cdT Ev) mx d 83 22 ls st h Q := x_ifnullN rfl
theorem s_83_13 {x : Int32} : wp V (cdT Ev) mx d 83 13 [l0, l1, some (.int x), l3, l4, l5, l6] st h Q = wp V (cdT Ev) mx d 83 14 [l0, l1, some (.int x), l3, l4, l5, l6] (.int x :: st) h Q := x_iload (len := 1) rfl rfl
theorem s_83_14 {x : Int32} : wp V (cdT Ev) mx d 83 14 ls (.int x :: st) h Q = (if x < 0 then wp V (cdT Ev) mx d 83 22 ls st h Q else wp V (cdT Ev) mx d 83 17 ls st h Q) := x_if1 (c := fun x => x < 0) rfl
theorem s_83_17 {x : Int32} : wp V (cdT Ev) mx d 83 17 [l0, l1, some (.int x), l3, l4, l5, l6] st h Q = wp V (cdT Ev) mx d 83 18 [l0, l1, some (.int x), l3, l4, l5, l6] (.int x :: st) h Q := x_iload (len := 1) rfl rfl
theorem s_83_18 : wp V (cdT Ev) mx d 83 18 ls st h Q = wp V (cdT Ev) mx d 83 19 ls ((.int (1)) :: st) h Q := x_push (v := (.int (1))) (len := 1) rfl
theorem s_83_19 {x z : Int32} : wp V (cdT Ev) mx d 83 19 ls (.int z :: .int x :: st) h Q = (if x ≤ z then wp V (cdT Ev) mx d 83 24 ls st h Q else wp V (cdT Ev) mx d 83 22 ls st h Q) := x_if2 (c := fun x z => x ≤ z) rfl
theorem s_83_22 : wp V (cdT Ev) mx d 83 22 ls st h Q = wp V (cdT Ev) mx d 83 23 ls ((.int (-1)) :: st) h Q := x_push (v := (.int (-1))) (len := 1) rfl
theorem s_83_23 {x : Int32} : wp V (cdT Ev) mx d 83 23 ls [.int x] h Q = Q (some (.int x)) h := x_ret rfl rfl
theorem s_83_24 : wp V (cdT Ev) mx d 83 24 ls st h Q = wp V (cdT Ev) mx d 83 25 ls ((.int (0)) :: st) h Q := x_push (v := (.int (0))) (len := 1) rfl
theorem s_83_25 {x : Int32} (hn : nl l3 = true) : wp V (cdT Ev) mx d 83 25 [l0, l1, l2, l3, l4, l5, l6] (.int x :: st) h Q = wp V (cdT Ev) mx d 83 27 [l0, l1, l2, l3, some (.int x), l5, l6] st h Q := x_istore (len := 2) rfl (Nat.le_of_ble_eq_true rfl) (okp_nl rfl hn) rfl
theorem s_83_27 : wp V (cdT Ev) mx d 83 27 ls st h Q = wp V (cdT Ev) mx d 83 29 ls ((.int (-5)) :: st) h Q := x_push (v := (.int (-5))) (len := 2) rfl
theorem s_83_29 {x : Int32} (hn : nl l4 = true) : wp V (cdT Ev) mx d 83 29 [l0, l1, l2, l3, l4, l5, l6] (.int x :: st) h Q = wp V (cdT Ev) mx d 83 31 [l0, l1, l2, l3, l4, some (.int x), l6] st h Q := x_istore (len := 2) rfl (Nat.le_of_ble_eq_true rfl) (okp_nl rfl hn) rfl
theorem s_83_31 {a : Nat} : wp V (cdT Ev) mx d 83 31 [some (.ref a), l1, l2, l3, l4, l5, l6] st h Q = wp V (cdT Ev) mx d 83 32 [some (.ref a), l1, l2, l3, l4, l5, l6] (.ref a :: st) h Q := x_aload (len := 1) rfl rfl
theorem s_83_31_n : wp V (cdT Ev) mx d 83 31 [some .null, l1, l2, l3, l4, l5, l6] st h Q = wp V (cdT Ev) mx d 83 32 [some .null, l1, l2, l3, l4, l5, l6] (.null :: st) h Q := x_aloadN (len := 1) rfl rfl
theorem s_83_32 {a : Nat} : wp V (cdT Ev) mx d 83 32 ls (.ref a :: st) h Q = gf [11] 1 h a (fun v => wp V (cdT Ev) mx d 83 35 ls (v :: st) h Q) := x_getf rfl
theorem s_83_35 {a : Nat} : wp V (cdT Ev) mx d 83 35 [some (.ref a), l1, l2, l3, l4, l5, l6] st h Q = wp V (cdT Ev) mx d 83 36 [some (.ref a), l1, l2, l3, l4, l5, l6] (.ref a :: st) h Q := x_aload (len := 1) rfl rfl
theorem s_83_35_n : wp V (cdT Ev) mx d 83 35 [some .null, l1, l2, l3, l4, l5, l6] st h Q = wp V (cdT Ev) mx d 83 36 [some .null, l1, l2, l3, l4, l5, l6] (.null :: st) h Q := x_aloadN (len := 1) rfl rfl
theorem s_83_36 {a : Nat} : wp V (cdT Ev) mx d 83 36 ls (.ref a :: st) h Q = gf [11] 0 h a (fun v => wp V (cdT Ev) mx d 83 39 ls (v :: st) h Q) := x_getf rfl
theorem s_83_39 {b : Nat} {v0 : Value} (hst : st.length ≤ 4) : wp V (cdT Ev) mx d 83 39 ls (v0 :: .ref b :: st) h Q = cv [(10, 49)] h b (fun y' => WP V (cdT Ev) mx d y' [.ref b, v0] h (fun r h' => wp V (cdT Ev) mx d 83 42 ls (rts r st) h' Q)) := x_cv (sg := [v0]) rfl hst rfl rfl
theorem s_83_42 : wp V (cdT Ev) mx d 83 42 ls st h Q = wp V (cdT Ev) mx d 83 44 ls ((.int (9)) :: st) h Q := x_push (v := (.int (9))) (len := 2) rfl
theorem s_83_44 {x : Int32} (hn : nl l5 = true) : wp V (cdT Ev) mx d 83 44 [l0, l1, l2, l3, l4, l5, l6] (.int x :: st) h Q = wp V (cdT Ev) mx d 83 46 [l0, l1, l2, l3, l4, l5, some (.int x)] st h Q := x_istore (len := 2) rfl (Nat.le_of_ble_eq_true rfl) (okp_nl rfl hn) rfl
theorem s_83_46 {x : Int32} : wp V (cdT Ev) mx d 83 46 [l0, l1, l2, l3, l4, l5, some (.int x)] st h Q = wp V (cdT Ev) mx d 83 48 [l0, l1, l2, l3, l4, l5, some (.int x)] (.int x :: st) h Q := x_iload (len := 2) rfl rfl
theorem s_83_48 {x : Int32} : wp V (cdT Ev) mx d 83 48 ls (.int x :: st) h Q = (if x < 0 then wp V (cdT Ev) mx d 83 74 ls st h Q else wp V (cdT Ev) mx d 83 51 ls st h Q) := x_if1 (c := fun x => x < 0) rfl
theorem s_83_51 {a : Nat} : wp V (cdT Ev) mx d 83 51 [some (.ref a), l1, l2, l3, l4, l5, l6] st h Q = wp V (cdT Ev) mx d 83 52 [some (.ref a), l1, l2, l3, l4, l5, l6] (.ref a :: st) h Q := x_aload (len := 1) rfl rfl
theorem s_83_51_n : wp V (cdT Ev) mx d 83 51 [some .null, l1, l2, l3, l4, l5, l6] st h Q = wp V (cdT Ev) mx d 83 52 [some .null, l1, l2, l3, l4, l5, l6] (.null :: st) h Q := x_aloadN (len := 1) rfl rfl
theorem s_83_52 {x : Int32} : wp V (cdT Ev) mx d 83 52 [l0, some (.int x), l2, l3, l4, l5, l6] st h Q = wp V (cdT Ev) mx d 83 53 [l0, some (.int x), l2, l3, l4, l5, l6] (.int x :: st) h Q := x_iload (len := 1) rfl rfl
theorem s_83_53 {x : Int32} : wp V (cdT Ev) mx d 83 53 [l0, l1, l2, l3, l4, l5, some (.int x)] st h Q = wp V (cdT Ev) mx d 83 55 [l0, l1, l2, l3, l4, l5, some (.int x)] (.int x :: st) h Q := x_iload (len := 2) rfl rfl
theorem s_83_55 {b : Nat} {v0 v1 : Value} (hst : st.length ≤ 4) : wp V (cdT Ev) mx d 83 55 ls (v1 :: v0 :: .ref b :: st) h Q = cv [(11, 120)] h b (fun y' => WP V (cdT Ev) mx d y' [.ref b, v0, v1] h (fun r h' => wp V (cdT Ev) mx d 83 58 ls (rts r st) h' Q)) := x_cv (sg := [v1, v0]) rfl hst rfl rfl
theorem s_83_58 {x : Int32} : wp V (cdT Ev) mx d 83 58 ls (.int x :: st) h Q = (if x = 0 then wp V (cdT Ev) mx d 83 68 ls st h Q else wp V (cdT Ev) mx d 83 61 ls st h Q) := x_if1 (c := fun x => x = 0) rfl
theorem s_83_61 {x : Int32} : wp V (cdT Ev) mx d 83 61 [l0, l1, l2, l3, some (.int x), l5, l6] st h Q = wp V (cdT Ev) mx d 83 64 [l0, l1, l2, l3, some (.int (x + (1))), l5, l6] st h Q := x_iinc rfl rfl rfl
theorem s_83_64 {x : Int32} : wp V (cdT Ev) mx d 83 64 [l0, l1, l2, l3, l4, l5, some (.int x)] st h Q = wp V (cdT Ev) mx d 83 66 [l0, l1, l2, l3, l4, l5, some (.int x)] (.int x :: st) h Q := x_iload (len := 2) rfl rfl
theorem s_83_66 {x : Int32} (hn : nl l4 = true) : wp V (cdT Ev) mx d 83 66 [l0, l1, l2, l3, l4, l5, l6] (.int x :: st) h Q = wp V (cdT Ev) mx d 83 68 [l0, l1, l2, l3, l4, some (.int x), l6] st h Q := x_istore (len := 2) rfl (Nat.le_of_ble_eq_true rfl) (okp_nl rfl hn) rfl
theorem s_83_68 {x : Int32} : wp V (cdT Ev) mx d 83 68 [l0, l1, l2, l3, l4, l5, some (.int x)] st h Q = wp V (cdT Ev) mx d 83 71 [l0, l1, l2, l3, l4, l5, some (.int (x + (-1)))] st h Q := x_iinc rfl rfl rfl
theorem s_83_71 : wp V (cdT Ev) mx d 83 71 ls st h Q = wp V (cdT Ev) mx d 83 46 ls st h Q := x_goto rfl
theorem s_83_74 {x : Int32} : wp V (cdT Ev) mx d 83 74 [l0, l1, some (.int x), l3, l4, l5, l6] st h Q = wp V (cdT Ev) mx d 83 75 [l0, l1, some (.int x), l3, l4, l5, l6] (.int x :: st) h Q := x_iload (len := 1) rfl rfl
theorem s_83_75 {x : Int32} : wp V (cdT Ev) mx d 83 75 ls (.int x :: st) h Q = (if ¬ x = 0 then wp V (cdT Ev) mx d 83 83 ls st h Q else wp V (cdT Ev) mx d 83 78 ls st h Q) := x_if1 (c := fun x => ¬ x = 0) rfl
theorem s_83_78 {x : Int32} : wp V (cdT Ev) mx d 83 78 [l0, l1, l2, l3, some (.int x), l5, l6] st h Q = wp V (cdT Ev) mx d 83 80 [l0, l1, l2, l3, some (.int x), l5, l6] (.int x :: st) h Q := x_iload (len := 2) rfl rfl
theorem s_83_80 : wp V (cdT Ev) mx d 83 80 ls st h Q = wp V (cdT Ev) mx d 83 85 ls st h Q := x_goto rfl
theorem s_83_83 {x : Int32} : wp V (cdT Ev) mx d 83 83 [l0, l1, l2, l3, l4, some (.int x), l6] st h Q = wp V (cdT Ev) mx d 83 85 [l0, l1, l2, l3, l4, some (.int x), l6] (.int x :: st) h Q := x_iload (len := 2) rfl rfl
theorem s_83_85 {x : Int32} : wp V (cdT Ev) mx d 83 85 ls [.int x] h Q = Q (some (.int x)) h := x_ret rfl rfl
theorem e_83 {a : Nat} {p0 : Int32} {p1 : Int32} : WP V (cdT Ev) mx (d + 1) 83 [.ref a, .int p0, .int p1] h Q = wp V (cdT Ev) mx d 83 0 [some (.ref a), some (.int p0), some (.int p1), none, none, none, none] [] h Q := propext (WP_eq (Nat.le_of_ble_eq_true rfl))
theorem s_84_0 {a : Nat} : wp V (cdT Ev) mx d 84 0 [some (.ref a), l1, l2, l3, l4, l5, l6, l7] st h Q = wp V (cdT Ev) mx d 84 1 [some (.ref a), l1, l2, l3, l4, l5, l6, l7] (.ref a :: st) h Q := x_aload (len := 1) rfl rfl
theorem s_84_0_n : wp V (cdT Ev) mx d 84 0 [some .null, l1, l2, l3, l4, l5, l6, l7] st h Q = wp V (cdT Ev) mx d 84 1 [some .null, l1, l2, l3, l4, l5, l6, l7] (.null :: st) h Q := x_aloadN (len := 1) rfl rfl
theorem s_84_1 {a : Nat} : wp V (cdT Ev) mx d 84 1 ls (.ref a :: st) h Q = gf [11] 0 h a (fun v => wp V (cdT Ev) mx d 84 4 ls (v :: st) h Q) := x_getf rfl
theorem s_84_4 {x : Int32} : wp V (cdT Ev) mx d 84 4 [l0, some (.int x), l2, l3, l4, l5, l6, l7] st h Q = wp V (cdT Ev) mx d 84 5 [l0, some (.int x), l2, l3, l4, l5, l6, l7] (.int x :: st) h Q := x_iload (len := 1) rfl rfl
theorem s_84_5 {b : Nat} {v0 : Value} (hst : st.length ≤ 4) : wp V (cdT Ev) mx d 84 5 ls (v0 :: .ref b :: st) h Q = cv [(10, 51)] h b (fun y' => WP V (cdT Ev) mx d y' [.ref b, v0] h (fun r h' => wp V (cdT Ev) mx d 84 8 ls (rts r st) h' Q)) := x_cv (sg := [v0]) rfl hst rfl rfl
theorem s_84_8 {a : Nat} (hn : nl l2 = true) : wp V (cdT Ev) mx d 84 8 [l0, l1, l2, l3, l4, l5, l6, l7] (.ref a :: st) h Q = wp V (cdT Ev) mx d 84 9 [l0, l1, l2, some (.ref a), l4, l5, l6, l7] st h Q := x_astore (len := 1) rfl (Nat.le_of_ble_eq_true rfl) (okp_nl rfl hn) rfl
theorem s_84_8_n (hn : nl l2 = true) : wp V (cdT Ev) mx d 84 8 [l0, l1, l2, l3, l4, l5, l6, l7] (.null :: st) h Q = wp V (cdT Ev) mx d 84 9 [l0, l1, l2, some .null, l4, l5, l6, l7] st h Q := x_astoreN (len := 1) rfl (Nat.le_of_ble_eq_true rfl) (okp_nl rfl hn) rfl
theorem s_84_9 {a : Nat} : wp V (cdT Ev) mx d 84 9 [l0, l1, l2, some (.ref a), l4, l5, l6, l7] st h Q = wp V (cdT Ev) mx d 84 10 [l0, l1, l2, some (.ref a), l4, l5, l6, l7] (.ref a :: st) h Q := x_aload (len := 1) rfl rfl
theorem s_84_9_n : wp V (cdT Ev) mx d 84 9 [l0, l1, l2, some .null, l4, l5, l6, l7] st h Q = wp V (cdT Ev) mx d 84 10 [l0, l1, l2, some .null, l4, l5, l6, l7] (.null :: st) h Q := x_aloadN (len := 1) rfl rfl
theorem s_84_10 {a : Nat} : wp V (cdT Ev) mx d 84 10 ls (.ref a :: st) h Q = wp V (cdT Ev) mx d 84 13 ls st h Q := x_ifnull rfl
theorem s_84_10_n : wp V (cdT Ev) mx d 84 10 ls (.null :: st) h Q = wp V (cdT Ev) mx d 84 20 ls st h Q := x_ifnullN rfl
theorem s_84_13 {x : Int32} : wp V (cdT Ev) mx d 84 13 [l0, l1, some (.int x), l3, l4, l5, l6, l7] st h Q = wp V (cdT Ev) mx d 84 14 [l0, l1, some (.int x), l3, l4, l5, l6, l7] (.int x :: st) h Q := x_iload (len := 1) rfl rfl
theorem s_84_14 {v0 : Value} (hst : st.length ≤ 4) : wp V (cdT Ev) mx d 84 14 ls (v0 :: st) h Q = WP V (cdT Ev) mx d 105 [v0] h (fun r h' => wp V (cdT Ev) mx d 84 17 ls (rts r st) h' Q) := x_cs (sg := [v0]) rfl hst rfl rfl
theorem s_84_17 {x : Int32} : wp V (cdT Ev) mx d 84 17 ls (.int x :: st) h Q = (if ¬ x = 0 then wp V (cdT Ev) mx d 84 24 ls st h Q else wp V (cdT Ev) mx d 84 20 ls st h Q) := x_if1 (c := fun x => ¬ x = 0) rfl
theorem s_84_20 : wp V (cdT Ev) mx d 84 20 ls st h Q = wp V (cdT Ev) mx d 84 23 ls ((.long (-9223372036854775808)) :: st) h Q := x_push (v := (.long (-9223372036854775808))) (len := 3) rfl
theorem s_84_23 {x : Int64} : wp V (cdT Ev) mx d 84 23 ls [.long x] h Q = Q (some (.long x)) h := x_ret rfl rfl
theorem s_84_24 {a : Nat} : wp V (cdT Ev) mx d 84 24 [some (.ref a), l1, l2, l3, l4, l5, l6, l7] st h Q = wp V (cdT Ev) mx d 84 25 [some (.ref a), l1, l2, l3, l4, l5, l6, l7] (.ref a :: st) h Q := x_aload (len := 1) rfl rfl
theorem s_84_24_n : wp V (cdT Ev) mx d 84 24 [some .null, l1, l2, l3, l4, l5, l6, l7] st h Q = wp V (cdT Ev) mx d 84 25 [some .null, l1, l2, l3, l4, l5, l6, l7] (.null :: st) h Q := x_aloadN (len := 1) rfl rfl
theorem s_84_25 {a : Nat} : wp V (cdT Ev) mx d 84 25 ls (.ref a :: st) h Q = gf [11] 0 h a (fun v => wp V (cdT Ev) mx d 84 28 ls (v :: st) h Q) := x_getf rfl
theorem s_84_28 {a : Nat} : wp V (cdT Ev) mx d 84 28 [l0, l1, l2, some (.ref a), l4, l5, l6, l7] st h Q = wp V (cdT Ev) mx d 84 29 [l0, l1, l2, some (.ref a), l4, l5, l6, l7] (.ref a :: st) h Q := x_aload (len := 1) rfl rfl
theorem s_84_28_n : wp V (cdT Ev) mx d 84 28 [l0, l1, l2, some .null, l4, l5, l6, l7] st h Q = wp V (cdT Ev) mx d 84 29 [l0, l1, l2, some .null, l4, l5, l6, l7] (.null :: st) h Q := x_aloadN (len := 1) rfl rfl
theorem s_84_29 {a : Nat} : wp V (cdT Ev) mx d 84 29 [l0, l1, l2, some (.ref a), l4, l5, l6, l7] st h Q = wp V (cdT Ev) mx d 84 30 [l0, l1, l2, some (.ref a), l4, l5, l6, l7] (.ref a :: st) h Q := x_aload (len := 1) rfl rfl
theorem s_84_29_n : wp V (cdT Ev) mx d 84 29 [l0, l1, l2, some .null, l4, l5, l6, l7] st h Q = wp V (cdT Ev) mx d 84 30 [l0, l1, l2, some .null, l4, l5, l6, l7] (.null :: st) h Q := x_aloadN (len := 1) rfl rfl
theorem s_84_30 {a : Nat} : wp V (cdT Ev) mx d 84 30 ls (.ref a :: st) h Q = gf [1, 2, 3, 4, 5, 6, 8] 3 h a (fun v => wp V (cdT Ev) mx d 84 33 ls (v :: st) h Q) := x_getf rfl
theorem s_84_33 {b : Nat} {v0 v1 : Value} (hst : st.length ≤ 4) : wp V (cdT Ev) mx d 84 33 ls (v1 :: v0 :: .ref b :: st) h Q = cv [(10, 58)] h b (fun y' => WP V (cdT Ev) mx d y' [.ref b, v0, v1] h (fun r h' => wp V (cdT Ev) mx d 84 36 ls (rts r st) h' Q)) := x_cv (sg := [v1, v0]) rfl hst rfl rfl
theorem s_84_36 {x : Int32} (hn : nl l3 = true) : wp V (cdT Ev) mx d 84 36 [l0, l1, l2, l3, l4, l5, l6, l7] (.int x :: st) h Q = wp V (cdT Ev) mx d 84 38 [l0, l1, l2, l3, some (.int x), l5, l6, l7] st h Q := x_istore (len := 2) rfl (Nat.le_of_ble_eq_true rfl) (okp_nl rfl hn) rfl
theorem s_84_38 : wp V (cdT Ev) mx d 84 38 ls st h Q = wp V (cdT Ev) mx d 84 39 ls ((.int (0)) :: st) h Q := x_push (v := (.int (0))) (len := 1) rfl
theorem s_84_39 {x : Int32} (hn : nl l4 = true) : wp V (cdT Ev) mx d 84 39 [l0, l1, l2, l3, l4, l5, l6, l7] (.int x :: st) h Q = wp V (cdT Ev) mx d 84 41 [l0, l1, l2, l3, l4, some (.int x), l6, l7] st h Q := x_istore (len := 2) rfl (Nat.le_of_ble_eq_true rfl) (okp_nl rfl hn) rfl
theorem s_84_41 : wp V (cdT Ev) mx d 84 41 ls st h Q = wp V (cdT Ev) mx d 84 42 ls ((.int (0)) :: st) h Q := x_push (v := (.int (0))) (len := 1) rfl
theorem s_84_42 {x : Int32} (hn : nl l5 = true) : wp V (cdT Ev) mx d 84 42 [l0, l1, l2, l3, l4, l5, l6, l7] (.int x :: st) h Q = wp V (cdT Ev) mx d 84 44 [l0, l1, l2, l3, l4, l5, some (.int x), l7] st h Q := x_istore (len := 2) rfl (Nat.le_of_ble_eq_true rfl) (okp_nl rfl hn) rfl
theorem s_84_44 {x : Int32} : wp V (cdT Ev) mx d 84 44 [l0, l1, l2, l3, l4, l5, some (.int x), l7] st h Q = wp V (cdT Ev) mx d 84 46 [l0, l1, l2, l3, l4, l5, some (.int x), l7] (.int x :: st) h Q := x_iload (len := 2) rfl rfl
theorem s_84_46 : wp V (cdT Ev) mx d 84 46 ls st h Q = wp V (cdT Ev) mx d 84 48 ls ((.int (12)) :: st) h Q := x_push (v := (.int (12))) (len := 2) rfl
theorem s_84_48 {x z : Int32} : wp V (cdT Ev) mx d 84 48 ls (.int z :: .int x :: st) h Q = (if z ≤ x then wp V (cdT Ev) mx d 84 91 ls st h Q else wp V (cdT Ev) mx d 84 51 ls st h Q) := x_if2 (c := fun x z => z ≤ x) rfl
theorem s_84_51 {a : Nat} : wp V (cdT Ev) mx d 84 51 [some (.ref a), l1, l2, l3, l4, l5, l6, l7] st h Q = wp V (cdT Ev) mx d 84 52 [some (.ref a), l1, l2, l3, l4, l5, l6, l7] (.ref a :: st) h Q := x_aload (len := 1) rfl rfl
theorem s_84_51_n : wp V (cdT Ev) mx d 84 51 [some .null, l1, l2, l3, l4, l5, l6, l7] st h Q = wp V (cdT Ev) mx d 84 52 [some .null, l1, l2, l3, l4, l5, l6, l7] (.null :: st) h Q := x_aloadN (len := 1) rfl rfl
theorem s_84_52 {a : Nat} : wp V (cdT Ev) mx d 84 52 ls (.ref a :: st) h Q = gf [11] 0 h a (fun v => wp V (cdT Ev) mx d 84 55 ls (v :: st) h Q) := x_getf rfl
theorem s_84_55 {a : Nat} : wp V (cdT Ev) mx d 84 55 [l0, l1, l2, some (.ref a), l4, l5, l6, l7] st h Q = wp V (cdT Ev) mx d 84 56 [l0, l1, l2, some (.ref a), l4, l5, l6, l7] (.ref a :: st) h Q := x_aload (len := 1) rfl rfl
theorem s_84_55_n : wp V (cdT Ev) mx d 84 55 [l0, l1, l2, some .null, l4, l5, l6, l7] st h Q = wp V (cdT Ev) mx d 84 56 [l0, l1, l2, some .null, l4, l5, l6, l7] (.null :: st) h Q := x_aloadN (len := 1) rfl rfl
theorem s_84_56 {a : Nat} : wp V (cdT Ev) mx d 84 56 [l0, l1, l2, some (.ref a), l4, l5, l6, l7] st h Q = wp V (cdT Ev) mx d 84 57 [l0, l1, l2, some (.ref a), l4, l5, l6, l7] (.ref a :: st) h Q := x_aload (len := 1) rfl rfl
theorem s_84_56_n : wp V (cdT Ev) mx d 84 56 [l0, l1, l2, some .null, l4, l5, l6, l7] st h Q = wp V (cdT Ev) mx d 84 57 [l0, l1, l2, some .null, l4, l5, l6, l7] (.null :: st) h Q := x_aloadN (len := 1) rfl rfl
theorem s_84_57 {a : Nat} : wp V (cdT Ev) mx d 84 57 ls (.ref a :: st) h Q = gf [1, 2, 3, 4, 5, 6, 8] 3 h a (fun v => wp V (cdT Ev) mx d 84 60 ls (v :: st) h Q) := x_getf rfl
theorem s_84_60 : wp V (cdT Ev) mx d 84 60 ls st h Q = wp V (cdT Ev) mx d 84 61 ls ((.int (1)) :: st) h Q := x_push (v := (.int (1))) (len := 1) rfl
theorem s_84_61 {x : Int32} : wp V (cdT Ev) mx d 84 61 [l0, l1, l2, l3, l4, l5, some (.int x), l7] st h Q = wp V (cdT Ev) mx d 84 63 [l0, l1, l2, l3, l4, l5, some (.int x), l7] (.int x :: st) h Q := x_iload (len := 2) rfl rfl
theorem s_84_63 {x z : Int32} : wp V (cdT Ev) mx d 84 63 ls (.int z :: .int x :: st) h Q = wp V (cdT Ev) mx d 84 64 ls (.int (x <<< (z &&& 31)) :: st) h Q := x_ib (f := fun x z => x <<< (z &&& 31)) rfl
theorem s_84_64 {x z : Int32} : wp V (cdT Ev) mx d 84 64 ls (.int z :: .int x :: st) h Q = wp V (cdT Ev) mx d 84 65 ls (.int (x ||| z) :: st) h Q := x_ib (f := fun x z => x ||| z) rfl
theorem s_84_65 {b : Nat} {v0 v1 : Value} (hst : st.length ≤ 4) : wp V (cdT Ev) mx d 84 65 ls (v1 :: v0 :: .ref b :: st) h Q = cv [(10, 58)] h b (fun y' => WP V (cdT Ev) mx d y' [.ref b, v0, v1] h (fun r h' => wp V (cdT Ev) mx d 84 68 ls (rts r st) h' Q)) := x_cv (sg := [v1, v0]) rfl hst rfl rfl
theorem s_84_68 {x : Int32} (hn : nl l6 = true) : wp V (cdT Ev) mx d 84 68 [l0, l1, l2, l3, l4, l5, l6, l7] (.int x :: st) h Q = wp V (cdT Ev) mx d 84 70 [l0, l1, l2, l3, l4, l5, l6, some (.int x)] st h Q := x_istore (len := 2) rfl (Nat.le_of_ble_eq_true rfl) (okp_nl rfl hn) rfl
theorem s_84_70 {x : Int32} : wp V (cdT Ev) mx d 84 70 [l0, l1, l2, l3, l4, l5, l6, some (.int x)] st h Q = wp V (cdT Ev) mx d 84 72 [l0, l1, l2, l3, l4, l5, l6, some (.int x)] (.int x :: st) h Q := x_iload (len := 2) rfl rfl
theorem s_84_72 {x : Int32} : wp V (cdT Ev) mx d 84 72 ls (.int x :: st) h Q = (if x < 0 then wp V (cdT Ev) mx d 84 85 ls st h Q else wp V (cdT Ev) mx d 84 75 ls st h Q) := x_if1 (c := fun x => x < 0) rfl
theorem s_84_75 {x : Int32} : wp V (cdT Ev) mx d 84 75 [l0, l1, l2, l3, l4, l5, l6, some (.int x)] st h Q = wp V (cdT Ev) mx d 84 77 [l0, l1, l2, l3, l4, l5, l6, some (.int x)] (.int x :: st) h Q := x_iload (len := 2) rfl rfl
theorem s_84_77 {x : Int32} : wp V (cdT Ev) mx d 84 77 [l0, l1, l2, l3, some (.int x), l5, l6, l7] st h Q = wp V (cdT Ev) mx d 84 79 [l0, l1, l2, l3, some (.int x), l5, l6, l7] (.int x :: st) h Q := x_iload (len := 2) rfl rfl
theorem s_84_79 {x z : Int32} : wp V (cdT Ev) mx d 84 79 ls (.int z :: .int x :: st) h Q = (if x = z then wp V (cdT Ev) mx d 84 85 ls st h Q else wp V (cdT Ev) mx d 84 82 ls st h Q) := x_if2 (c := fun x z => x = z) rfl
theorem s_84_82 {x : Int32} : wp V (cdT Ev) mx d 84 82 [l0, l1, l2, l3, l4, some (.int x), l6, l7] st h Q = wp V (cdT Ev) mx d 84 85 [l0, l1, l2, l3, l4, some (.int (x + (1))), l6, l7] st h Q := x_iinc rfl rfl rfl
theorem s_84_85 {x : Int32} : wp V (cdT Ev) mx d 84 85 [l0, l1, l2, l3, l4, l5, some (.int x), l7] st h Q = wp V (cdT Ev) mx d 84 88 [l0, l1, l2, l3, l4, l5, some (.int (x + (1))), l7] st h Q := x_iinc rfl rfl rfl
theorem s_84_88 : wp V (cdT Ev) mx d 84 88 ls st h Q = wp V (cdT Ev) mx d 84 44 ls st h Q := x_goto rfl
theorem s_84_91 {x : Int32} : wp V (cdT Ev) mx d 84 91 [l0, l1, l2, l3, l4, some (.int x), l6, l7] st h Q = wp V (cdT Ev) mx d 84 93 [l0, l1, l2, l3, l4, some (.int x), l6, l7] (.int x :: st) h Q := x_iload (len := 2) rfl rfl
theorem s_84_93 : wp V (cdT Ev) mx d 84 93 ls st h Q = wp V (cdT Ev) mx d 84 95 ls ((.int (12)) :: st) h Q := x_push (v := (.int (12))) (len := 2) rfl
theorem s_84_95 {x : Int32} : wp V (cdT Ev) mx d 84 95 [l0, l1, some (.int x), l3, l4, l5, l6, l7] st h Q = wp V (cdT Ev) mx d 84 96 [l0, l1, some (.int x), l3, l4, l5, l6, l7] (.int x :: st) h Q := x_iload (len := 1) rfl rfl
theorem s_84_96 {v0 v1 v2 : Value} (hst : st.length ≤ 4) : wp V (cdT Ev) mx d 84 96 ls (v2 :: v1 :: v0 :: st) h Q = WP V (cdT Ev) mx d 110 [v0, v1, v2] h (fun r h' => wp V (cdT Ev) mx d 84 99 ls (rts r st) h' Q) := x_cs (sg := [v2, v1, v0]) rfl hst rfl rfl
theorem s_84_99 {x : Int64} : wp V (cdT Ev) mx d 84 99 ls [.long x] h Q = Q (some (.long x)) h := x_ret rfl rfl
theorem e_84 {a : Nat} {p0 : Int32} {p1 : Int32} : WP V (cdT Ev) mx (d + 1) 84 [.ref a, .int p0, .int p1] h Q = wp V (cdT Ev) mx d 84 0 [some (.ref a), some (.int p0), some (.int p1), none, none, none, none, none] [] h Q := propext (WP_eq (Nat.le_of_ble_eq_true rfl))
theorem s_85_0 {x : Int32} : wp V (cdT Ev) mx d 85 0 [l0, some (.int x), l2] st h Q = wp V (cdT Ev) mx d 85 1 [l0, some (.int x), l2] (.int x :: st) h Q := x_iload (len := 1) rfl rfl
theorem s_85_1 {v0 : Value} (hst : st.length ≤ 4) : wp V (cdT Ev) mx d 85 1 ls (v0 :: st) h Q = WP V (cdT Ev) mx d 104 [v0] h (fun r h' => wp V (cdT Ev) mx d 85 4 ls (rts r st) h' Q) := x_cs (sg := [v0]) rfl hst rfl rfl
theorem s_85_4 {x : Int32} : wp V (cdT Ev) mx d 85 4 ls (.int x :: st) h Q = (if x = 0 then wp V (cdT Ev) mx d 85 14 ls st h Q else wp V (cdT Ev) mx d 85 7 ls st h Q) := x_if1 (c := fun x => x = 0) rfl
theorem s_85_7 {x : Int32} : wp V (cdT Ev) mx d 85 7 [l0, l1, some (.int x)] st h Q = wp V (cdT Ev) mx d 85 8 [l0, l1, some (.int x)] (.int x :: st) h Q := x_iload (len := 1) rfl rfl
theorem s_85_8 {v0 : Value} (hst : st.length ≤ 4) : wp V (cdT Ev) mx d 85 8 ls (v0 :: st) h Q = WP V (cdT Ev) mx d 105 [v0] h (fun r h' => wp V (cdT Ev) mx d 85 11 ls (rts r st) h' Q) := x_cs (sg := [v0]) rfl hst rfl rfl
theorem s_85_11 {x : Int32} : wp V (cdT Ev) mx d 85 11 ls (.int x :: st) h Q = (if ¬ x = 0 then wp V (cdT Ev) mx d 85 18 ls st h Q else wp V (cdT Ev) mx d 85 14 ls st h Q) := x_if1 (c := fun x => ¬ x = 0) rfl
theorem s_85_14 : wp V (cdT Ev) mx d 85 14 ls st h Q = wp V (cdT Ev) mx d 85 17 ls ((.long (-9223372036854775808)) :: st) h Q := x_push (v := (.long (-9223372036854775808))) (len := 3) rfl
theorem s_85_17 {x : Int64} : wp V (cdT Ev) mx d 85 17 ls [.long x] h Q = Q (some (.long x)) h := x_ret rfl rfl
theorem s_85_18 {a : Nat} : wp V (cdT Ev) mx d 85 18 [some (.ref a), l1, l2] st h Q = wp V (cdT Ev) mx d 85 19 [some (.ref a), l1, l2] (.ref a :: st) h Q := x_aload (len := 1) rfl rfl
theorem s_85_18_n : wp V (cdT Ev) mx d 85 18 [some .null, l1, l2] st h Q = wp V (cdT Ev) mx d 85 19 [some .null, l1, l2] (.null :: st) h Q := x_aloadN (len := 1) rfl rfl
theorem s_85_19 {a : Nat} : wp V (cdT Ev) mx d 85 19 ls (.ref a :: st) h Q = gf [11] 1 h a (fun v => wp V (cdT Ev) mx d 85 22 ls (v :: st) h Q) := x_getf rfl
theorem s_85_22 {a : Nat} : wp V (cdT Ev) mx d 85 22 [some (.ref a), l1, l2] st h Q = wp V (cdT Ev) mx d 85 23 [some (.ref a), l1, l2] (.ref a :: st) h Q := x_aload (len := 1) rfl rfl
theorem s_85_22_n : wp V (cdT Ev) mx d 85 22 [some .null, l1, l2] st h Q = wp V (cdT Ev) mx d 85 23 [some .null, l1, l2] (.null :: st) h Q := x_aloadN (len := 1) rfl rfl
theorem s_85_23 {a : Nat} : wp V (cdT Ev) mx d 85 23 ls (.ref a :: st) h Q = gf [11] 0 h a (fun v => wp V (cdT Ev) mx d 85 26 ls (v :: st) h Q) := x_getf rfl
theorem s_85_26 {b : Nat} {v0 : Value} (hst : st.length ≤ 4) : wp V (cdT Ev) mx d 85 26 ls (v0 :: .ref b :: st) h Q = cv [(10, 49)] h b (fun y' => WP V (cdT Ev) mx d y' [.ref b, v0] h (fun r h' => wp V (cdT Ev) mx d 85 29 ls (rts r st) h' Q)) := x_cv (sg := [v0]) rfl hst rfl rfl
theorem s_85_29 {a : Nat} : wp V (cdT Ev) mx d 85 29 [some (.ref a), l1, l2] st h Q = wp V (cdT Ev) mx d 85 30 [some (.ref a), l1, l2] (.ref a :: st) h Q := x_aload (len := 1) rfl rfl
theorem s_85_29_n : wp V (cdT Ev) mx d 85 29 [some .null, l1, l2] st h Q = wp V (cdT Ev) mx d 85 30 [some .null, l1, l2] (.null :: st) h Q := x_aloadN (len := 1) rfl rfl
theorem s_85_30 {a : Nat} : wp V (cdT Ev) mx d 85 30 ls (.ref a :: st) h Q = gf [11] 1 h a (fun v => wp V (cdT Ev) mx d 85 33 ls (v :: st) h Q) := x_getf rfl
theorem s_85_33 {x : Int32} : wp V (cdT Ev) mx d 85 33 [l0, some (.int x), l2] st h Q = wp V (cdT Ev) mx d 85 34 [l0, some (.int x), l2] (.int x :: st) h Q := x_iload (len := 1) rfl rfl
theorem s_85_34 : wp V (cdT Ev) mx d 85 34 ls st h Q = wp V (cdT Ev) mx d 85 36 ls ((.int (2147483647)) :: st) h Q := x_push (v := (.int (2147483647))) (len := 2) rfl
theorem s_85_36 {b : Nat} {v0 v1 : Value} (hst : st.length ≤ 4) : wp V (cdT Ev) mx d 85 36 ls (v1 :: v0 :: .ref b :: st) h Q = cv [(10, 59)] h b (fun y' => WP V (cdT Ev) mx d y' [.ref b, v0, v1] h (fun r h' => wp V (cdT Ev) mx d 85 39 ls (rts r st) h' Q)) := x_cv (sg := [v1, v0]) rfl hst rfl rfl
theorem s_85_39 {a : Nat} : wp V (cdT Ev) mx d 85 39 [some (.ref a), l1, l2] st h Q = wp V (cdT Ev) mx d 85 40 [some (.ref a), l1, l2] (.ref a :: st) h Q := x_aload (len := 1) rfl rfl
theorem s_85_39_n : wp V (cdT Ev) mx d 85 39 [some .null, l1, l2] st h Q = wp V (cdT Ev) mx d 85 40 [some .null, l1, l2] (.null :: st) h Q := x_aloadN (len := 1) rfl rfl
theorem s_85_40 {a : Nat} : wp V (cdT Ev) mx d 85 40 ls (.ref a :: st) h Q = gf [11] 1 h a (fun v => wp V (cdT Ev) mx d 85 43 ls (v :: st) h Q) := x_getf rfl
theorem s_85_43 {b : Nat} (hst : st.length ≤ 4) : wp V (cdT Ev) mx d 85 43 ls (.ref b :: st) h Q = cv [(10, 55)] h b (fun y' => WP V (cdT Ev) mx d y' [.ref b] h (fun r h' => wp V (cdT Ev) mx d 85 46 ls (rts r st) h' Q)) := x_cv (sg := []) rfl hst rfl rfl
theorem s_85_46 {a : Nat} : wp V (cdT Ev) mx d 85 46 [some (.ref a), l1, l2] st h Q = wp V (cdT Ev) mx d 85 47 [some (.ref a), l1, l2] (.ref a :: st) h Q := x_aload (len := 1) rfl rfl
theorem s_85_46_n : wp V (cdT Ev) mx d 85 46 [some .null, l1, l2] st h Q = wp V (cdT Ev) mx d 85 47 [some .null, l1, l2] (.null :: st) h Q := x_aloadN (len := 1) rfl rfl
theorem s_85_47 {a : Nat} : wp V (cdT Ev) mx d 85 47 ls (.ref a :: st) h Q = gf [11] 1 h a (fun v => wp V (cdT Ev) mx d 85 50 ls (v :: st) h Q) := x_getf rfl
theorem s_85_50 {a : Nat} : wp V (cdT Ev) mx d 85 50 ls (.ref a :: st) h Q = gf [10] 4 h a (fun v => wp V (cdT Ev) mx d 85 53 ls (v :: st) h Q) := x_getf rfl
theorem s_85_53 {v0 : Value} (hst : st.length ≤ 4) : wp V (cdT Ev) mx d 85 53 ls (v0 :: st) h Q = WP V (cdT Ev) mx d 195 [v0] h (fun r h' => wp V (cdT Ev) mx d 85 56 ls (rts r st) h' Q) := x_cs (sg := [v0]) rfl hst rfl rfl
theorem s_85_56 {x : Int32} : wp V (cdT Ev) mx d 85 56 [l0, l1, some (.int x)] st h Q = wp V (cdT Ev) mx d 85 57 [l0, l1, some (.int x)] (.int x :: st) h Q := x_iload (len := 1) rfl rfl
theorem s_85_57 {v0 v1 v2 : Value} (hst : st.length ≤ 4) : wp V (cdT Ev) mx d 85 57 ls (v2 :: v1 :: v0 :: st) h Q = WP V (cdT Ev) mx d 110 [v0, v1, v2] h (fun r h' => wp V (cdT Ev) mx d 85 60 ls (rts r st) h' Q) := x_cs (sg := [v2, v1, v0]) rfl hst rfl rfl
theorem s_85_60 {x : Int64} : wp V (cdT Ev) mx d 85 60 ls [.long x] h Q = Q (some (.long x)) h := x_ret rfl rfl
theorem e_85 {a : Nat} {p0 : Int32} {p1 : Int32} : WP V (cdT Ev) mx (d + 1) 85 [.ref a, .int p0, .int p1] h Q = wp V (cdT Ev) mx d 85 0 [some (.ref a), some (.int p0), some (.int p1)] [] h Q := propext (WP_eq (Nat.le_of_ble_eq_true rfl))
theorem s_86_0 {x : Int32} : wp V (cdT Ev) mx d 86 0 [l0, some (.int x), l2] st h Q = wp V (cdT Ev) mx d 86 1 [l0, some (.int x), l2] (.int x :: st) h Q := x_iload (len := 1) rfl rfl
theorem s_86_1 : wp V (cdT Ev) mx d 86 1 ls st h Q = wp V (cdT Ev) mx d 86 2 ls ((.int (-1)) :: st) h Q := x_push (v := (.int (-1))) (len := 1) rfl
theorem s_86_2 {x z : Int32} : wp V (cdT Ev) mx d 86 2 ls (.int z :: .int x :: st) h Q = (if ¬ x = z then wp V (cdT Ev) mx d 86 16 ls st h Q else wp V (cdT Ev) mx d 86 5 ls st h Q) := x_if2 (c := fun x z => ¬ x = z) rfl
theorem s_86_5 {a : Nat} : wp V (cdT Ev) mx d 86 5 [some (.ref a), l1, l2] st h Q = wp V (cdT Ev) mx d 86 6 [some (.ref a), l1, l2] (.ref a :: st) h Q := x_aload (len := 1) rfl rfl
theorem s_86_5_n : wp V (cdT Ev) mx d 86 5 [some .null, l1, l2] st h Q = wp V (cdT Ev) mx d 86 6 [some .null, l1, l2] (.null :: st) h Q := x_aloadN (len := 1) rfl rfl
theorem s_86_6 {a : Nat} : wp V (cdT Ev) mx d 86 6 ls (.ref a :: st) h Q = gf [11] 0 h a (fun v => wp V (cdT Ev) mx d 86 9 ls (v :: st) h Q) := x_getf rfl
theorem s_86_9 {a : Nat} : wp V (cdT Ev) mx d 86 9 ls (.ref a :: st) h Q = gf [10] 7 h a (fun v => wp V (cdT Ev) mx d 86 12 ls (v :: st) h Q) := x_getf rfl
theorem s_86_12 {b : Nat} (hst : st.length ≤ 4) : wp V (cdT Ev) mx d 86 12 ls (.ref b :: st) h Q = cv [(7, 38)] h b (fun y' => WP V (cdT Ev) mx d y' [.ref b] h (fun r h' => wp V (cdT Ev) mx d 86 15 ls (rts r st) h' Q)) := x_cv (sg := []) rfl hst rfl rfl
theorem s_86_15 {x : Int32} : wp V (cdT Ev) mx d 86 15 ls [.int x] h Q = Q (some (.int x)) h := x_ret rfl rfl
theorem s_86_16 {x : Int32} : wp V (cdT Ev) mx d 86 16 [l0, some (.int x), l2] st h Q = wp V (cdT Ev) mx d 86 17 [l0, some (.int x), l2] (.int x :: st) h Q := x_iload (len := 1) rfl rfl
theorem s_86_17 {x : Int32} : wp V (cdT Ev) mx d 86 17 ls (.int x :: st) h Q = (if x < 0 then wp V (cdT Ev) mx d 86 25 ls st h Q else wp V (cdT Ev) mx d 86 20 ls st h Q) := x_if1 (c := fun x => x < 0) rfl
theorem s_86_20 {x : Int32} : wp V (cdT Ev) mx d 86 20 [l0, some (.int x), l2] st h Q = wp V (cdT Ev) mx d 86 21 [l0, some (.int x), l2] (.int x :: st) h Q := x_iload (len := 1) rfl rfl
theorem s_86_21 : wp V (cdT Ev) mx d 86 21 ls st h Q = wp V (cdT Ev) mx d 86 22 ls ((.int (3)) :: st) h Q := x_push (v := (.int (3))) (len := 1) rfl
theorem s_86_22 {x z : Int32} : wp V (cdT Ev) mx d 86 22 ls (.int z :: .int x :: st) h Q = (if x ≤ z then wp V (cdT Ev) mx d 86 27 ls st h Q else wp V (cdT Ev) mx d 86 25 ls st h Q) := x_if2 (c := fun x z => x ≤ z) rfl
theorem s_86_25 : wp V (cdT Ev) mx d 86 25 ls st h Q = wp V (cdT Ev) mx d 86 26 ls ((.int (-1)) :: st) h Q := x_push (v := (.int (-1))) (len := 1) rfl
theorem s_86_26 {x : Int32} : wp V (cdT Ev) mx d 86 26 ls [.int x] h Q = Q (some (.int x)) h := x_ret rfl rfl
theorem s_86_27 {x : Int32} : wp V (cdT Ev) mx d 86 27 [l0, some (.int x), l2] st h Q = wp V (cdT Ev) mx d 86 28 [l0, some (.int x), l2] (.int x :: st) h Q := x_iload (len := 1) rfl rfl
theorem s_86_28 : wp V (cdT Ev) mx d 86 28 ls st h Q = wp V (cdT Ev) mx d 86 29 ls ((.int (1)) :: st) h Q := x_push (v := (.int (1))) (len := 1) rfl
theorem s_86_29 {x z : Int32} : wp V (cdT Ev) mx d 86 29 ls (.int z :: .int x :: st) h Q = (if x = z then wp V (cdT Ev) mx d 86 37 ls st h Q else wp V (cdT Ev) mx d 86 32 ls st h Q) := x_if2 (c := fun x z => x = z) rfl
theorem s_86_32 {x : Int32} : wp V (cdT Ev) mx d 86 32 [l0, some (.int x), l2] st h Q = wp V (cdT Ev) mx d 86 33 [l0, some (.int x), l2] (.int x :: st) h Q := x_iload (len := 1) rfl rfl
theorem s_86_33 : wp V (cdT Ev) mx d 86 33 ls st h Q = wp V (cdT Ev) mx d 86 34 ls ((.int (2)) :: st) h Q := x_push (v := (.int (2))) (len := 1) rfl
theorem s_86_34 {x z : Int32} : wp V (cdT Ev) mx d 86 34 ls (.int z :: .int x :: st) h Q = (if ¬ x = z then wp V (cdT Ev) mx d 86 50 ls st h Q else wp V (cdT Ev) mx d 86 37 ls st h Q) := x_if2 (c := fun x z => ¬ x = z) rfl
theorem s_86_37 {a : Nat} : wp V (cdT Ev) mx d 86 37 [some (.ref a), l1, l2] st h Q = wp V (cdT Ev) mx d 86 38 [some (.ref a), l1, l2] (.ref a :: st) h Q := x_aload (len := 1) rfl rfl
theorem s_86_37_n : wp V (cdT Ev) mx d 86 37 [some .null, l1, l2] st h Q = wp V (cdT Ev) mx d 86 38 [some .null, l1, l2] (.null :: st) h Q := x_aloadN (len := 1) rfl rfl
theorem s_86_38 {a : Nat} : wp V (cdT Ev) mx d 86 38 ls (.ref a :: st) h Q = gf [11] 0 h a (fun v => wp V (cdT Ev) mx d 86 41 ls (v :: st) h Q) := x_getf rfl
theorem s_86_41 {x : Int32} : wp V (cdT Ev) mx d 86 41 [l0, l1, some (.int x)] st h Q = wp V (cdT Ev) mx d 86 42 [l0, l1, some (.int x)] (.int x :: st) h Q := x_iload (len := 1) rfl rfl
theorem s_86_42 {b : Nat} {v0 : Value} (hst : st.length ≤ 4) : wp V (cdT Ev) mx d 86 42 ls (v0 :: .ref b :: st) h Q = cv [(10, 51)] h b (fun y' => WP V (cdT Ev) mx d y' [.ref b, v0] h (fun r h' => wp V (cdT Ev) mx d 86 45 ls (rts r st) h' Q)) := x_cv (sg := [v0]) rfl hst rfl rfl
theorem s_86_45 {a : Nat} : wp V (cdT Ev) mx d 86 45 ls (.ref a :: st) h Q = wp V (cdT Ev) mx d 86 50 ls st h Q := x_ifnonnull rfl
theorem s_86_45_n : wp V (cdT Ev) mx d 86 45 ls (.null :: st) h Q = wp V (cdT Ev) mx d 86 48 ls st h Q := x_ifnonnullN rfl
theorem s_86_48 : wp V (cdT Ev) mx d 86 48 ls st h Q = wp V (cdT Ev) mx d 86 49 ls ((.int (-1)) :: st) h Q := x_push (v := (.int (-1))) (len := 1) rfl
theorem s_86_49 {x : Int32} : wp V (cdT Ev) mx d 86 49 ls [.int x] h Q = Q (some (.int x)) h := x_ret rfl rfl
theorem s_86_50 {x : Int32} : wp V (cdT Ev) mx d 86 50 [l0, some (.int x), l2] st h Q = wp V (cdT Ev) mx d 86 51 [l0, some (.int x), l2] (.int x :: st) h Q := x_iload (len := 1) rfl rfl
theorem s_86_51 : wp V (cdT Ev) mx d 86 51 ls st h Q = wp V (cdT Ev) mx d 86 52 ls ((.int (3)) :: st) h Q := x_push (v := (.int (3))) (len := 1) rfl
theorem s_86_52 {x z : Int32} : wp V (cdT Ev) mx d 86 52 ls (.int z :: .int x :: st) h Q = (if ¬ x = z then wp V (cdT Ev) mx d 86 64 ls st h Q else wp V (cdT Ev) mx d 86 55 ls st h Q) := x_if2 (c := fun x z => ¬ x = z) rfl
theorem s_86_55 {x : Int32} : wp V (cdT Ev) mx d 86 55 [l0, l1, some (.int x)] st h Q = wp V (cdT Ev) mx d 86 56 [l0, l1, some (.int x)] (.int x :: st) h Q := x_iload (len := 1) rfl rfl
theorem s_86_56 {v0 : Value} (hst : st.length ≤ 4) : wp V (cdT Ev) mx d 86 56 ls (v0 :: st) h Q = WP V (cdT Ev) mx d 101 [v0] h (fun r h' => wp V (cdT Ev) mx d 86 59 ls (rts r st) h' Q) := x_cs (sg := [v0]) rfl hst rfl rfl
theorem s_86_59 {x : Int32} : wp V (cdT Ev) mx d 86 59 ls (.int x :: st) h Q = (if ¬ x = 0 then wp V (cdT Ev) mx d 86 64 ls st h Q else wp V (cdT Ev) mx d 86 62 ls st h Q) := x_if1 (c := fun x => ¬ x = 0) rfl
theorem s_86_62 : wp V (cdT Ev) mx d 86 62 ls st h Q = wp V (cdT Ev) mx d 86 63 ls ((.int (-1)) :: st) h Q := x_push (v := (.int (-1))) (len := 1) rfl
theorem s_86_63 {x : Int32} : wp V (cdT Ev) mx d 86 63 ls [.int x] h Q = Q (some (.int x)) h := x_ret rfl rfl
theorem s_86_64 {a : Nat} : wp V (cdT Ev) mx d 86 64 [some (.ref a), l1, l2] st h Q = wp V (cdT Ev) mx d 86 65 [some (.ref a), l1, l2] (.ref a :: st) h Q := x_aload (len := 1) rfl rfl
theorem s_86_64_n : wp V (cdT Ev) mx d 86 64 [some .null, l1, l2] st h Q = wp V (cdT Ev) mx d 86 65 [some .null, l1, l2] (.null :: st) h Q := x_aloadN (len := 1) rfl rfl
theorem s_86_65 {a : Nat} : wp V (cdT Ev) mx d 86 65 ls (.ref a :: st) h Q = gf [11] 0 h a (fun v => wp V (cdT Ev) mx d 86 68 ls (v :: st) h Q) := x_getf rfl
theorem s_86_68 {a : Nat} : wp V (cdT Ev) mx d 86 68 ls (.ref a :: st) h Q = gf [10] 7 h a (fun v => wp V (cdT Ev) mx d 86 71 ls (v :: st) h Q) := x_getf rfl
theorem s_86_71 {x : Int32} : wp V (cdT Ev) mx d 86 71 [l0, some (.int x), l2] st h Q = wp V (cdT Ev) mx d 86 72 [l0, some (.int x), l2] (.int x :: st) h Q := x_iload (len := 1) rfl rfl
theorem s_86_72 {x : Int32} : wp V (cdT Ev) mx d 86 72 [l0, l1, some (.int x)] st h Q = wp V (cdT Ev) mx d 86 73 [l0, l1, some (.int x)] (.int x :: st) h Q := x_iload (len := 1) rfl rfl
theorem s_86_73 {b : Nat} {v0 v1 : Value} (hst : st.length ≤ 4) : wp V (cdT Ev) mx d 86 73 ls (v1 :: v0 :: .ref b :: st) h Q = cv [(7, 39)] h b (fun y' => WP V (cdT Ev) mx d y' [.ref b, v0, v1] h (fun r h' => wp V (cdT Ev) mx d 86 76 ls (rts r st) h' Q)) := x_cv (sg := [v1, v0]) rfl hst rfl rfl
theorem s_86_76 {x : Int32} : wp V (cdT Ev) mx d 86 76 ls [.int x] h Q = Q (some (.int x)) h := x_ret rfl rfl
theorem e_86 {a : Nat} {p0 : Int32} {p1 : Int32} : WP V (cdT Ev) mx (d + 1) 86 [.ref a, .int p0, .int p1] h Q = wp V (cdT Ev) mx d 86 0 [some (.ref a), some (.int p0), some (.int p1)] [] h Q := propext (WP_eq (Nat.le_of_ble_eq_true rfl))
theorem s_87_0 {x : Int32} : wp V (cdT Ev) mx d 87 0 [l0, some (.int x), l2] st h Q = wp V (cdT Ev) mx d 87 1 [l0, some (.int x), l2] (.int x :: st) h Q := x_iload (len := 1) rfl rfl
theorem s_87_1 {x : Int32} : wp V (cdT Ev) mx d 87 1 ls (.int x :: st) h Q = (if x < 0 then wp V (cdT Ev) mx d 87 9 ls st h Q else wp V (cdT Ev) mx d 87 4 ls st h Q) := x_if1 (c := fun x => x < 0) rfl
theorem s_87_4 {x : Int32} : wp V (cdT Ev) mx d 87 4 [l0, some (.int x), l2] st h Q = wp V (cdT Ev) mx d 87 5 [l0, some (.int x), l2] (.int x :: st) h Q := x_iload (len := 1) rfl rfl
theorem s_87_5 : wp V (cdT Ev) mx d 87 5 ls st h Q = wp V (cdT Ev) mx d 87 6 ls ((.int (1)) :: st) h Q := x_push (v := (.int (1))) (len := 1) rfl
theorem s_87_6 {x z : Int32} : wp V (cdT Ev) mx d 87 6 ls (.int z :: .int x :: st) h Q = (if x ≤ z then wp V (cdT Ev) mx d 87 11 ls st h Q else wp V (cdT Ev) mx d 87 9 ls st h Q) := x_if2 (c := fun x z => x ≤ z) rfl
theorem s_87_9 : wp V (cdT Ev) mx d 87 9 ls st h Q = wp V (cdT Ev) mx d 87 10 ls ((.int (-1)) :: st) h Q := x_push (v := (.int (-1))) (len := 1) rfl
theorem s_87_10 {x : Int32} : wp V (cdT Ev) mx d 87 10 ls [.int x] h Q = Q (some (.int x)) h := x_ret rfl rfl
theorem s_87_11 {a : Nat} : wp V (cdT Ev) mx d 87 11 [some (.ref a), l1, l2] st h Q = wp V (cdT Ev) mx d 87 12 [some (.ref a), l1, l2] (.ref a :: st) h Q := x_aload (len := 1) rfl rfl
theorem s_87_11_n : wp V (cdT Ev) mx d 87 11 [some .null, l1, l2] st h Q = wp V (cdT Ev) mx d 87 12 [some .null, l1, l2] (.null :: st) h Q := x_aloadN (len := 1) rfl rfl
theorem s_87_12 {a : Nat} : wp V (cdT Ev) mx d 87 12 ls (.ref a :: st) h Q = gf [11] 1 h a (fun v => wp V (cdT Ev) mx d 87 15 ls (v :: st) h Q) := x_getf rfl
theorem s_87_15 {a : Nat} : wp V (cdT Ev) mx d 87 15 [some (.ref a), l1, l2] st h Q = wp V (cdT Ev) mx d 87 16 [some (.ref a), l1, l2] (.ref a :: st) h Q := x_aload (len := 1) rfl rfl
theorem s_87_15_n : wp V (cdT Ev) mx d 87 15 [some .null, l1, l2] st h Q = wp V (cdT Ev) mx d 87 16 [some .null, l1, l2] (.null :: st) h Q := x_aloadN (len := 1) rfl rfl
theorem s_87_16 {a : Nat} : wp V (cdT Ev) mx d 87 16 ls (.ref a :: st) h Q = gf [11] 0 h a (fun v => wp V (cdT Ev) mx d 87 19 ls (v :: st) h Q) := x_getf rfl
theorem s_87_19 {b : Nat} {v0 : Value} (hst : st.length ≤ 4) : wp V (cdT Ev) mx d 87 19 ls (v0 :: .ref b :: st) h Q = cv [(10, 49)] h b (fun y' => WP V (cdT Ev) mx d y' [.ref b, v0] h (fun r h' => wp V (cdT Ev) mx d 87 22 ls (rts r st) h' Q)) := x_cv (sg := [v0]) rfl hst rfl rfl
theorem s_87_22 : wp V (cdT Ev) mx d 87 22 ls st h Q = wp V (cdT Ev) mx d 87 23 ls ((.int (0)) :: st) h Q := x_push (v := (.int (0))) (len := 1) rfl
theorem s_87_23 {x : Int32} (hn : nl l1 = true) : wp V (cdT Ev) mx d 87 23 [l0, l1, l2] (.int x :: st) h Q = wp V (cdT Ev) mx d 87 24 [l0, l1, some (.int x)] st h Q := x_istore (len := 1) rfl (Nat.le_of_ble_eq_true rfl) (okp_nl rfl hn) rfl
theorem s_87_24 {x : Int32} : wp V (cdT Ev) mx d 87 24 [l0, l1, some (.int x)] st h Q = wp V (cdT Ev) mx d 87 25 [l0, l1, some (.int x)] (.int x :: st) h Q := x_iload (len := 1) rfl rfl
theorem s_87_25 {a : Nat} : wp V (cdT Ev) mx d 87 25 [some (.ref a), l1, l2] st h Q = wp V (cdT Ev) mx d 87 26 [some (.ref a), l1, l2] (.ref a :: st) h Q := x_aload (len := 1) rfl rfl
theorem s_87_25_n : wp V (cdT Ev) mx d 87 25 [some .null, l1, l2] st h Q = wp V (cdT Ev) mx d 87 26 [some .null, l1, l2] (.null :: st) h Q := x_aloadN (len := 1) rfl rfl
theorem s_87_26 {a : Nat} : wp V (cdT Ev) mx d 87 26 ls (.ref a :: st) h Q = gf [11] 0 h a (fun v => wp V (cdT Ev) mx d 87 29 ls (v :: st) h Q) := x_getf rfl
theorem s_87_29 {a : Nat} : wp V (cdT Ev) mx d 87 29 ls (.ref a :: st) h Q = gf [10] 7 h a (fun v => wp V (cdT Ev) mx d 87 32 ls (v :: st) h Q) := x_getf rfl
theorem s_87_32 {a : Nat} : wp V (cdT Ev) mx d 87 32 ls (.ref a :: st) h Q = gf [7] 2 h a (fun v => wp V (cdT Ev) mx d 87 35 ls (v :: st) h Q) := x_getf rfl
theorem s_87_35 {x z : Int32} : wp V (cdT Ev) mx d 87 35 ls (.int z :: .int x :: st) h Q = (if z ≤ x then wp V (cdT Ev) mx d 87 72 ls st h Q else wp V (cdT Ev) mx d 87 38 ls st h Q) := x_if2 (c := fun x z => z ≤ x) rfl
theorem s_87_38 {a : Nat} : wp V (cdT Ev) mx d 87 38 [some (.ref a), l1, l2] st h Q = wp V (cdT Ev) mx d 87 39 [some (.ref a), l1, l2] (.ref a :: st) h Q := x_aload (len := 1) rfl rfl
theorem s_87_38_n : wp V (cdT Ev) mx d 87 38 [some .null, l1, l2] st h Q = wp V (cdT Ev) mx d 87 39 [some .null, l1, l2] (.null :: st) h Q := x_aloadN (len := 1) rfl rfl
theorem s_87_39 {a : Nat} : wp V (cdT Ev) mx d 87 39 [some (.ref a), l1, l2] st h Q = wp V (cdT Ev) mx d 87 40 [some (.ref a), l1, l2] (.ref a :: st) h Q := x_aload (len := 1) rfl rfl
theorem s_87_39_n : wp V (cdT Ev) mx d 87 39 [some .null, l1, l2] st h Q = wp V (cdT Ev) mx d 87 40 [some .null, l1, l2] (.null :: st) h Q := x_aloadN (len := 1) rfl rfl
theorem s_87_40 {a : Nat} : wp V (cdT Ev) mx d 87 40 ls (.ref a :: st) h Q = gf [11] 0 h a (fun v => wp V (cdT Ev) mx d 87 43 ls (v :: st) h Q) := x_getf rfl
theorem s_87_43 {a : Nat} : wp V (cdT Ev) mx d 87 43 ls (.ref a :: st) h Q = gf [10] 7 h a (fun v => wp V (cdT Ev) mx d 87 46 ls (v :: st) h Q) := x_getf rfl
theorem s_87_46 {a : Nat} : wp V (cdT Ev) mx d 87 46 ls (.ref a :: st) h Q = gf [7] 0 h a (fun v => wp V (cdT Ev) mx d 87 49 ls (v :: st) h Q) := x_getf rfl
theorem s_87_49 {x : Int32} : wp V (cdT Ev) mx d 87 49 [l0, l1, some (.int x)] st h Q = wp V (cdT Ev) mx d 87 50 [l0, l1, some (.int x)] (.int x :: st) h Q := x_iload (len := 1) rfl rfl
theorem s_87_50 {i : Int32} {a : Nat} : wp V (cdT Ev) mx d 87 50 ls (.int i :: .ref a :: st) h Q = ai 2 i V h a (fun x => wp V (cdT Ev) mx d 87 51 ls (.int x :: st) h Q) := x_iald rfl
theorem s_87_51 {a : Nat} : wp V (cdT Ev) mx d 87 51 [some (.ref a), l1, l2] st h Q = wp V (cdT Ev) mx d 87 52 [some (.ref a), l1, l2] (.ref a :: st) h Q := x_aload (len := 1) rfl rfl
theorem s_87_51_n : wp V (cdT Ev) mx d 87 51 [some .null, l1, l2] st h Q = wp V (cdT Ev) mx d 87 52 [some .null, l1, l2] (.null :: st) h Q := x_aloadN (len := 1) rfl rfl
theorem s_87_52 {a : Nat} : wp V (cdT Ev) mx d 87 52 ls (.ref a :: st) h Q = gf [11] 0 h a (fun v => wp V (cdT Ev) mx d 87 55 ls (v :: st) h Q) := x_getf rfl
theorem s_87_55 {a : Nat} : wp V (cdT Ev) mx d 87 55 ls (.ref a :: st) h Q = gf [10] 7 h a (fun v => wp V (cdT Ev) mx d 87 58 ls (v :: st) h Q) := x_getf rfl
theorem s_87_58 {a : Nat} : wp V (cdT Ev) mx d 87 58 ls (.ref a :: st) h Q = gf [7] 1 h a (fun v => wp V (cdT Ev) mx d 87 61 ls (v :: st) h Q) := x_getf rfl
theorem s_87_61 {x : Int32} : wp V (cdT Ev) mx d 87 61 [l0, l1, some (.int x)] st h Q = wp V (cdT Ev) mx d 87 62 [l0, l1, some (.int x)] (.int x :: st) h Q := x_iload (len := 1) rfl rfl
theorem s_87_62 {i : Int32} {a : Nat} : wp V (cdT Ev) mx d 87 62 ls (.int i :: .ref a :: st) h Q = ai 2 i V h a (fun x => wp V (cdT Ev) mx d 87 63 ls (.int x :: st) h Q) := x_iald rfl
theorem s_87_63 {b : Nat} {v0 v1 : Value} (hst : st.length ≤ 4) : wp V (cdT Ev) mx d 87 63 ls (v1 :: v0 :: .ref b :: st) h Q = cv [(11, 121)] h b (fun y' => WP V (cdT Ev) mx d y' [.ref b, v0, v1] h (fun r h' => wp V (cdT Ev) mx d 87 66 ls (rts r st) h' Q)) := x_cv (sg := [v1, v0]) rfl hst rfl rfl
theorem s_87_66 {x : Int32} : wp V (cdT Ev) mx d 87 66 [l0, l1, some (.int x)] st h Q = wp V (cdT Ev) mx d 87 69 [l0, l1, some (.int (x + (1)))] st h Q := x_iinc rfl rfl rfl
theorem s_87_69 : wp V (cdT Ev) mx d 87 69 ls st h Q = wp V (cdT Ev) mx d 87 24 ls st h Q := x_goto rfl
theorem s_87_72 {x : Int32} : wp V (cdT Ev) mx d 87 72 [l0, some (.int x), l2] st h Q = wp V (cdT Ev) mx d 87 73 [l0, some (.int x), l2] (.int x :: st) h Q := x_iload (len := 1) rfl rfl
theorem s_87_73 {x : Int32} : wp V (cdT Ev) mx d 87 73 ls (.int x :: st) h Q = (if ¬ x = 0 then wp V (cdT Ev) mx d 87 86 ls st h Q else wp V (cdT Ev) mx d 87 76 ls st h Q) := x_if1 (c := fun x => ¬ x = 0) rfl
theorem s_87_76 {a : Nat} : wp V (cdT Ev) mx d 87 76 [some (.ref a), l1, l2] st h Q = wp V (cdT Ev) mx d 87 77 [some (.ref a), l1, l2] (.ref a :: st) h Q := x_aload (len := 1) rfl rfl
theorem s_87_76_n : wp V (cdT Ev) mx d 87 76 [some .null, l1, l2] st h Q = wp V (cdT Ev) mx d 87 77 [some .null, l1, l2] (.null :: st) h Q := x_aloadN (len := 1) rfl rfl
theorem s_87_77 {a : Nat} : wp V (cdT Ev) mx d 87 77 ls (.ref a :: st) h Q = gf [11] 1 h a (fun v => wp V (cdT Ev) mx d 87 80 ls (v :: st) h Q) := x_getf rfl
theorem s_87_80 {a : Nat} : wp V (cdT Ev) mx d 87 80 ls (.ref a :: st) h Q = gf [10] 4 h a (fun v => wp V (cdT Ev) mx d 87 83 ls (v :: st) h Q) := x_getf rfl
theorem s_87_83 : wp V (cdT Ev) mx d 87 83 ls st h Q = wp V (cdT Ev) mx d 87 93 ls st h Q := x_goto rfl
theorem s_87_86 {a : Nat} : wp V (cdT Ev) mx d 87 86 [some (.ref a), l1, l2] st h Q = wp V (cdT Ev) mx d 87 87 [some (.ref a), l1, l2] (.ref a :: st) h Q := x_aload (len := 1) rfl rfl
theorem s_87_86_n : wp V (cdT Ev) mx d 87 86 [some .null, l1, l2] st h Q = wp V (cdT Ev) mx d 87 87 [some .null, l1, l2] (.null :: st) h Q := x_aloadN (len := 1) rfl rfl
theorem s_87_87 {a : Nat} : wp V (cdT Ev) mx d 87 87 ls (.ref a :: st) h Q = gf [11] 1 h a (fun v => wp V (cdT Ev) mx d 87 90 ls (v :: st) h Q) := x_getf rfl
theorem s_87_90 {b : Nat} (hst : st.length ≤ 4) : wp V (cdT Ev) mx d 87 90 ls (.ref b :: st) h Q = cv [(10, 54)] h b (fun y' => WP V (cdT Ev) mx d y' [.ref b] h (fun r h' => wp V (cdT Ev) mx d 87 93 ls (rts r st) h' Q)) := x_cv (sg := []) rfl hst rfl rfl
theorem s_87_93 {x : Int32} : wp V (cdT Ev) mx d 87 93 ls [.int x] h Q = Q (some (.int x)) h := x_ret rfl rfl
theorem e_87 {a : Nat} {p0 : Int32} : WP V (cdT Ev) mx (d + 1) 87 [.ref a, .int p0] h Q = wp V (cdT Ev) mx d 87 0 [some (.ref a), some (.int p0), none] [] h Q := propext (WP_eq (Nat.le_of_ble_eq_true rfl))
theorem s_88_0 {x : Int32} : wp V (cdT Ev) mx d 88 0 [l0, some (.int x), l2] st h Q = wp V (cdT Ev) mx d 88 1 [l0, some (.int x), l2] (.int x :: st) h Q := x_iload (len := 1) rfl rfl
theorem s_88_1 : wp V (cdT Ev) mx d 88 1 ls st h Q = wp V (cdT Ev) mx d 88 2 ls ((.int (-1)) :: st) h Q := x_push (v := (.int (-1))) (len := 1) rfl
theorem s_88_2 {x z : Int32} : wp V (cdT Ev) mx d 88 2 ls (.int z :: .int x :: st) h Q = (if ¬ x = z then wp V (cdT Ev) mx d 88 16 ls st h Q else wp V (cdT Ev) mx d 88 5 ls st h Q) := x_if2 (c := fun x z => ¬ x = z) rfl
theorem s_88_5 {a : Nat} : wp V (cdT Ev) mx d 88 5 [some (.ref a), l1, l2] st h Q = wp V (cdT Ev) mx d 88 6 [some (.ref a), l1, l2] (.ref a :: st) h Q := x_aload (len := 1) rfl rfl
theorem s_88_5_n : wp V (cdT Ev) mx d 88 5 [some .null, l1, l2] st h Q = wp V (cdT Ev) mx d 88 6 [some .null, l1, l2] (.null :: st) h Q := x_aloadN (len := 1) rfl rfl
theorem s_88_6 {a : Nat} : wp V (cdT Ev) mx d 88 6 ls (.ref a :: st) h Q = gf [11] 0 h a (fun v => wp V (cdT Ev) mx d 88 9 ls (v :: st) h Q) := x_getf rfl
theorem s_88_9 {a : Nat} : wp V (cdT Ev) mx d 88 9 ls (.ref a :: st) h Q = gf [10] 8 h a (fun v => wp V (cdT Ev) mx d 88 12 ls (v :: st) h Q) := x_getf rfl
theorem s_88_12 {b : Nat} (hst : st.length ≤ 4) : wp V (cdT Ev) mx d 88 12 ls (.ref b :: st) h Q = cv [(7, 38)] h b (fun y' => WP V (cdT Ev) mx d y' [.ref b] h (fun r h' => wp V (cdT Ev) mx d 88 15 ls (rts r st) h' Q)) := x_cv (sg := []) rfl hst rfl rfl
theorem s_88_15 {x : Int32} : wp V (cdT Ev) mx d 88 15 ls [.int x] h Q = Q (some (.int x)) h := x_ret rfl rfl
theorem s_88_16 {x : Int32} : wp V (cdT Ev) mx d 88 16 [l0, some (.int x), l2] st h Q = wp V (cdT Ev) mx d 88 17 [l0, some (.int x), l2] (.int x :: st) h Q := x_iload (len := 1) rfl rfl
theorem s_88_17 {v0 : Value} (hst : st.length ≤ 4) : wp V (cdT Ev) mx d 88 17 ls (v0 :: st) h Q = WP V (cdT Ev) mx d 101 [v0] h (fun r h' => wp V (cdT Ev) mx d 88 20 ls (rts r st) h' Q) := x_cs (sg := [v0]) rfl hst rfl rfl
theorem s_88_20 {x : Int32} : wp V (cdT Ev) mx d 88 20 ls (.int x :: st) h Q = (if ¬ x = 0 then wp V (cdT Ev) mx d 88 25 ls st h Q else wp V (cdT Ev) mx d 88 23 ls st h Q) := x_if1 (c := fun x => ¬ x = 0) rfl
theorem s_88_23 : wp V (cdT Ev) mx d 88 23 ls st h Q = wp V (cdT Ev) mx d 88 24 ls ((.int (-1)) :: st) h Q := x_push (v := (.int (-1))) (len := 1) rfl
theorem s_88_24 {x : Int32} : wp V (cdT Ev) mx d 88 24 ls [.int x] h Q = Q (some (.int x)) h := x_ret rfl rfl
theorem s_88_25 {x : Int32} : wp V (cdT Ev) mx d 88 25 [l0, l1, some (.int x)] st h Q = wp V (cdT Ev) mx d 88 26 [l0, l1, some (.int x)] (.int x :: st) h Q := x_iload (len := 1) rfl rfl
theorem s_88_26 {v0 : Value} (hst : st.length ≤ 4) : wp V (cdT Ev) mx d 88 26 ls (v0 :: st) h Q = WP V (cdT Ev) mx d 103 [v0] h (fun r h' => wp V (cdT Ev) mx d 88 29 ls (rts r st) h' Q) := x_cs (sg := [v0]) rfl hst rfl rfl
theorem s_88_29 {x : Int32} : wp V (cdT Ev) mx d 88 29 ls (.int x :: st) h Q = (if ¬ x = 0 then wp V (cdT Ev) mx d 88 35 ls st h Q else wp V (cdT Ev) mx d 88 32 ls st h Q) := x_if1 (c := fun x => ¬ x = 0) rfl
theorem s_88_32 : wp V (cdT Ev) mx d 88 32 ls st h Q = wp V (cdT Ev) mx d 88 34 ls ((.int (-2)) :: st) h Q := x_push (v := (.int (-2))) (len := 2) rfl
theorem s_88_34 {x : Int32} : wp V (cdT Ev) mx d 88 34 ls [.int x] h Q = Q (some (.int x)) h := x_ret rfl rfl
theorem s_88_35 {a : Nat} : wp V (cdT Ev) mx d 88 35 [some (.ref a), l1, l2] st h Q = wp V (cdT Ev) mx d 88 36 [some (.ref a), l1, l2] (.ref a :: st) h Q := x_aload (len := 1) rfl rfl
theorem s_88_35_n : wp V (cdT Ev) mx d 88 35 [some .null, l1, l2] st h Q = wp V (cdT Ev) mx d 88 36 [some .null, l1, l2] (.null :: st) h Q := x_aloadN (len := 1) rfl rfl
theorem s_88_36 {a : Nat} : wp V (cdT Ev) mx d 88 36 ls (.ref a :: st) h Q = gf [11] 0 h a (fun v => wp V (cdT Ev) mx d 88 39 ls (v :: st) h Q) := x_getf rfl
theorem s_88_39 {a : Nat} : wp V (cdT Ev) mx d 88 39 ls (.ref a :: st) h Q = gf [10] 8 h a (fun v => wp V (cdT Ev) mx d 88 42 ls (v :: st) h Q) := x_getf rfl
theorem s_88_42 {x : Int32} : wp V (cdT Ev) mx d 88 42 [l0, some (.int x), l2] st h Q = wp V (cdT Ev) mx d 88 43 [l0, some (.int x), l2] (.int x :: st) h Q := x_iload (len := 1) rfl rfl
theorem s_88_43 {x : Int32} : wp V (cdT Ev) mx d 88 43 [l0, l1, some (.int x)] st h Q = wp V (cdT Ev) mx d 88 44 [l0, l1, some (.int x)] (.int x :: st) h Q := x_iload (len := 1) rfl rfl
theorem s_88_44 {b : Nat} {v0 v1 : Value} (hst : st.length ≤ 4) : wp V (cdT Ev) mx d 88 44 ls (v1 :: v0 :: .ref b :: st) h Q = cv [(7, 39)] h b (fun y' => WP V (cdT Ev) mx d y' [.ref b, v0, v1] h (fun r h' => wp V (cdT Ev) mx d 88 47 ls (rts r st) h' Q)) := x_cv (sg := [v1, v0]) rfl hst rfl rfl
theorem s_88_47 {x : Int32} : wp V (cdT Ev) mx d 88 47 ls [.int x] h Q = Q (some (.int x)) h := x_ret rfl rfl
theorem e_88 {a : Nat} {p0 : Int32} {p1 : Int32} : WP V (cdT Ev) mx (d + 1) 88 [.ref a, .int p0, .int p1] h Q = wp V (cdT Ev) mx d 88 0 [some (.ref a), some (.int p0), some (.int p1)] [] h Q := propext (WP_eq (Nat.le_of_ble_eq_true rfl))
theorem s_89_0 : wp V (cdT Ev) mx d 89 0 ls st h Q = wp V (cdT Ev) mx d 89 1 ls ((.int (0)) :: st) h Q := x_push (v := (.int (0))) (len := 1) rfl
theorem s_89_1 {x : Int32} (hn : nl l0 = true) : wp V (cdT Ev) mx d 89 1 [l0, l1] (.int x :: st) h Q = wp V (cdT Ev) mx d 89 2 [l0, some (.int x)] st h Q := x_istore (len := 1) rfl (Nat.le_of_ble_eq_true rfl) (okp_nl rfl hn) rfl
theorem s_89_2 {x : Int32} : wp V (cdT Ev) mx d 89 2 [l0, some (.int x)] st h Q = wp V (cdT Ev) mx d 89 3 [l0, some (.int x)] (.int x :: st) h Q := x_iload (len := 1) rfl rfl
theorem s_89_3 {a : Nat} : wp V (cdT Ev) mx d 89 3 [some (.ref a), l1] st h Q = wp V (cdT Ev) mx d 89 4 [some (.ref a), l1] (.ref a :: st) h Q := x_aload (len := 1) rfl rfl
theorem s_89_3_n : wp V (cdT Ev) mx d 89 3 [some .null, l1] st h Q = wp V (cdT Ev) mx d 89 4 [some .null, l1] (.null :: st) h Q := x_aloadN (len := 1) rfl rfl
theorem s_89_4 {a : Nat} : wp V (cdT Ev) mx d 89 4 ls (.ref a :: st) h Q = gf [11] 0 h a (fun v => wp V (cdT Ev) mx d 89 7 ls (v :: st) h Q) := x_getf rfl
theorem s_89_7 {a : Nat} : wp V (cdT Ev) mx d 89 7 ls (.ref a :: st) h Q = gf [10] 8 h a (fun v => wp V (cdT Ev) mx d 89 10 ls (v :: st) h Q) := x_getf rfl
theorem s_89_10 {a : Nat} : wp V (cdT Ev) mx d 89 10 ls (.ref a :: st) h Q = gf [7] 2 h a (fun v => wp V (cdT Ev) mx d 89 13 ls (v :: st) h Q) := x_getf rfl
theorem s_89_13 {x z : Int32} : wp V (cdT Ev) mx d 89 13 ls (.int z :: .int x :: st) h Q = (if z ≤ x then wp V (cdT Ev) mx d 89 59 ls st h Q else wp V (cdT Ev) mx d 89 16 ls st h Q) := x_if2 (c := fun x z => z ≤ x) rfl
theorem s_89_16 {a : Nat} : wp V (cdT Ev) mx d 89 16 [some (.ref a), l1] st h Q = wp V (cdT Ev) mx d 89 17 [some (.ref a), l1] (.ref a :: st) h Q := x_aload (len := 1) rfl rfl
theorem s_89_16_n : wp V (cdT Ev) mx d 89 16 [some .null, l1] st h Q = wp V (cdT Ev) mx d 89 17 [some .null, l1] (.null :: st) h Q := x_aloadN (len := 1) rfl rfl
theorem s_89_17 {a : Nat} : wp V (cdT Ev) mx d 89 17 ls (.ref a :: st) h Q = gf [11] 0 h a (fun v => wp V (cdT Ev) mx d 89 20 ls (v :: st) h Q) := x_getf rfl
theorem s_89_20 {a : Nat} : wp V (cdT Ev) mx d 89 20 ls (.ref a :: st) h Q = gf [10] 0 h a (fun v => wp V (cdT Ev) mx d 89 23 ls (v :: st) h Q) := x_getf rfl
theorem s_89_23 {a : Nat} : wp V (cdT Ev) mx d 89 23 [some (.ref a), l1] st h Q = wp V (cdT Ev) mx d 89 24 [some (.ref a), l1] (.ref a :: st) h Q := x_aload (len := 1) rfl rfl
theorem s_89_23_n : wp V (cdT Ev) mx d 89 23 [some .null, l1] st h Q = wp V (cdT Ev) mx d 89 24 [some .null, l1] (.null :: st) h Q := x_aloadN (len := 1) rfl rfl
theorem s_89_24 {a : Nat} : wp V (cdT Ev) mx d 89 24 ls (.ref a :: st) h Q = gf [11] 0 h a (fun v => wp V (cdT Ev) mx d 89 27 ls (v :: st) h Q) := x_getf rfl
theorem s_89_27 {a : Nat} : wp V (cdT Ev) mx d 89 27 ls (.ref a :: st) h Q = gf [10] 8 h a (fun v => wp V (cdT Ev) mx d 89 30 ls (v :: st) h Q) := x_getf rfl
theorem s_89_30 {a : Nat} : wp V (cdT Ev) mx d 89 30 ls (.ref a :: st) h Q = gf [7] 0 h a (fun v => wp V (cdT Ev) mx d 89 33 ls (v :: st) h Q) := x_getf rfl
theorem s_89_33 {x : Int32} : wp V (cdT Ev) mx d 89 33 [l0, some (.int x)] st h Q = wp V (cdT Ev) mx d 89 34 [l0, some (.int x)] (.int x :: st) h Q := x_iload (len := 1) rfl rfl
theorem s_89_34 {i : Int32} {a : Nat} : wp V (cdT Ev) mx d 89 34 ls (.int i :: .ref a :: st) h Q = ai 2 i V h a (fun x => wp V (cdT Ev) mx d 89 35 ls (.int x :: st) h Q) := x_iald rfl
theorem s_89_35 {i : Int32} {a : Nat} : wp V (cdT Ev) mx d 89 35 ls (.int i :: .ref a :: st) h Q = ai 2 i V h a (fun x => wp V (cdT Ev) mx d 89 36 ls (.int x :: st) h Q) := x_iald rfl
theorem s_89_36 {a : Nat} : wp V (cdT Ev) mx d 89 36 [some (.ref a), l1] st h Q = wp V (cdT Ev) mx d 89 37 [some (.ref a), l1] (.ref a :: st) h Q := x_aload (len := 1) rfl rfl
theorem s_89_36_n : wp V (cdT Ev) mx d 89 36 [some .null, l1] st h Q = wp V (cdT Ev) mx d 89 37 [some .null, l1] (.null :: st) h Q := x_aloadN (len := 1) rfl rfl
theorem s_89_37 {a : Nat} : wp V (cdT Ev) mx d 89 37 ls (.ref a :: st) h Q = gf [11] 0 h a (fun v => wp V (cdT Ev) mx d 89 40 ls (v :: st) h Q) := x_getf rfl
theorem s_89_40 {a : Nat} : wp V (cdT Ev) mx d 89 40 ls (.ref a :: st) h Q = gf [10] 8 h a (fun v => wp V (cdT Ev) mx d 89 43 ls (v :: st) h Q) := x_getf rfl
theorem s_89_43 {a : Nat} : wp V (cdT Ev) mx d 89 43 ls (.ref a :: st) h Q = gf [7] 1 h a (fun v => wp V (cdT Ev) mx d 89 46 ls (v :: st) h Q) := x_getf rfl
theorem s_89_46 {x : Int32} : wp V (cdT Ev) mx d 89 46 [l0, some (.int x)] st h Q = wp V (cdT Ev) mx d 89 47 [l0, some (.int x)] (.int x :: st) h Q := x_iload (len := 1) rfl rfl
theorem s_89_47 {i : Int32} {a : Nat} : wp V (cdT Ev) mx d 89 47 ls (.int i :: .ref a :: st) h Q = ai 2 i V h a (fun x => wp V (cdT Ev) mx d 89 48 ls (.int x :: st) h Q) := x_iald rfl
theorem s_89_48 {x z : Int32} : wp V (cdT Ev) mx d 89 48 ls (.int z :: .int x :: st) h Q = (if x = z then wp V (cdT Ev) mx d 89 53 ls st h Q else wp V (cdT Ev) mx d 89 51 ls st h Q) := x_if2 (c := fun x z => x = z) rfl
theorem s_89_51 {x : Int32} : wp V (cdT Ev) mx d 89 51 [l0, some (.int x)] st h Q = wp V (cdT Ev) mx d 89 52 [l0, some (.int x)] (.int x :: st) h Q := x_iload (len := 1) rfl rfl
theorem s_89_52 {x : Int32} : wp V (cdT Ev) mx d 89 52 ls [.int x] h Q = Q (some (.int x)) h := x_ret rfl rfl
theorem s_89_53 {x : Int32} : wp V (cdT Ev) mx d 89 53 [l0, some (.int x)] st h Q = wp V (cdT Ev) mx d 89 56 [l0, some (.int (x + (1)))] st h Q := x_iinc rfl rfl rfl
theorem s_89_56 : wp V (cdT Ev) mx d 89 56 ls st h Q = wp V (cdT Ev) mx d 89 2 ls st h Q := x_goto rfl
theorem s_89_59 : wp V (cdT Ev) mx d 89 59 ls st h Q = wp V (cdT Ev) mx d 89 61 ls ((.int (-5)) :: st) h Q := x_push (v := (.int (-5))) (len := 2) rfl
theorem s_89_61 {x : Int32} : wp V (cdT Ev) mx d 89 61 ls [.int x] h Q = Q (some (.int x)) h := x_ret rfl rfl
theorem e_89 {a : Nat} : WP V (cdT Ev) mx (d + 1) 89 [.ref a] h Q = wp V (cdT Ev) mx d 89 0 [some (.ref a), none] [] h Q := propext (WP_eq (Nat.le_of_ble_eq_true rfl))
theorem s_90_0 {x : Int32} : wp V (cdT Ev) mx d 90 0 [l0, some (.int x), l2, l3] st h Q = wp V (cdT Ev) mx d 90 1 [l0, some (.int x), l2, l3] (.int x :: st) h Q := x_iload (len := 1) rfl rfl
theorem s_90_1 {v0 : Value} (hst : st.length ≤ 4) : wp V (cdT Ev) mx d 90 1 ls (v0 :: st) h Q = WP V (cdT Ev) mx d 106 [v0] h (fun r h' => wp V (cdT Ev) mx d 90 4 ls (rts r st) h' Q) := x_cs (sg := [v0]) rfl hst rfl rfl
theorem s_90_4 {x : Int32} : wp V (cdT Ev) mx d 90 4 ls (.int x :: st) h Q = (if ¬ x = 0 then wp V (cdT Ev) mx d 90 9 ls st h Q else wp V (cdT Ev) mx d 90 7 ls st h Q) := x_if1 (c := fun x => ¬ x = 0) rfl
theorem s_90_7 : wp V (cdT Ev) mx d 90 7 ls st h Q = wp V (cdT Ev) mx d 90 8 ls ((.int (-1)) :: st) h Q := x_push (v := (.int (-1))) (len := 1) rfl
theorem s_90_8 {x : Int32} : wp V (cdT Ev) mx d 90 8 ls [.int x] h Q = Q (some (.int x)) h := x_ret rfl rfl
theorem s_90_9 {a : Nat} : wp V (cdT Ev) mx d 90 9 [some (.ref a), l1, l2, l3] st h Q = wp V (cdT Ev) mx d 90 10 [some (.ref a), l1, l2, l3] (.ref a :: st) h Q := x_aload (len := 1) rfl rfl
theorem s_90_9_n : wp V (cdT Ev) mx d 90 9 [some .null, l1, l2, l3] st h Q = wp V (cdT Ev) mx d 90 10 [some .null, l1, l2, l3] (.null :: st) h Q := x_aloadN (len := 1) rfl rfl
theorem s_90_10 {a : Nat} : wp V (cdT Ev) mx d 90 10 ls (.ref a :: st) h Q = gf [11] 7 h a (fun v => wp V (cdT Ev) mx d 90 13 ls (v :: st) h Q) := x_getf rfl
theorem s_90_13 {x : Int32} : wp V (cdT Ev) mx d 90 13 [l0, some (.int x), l2, l3] st h Q = wp V (cdT Ev) mx d 90 14 [l0, some (.int x), l2, l3] (.int x :: st) h Q := x_iload (len := 1) rfl rfl
theorem s_90_14 {i : Int32} {a : Nat} : wp V (cdT Ev) mx d 90 14 ls (.int i :: .ref a :: st) h Q = ai 2 i V h a (fun x => wp V (cdT Ev) mx d 90 15 ls (.int x :: st) h Q) := x_iald rfl
theorem s_90_15 : wp V (cdT Ev) mx d 90 15 ls st h Q = wp V (cdT Ev) mx d 90 16 ls ((.int (-1)) :: st) h Q := x_push (v := (.int (-1))) (len := 1) rfl
theorem s_90_16 {x z : Int32} : wp V (cdT Ev) mx d 90 16 ls (.int z :: .int x :: st) h Q = (if ¬ x = z then wp V (cdT Ev) mx d 90 22 ls st h Q else wp V (cdT Ev) mx d 90 19 ls st h Q) := x_if2 (c := fun x z => ¬ x = z) rfl
theorem s_90_19 : wp V (cdT Ev) mx d 90 19 ls st h Q = wp V (cdT Ev) mx d 90 21 ls ((.int (100)) :: st) h Q := x_push (v := (.int (100))) (len := 2) rfl
theorem s_90_21 {x : Int32} : wp V (cdT Ev) mx d 90 21 ls [.int x] h Q = Q (some (.int x)) h := x_ret rfl rfl
theorem s_90_22 {a : Nat} : wp V (cdT Ev) mx d 90 22 [some (.ref a), l1, l2, l3] st h Q = wp V (cdT Ev) mx d 90 23 [some (.ref a), l1, l2, l3] (.ref a :: st) h Q := x_aload (len := 1) rfl rfl
theorem s_90_22_n : wp V (cdT Ev) mx d 90 22 [some .null, l1, l2, l3] st h Q = wp V (cdT Ev) mx d 90 23 [some .null, l1, l2, l3] (.null :: st) h Q := x_aloadN (len := 1) rfl rfl
theorem s_90_23 {a : Nat} : wp V (cdT Ev) mx d 90 23 ls (.ref a :: st) h Q = gf [11] 7 h a (fun v => wp V (cdT Ev) mx d 90 26 ls (v :: st) h Q) := x_getf rfl
theorem s_90_26 {x : Int32} : wp V (cdT Ev) mx d 90 26 [l0, some (.int x), l2, l3] st h Q = wp V (cdT Ev) mx d 90 27 [l0, some (.int x), l2, l3] (.int x :: st) h Q := x_iload (len := 1) rfl rfl
theorem s_90_27 {i : Int32} {a : Nat} : wp V (cdT Ev) mx d 90 27 ls (.int i :: .ref a :: st) h Q = ai 2 i V h a (fun x => wp V (cdT Ev) mx d 90 28 ls (.int x :: st) h Q) := x_iald rfl
theorem s_90_28 : wp V (cdT Ev) mx d 90 28 ls st h Q = wp V (cdT Ev) mx d 90 29 ls ((.int (3)) :: st) h Q := x_push (v := (.int (3))) (len := 1) rfl
theorem s_90_29 {x z : Int32} : wp V (cdT Ev) mx d 90 29 ls (.int z :: .int x :: st) h Q = (if x = z then wp V (cdT Ev) mx d 90 35 ls st h Q else wp V (cdT Ev) mx d 90 32 ls st h Q) := x_if2 (c := fun x z => x = z) rfl
theorem s_90_32 : wp V (cdT Ev) mx d 90 32 ls st h Q = wp V (cdT Ev) mx d 90 34 ls ((.int (-12)) :: st) h Q := x_push (v := (.int (-12))) (len := 2) rfl
theorem s_90_34 {x : Int32} : wp V (cdT Ev) mx d 90 34 ls [.int x] h Q = Q (some (.int x)) h := x_ret rfl rfl
theorem s_90_35 {x : Int32} : wp V (cdT Ev) mx d 90 35 [l0, l1, some (.int x), l3] st h Q = wp V (cdT Ev) mx d 90 36 [l0, l1, some (.int x), l3] (.int x :: st) h Q := x_iload (len := 1) rfl rfl
theorem s_90_36 {x : Int32} : wp V (cdT Ev) mx d 90 36 ls (.int x :: st) h Q = (if 0 ≤ x then wp V (cdT Ev) mx d 90 42 ls st h Q else wp V (cdT Ev) mx d 90 39 ls st h Q) := x_if1 (c := fun x => 0 ≤ x) rfl
theorem s_90_39 : wp V (cdT Ev) mx d 90 39 ls st h Q = wp V (cdT Ev) mx d 90 41 ls ((.int (100)) :: st) h Q := x_push (v := (.int (100))) (len := 2) rfl
theorem s_90_41 {x : Int32} : wp V (cdT Ev) mx d 90 41 ls [.int x] h Q = Q (some (.int x)) h := x_ret rfl rfl
theorem s_90_42 : wp V (cdT Ev) mx d 90 42 ls st h Q = wp V (cdT Ev) mx d 90 43 ls ((.int (0)) :: st) h Q := x_push (v := (.int (0))) (len := 1) rfl
theorem s_90_43 {x : Int32} (hn : nl l2 = true) : wp V (cdT Ev) mx d 90 43 [l0, l1, l2, l3] (.int x :: st) h Q = wp V (cdT Ev) mx d 90 44 [l0, l1, l2, some (.int x)] st h Q := x_istore (len := 1) rfl (Nat.le_of_ble_eq_true rfl) (okp_nl rfl hn) rfl
theorem s_90_44 {x : Int32} : wp V (cdT Ev) mx d 90 44 [l0, l1, l2, some (.int x)] st h Q = wp V (cdT Ev) mx d 90 45 [l0, l1, l2, some (.int x)] (.int x :: st) h Q := x_iload (len := 1) rfl rfl
theorem s_90_45 : wp V (cdT Ev) mx d 90 45 ls st h Q = wp V (cdT Ev) mx d 90 47 ls ((.int (12)) :: st) h Q := x_push (v := (.int (12))) (len := 2) rfl
theorem s_90_47 {x z : Int32} : wp V (cdT Ev) mx d 90 47 ls (.int z :: .int x :: st) h Q = (if z ≤ x then wp V (cdT Ev) mx d 90 99 ls st h Q else wp V (cdT Ev) mx d 90 50 ls st h Q) := x_if2 (c := fun x z => z ≤ x) rfl
theorem s_90_50 {x : Int32} : wp V (cdT Ev) mx d 90 50 [l0, l1, some (.int x), l3] st h Q = wp V (cdT Ev) mx d 90 51 [l0, l1, some (.int x), l3] (.int x :: st) h Q := x_iload (len := 1) rfl rfl
theorem s_90_51 {a : Nat} : wp V (cdT Ev) mx d 90 51 [some (.ref a), l1, l2, l3] st h Q = wp V (cdT Ev) mx d 90 52 [some (.ref a), l1, l2, l3] (.ref a :: st) h Q := x_aload (len := 1) rfl rfl
theorem s_90_51_n : wp V (cdT Ev) mx d 90 51 [some .null, l1, l2, l3] st h Q = wp V (cdT Ev) mx d 90 52 [some .null, l1, l2, l3] (.null :: st) h Q := x_aloadN (len := 1) rfl rfl
theorem s_90_52 {a : Nat} : wp V (cdT Ev) mx d 90 52 ls (.ref a :: st) h Q = gf [11] 8 h a (fun v => wp V (cdT Ev) mx d 90 55 ls (v :: st) h Q) := x_getf rfl
theorem s_90_55 {x : Int32} : wp V (cdT Ev) mx d 90 55 [l0, some (.int x), l2, l3] st h Q = wp V (cdT Ev) mx d 90 56 [l0, some (.int x), l2, l3] (.int x :: st) h Q := x_iload (len := 1) rfl rfl
theorem s_90_56 {i : Int32} {a : Nat} : wp V (cdT Ev) mx d 90 56 ls (.int i :: .ref a :: st) h Q = ai 2 i V h a (fun x => wp V (cdT Ev) mx d 90 57 ls (.int x :: st) h Q) := x_iald rfl
theorem s_90_57 {x : Int32} : wp V (cdT Ev) mx d 90 57 [l0, l1, l2, some (.int x)] st h Q = wp V (cdT Ev) mx d 90 58 [l0, l1, l2, some (.int x)] (.int x :: st) h Q := x_iload (len := 1) rfl rfl
theorem s_90_58 {x z : Int32} : wp V (cdT Ev) mx d 90 58 ls (.int z :: .int x :: st) h Q = wp V (cdT Ev) mx d 90 59 ls (.int (x - z) :: st) h Q := x_ib (f := fun x z => x - z) rfl
theorem s_90_59 {x z : Int32} : wp V (cdT Ev) mx d 90 59 ls (.int z :: .int x :: st) h Q = (if x < z then wp V (cdT Ev) mx d 90 67 ls st h Q else wp V (cdT Ev) mx d 90 62 ls st h Q) := x_if2 (c := fun x z => x < z) rfl
theorem s_90_62 : wp V (cdT Ev) mx d 90 62 ls st h Q = wp V (cdT Ev) mx d 90 64 ls ((.int (100)) :: st) h Q := x_push (v := (.int (100))) (len := 2) rfl
theorem s_90_64 {x : Int32} : wp V (cdT Ev) mx d 90 64 [l0, l1, l2, some (.int x)] st h Q = wp V (cdT Ev) mx d 90 65 [l0, l1, l2, some (.int x)] (.int x :: st) h Q := x_iload (len := 1) rfl rfl
theorem s_90_65 {x z : Int32} : wp V (cdT Ev) mx d 90 65 ls (.int z :: .int x :: st) h Q = wp V (cdT Ev) mx d 90 66 ls (.int (x + z) :: st) h Q := x_ib (f := fun x z => x + z) rfl
theorem s_90_66 {x : Int32} : wp V (cdT Ev) mx d 90 66 ls [.int x] h Q = Q (some (.int x)) h := x_ret rfl rfl
theorem s_90_67 {a : Nat} : wp V (cdT Ev) mx d 90 67 [some (.ref a), l1, l2, l3] st h Q = wp V (cdT Ev) mx d 90 68 [some (.ref a), l1, l2, l3] (.ref a :: st) h Q := x_aload (len := 1) rfl rfl
theorem s_90_67_n : wp V (cdT Ev) mx d 90 67 [some .null, l1, l2, l3] st h Q = wp V (cdT Ev) mx d 90 68 [some .null, l1, l2, l3] (.null :: st) h Q := x_aloadN (len := 1) rfl rfl
theorem s_90_68 {a : Nat} : wp V (cdT Ev) mx d 90 68 ls (.ref a :: st) h Q = gf [11] 9 h a (fun v => wp V (cdT Ev) mx d 90 71 ls (v :: st) h Q) := x_getf rfl
theorem s_90_71 {x : Int32} : wp V (cdT Ev) mx d 90 71 [l0, some (.int x), l2, l3] st h Q = wp V (cdT Ev) mx d 90 72 [l0, some (.int x), l2, l3] (.int x :: st) h Q := x_iload (len := 1) rfl rfl
theorem s_90_72 {i : Int32} {a : Nat} : wp V (cdT Ev) mx d 90 72 ls (.int i :: .ref a :: st) h Q = aa i h a (fun v => wp V (cdT Ev) mx d 90 73 ls (v :: st) h Q) := x_aald rfl
theorem s_90_73 {x : Int32} : wp V (cdT Ev) mx d 90 73 [l0, l1, some (.int x), l3] st h Q = wp V (cdT Ev) mx d 90 74 [l0, l1, some (.int x), l3] (.int x :: st) h Q := x_iload (len := 1) rfl rfl
theorem s_90_74 {x : Int32} : wp V (cdT Ev) mx d 90 74 [l0, l1, l2, some (.int x)] st h Q = wp V (cdT Ev) mx d 90 75 [l0, l1, l2, some (.int x)] (.int x :: st) h Q := x_iload (len := 1) rfl rfl
theorem s_90_75 {x z : Int32} : wp V (cdT Ev) mx d 90 75 ls (.int z :: .int x :: st) h Q = wp V (cdT Ev) mx d 90 76 ls (.int (x + z) :: st) h Q := x_ib (f := fun x z => x + z) rfl
theorem s_90_76 {i : Int32} {a : Nat} : wp V (cdT Ev) mx d 90 76 ls (.int i :: .ref a :: st) h Q = al i h a (fun x => wp V (cdT Ev) mx d 90 77 ls (.long x :: st) h Q) := x_lald rfl
theorem s_90_77 {a : Nat} : wp V (cdT Ev) mx d 90 77 [some (.ref a), l1, l2, l3] st h Q = wp V (cdT Ev) mx d 90 78 [some (.ref a), l1, l2, l3] (.ref a :: st) h Q := x_aload (len := 1) rfl rfl
theorem s_90_77_n : wp V (cdT Ev) mx d 90 77 [some .null, l1, l2, l3] st h Q = wp V (cdT Ev) mx d 90 78 [some .null, l1, l2, l3] (.null :: st) h Q := x_aloadN (len := 1) rfl rfl
theorem s_90_78 {a : Nat} : wp V (cdT Ev) mx d 90 78 ls (.ref a :: st) h Q = gf [11] 0 h a (fun v => wp V (cdT Ev) mx d 90 81 ls (v :: st) h Q) := x_getf rfl
theorem s_90_81 {a : Nat} : wp V (cdT Ev) mx d 90 81 ls (.ref a :: st) h Q = gf [10] 0 h a (fun v => wp V (cdT Ev) mx d 90 84 ls (v :: st) h Q) := x_getf rfl
theorem s_90_84 {x : Int32} : wp V (cdT Ev) mx d 90 84 [l0, l1, l2, some (.int x)] st h Q = wp V (cdT Ev) mx d 90 85 [l0, l1, l2, some (.int x)] (.int x :: st) h Q := x_iload (len := 1) rfl rfl
theorem s_90_85 {i : Int32} {a : Nat} : wp V (cdT Ev) mx d 90 85 ls (.int i :: .ref a :: st) h Q = ai 2 i V h a (fun x => wp V (cdT Ev) mx d 90 86 ls (.int x :: st) h Q) := x_iald rfl
theorem s_90_86 {x : Int32} : wp V (cdT Ev) mx d 90 86 ls (.int x :: st) h Q = wp V (cdT Ev) mx d 90 87 ls (.long x.toInt64 :: st) h Q := x_i2l rfl
theorem s_90_87 {x z : Int64} : wp V (cdT Ev) mx d 90 87 ls (.long z :: .long x :: st) h Q = wp V (cdT Ev) mx d 90 88 ls (.int (lg_cmp x z) :: st) h Q := x_lcmp rfl
theorem s_90_88 {x : Int32} : wp V (cdT Ev) mx d 90 88 ls (.int x :: st) h Q = (if x = 0 then wp V (cdT Ev) mx d 90 93 ls st h Q else wp V (cdT Ev) mx d 90 91 ls st h Q) := x_if1 (c := fun x => x = 0) rfl
theorem s_90_91 {x : Int32} : wp V (cdT Ev) mx d 90 91 [l0, l1, l2, some (.int x)] st h Q = wp V (cdT Ev) mx d 90 92 [l0, l1, l2, some (.int x)] (.int x :: st) h Q := x_iload (len := 1) rfl rfl
theorem s_90_92 {x : Int32} : wp V (cdT Ev) mx d 90 92 ls [.int x] h Q = Q (some (.int x)) h := x_ret rfl rfl
theorem s_90_93 {x : Int32} : wp V (cdT Ev) mx d 90 93 [l0, l1, l2, some (.int x)] st h Q = wp V (cdT Ev) mx d 90 96 [l0, l1, l2, some (.int (x + (1)))] st h Q := x_iinc rfl rfl rfl
theorem s_90_96 : wp V (cdT Ev) mx d 90 96 ls st h Q = wp V (cdT Ev) mx d 90 44 ls st h Q := x_goto rfl
theorem s_90_99 : wp V (cdT Ev) mx d 90 99 ls st h Q = wp V (cdT Ev) mx d 90 101 ls ((.int (-5)) :: st) h Q := x_push (v := (.int (-5))) (len := 2) rfl
theorem s_90_101 {x : Int32} : wp V (cdT Ev) mx d 90 101 ls [.int x] h Q = Q (some (.int x)) h := x_ret rfl rfl
theorem e_90 {a : Nat} {p0 : Int32} {p1 : Int32} : WP V (cdT Ev) mx (d + 1) 90 [.ref a, .int p0, .int p1] h Q = wp V (cdT Ev) mx d 90 0 [some (.ref a), some (.int p0), some (.int p1), none] [] h Q := propext (WP_eq (Nat.le_of_ble_eq_true rfl))
theorem s_91_0 {a : Nat} : wp V (cdT Ev) mx d 91 0 [some (.ref a)] st h Q = wp V (cdT Ev) mx d 91 1 [some (.ref a)] (.ref a :: st) h Q := x_aload (len := 1) rfl rfl
theorem s_91_0_n : wp V (cdT Ev) mx d 91 0 [some .null] st h Q = wp V (cdT Ev) mx d 91 1 [some .null] (.null :: st) h Q := x_aloadN (len := 1) rfl rfl
theorem s_91_1 {a : Nat} : wp V (cdT Ev) mx d 91 1 ls (.ref a :: st) h Q = gf [11] 2 h a (fun v => wp V (cdT Ev) mx d 91 4 ls (v :: st) h Q) := x_getf rfl
theorem s_91_4 {a : Nat} : wp V (cdT Ev) mx d 91 4 [some (.ref a)] st h Q = wp V (cdT Ev) mx d 91 5 [some (.ref a)] (.ref a :: st) h Q := x_aload (len := 1) rfl rfl
theorem s_91_4_n : wp V (cdT Ev) mx d 91 4 [some .null] st h Q = wp V (cdT Ev) mx d 91 5 [some .null] (.null :: st) h Q := x_aloadN (len := 1) rfl rfl
theorem s_91_5 {a : Nat} : wp V (cdT Ev) mx d 91 5 ls (.ref a :: st) h Q = gf [11] 0 h a (fun v => wp V (cdT Ev) mx d 91 8 ls (v :: st) h Q) := x_getf rfl
theorem s_91_8 {b : Nat} {v0 : Value} (hst : st.length ≤ 4) : wp V (cdT Ev) mx d 91 8 ls (v0 :: .ref b :: st) h Q = cv [(10, 49)] h b (fun y' => WP V (cdT Ev) mx d y' [.ref b, v0] h (fun r h' => wp V (cdT Ev) mx d 91 11 ls (rts r st) h' Q)) := x_cv (sg := [v0]) rfl hst rfl rfl
theorem s_91_11 {a : Nat} : wp V (cdT Ev) mx d 91 11 [some (.ref a)] st h Q = wp V (cdT Ev) mx d 91 12 [some (.ref a)] (.ref a :: st) h Q := x_aload (len := 1) rfl rfl
theorem s_91_11_n : wp V (cdT Ev) mx d 91 11 [some .null] st h Q = wp V (cdT Ev) mx d 91 12 [some .null] (.null :: st) h Q := x_aloadN (len := 1) rfl rfl
theorem s_91_12 : wp V (cdT Ev) mx d 91 12 ls st h Q = wp V (cdT Ev) mx d 91 13 ls ((.int (1)) :: st) h Q := x_push (v := (.int (1))) (len := 1) rfl
theorem s_91_13 {w : Value} {a : Nat} : wp V (cdT Ev) mx d 91 13 ls (w :: .ref a :: st) h Q = pf [11] 3 1 w h a (fun hh => wp V (cdT Ev) mx d 91 16 ls st hh Q) := x_putf rfl
theorem s_91_16 {a : Nat} : wp V (cdT Ev) mx d 91 16 [some (.ref a)] st h Q = wp V (cdT Ev) mx d 91 17 [some (.ref a)] (.ref a :: st) h Q := x_aload (len := 1) rfl rfl
theorem s_91_16_n : wp V (cdT Ev) mx d 91 16 [some .null] st h Q = wp V (cdT Ev) mx d 91 17 [some .null] (.null :: st) h Q := x_aloadN (len := 1) rfl rfl
theorem s_91_17 {a : Nat} : wp V (cdT Ev) mx d 91 17 ls (.ref a :: st) h Q = gf [11] 0 h a (fun v => wp V (cdT Ev) mx d 91 20 ls (v :: st) h Q) := x_getf rfl
theorem s_91_20 {a : Nat} : wp V (cdT Ev) mx d 91 20 ls (.ref a :: st) h Q = gf [10] 2 h a (fun v => wp V (cdT Ev) mx d 91 23 ls (v :: st) h Q) := x_getf rfl
theorem s_91_23 {x : Int32} : wp V (cdT Ev) mx d 91 23 ls [.int x] h Q = Q (some (.int x)) h := x_ret rfl rfl
theorem e_91 {a : Nat} : WP V (cdT Ev) mx (d + 1) 91 [.ref a] h Q = wp V (cdT Ev) mx d 91 0 [some (.ref a)] [] h Q := propext (WP_eq (Nat.le_of_ble_eq_true rfl))
theorem s_92_0 {a : Nat} : wp V (cdT Ev) mx d 92 0 [some (.ref a)] st h Q = wp V (cdT Ev) mx d 92 1 [some (.ref a)] (.ref a :: st) h Q := x_aload (len := 1) rfl rfl
theorem s_92_0_n : wp V (cdT Ev) mx d 92 0 [some .null] st h Q = wp V (cdT Ev) mx d 92 1 [some .null] (.null :: st) h Q := x_aloadN (len := 1) rfl rfl
theorem s_92_1 {a : Nat} : wp V (cdT Ev) mx d 92 1 ls (.ref a :: st) h Q = gf [11] 3 h a (fun v => wp V (cdT Ev) mx d 92 4 ls (v :: st) h Q) := x_getf rfl
theorem s_92_4 {x : Int32} : wp V (cdT Ev) mx d 92 4 ls (.int x :: st) h Q = (if ¬ x = 0 then wp V (cdT Ev) mx d 92 10 ls st h Q else wp V (cdT Ev) mx d 92 7 ls st h Q) := x_if1 (c := fun x => ¬ x = 0) rfl
theorem s_92_7 : wp V (cdT Ev) mx d 92 7 ls st h Q = wp V (cdT Ev) mx d 92 9 ls ((.int (-3)) :: st) h Q := x_push (v := (.int (-3))) (len := 2) rfl
theorem s_92_9 {x : Int32} : wp V (cdT Ev) mx d 92 9 ls [.int x] h Q = Q (some (.int x)) h := x_ret rfl rfl
theorem s_92_10 {a : Nat} : wp V (cdT Ev) mx d 92 10 [some (.ref a)] st h Q = wp V (cdT Ev) mx d 92 11 [some (.ref a)] (.ref a :: st) h Q := x_aload (len := 1) rfl rfl
theorem s_92_10_n : wp V (cdT Ev) mx d 92 10 [some .null] st h Q = wp V (cdT Ev) mx d 92 11 [some .null] (.null :: st) h Q := x_aloadN (len := 1) rfl rfl
theorem s_92_11 {a : Nat} : wp V (cdT Ev) mx d 92 11 ls (.ref a :: st) h Q = gf [11] 0 h a (fun v => wp V (cdT Ev) mx d 92 14 ls (v :: st) h Q) := x_getf rfl
theorem s_92_14 {a : Nat} : wp V (cdT Ev) mx d 92 14 [some (.ref a)] st h Q = wp V (cdT Ev) mx d 92 15 [some (.ref a)] (.ref a :: st) h Q := x_aload (len := 1) rfl rfl
theorem s_92_14_n : wp V (cdT Ev) mx d 92 14 [some .null] st h Q = wp V (cdT Ev) mx d 92 15 [some .null] (.null :: st) h Q := x_aloadN (len := 1) rfl rfl
theorem s_92_15 {a : Nat} : wp V (cdT Ev) mx d 92 15 ls (.ref a :: st) h Q = gf [11] 2 h a (fun v => wp V (cdT Ev) mx d 92 18 ls (v :: st) h Q) := x_getf rfl
theorem s_92_18 {b : Nat} {v0 : Value} (hst : st.length ≤ 4) : wp V (cdT Ev) mx d 92 18 ls (v0 :: .ref b :: st) h Q = cv [(10, 49)] h b (fun y' => WP V (cdT Ev) mx d y' [.ref b, v0] h (fun r h' => wp V (cdT Ev) mx d 92 21 ls (rts r st) h' Q)) := x_cv (sg := [v0]) rfl hst rfl rfl
theorem s_92_21 {a : Nat} : wp V (cdT Ev) mx d 92 21 [some (.ref a)] st h Q = wp V (cdT Ev) mx d 92 22 [some (.ref a)] (.ref a :: st) h Q := x_aload (len := 1) rfl rfl
theorem s_92_21_n : wp V (cdT Ev) mx d 92 21 [some .null] st h Q = wp V (cdT Ev) mx d 92 22 [some .null] (.null :: st) h Q := x_aloadN (len := 1) rfl rfl
theorem s_92_22 {a : Nat} : wp V (cdT Ev) mx d 92 22 ls (.ref a :: st) h Q = gf [11] 0 h a (fun v => wp V (cdT Ev) mx d 92 25 ls (v :: st) h Q) := x_getf rfl
theorem s_92_25 {a : Nat} : wp V (cdT Ev) mx d 92 25 ls (.ref a :: st) h Q = gf [10] 2 h a (fun v => wp V (cdT Ev) mx d 92 28 ls (v :: st) h Q) := x_getf rfl
theorem s_92_28 {x : Int32} : wp V (cdT Ev) mx d 92 28 ls [.int x] h Q = Q (some (.int x)) h := x_ret rfl rfl
theorem e_92 {a : Nat} : WP V (cdT Ev) mx (d + 1) 92 [.ref a] h Q = wp V (cdT Ev) mx d 92 0 [some (.ref a)] [] h Q := propext (WP_eq (Nat.le_of_ble_eq_true rfl))
theorem s_93_0 {a : Nat} : wp V (cdT Ev) mx d 93 0 [some (.ref a), l1, l2, l3, l4] st h Q = wp V (cdT Ev) mx d 93 1 [some (.ref a), l1, l2, l3, l4] (.ref a :: st) h Q := x_aload (len := 1) rfl rfl
theorem s_93_0_n : wp V (cdT Ev) mx d 93 0 [some .null, l1, l2, l3, l4] st h Q = wp V (cdT Ev) mx d 93 1 [some .null, l1, l2, l3, l4] (.null :: st) h Q := x_aloadN (len := 1) rfl rfl
theorem s_93_1 {a : Nat} : wp V (cdT Ev) mx d 93 1 ls (.ref a :: st) h Q = gf [11] 6 h a (fun v => wp V (cdT Ev) mx d 93 4 ls (v :: st) h Q) := x_getf rfl
theorem s_93_4 : wp V (cdT Ev) mx d 93 4 ls st h Q = wp V (cdT Ev) mx d 93 5 ls ((.int (0)) :: st) h Q := x_push (v := (.int (0))) (len := 1) rfl
theorem s_93_5 {w : Value} {a : Nat} : wp V (cdT Ev) mx d 93 5 ls (w :: .ref a :: st) h Q = pf [9] 1 0 w h a (fun hh => wp V (cdT Ev) mx d 93 8 ls st hh Q) := x_putf rfl
theorem s_93_8 {a : Nat} : wp V (cdT Ev) mx d 93 8 [some (.ref a), l1, l2, l3, l4] st h Q = wp V (cdT Ev) mx d 93 9 [some (.ref a), l1, l2, l3, l4] (.ref a :: st) h Q := x_aload (len := 1) rfl rfl
theorem s_93_8_n : wp V (cdT Ev) mx d 93 8 [some .null, l1, l2, l3, l4] st h Q = wp V (cdT Ev) mx d 93 9 [some .null, l1, l2, l3, l4] (.null :: st) h Q := x_aloadN (len := 1) rfl rfl
theorem s_93_9 {a : Nat} : wp V (cdT Ev) mx d 93 9 ls (.ref a :: st) h Q = gf [11] 0 h a (fun v => wp V (cdT Ev) mx d 93 12 ls (v :: st) h Q) := x_getf rfl
theorem s_93_12 {x : Int32} : wp V (cdT Ev) mx d 93 12 [l0, some (.int x), l2, l3, l4] st h Q = wp V (cdT Ev) mx d 93 13 [l0, some (.int x), l2, l3, l4] (.int x :: st) h Q := x_iload (len := 1) rfl rfl
theorem s_93_13 {b : Nat} {v0 : Value} (hst : st.length ≤ 4) : wp V (cdT Ev) mx d 93 13 ls (v0 :: .ref b :: st) h Q = cv [(10, 51)] h b (fun y' => WP V (cdT Ev) mx d y' [.ref b, v0] h (fun r h' => wp V (cdT Ev) mx d 93 16 ls (rts r st) h' Q)) := x_cv (sg := [v0]) rfl hst rfl rfl
theorem s_93_16 {a : Nat} (hn : nl l3 = true) : wp V (cdT Ev) mx d 93 16 [l0, l1, l2, l3, l4] (.ref a :: st) h Q = wp V (cdT Ev) mx d 93 18 [l0, l1, l2, l3, some (.ref a)] st h Q := x_astore (len := 2) rfl (Nat.le_of_ble_eq_true rfl) (okp_nl rfl hn) rfl
theorem s_93_16_n (hn : nl l3 = true) : wp V (cdT Ev) mx d 93 16 [l0, l1, l2, l3, l4] (.null :: st) h Q = wp V (cdT Ev) mx d 93 18 [l0, l1, l2, l3, some .null] st h Q := x_astoreN (len := 2) rfl (Nat.le_of_ble_eq_true rfl) (okp_nl rfl hn) rfl
theorem s_93_18 {a : Nat} : wp V (cdT Ev) mx d 93 18 [l0, l1, l2, l3, some (.ref a)] st h Q = wp V (cdT Ev) mx d 93 20 [l0, l1, l2, l3, some (.ref a)] (.ref a :: st) h Q := x_aload (len := 2) rfl rfl
theorem s_93_18_n : wp V (cdT Ev) mx d 93 18 [l0, l1, l2, l3, some .null] st h Q = wp V (cdT Ev) mx d 93 20 [l0, l1, l2, l3, some .null] (.null :: st) h Q := x_aloadN (len := 2) rfl rfl
theorem s_93_20 {a : Nat} : wp V (cdT Ev) mx d 93 20 ls (.ref a :: st) h Q = wp V (cdT Ev) mx d 93 25 ls st h Q := x_ifnonnull rfl
theorem s_93_20_n : wp V (cdT Ev) mx d 93 20 ls (.null :: st) h Q = wp V (cdT Ev) mx d 93 23 ls st h Q := x_ifnonnullN rfl
theorem s_93_23 : wp V (cdT Ev) mx d 93 23 ls st h Q = wp V (cdT Ev) mx d 93 24 ls ((.int (0)) :: st) h Q := x_push (v := (.int (0))) (len := 1) rfl
theorem s_93_24 {x : Int32} : wp V (cdT Ev) mx d 93 24 ls [.int x] h Q = Q (some (.int x)) h := x_ret rfl rfl
theorem s_93_25 {x : Int32} : wp V (cdT Ev) mx d 93 25 [l0, l1, some (.int x), l3, l4] st h Q = wp V (cdT Ev) mx d 93 26 [l0, l1, some (.int x), l3, l4] (.int x :: st) h Q := x_iload (len := 1) rfl rfl
theorem s_93_26 {x : Int32} : wp V (cdT Ev) mx d 93 26 ls (.int x :: st) h Q = (if x = 0 then wp V (cdT Ev) mx d 93 52 ls st h Q else (if x = 1 then wp V (cdT Ev) mx d 93 63 ls st h Q else (if x = 2 then wp V (cdT Ev) mx d 93 74 ls st h Q else wp V (cdT Ev) mx d 93 85 ls st h Q))) := x_sw (t := 85) (l := [(0, 52), (1, 63), (2, 74)]) rfl
theorem s_93_52 {a : Nat} : wp V (cdT Ev) mx d 93 52 [l0, l1, l2, l3, some (.ref a)] st h Q = wp V (cdT Ev) mx d 93 54 [l0, l1, l2, l3, some (.ref a)] (.ref a :: st) h Q := x_aload (len := 2) rfl rfl
theorem s_93_52_n : wp V (cdT Ev) mx d 93 52 [l0, l1, l2, l3, some .null] st h Q = wp V (cdT Ev) mx d 93 54 [l0, l1, l2, l3, some .null] (.null :: st) h Q := x_aloadN (len := 2) rfl rfl
theorem s_93_54 {a : Nat} : wp V (cdT Ev) mx d 93 54 [some (.ref a), l1, l2, l3, l4] st h Q = wp V (cdT Ev) mx d 93 55 [some (.ref a), l1, l2, l3, l4] (.ref a :: st) h Q := x_aload (len := 1) rfl rfl
theorem s_93_54_n : wp V (cdT Ev) mx d 93 54 [some .null, l1, l2, l3, l4] st h Q = wp V (cdT Ev) mx d 93 55 [some .null, l1, l2, l3, l4] (.null :: st) h Q := x_aloadN (len := 1) rfl rfl
theorem s_93_55 {a : Nat} : wp V (cdT Ev) mx d 93 55 ls (.ref a :: st) h Q = gf [11] 6 h a (fun v => wp V (cdT Ev) mx d 93 58 ls (v :: st) h Q) := x_getf rfl
theorem s_93_58 {x : Int32} : wp V (cdT Ev) mx d 93 58 [l0, l1, l2, some (.int x), l4] st h Q = wp V (cdT Ev) mx d 93 59 [l0, l1, l2, some (.int x), l4] (.int x :: st) h Q := x_iload (len := 1) rfl rfl
theorem s_93_59 {b : Nat} {v0 v1 : Value} (hst : st.length ≤ 4) : wp V (cdT Ev) mx d 93 59 ls (v1 :: v0 :: .ref b :: st) h Q = cv [(1, 20), (2, 20), (3, 27), (4, 27), (5, 32), (6, 27), (8, 45)] h b (fun y' => WP V (cdT Ev) mx d y' [.ref b, v0, v1] h (fun r h' => wp V (cdT Ev) mx d 93 62 ls (rts r st) h' Q)) := x_cv (sg := [v1, v0]) rfl hst rfl rfl
theorem s_93_62 {x : Int32} : wp V (cdT Ev) mx d 93 62 ls [.int x] h Q = Q (some (.int x)) h := x_ret rfl rfl
theorem s_93_63 {a : Nat} : wp V (cdT Ev) mx d 93 63 [l0, l1, l2, l3, some (.ref a)] st h Q = wp V (cdT Ev) mx d 93 65 [l0, l1, l2, l3, some (.ref a)] (.ref a :: st) h Q := x_aload (len := 2) rfl rfl
theorem s_93_63_n : wp V (cdT Ev) mx d 93 63 [l0, l1, l2, l3, some .null] st h Q = wp V (cdT Ev) mx d 93 65 [l0, l1, l2, l3, some .null] (.null :: st) h Q := x_aloadN (len := 2) rfl rfl
theorem s_93_65 {a : Nat} : wp V (cdT Ev) mx d 93 65 [some (.ref a), l1, l2, l3, l4] st h Q = wp V (cdT Ev) mx d 93 66 [some (.ref a), l1, l2, l3, l4] (.ref a :: st) h Q := x_aload (len := 1) rfl rfl
theorem s_93_65_n : wp V (cdT Ev) mx d 93 65 [some .null, l1, l2, l3, l4] st h Q = wp V (cdT Ev) mx d 93 66 [some .null, l1, l2, l3, l4] (.null :: st) h Q := x_aloadN (len := 1) rfl rfl
theorem s_93_66 {a : Nat} : wp V (cdT Ev) mx d 93 66 ls (.ref a :: st) h Q = gf [11] 6 h a (fun v => wp V (cdT Ev) mx d 93 69 ls (v :: st) h Q) := x_getf rfl
theorem s_93_69 {x : Int32} : wp V (cdT Ev) mx d 93 69 [l0, l1, l2, some (.int x), l4] st h Q = wp V (cdT Ev) mx d 93 70 [l0, l1, l2, some (.int x), l4] (.int x :: st) h Q := x_iload (len := 1) rfl rfl
theorem s_93_70 {b : Nat} {v0 v1 : Value} (hst : st.length ≤ 4) : wp V (cdT Ev) mx d 93 70 ls (v1 :: v0 :: .ref b :: st) h Q = cv [(1, 28), (2, 28), (3, 28), (4, 28), (5, 33), (6, 36), (8, 44)] h b (fun y' => WP V (cdT Ev) mx d y' [.ref b, v0, v1] h (fun r h' => wp V (cdT Ev) mx d 93 73 ls (rts r st) h' Q)) := x_cv (sg := [v1, v0]) rfl hst rfl rfl
theorem s_93_73 {x : Int32} : wp V (cdT Ev) mx d 93 73 ls [.int x] h Q = Q (some (.int x)) h := x_ret rfl rfl
theorem s_93_74 {a : Nat} : wp V (cdT Ev) mx d 93 74 [l0, l1, l2, l3, some (.ref a)] st h Q = wp V (cdT Ev) mx d 93 76 [l0, l1, l2, l3, some (.ref a)] (.ref a :: st) h Q := x_aload (len := 2) rfl rfl
theorem s_93_74_n : wp V (cdT Ev) mx d 93 74 [l0, l1, l2, l3, some .null] st h Q = wp V (cdT Ev) mx d 93 76 [l0, l1, l2, l3, some .null] (.null :: st) h Q := x_aloadN (len := 2) rfl rfl
theorem s_93_76 {a : Nat} : wp V (cdT Ev) mx d 93 76 [some (.ref a), l1, l2, l3, l4] st h Q = wp V (cdT Ev) mx d 93 77 [some (.ref a), l1, l2, l3, l4] (.ref a :: st) h Q := x_aload (len := 1) rfl rfl
theorem s_93_76_n : wp V (cdT Ev) mx d 93 76 [some .null, l1, l2, l3, l4] st h Q = wp V (cdT Ev) mx d 93 77 [some .null, l1, l2, l3, l4] (.null :: st) h Q := x_aloadN (len := 1) rfl rfl
theorem s_93_77 {a : Nat} : wp V (cdT Ev) mx d 93 77 ls (.ref a :: st) h Q = gf [11] 6 h a (fun v => wp V (cdT Ev) mx d 93 80 ls (v :: st) h Q) := x_getf rfl
theorem s_93_80 {x : Int32} : wp V (cdT Ev) mx d 93 80 [l0, l1, l2, some (.int x), l4] st h Q = wp V (cdT Ev) mx d 93 81 [l0, l1, l2, some (.int x), l4] (.int x :: st) h Q := x_iload (len := 1) rfl rfl
theorem s_93_81 {b : Nat} {v0 v1 : Value} (hst : st.length ≤ 4) : wp V (cdT Ev) mx d 93 81 ls (v1 :: v0 :: .ref b :: st) h Q = cv [(1, 17), (2, 29), (3, 23), (4, 29), (5, 29), (6, 29), (8, 23)] h b (fun y' => WP V (cdT Ev) mx d y' [.ref b, v0, v1] h (fun r h' => wp V (cdT Ev) mx d 93 84 ls (rts r st) h' Q)) := x_cv (sg := [v1, v0]) rfl hst rfl rfl
theorem s_93_84 {x : Int32} : wp V (cdT Ev) mx d 93 84 ls [.int x] h Q = Q (some (.int x)) h := x_ret rfl rfl
theorem s_93_85 : wp V (cdT Ev) mx d 93 85 ls st h Q = wp V (cdT Ev) mx d 93 86 ls ((.int (0)) :: st) h Q := x_push (v := (.int (0))) (len := 1) rfl
theorem s_93_86 {x : Int32} : wp V (cdT Ev) mx d 93 86 ls [.int x] h Q = Q (some (.int x)) h := x_ret rfl rfl
theorem e_93 {a : Nat} {p0 : Int32} {p1 : Int32} {p2 : Int32} : WP V (cdT Ev) mx (d + 1) 93 [.ref a, .int p0, .int p1, .int p2] h Q = wp V (cdT Ev) mx d 93 0 [some (.ref a), some (.int p0), some (.int p1), some (.int p2), none] [] h Q := propext (WP_eq (Nat.le_of_ble_eq_true rfl))
theorem s_94_0 {x : Int32} : wp V (cdT Ev) mx d 94 0 [l0, some (.int x)] st h Q = wp V (cdT Ev) mx d 94 1 [l0, some (.int x)] (.int x :: st) h Q := x_iload (len := 1) rfl rfl
theorem s_94_1 {x : Int32} : wp V (cdT Ev) mx d 94 1 ls (.int x :: st) h Q = (if x < 0 then wp V (cdT Ev) mx d 94 27 ls st h Q else wp V (cdT Ev) mx d 94 4 ls st h Q) := x_if1 (c := fun x => x < 0) rfl
theorem s_94_4 {x : Int32} : wp V (cdT Ev) mx d 94 4 [l0, some (.int x)] st h Q = wp V (cdT Ev) mx d 94 5 [l0, some (.int x)] (.int x :: st) h Q := x_iload (len := 1) rfl rfl
theorem s_94_5 {a : Nat} : wp V (cdT Ev) mx d 94 5 [some (.ref a), l1] st h Q = wp V (cdT Ev) mx d 94 6 [some (.ref a), l1] (.ref a :: st) h Q := x_aload (len := 1) rfl rfl
theorem s_94_5_n : wp V (cdT Ev) mx d 94 5 [some .null, l1] st h Q = wp V (cdT Ev) mx d 94 6 [some .null, l1] (.null :: st) h Q := x_aloadN (len := 1) rfl rfl
theorem s_94_6 {a : Nat} : wp V (cdT Ev) mx d 94 6 ls (.ref a :: st) h Q = gf [11] 6 h a (fun v => wp V (cdT Ev) mx d 94 9 ls (v :: st) h Q) := x_getf rfl
theorem s_94_9 {a : Nat} : wp V (cdT Ev) mx d 94 9 ls (.ref a :: st) h Q = gf [9] 1 h a (fun v => wp V (cdT Ev) mx d 94 12 ls (v :: st) h Q) := x_getf rfl
theorem s_94_12 {x z : Int32} : wp V (cdT Ev) mx d 94 12 ls (.int z :: .int x :: st) h Q = (if z ≤ x then wp V (cdT Ev) mx d 94 27 ls st h Q else wp V (cdT Ev) mx d 94 15 ls st h Q) := x_if2 (c := fun x z => z ≤ x) rfl
theorem s_94_15 {x : Int32} : wp V (cdT Ev) mx d 94 15 [l0, some (.int x)] st h Q = wp V (cdT Ev) mx d 94 16 [l0, some (.int x)] (.int x :: st) h Q := x_iload (len := 1) rfl rfl
theorem s_94_16 {a : Nat} : wp V (cdT Ev) mx d 94 16 [some (.ref a), l1] st h Q = wp V (cdT Ev) mx d 94 17 [some (.ref a), l1] (.ref a :: st) h Q := x_aload (len := 1) rfl rfl
theorem s_94_16_n : wp V (cdT Ev) mx d 94 16 [some .null, l1] st h Q = wp V (cdT Ev) mx d 94 17 [some .null, l1] (.null :: st) h Q := x_aloadN (len := 1) rfl rfl
theorem s_94_17 {a : Nat} : wp V (cdT Ev) mx d 94 17 ls (.ref a :: st) h Q = gf [11] 6 h a (fun v => wp V (cdT Ev) mx d 94 20 ls (v :: st) h Q) := x_getf rfl
theorem s_94_20 {a : Nat} : wp V (cdT Ev) mx d 94 20 ls (.ref a :: st) h Q = gf [9] 0 h a (fun v => wp V (cdT Ev) mx d 94 23 ls (v :: st) h Q) := x_getf rfl
theorem s_94_23 {a : Nat} : wp V (cdT Ev) mx d 94 23 ls (.ref a :: st) h Q = ln V h a (fun x => wp V (cdT Ev) mx d 94 24 ls (.int x :: st) h Q) := x_alen rfl
theorem s_94_24 {x z : Int32} : wp V (cdT Ev) mx d 94 24 ls (.int z :: .int x :: st) h Q = (if x < z then wp V (cdT Ev) mx d 94 29 ls st h Q else wp V (cdT Ev) mx d 94 27 ls st h Q) := x_if2 (c := fun x z => x < z) rfl
theorem s_94_27 : wp V (cdT Ev) mx d 94 27 ls st h Q = wp V (cdT Ev) mx d 94 28 ls ((.int (-1)) :: st) h Q := x_push (v := (.int (-1))) (len := 1) rfl
theorem s_94_28 {x : Int32} : wp V (cdT Ev) mx d 94 28 ls [.int x] h Q = Q (some (.int x)) h := x_ret rfl rfl
theorem s_94_29 {a : Nat} : wp V (cdT Ev) mx d 94 29 [some (.ref a), l1] st h Q = wp V (cdT Ev) mx d 94 30 [some (.ref a), l1] (.ref a :: st) h Q := x_aload (len := 1) rfl rfl
theorem s_94_29_n : wp V (cdT Ev) mx d 94 29 [some .null, l1] st h Q = wp V (cdT Ev) mx d 94 30 [some .null, l1] (.null :: st) h Q := x_aloadN (len := 1) rfl rfl
theorem s_94_30 {a : Nat} : wp V (cdT Ev) mx d 94 30 ls (.ref a :: st) h Q = gf [11] 6 h a (fun v => wp V (cdT Ev) mx d 94 33 ls (v :: st) h Q) := x_getf rfl
theorem s_94_33 {a : Nat} : wp V (cdT Ev) mx d 94 33 ls (.ref a :: st) h Q = gf [9] 0 h a (fun v => wp V (cdT Ev) mx d 94 36 ls (v :: st) h Q) := x_getf rfl
theorem s_94_36 {x : Int32} : wp V (cdT Ev) mx d 94 36 [l0, some (.int x)] st h Q = wp V (cdT Ev) mx d 94 37 [l0, some (.int x)] (.int x :: st) h Q := x_iload (len := 1) rfl rfl
theorem s_94_37 {i : Int32} {a : Nat} : wp V (cdT Ev) mx d 94 37 ls (.int i :: .ref a :: st) h Q = ai 2 i V h a (fun x => wp V (cdT Ev) mx d 94 38 ls (.int x :: st) h Q) := x_iald rfl
theorem s_94_38 {x : Int32} : wp V (cdT Ev) mx d 94 38 ls [.int x] h Q = Q (some (.int x)) h := x_ret rfl rfl
theorem e_94 {a : Nat} {p0 : Int32} : WP V (cdT Ev) mx (d + 1) 94 [.ref a, .int p0] h Q = wp V (cdT Ev) mx d 94 0 [some (.ref a), some (.int p0)] [] h Q := propext (WP_eq (Nat.le_of_ble_eq_true rfl))
theorem s_95_0 {x : Int32} : wp V (cdT Ev) mx d 95 0 [l0, l1, some (.int x), l3] st h Q = wp V (cdT Ev) mx d 95 1 [l0, l1, some (.int x), l3] (.int x :: st) h Q := x_iload (len := 1) rfl rfl
theorem s_95_1 {x : Int32} : wp V (cdT Ev) mx d 95 1 ls (.int x :: st) h Q = (if x < 0 then wp V (cdT Ev) mx d 95 12 ls st h Q else wp V (cdT Ev) mx d 95 4 ls st h Q) := x_if1 (c := fun x => x < 0) rfl
theorem s_95_4 {x : Int32} : wp V (cdT Ev) mx d 95 4 [l0, l1, some (.int x), l3] st h Q = wp V (cdT Ev) mx d 95 5 [l0, l1, some (.int x), l3] (.int x :: st) h Q := x_iload (len := 1) rfl rfl
theorem s_95_5 : wp V (cdT Ev) mx d 95 5 ls st h Q = wp V (cdT Ev) mx d 95 8 ls ((Ev 0) :: st) h Q := x_push (v := (Ev 0)) (len := 3) rfl
theorem s_95_8 {a : Nat} : wp V (cdT Ev) mx d 95 8 ls (.ref a :: st) h Q = ln V h a (fun x => wp V (cdT Ev) mx d 95 9 ls (.int x :: st) h Q) := x_alen rfl
theorem s_95_9 {x z : Int32} : wp V (cdT Ev) mx d 95 9 ls (.int z :: .int x :: st) h Q = (if x < z then wp V (cdT Ev) mx d 95 15 ls st h Q else wp V (cdT Ev) mx d 95 12 ls st h Q) := x_if2 (c := fun x z => x < z) rfl
theorem s_95_12 : wp V (cdT Ev) mx d 95 12 ls st h Q = wp V (cdT Ev) mx d 95 14 ls ((.int (-2)) :: st) h Q := x_push (v := (.int (-2))) (len := 2) rfl
theorem s_95_14 {x : Int32} : wp V (cdT Ev) mx d 95 14 ls [.int x] h Q = Q (some (.int x)) h := x_ret rfl rfl
theorem s_95_15 {a : Nat} : wp V (cdT Ev) mx d 95 15 [some (.ref a), l1, l2, l3] st h Q = wp V (cdT Ev) mx d 95 16 [some (.ref a), l1, l2, l3] (.ref a :: st) h Q := x_aload (len := 1) rfl rfl
theorem s_95_15_n : wp V (cdT Ev) mx d 95 15 [some .null, l1, l2, l3] st h Q = wp V (cdT Ev) mx d 95 16 [some .null, l1, l2, l3] (.null :: st) h Q := x_aloadN (len := 1) rfl rfl
theorem s_95_16 {a : Nat} : wp V (cdT Ev) mx d 95 16 ls (.ref a :: st) h Q = gf [11] 0 h a (fun v => wp V (cdT Ev) mx d 95 19 ls (v :: st) h Q) := x_getf rfl
theorem s_95_19 {x : Int32} : wp V (cdT Ev) mx d 95 19 [l0, some (.int x), l2, l3] st h Q = wp V (cdT Ev) mx d 95 20 [l0, some (.int x), l2, l3] (.int x :: st) h Q := x_iload (len := 1) rfl rfl
theorem s_95_20 {b : Nat} {v0 : Value} (hst : st.length ≤ 4) : wp V (cdT Ev) mx d 95 20 ls (v0 :: .ref b :: st) h Q = cv [(10, 51)] h b (fun y' => WP V (cdT Ev) mx d y' [.ref b, v0] h (fun r h' => wp V (cdT Ev) mx d 95 23 ls (rts r st) h' Q)) := x_cv (sg := [v0]) rfl hst rfl rfl
theorem s_95_23 {a : Nat} (hn : nl l2 = true) : wp V (cdT Ev) mx d 95 23 [l0, l1, l2, l3] (.ref a :: st) h Q = wp V (cdT Ev) mx d 95 24 [l0, l1, l2, some (.ref a)] st h Q := x_astore (len := 1) rfl (Nat.le_of_ble_eq_true rfl) (okp_nl rfl hn) rfl
theorem s_95_23_n (hn : nl l2 = true) : wp V (cdT Ev) mx d 95 23 [l0, l1, l2, l3] (.null :: st) h Q = wp V (cdT Ev) mx d 95 24 [l0, l1, l2, some .null] st h Q := x_astoreN (len := 1) rfl (Nat.le_of_ble_eq_true rfl) (okp_nl rfl hn) rfl
theorem s_95_24 {a : Nat} : wp V (cdT Ev) mx d 95 24 [l0, l1, l2, some (.ref a)] st h Q = wp V (cdT Ev) mx d 95 25 [l0, l1, l2, some (.ref a)] (.ref a :: st) h Q := x_aload (len := 1) rfl rfl
theorem s_95_24_n : wp V (cdT Ev) mx d 95 24 [l0, l1, l2, some .null] st h Q = wp V (cdT Ev) mx d 95 25 [l0, l1, l2, some .null] (.null :: st) h Q := x_aloadN (len := 1) rfl rfl
theorem s_95_25 {a : Nat} : wp V (cdT Ev) mx d 95 25 ls (.ref a :: st) h Q = wp V (cdT Ev) mx d 95 31 ls st h Q := x_ifnonnull rfl
theorem s_95_25_n : wp V (cdT Ev) mx d 95 25 ls (.null :: st) h Q = wp V (cdT Ev) mx d 95 28 ls st h Q := x_ifnonnullN rfl
theorem s_95_28 : wp V (cdT Ev) mx d 95 28 ls st h Q = wp V (cdT Ev) mx d 95 30 ls ((.int (-11)) :: st) h Q := x_push (v := (.int (-11))) (len := 2) rfl
theorem s_95_30 {x : Int32} : wp V (cdT Ev) mx d 95 30 ls [.int x] h Q = Q (some (.int x)) h := x_ret rfl rfl
theorem s_95_31 {a : Nat} : wp V (cdT Ev) mx d 95 31 [l0, l1, l2, some (.ref a)] st h Q = wp V (cdT Ev) mx d 95 32 [l0, l1, l2, some (.ref a)] (.ref a :: st) h Q := x_aload (len := 1) rfl rfl
theorem s_95_31_n : wp V (cdT Ev) mx d 95 31 [l0, l1, l2, some .null] st h Q = wp V (cdT Ev) mx d 95 32 [l0, l1, l2, some .null] (.null :: st) h Q := x_aloadN (len := 1) rfl rfl
theorem s_95_32 {a : Nat} : wp V (cdT Ev) mx d 95 32 ls (.ref a :: st) h Q = gf [1, 2, 3, 4, 5, 6, 8] 0 h a (fun v => wp V (cdT Ev) mx d 95 35 ls (v :: st) h Q) := x_getf rfl
theorem s_95_35 {x : Int32} : wp V (cdT Ev) mx d 95 35 [l0, l1, some (.int x), l3] st h Q = wp V (cdT Ev) mx d 95 36 [l0, l1, some (.int x), l3] (.int x :: st) h Q := x_iload (len := 1) rfl rfl
theorem s_95_36 {v0 v1 : Value} (hst : st.length ≤ 4) : wp V (cdT Ev) mx d 95 36 ls (v1 :: v0 :: st) h Q = WP V (cdT Ev) mx d 108 [v0, v1] h (fun r h' => wp V (cdT Ev) mx d 95 39 ls (rts r st) h' Q) := x_cs (sg := [v1, v0]) rfl hst rfl rfl
theorem s_95_39 {x : Int32} : wp V (cdT Ev) mx d 95 39 ls (.int x :: st) h Q = (if x = 0 then wp V (cdT Ev) mx d 95 49 ls st h Q else wp V (cdT Ev) mx d 95 42 ls st h Q) := x_if1 (c := fun x => x = 0) rfl
theorem s_95_42 {a : Nat} : wp V (cdT Ev) mx d 95 42 [l0, l1, l2, some (.ref a)] st h Q = wp V (cdT Ev) mx d 95 43 [l0, l1, l2, some (.ref a)] (.ref a :: st) h Q := x_aload (len := 1) rfl rfl
theorem s_95_42_n : wp V (cdT Ev) mx d 95 42 [l0, l1, l2, some .null] st h Q = wp V (cdT Ev) mx d 95 43 [l0, l1, l2, some .null] (.null :: st) h Q := x_aloadN (len := 1) rfl rfl
theorem s_95_43 {a : Nat} : wp V (cdT Ev) mx d 95 43 ls (.ref a :: st) h Q = gf [1, 2, 3, 4, 5, 6, 8] 0 h a (fun v => wp V (cdT Ev) mx d 95 46 ls (v :: st) h Q) := x_getf rfl
theorem s_95_46 : wp V (cdT Ev) mx d 95 46 ls st h Q = wp V (cdT Ev) mx d 95 51 ls st h Q := x_goto rfl
theorem s_95_49 : wp V (cdT Ev) mx d 95 49 ls st h Q = wp V (cdT Ev) mx d 95 51 ls ((.int (-12)) :: st) h Q := x_push (v := (.int (-12))) (len := 2) rfl
theorem s_95_51 {x : Int32} : wp V (cdT Ev) mx d 95 51 ls [.int x] h Q = Q (some (.int x)) h := x_ret rfl rfl
theorem e_95 {a : Nat} {p0 : Int32} {p1 : Int32} : WP V (cdT Ev) mx (d + 1) 95 [.ref a, .int p0, .int p1] h Q = wp V (cdT Ev) mx d 95 0 [some (.ref a), some (.int p0), some (.int p1), none] [] h Q := propext (WP_eq (Nat.le_of_ble_eq_true rfl))
theorem s_96_0 {x : Int32} : wp V (cdT Ev) mx d 96 0 [l0, some (.int x)] st h Q = wp V (cdT Ev) mx d 96 1 [l0, some (.int x)] (.int x :: st) h Q := x_iload (len := 1) rfl rfl
theorem s_96_1 {x : Int32} : wp V (cdT Ev) mx d 96 1 ls (.int x :: st) h Q = (if x = 0 then wp V (cdT Ev) mx d 96 44 ls st h Q else (if x = 1 then wp V (cdT Ev) mx d 96 52 ls st h Q else (if x = 2 then wp V (cdT Ev) mx d 96 57 ls st h Q else (if x = 3 then wp V (cdT Ev) mx d 96 68 ls st h Q else (if x = 4 then wp V (cdT Ev) mx d 96 79 ls st h Q else (if x = 5 then wp V (cdT Ev) mx d 96 90 ls st h Q else (if x = 6 then wp V (cdT Ev) mx d 96 98 ls st h Q else wp V (cdT Ev) mx d 96 106 ls st h Q))))))) := x_sw (t := 106) (l := [(0, 44), (1, 52), (2, 57), (3, 68), (4, 79), (5, 90), (6, 98)]) rfl
theorem s_96_44 {a : Nat} : wp V (cdT Ev) mx d 96 44 [some (.ref a), l1] st h Q = wp V (cdT Ev) mx d 96 45 [some (.ref a), l1] (.ref a :: st) h Q := x_aload (len := 1) rfl rfl
theorem s_96_44_n : wp V (cdT Ev) mx d 96 44 [some .null, l1] st h Q = wp V (cdT Ev) mx d 96 45 [some .null, l1] (.null :: st) h Q := x_aloadN (len := 1) rfl rfl
theorem s_96_45 {a : Nat} : wp V (cdT Ev) mx d 96 45 ls (.ref a :: st) h Q = gf [11] 0 h a (fun v => wp V (cdT Ev) mx d 96 48 ls (v :: st) h Q) := x_getf rfl
theorem s_96_48 {a : Nat} : wp V (cdT Ev) mx d 96 48 ls (.ref a :: st) h Q = gf [10] 2 h a (fun v => wp V (cdT Ev) mx d 96 51 ls (v :: st) h Q) := x_getf rfl
theorem s_96_51 {x : Int32} : wp V (cdT Ev) mx d 96 51 ls [.int x] h Q = Q (some (.int x)) h := x_ret rfl rfl
theorem s_96_52 {a : Nat} : wp V (cdT Ev) mx d 96 52 [some (.ref a), l1] st h Q = wp V (cdT Ev) mx d 96 53 [some (.ref a), l1] (.ref a :: st) h Q := x_aload (len := 1) rfl rfl
theorem s_96_52_n : wp V (cdT Ev) mx d 96 52 [some .null, l1] st h Q = wp V (cdT Ev) mx d 96 53 [some .null, l1] (.null :: st) h Q := x_aloadN (len := 1) rfl rfl
theorem s_96_53 {a : Nat} : wp V (cdT Ev) mx d 96 53 ls (.ref a :: st) h Q = gf [11] 5 h a (fun v => wp V (cdT Ev) mx d 96 56 ls (v :: st) h Q) := x_getf rfl
theorem s_96_56 {x : Int32} : wp V (cdT Ev) mx d 96 56 ls [.int x] h Q = Q (some (.int x)) h := x_ret rfl rfl
theorem s_96_57 {a : Nat} : wp V (cdT Ev) mx d 96 57 [some (.ref a), l1] st h Q = wp V (cdT Ev) mx d 96 58 [some (.ref a), l1] (.ref a :: st) h Q := x_aload (len := 1) rfl rfl
theorem s_96_57_n : wp V (cdT Ev) mx d 96 57 [some .null, l1] st h Q = wp V (cdT Ev) mx d 96 58 [some .null, l1] (.null :: st) h Q := x_aloadN (len := 1) rfl rfl
theorem s_96_58 {a : Nat} : wp V (cdT Ev) mx d 96 58 ls (.ref a :: st) h Q = gf [11] 0 h a (fun v => wp V (cdT Ev) mx d 96 61 ls (v :: st) h Q) := x_getf rfl
theorem s_96_61 {a : Nat} : wp V (cdT Ev) mx d 96 61 ls (.ref a :: st) h Q = gf [10] 6 h a (fun v => wp V (cdT Ev) mx d 96 64 ls (v :: st) h Q) := x_getf rfl
theorem s_96_64 {a : Nat} : wp V (cdT Ev) mx d 96 64 ls (.ref a :: st) h Q = gf [7] 2 h a (fun v => wp V (cdT Ev) mx d 96 67 ls (v :: st) h Q) := x_getf rfl
theorem s_96_67 {x : Int32} : wp V (cdT Ev) mx d 96 67 ls [.int x] h Q = Q (some (.int x)) h := x_ret rfl rfl
theorem s_96_68 {a : Nat} : wp V (cdT Ev) mx d 96 68 [some (.ref a), l1] st h Q = wp V (cdT Ev) mx d 96 69 [some (.ref a), l1] (.ref a :: st) h Q := x_aload (len := 1) rfl rfl
theorem s_96_68_n : wp V (cdT Ev) mx d 96 68 [some .null, l1] st h Q = wp V (cdT Ev) mx d 96 69 [some .null, l1] (.null :: st) h Q := x_aloadN (len := 1) rfl rfl
theorem s_96_69 {a : Nat} : wp V (cdT Ev) mx d 96 69 ls (.ref a :: st) h Q = gf [11] 0 h a (fun v => wp V (cdT Ev) mx d 96 72 ls (v :: st) h Q) := x_getf rfl
theorem s_96_72 {a : Nat} : wp V (cdT Ev) mx d 96 72 ls (.ref a :: st) h Q = gf [10] 7 h a (fun v => wp V (cdT Ev) mx d 96 75 ls (v :: st) h Q) := x_getf rfl
theorem s_96_75 {a : Nat} : wp V (cdT Ev) mx d 96 75 ls (.ref a :: st) h Q = gf [7] 2 h a (fun v => wp V (cdT Ev) mx d 96 78 ls (v :: st) h Q) := x_getf rfl
theorem s_96_78 {x : Int32} : wp V (cdT Ev) mx d 96 78 ls [.int x] h Q = Q (some (.int x)) h := x_ret rfl rfl
theorem s_96_79 {a : Nat} : wp V (cdT Ev) mx d 96 79 [some (.ref a), l1] st h Q = wp V (cdT Ev) mx d 96 80 [some (.ref a), l1] (.ref a :: st) h Q := x_aload (len := 1) rfl rfl
theorem s_96_79_n : wp V (cdT Ev) mx d 96 79 [some .null, l1] st h Q = wp V (cdT Ev) mx d 96 80 [some .null, l1] (.null :: st) h Q := x_aloadN (len := 1) rfl rfl
theorem s_96_80 {a : Nat} : wp V (cdT Ev) mx d 96 80 ls (.ref a :: st) h Q = gf [11] 0 h a (fun v => wp V (cdT Ev) mx d 96 83 ls (v :: st) h Q) := x_getf rfl
theorem s_96_83 {a : Nat} : wp V (cdT Ev) mx d 96 83 ls (.ref a :: st) h Q = gf [10] 8 h a (fun v => wp V (cdT Ev) mx d 96 86 ls (v :: st) h Q) := x_getf rfl
theorem s_96_86 {a : Nat} : wp V (cdT Ev) mx d 96 86 ls (.ref a :: st) h Q = gf [7] 2 h a (fun v => wp V (cdT Ev) mx d 96 89 ls (v :: st) h Q) := x_getf rfl
theorem s_96_89 {x : Int32} : wp V (cdT Ev) mx d 96 89 ls [.int x] h Q = Q (some (.int x)) h := x_ret rfl rfl
theorem s_96_90 {a : Nat} : wp V (cdT Ev) mx d 96 90 [some (.ref a), l1] st h Q = wp V (cdT Ev) mx d 96 91 [some (.ref a), l1] (.ref a :: st) h Q := x_aload (len := 1) rfl rfl
theorem s_96_90_n : wp V (cdT Ev) mx d 96 90 [some .null, l1] st h Q = wp V (cdT Ev) mx d 96 91 [some .null, l1] (.null :: st) h Q := x_aloadN (len := 1) rfl rfl
theorem s_96_91 {a : Nat} : wp V (cdT Ev) mx d 96 91 ls (.ref a :: st) h Q = gf [11] 4 h a (fun v => wp V (cdT Ev) mx d 96 94 ls (v :: st) h Q) := x_getf rfl
theorem s_96_94 {a : Nat} : wp V (cdT Ev) mx d 96 94 ls (.ref a :: st) h Q = gf [0] 1 h a (fun v => wp V (cdT Ev) mx d 96 97 ls (v :: st) h Q) := x_getf rfl
theorem s_96_97 {x : Int32} : wp V (cdT Ev) mx d 96 97 ls [.int x] h Q = Q (some (.int x)) h := x_ret rfl rfl
theorem s_96_98 {a : Nat} : wp V (cdT Ev) mx d 96 98 [some (.ref a), l1] st h Q = wp V (cdT Ev) mx d 96 99 [some (.ref a), l1] (.ref a :: st) h Q := x_aload (len := 1) rfl rfl
theorem s_96_98_n : wp V (cdT Ev) mx d 96 98 [some .null, l1] st h Q = wp V (cdT Ev) mx d 96 99 [some .null, l1] (.null :: st) h Q := x_aloadN (len := 1) rfl rfl
theorem s_96_99 {a : Nat} : wp V (cdT Ev) mx d 96 99 ls (.ref a :: st) h Q = gf [11] 6 h a (fun v => wp V (cdT Ev) mx d 96 102 ls (v :: st) h Q) := x_getf rfl
theorem s_96_102 {a : Nat} : wp V (cdT Ev) mx d 96 102 ls (.ref a :: st) h Q = gf [9] 1 h a (fun v => wp V (cdT Ev) mx d 96 105 ls (v :: st) h Q) := x_getf rfl
theorem s_96_105 {x : Int32} : wp V (cdT Ev) mx d 96 105 ls [.int x] h Q = Q (some (.int x)) h := x_ret rfl rfl
theorem s_96_106 : wp V (cdT Ev) mx d 96 106 ls st h Q = wp V (cdT Ev) mx d 96 108 ls ((.int (-2)) :: st) h Q := x_push (v := (.int (-2))) (len := 2) rfl
theorem s_96_108 {x : Int32} : wp V (cdT Ev) mx d 96 108 ls [.int x] h Q = Q (some (.int x)) h := x_ret rfl rfl
theorem e_96 {a : Nat} {p0 : Int32} : WP V (cdT Ev) mx (d + 1) 96 [.ref a, .int p0] h Q = wp V (cdT Ev) mx d 96 0 [some (.ref a), some (.int p0)] [] h Q := propext (WP_eq (Nat.le_of_ble_eq_true rfl))
theorem s_97_0 {x : Int32} : wp V (cdT Ev) mx d 97 0 [l0, some (.int x), l2, l3, l4] st h Q = wp V (cdT Ev) mx d 97 1 [l0, some (.int x), l2, l3, l4] (.int x :: st) h Q := x_iload (len := 1) rfl rfl
theorem s_97_1 {v0 : Value} (hst : st.length ≤ 4) : wp V (cdT Ev) mx d 97 1 ls (v0 :: st) h Q = WP V (cdT Ev) mx d 106 [v0] h (fun r h' => wp V (cdT Ev) mx d 97 4 ls (rts r st) h' Q) := x_cs (sg := [v0]) rfl hst rfl rfl
theorem s_97_4 {x : Int32} : wp V (cdT Ev) mx d 97 4 ls (.int x :: st) h Q = (if ¬ x = 0 then wp V (cdT Ev) mx d 97 9 ls st h Q else wp V (cdT Ev) mx d 97 7 ls st h Q) := x_if1 (c := fun x => ¬ x = 0) rfl
theorem s_97_7 : wp V (cdT Ev) mx d 97 7 ls st h Q = wp V (cdT Ev) mx d 97 8 ls ((.int (-1)) :: st) h Q := x_push (v := (.int (-1))) (len := 1) rfl
theorem s_97_8 {x : Int32} : wp V (cdT Ev) mx d 97 8 ls [.int x] h Q = Q (some (.int x)) h := x_ret rfl rfl
theorem s_97_9 {x : Int32} : wp V (cdT Ev) mx d 97 9 [l0, l1, some (.int x), l3, l4] st h Q = wp V (cdT Ev) mx d 97 10 [l0, l1, some (.int x), l3, l4] (.int x :: st) h Q := x_iload (len := 1) rfl rfl
theorem s_97_10 : wp V (cdT Ev) mx d 97 10 ls st h Q = wp V (cdT Ev) mx d 97 11 ls ((.int (-1)) :: st) h Q := x_push (v := (.int (-1))) (len := 1) rfl
theorem s_97_11 {x z : Int32} : wp V (cdT Ev) mx d 97 11 ls (.int z :: .int x :: st) h Q = (if x < z then wp V (cdT Ev) mx d 97 19 ls st h Q else wp V (cdT Ev) mx d 97 14 ls st h Q) := x_if2 (c := fun x z => x < z) rfl
theorem s_97_14 {x : Int32} : wp V (cdT Ev) mx d 97 14 [l0, l1, some (.int x), l3, l4] st h Q = wp V (cdT Ev) mx d 97 15 [l0, l1, some (.int x), l3, l4] (.int x :: st) h Q := x_iload (len := 1) rfl rfl
theorem s_97_15 : wp V (cdT Ev) mx d 97 15 ls st h Q = wp V (cdT Ev) mx d 97 16 ls ((.int (4)) :: st) h Q := x_push (v := (.int (4))) (len := 1) rfl
theorem s_97_16 {x z : Int32} : wp V (cdT Ev) mx d 97 16 ls (.int z :: .int x :: st) h Q = (if x ≤ z then wp V (cdT Ev) mx d 97 22 ls st h Q else wp V (cdT Ev) mx d 97 19 ls st h Q) := x_if2 (c := fun x z => x ≤ z) rfl
theorem s_97_19 : wp V (cdT Ev) mx d 97 19 ls st h Q = wp V (cdT Ev) mx d 97 21 ls ((.int (-2)) :: st) h Q := x_push (v := (.int (-2))) (len := 2) rfl
theorem s_97_21 {x : Int32} : wp V (cdT Ev) mx d 97 21 ls [.int x] h Q = Q (some (.int x)) h := x_ret rfl rfl
theorem s_97_22 {x : Int32} : wp V (cdT Ev) mx d 97 22 [l0, l1, some (.int x), l3, l4] st h Q = wp V (cdT Ev) mx d 97 23 [l0, l1, some (.int x), l3, l4] (.int x :: st) h Q := x_iload (len := 1) rfl rfl
theorem s_97_23 {x : Int32} : wp V (cdT Ev) mx d 97 23 ls (.int x :: st) h Q = (if x < 0 then wp V (cdT Ev) mx d 97 35 ls st h Q else wp V (cdT Ev) mx d 97 26 ls st h Q) := x_if1 (c := fun x => x < 0) rfl
theorem s_97_26 {x : Int32} : wp V (cdT Ev) mx d 97 26 [l0, l1, l2, some (.int x), l4] st h Q = wp V (cdT Ev) mx d 97 27 [l0, l1, l2, some (.int x), l4] (.int x :: st) h Q := x_iload (len := 1) rfl rfl
theorem s_97_27 : wp V (cdT Ev) mx d 97 27 ls st h Q = wp V (cdT Ev) mx d 97 29 ls ((.int (60)) :: st) h Q := x_push (v := (.int (60))) (len := 2) rfl
theorem s_97_29 {x z : Int32} : wp V (cdT Ev) mx d 97 29 ls (.int z :: .int x :: st) h Q = (if x ≤ z then wp V (cdT Ev) mx d 97 35 ls st h Q else wp V (cdT Ev) mx d 97 32 ls st h Q) := x_if2 (c := fun x z => x ≤ z) rfl
theorem s_97_32 : wp V (cdT Ev) mx d 97 32 ls st h Q = wp V (cdT Ev) mx d 97 34 ls ((.int (-2)) :: st) h Q := x_push (v := (.int (-2))) (len := 2) rfl
theorem s_97_34 {x : Int32} : wp V (cdT Ev) mx d 97 34 ls [.int x] h Q = Q (some (.int x)) h := x_ret rfl rfl
theorem s_97_35 {x : Int32} : wp V (cdT Ev) mx d 97 35 [l0, l1, some (.int x), l3, l4] st h Q = wp V (cdT Ev) mx d 97 36 [l0, l1, some (.int x), l3, l4] (.int x :: st) h Q := x_iload (len := 1) rfl rfl
theorem s_97_36 {x : Int32} : wp V (cdT Ev) mx d 97 36 ls (.int x :: st) h Q = (if x < 0 then wp V (cdT Ev) mx d 97 46 ls st h Q else wp V (cdT Ev) mx d 97 39 ls st h Q) := x_if1 (c := fun x => x < 0) rfl
theorem s_97_39 {x : Int32} : wp V (cdT Ev) mx d 97 39 [l0, l1, l2, some (.int x), l4] st h Q = wp V (cdT Ev) mx d 97 40 [l0, l1, l2, some (.int x), l4] (.int x :: st) h Q := x_iload (len := 1) rfl rfl
theorem s_97_40 {x : Int32} : wp V (cdT Ev) mx d 97 40 ls (.int x :: st) h Q = (if 0 ≤ x then wp V (cdT Ev) mx d 97 46 ls st h Q else wp V (cdT Ev) mx d 97 43 ls st h Q) := x_if1 (c := fun x => 0 ≤ x) rfl
theorem s_97_43 : wp V (cdT Ev) mx d 97 43 ls st h Q = wp V (cdT Ev) mx d 97 45 ls ((.int (-14)) :: st) h Q := x_push (v := (.int (-14))) (len := 2) rfl
theorem s_97_45 {x : Int32} : wp V (cdT Ev) mx d 97 45 ls [.int x] h Q = Q (some (.int x)) h := x_ret rfl rfl
theorem s_97_46 {a : Nat} : wp V (cdT Ev) mx d 97 46 [some (.ref a), l1, l2, l3, l4] st h Q = wp V (cdT Ev) mx d 97 47 [some (.ref a), l1, l2, l3, l4] (.ref a :: st) h Q := x_aload (len := 1) rfl rfl
theorem s_97_46_n : wp V (cdT Ev) mx d 97 46 [some .null, l1, l2, l3, l4] st h Q = wp V (cdT Ev) mx d 97 47 [some .null, l1, l2, l3, l4] (.null :: st) h Q := x_aloadN (len := 1) rfl rfl
theorem s_97_47 {a : Nat} : wp V (cdT Ev) mx d 97 47 ls (.ref a :: st) h Q = gf [11] 7 h a (fun v => wp V (cdT Ev) mx d 97 50 ls (v :: st) h Q) := x_getf rfl
theorem s_97_50 {x : Int32} : wp V (cdT Ev) mx d 97 50 [l0, some (.int x), l2, l3, l4] st h Q = wp V (cdT Ev) mx d 97 51 [l0, some (.int x), l2, l3, l4] (.int x :: st) h Q := x_iload (len := 1) rfl rfl
theorem s_97_51 {x : Int32} : wp V (cdT Ev) mx d 97 51 [l0, l1, some (.int x), l3, l4] st h Q = wp V (cdT Ev) mx d 97 52 [l0, l1, some (.int x), l3, l4] (.int x :: st) h Q := x_iload (len := 1) rfl rfl
theorem s_97_52 {x i : Int32} {a : Nat} : wp V (cdT Ev) mx d 97 52 ls (.int x :: .int i :: .ref a :: st) h Q = si 2 i (x) h a (fun hh => wp V (cdT Ev) mx d 97 53 ls st hh Q) := x_iast (nw := fun x => x) rfl
theorem s_97_53 {a : Nat} : wp V (cdT Ev) mx d 97 53 [some (.ref a), l1, l2, l3, l4] st h Q = wp V (cdT Ev) mx d 97 54 [some (.ref a), l1, l2, l3, l4] (.ref a :: st) h Q := x_aload (len := 1) rfl rfl
theorem s_97_53_n : wp V (cdT Ev) mx d 97 53 [some .null, l1, l2, l3, l4] st h Q = wp V (cdT Ev) mx d 97 54 [some .null, l1, l2, l3, l4] (.null :: st) h Q := x_aloadN (len := 1) rfl rfl
theorem s_97_54 {a : Nat} : wp V (cdT Ev) mx d 97 54 ls (.ref a :: st) h Q = gf [11] 8 h a (fun v => wp V (cdT Ev) mx d 97 57 ls (v :: st) h Q) := x_getf rfl
theorem s_97_57 {x : Int32} : wp V (cdT Ev) mx d 97 57 [l0, some (.int x), l2, l3, l4] st h Q = wp V (cdT Ev) mx d 97 58 [l0, some (.int x), l2, l3, l4] (.int x :: st) h Q := x_iload (len := 1) rfl rfl
theorem s_97_58 {x : Int32} : wp V (cdT Ev) mx d 97 58 [l0, l1, some (.int x), l3, l4] st h Q = wp V (cdT Ev) mx d 97 59 [l0, l1, some (.int x), l3, l4] (.int x :: st) h Q := x_iload (len := 1) rfl rfl
theorem s_97_59 {x : Int32} : wp V (cdT Ev) mx d 97 59 ls (.int x :: st) h Q = (if x < 0 then wp V (cdT Ev) mx d 97 66 ls st h Q else wp V (cdT Ev) mx d 97 62 ls st h Q) := x_if1 (c := fun x => x < 0) rfl
theorem s_97_62 {x : Int32} : wp V (cdT Ev) mx d 97 62 [l0, l1, l2, some (.int x), l4] st h Q = wp V (cdT Ev) mx d 97 63 [l0, l1, l2, some (.int x), l4] (.int x :: st) h Q := x_iload (len := 1) rfl rfl
theorem s_97_63 : wp V (cdT Ev) mx d 97 63 ls st h Q = wp V (cdT Ev) mx d 97 67 ls st h Q := x_goto rfl
theorem s_97_66 : wp V (cdT Ev) mx d 97 66 ls st h Q = wp V (cdT Ev) mx d 97 67 ls ((.int (0)) :: st) h Q := x_push (v := (.int (0))) (len := 1) rfl
theorem s_97_67 {x i : Int32} {a : Nat} : wp V (cdT Ev) mx d 97 67 ls (.int x :: .int i :: .ref a :: st) h Q = si 2 i (x) h a (fun hh => wp V (cdT Ev) mx d 97 68 ls st hh Q) := x_iast (nw := fun x => x) rfl
theorem s_97_68 : wp V (cdT Ev) mx d 97 68 ls st h Q = wp V (cdT Ev) mx d 97 69 ls ((.int (0)) :: st) h Q := x_push (v := (.int (0))) (len := 1) rfl
theorem s_97_69 {x : Int32} (hn : nl l3 = true) : wp V (cdT Ev) mx d 97 69 [l0, l1, l2, l3, l4] (.int x :: st) h Q = wp V (cdT Ev) mx d 97 71 [l0, l1, l2, l3, some (.int x)] st h Q := x_istore (len := 2) rfl (Nat.le_of_ble_eq_true rfl) (okp_nl rfl hn) rfl
theorem s_97_71 {x : Int32} : wp V (cdT Ev) mx d 97 71 [l0, l1, l2, l3, some (.int x)] st h Q = wp V (cdT Ev) mx d 97 73 [l0, l1, l2, l3, some (.int x)] (.int x :: st) h Q := x_iload (len := 2) rfl rfl
theorem s_97_73 {a : Nat} : wp V (cdT Ev) mx d 97 73 [some (.ref a), l1, l2, l3, l4] st h Q = wp V (cdT Ev) mx d 97 74 [some (.ref a), l1, l2, l3, l4] (.ref a :: st) h Q := x_aload (len := 1) rfl rfl
theorem s_97_73_n : wp V (cdT Ev) mx d 97 73 [some .null, l1, l2, l3, l4] st h Q = wp V (cdT Ev) mx d 97 74 [some .null, l1, l2, l3, l4] (.null :: st) h Q := x_aloadN (len := 1) rfl rfl
theorem s_97_74 {a : Nat} : wp V (cdT Ev) mx d 97 74 ls (.ref a :: st) h Q = gf [11] 8 h a (fun v => wp V (cdT Ev) mx d 97 77 ls (v :: st) h Q) := x_getf rfl
theorem s_97_77 {x : Int32} : wp V (cdT Ev) mx d 97 77 [l0, some (.int x), l2, l3, l4] st h Q = wp V (cdT Ev) mx d 97 78 [l0, some (.int x), l2, l3, l4] (.int x :: st) h Q := x_iload (len := 1) rfl rfl
theorem s_97_78 {i : Int32} {a : Nat} : wp V (cdT Ev) mx d 97 78 ls (.int i :: .ref a :: st) h Q = ai 2 i V h a (fun x => wp V (cdT Ev) mx d 97 79 ls (.int x :: st) h Q) := x_iald rfl
theorem s_97_79 {x z : Int32} : wp V (cdT Ev) mx d 97 79 ls (.int z :: .int x :: st) h Q = (if z ≤ x then wp V (cdT Ev) mx d 97 98 ls st h Q else wp V (cdT Ev) mx d 97 82 ls st h Q) := x_if2 (c := fun x z => z ≤ x) rfl
theorem s_97_82 {a : Nat} : wp V (cdT Ev) mx d 97 82 [some (.ref a), l1, l2, l3, l4] st h Q = wp V (cdT Ev) mx d 97 83 [some (.ref a), l1, l2, l3, l4] (.ref a :: st) h Q := x_aload (len := 1) rfl rfl
theorem s_97_82_n : wp V (cdT Ev) mx d 97 82 [some .null, l1, l2, l3, l4] st h Q = wp V (cdT Ev) mx d 97 83 [some .null, l1, l2, l3, l4] (.null :: st) h Q := x_aloadN (len := 1) rfl rfl
theorem s_97_83 {a : Nat} : wp V (cdT Ev) mx d 97 83 ls (.ref a :: st) h Q = gf [11] 9 h a (fun v => wp V (cdT Ev) mx d 97 86 ls (v :: st) h Q) := x_getf rfl
theorem s_97_86 {x : Int32} : wp V (cdT Ev) mx d 97 86 [l0, some (.int x), l2, l3, l4] st h Q = wp V (cdT Ev) mx d 97 87 [l0, some (.int x), l2, l3, l4] (.int x :: st) h Q := x_iload (len := 1) rfl rfl
theorem s_97_87 {i : Int32} {a : Nat} : wp V (cdT Ev) mx d 97 87 ls (.int i :: .ref a :: st) h Q = aa i h a (fun v => wp V (cdT Ev) mx d 97 88 ls (v :: st) h Q) := x_aald rfl
theorem s_97_88 {x : Int32} : wp V (cdT Ev) mx d 97 88 [l0, l1, l2, l3, some (.int x)] st h Q = wp V (cdT Ev) mx d 97 90 [l0, l1, l2, l3, some (.int x)] (.int x :: st) h Q := x_iload (len := 2) rfl rfl
theorem s_97_90 : wp V (cdT Ev) mx d 97 90 ls st h Q = wp V (cdT Ev) mx d 97 91 ls ((.long (0)) :: st) h Q := x_push (v := (.long (0))) (len := 1) rfl
theorem s_97_91 {x : Int64} {i : Int32} {a : Nat} : wp V (cdT Ev) mx d 97 91 ls (.long x :: .int i :: .ref a :: st) h Q = sl i x h a (fun hh => wp V (cdT Ev) mx d 97 92 ls st hh Q) := x_last rfl
theorem s_97_92 {x : Int32} : wp V (cdT Ev) mx d 97 92 [l0, l1, l2, l3, some (.int x)] st h Q = wp V (cdT Ev) mx d 97 95 [l0, l1, l2, l3, some (.int (x + (1)))] st h Q := x_iinc rfl rfl rfl
theorem s_97_95 : wp V (cdT Ev) mx d 97 95 ls st h Q = wp V (cdT Ev) mx d 97 71 ls st h Q := x_goto rfl
theorem s_97_98 : wp V (cdT Ev) mx d 97 98 ls st h Q = wp V (cdT Ev) mx d 97 99 ls ((.int (1)) :: st) h Q := x_push (v := (.int (1))) (len := 1) rfl
theorem s_97_99 {x : Int32} : wp V (cdT Ev) mx d 97 99 ls [.int x] h Q = Q (some (.int x)) h := x_ret rfl rfl
theorem e_97 {a : Nat} {p0 : Int32} {p1 : Int32} {p2 : Int32} : WP V (cdT Ev) mx (d + 1) 97 [.ref a, .int p0, .int p1, .int p2] h Q = wp V (cdT Ev) mx d 97 0 [some (.ref a), some (.int p0), some (.int p1), some (.int p2), none] [] h Q := propext (WP_eq (Nat.le_of_ble_eq_true rfl))
end
