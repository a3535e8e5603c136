/-! Steps, by program. -/
section
variable {V : Nat → Option AE} {Ev : Nat → Value} {d : Nat} {ls : Lc} {st : List Value} {h : HS} {Q : Option Value → HS → Prop}
variable {l0 l1 l2 l3 l4 l5 l6 l7 l8 l9 l10 l11 l12 l13 l14 l15 : Option Value}
theorem s_153_0 {a : Nat} : wp V (cdT Ev) mx d 153 0 [some (.ref a), l1] st h Q = wp V (cdT Ev) mx d 153 1 [some (.ref a), l1] (.ref a :: st) h Q := x_aload (len := 1) rfl rfl
theorem s_153_0_n : wp V (cdT Ev) mx d 153 0 [some .null, l1] st h Q = wp V (cdT Ev) mx d 153 1 [some .null, l1] (.null :: st) h Q := x_aloadN (len := 1) rfl rfl
theorem s_153_1 {a : Nat} : wp V (cdT Ev) mx d 153 1 ls (.ref a :: st) h Q = gf [12] 8 h a (fun v => wp V (cdT Ev) mx d 153 4 ls (v :: st) h Q) := x_getf rfl
theorem s_153_4 : wp V (cdT Ev) mx d 153 4 ls st h Q = wp V (cdT Ev) mx d 153 6 ls ((.int (6)) :: st) h Q := x_push (v := (.int (6))) (len := 2) rfl
theorem s_153_6 {x z : Int32} : wp V (cdT Ev) mx d 153 6 ls (.int z :: .int x :: st) h Q = (if ¬ x = z then wp V (cdT Ev) mx d 153 12 ls st h Q else wp V (cdT Ev) mx d 153 9 ls st h Q) := x_if2 (c := fun x z => ¬ x = z) rfl
theorem s_153_9 : wp V (cdT Ev) mx d 153 9 ls st h Q = wp V (cdT Ev) mx d 153 11 ls ((.int (-4)) :: st) h Q := x_push (v := (.int (-4))) (len := 2) rfl
theorem s_153_11 {x : Int32} : wp V (cdT Ev) mx d 153 11 ls [.int x] h Q = Q (some (.int x)) h := x_ret rfl rfl
theorem s_153_12 {a : Nat} : wp V (cdT Ev) mx d 153 12 [some (.ref a), l1] st h Q = wp V (cdT Ev) mx d 153 13 [some (.ref a), l1] (.ref a :: st) h Q := x_aload (len := 1) rfl rfl
theorem s_153_12_n : wp V (cdT Ev) mx d 153 12 [some .null, l1] st h Q = wp V (cdT Ev) mx d 153 13 [some .null, l1] (.null :: st) h Q := x_aloadN (len := 1) rfl rfl
theorem s_153_13 {a : Nat} : wp V (cdT Ev) mx d 153 13 [some (.ref a), l1] st h Q = wp V (cdT Ev) mx d 153 14 [some (.ref a), l1] (.ref a :: st) h Q := x_aload (len := 1) rfl rfl
theorem s_153_13_n : wp V (cdT Ev) mx d 153 13 [some .null, l1] st h Q = wp V (cdT Ev) mx d 153 14 [some .null, l1] (.null :: st) h Q := x_aloadN (len := 1) rfl rfl
theorem s_153_14 {a : Nat} : wp V (cdT Ev) mx d 153 14 ls (.ref a :: st) h Q = gf [12] 5 h a (fun v => wp V (cdT Ev) mx d 153 17 ls (v :: st) h Q) := x_getf rfl
theorem s_153_17 {w : Value} {a : Nat} : wp V (cdT Ev) mx d 153 17 ls (w :: .ref a :: st) h Q = pf [12] 10 0 w h a (fun hh => wp V (cdT Ev) mx d 153 20 ls st hh Q) := x_putf rfl
theorem s_153_20 : wp V (cdT Ev) mx d 153 20 ls st h Q = wp V (cdT Ev) mx d 153 21 ls ((.int (0)) :: st) h Q := x_push (v := (.int (0))) (len := 1) rfl
theorem s_153_21 {x : Int32} (hn : nl l0 = true) : wp V (cdT Ev) mx d 153 21 [l0, l1] (.int x :: st) h Q = wp V (cdT Ev) mx d 153 22 [l0, some (.int x)] st h Q := x_istore (len := 1) rfl (Nat.le_of_ble_eq_true rfl) (okp_nl rfl hn) rfl
theorem s_153_22 {x : Int32} : wp V (cdT Ev) mx d 153 22 [l0, some (.int x)] st h Q = wp V (cdT Ev) mx d 153 23 [l0, some (.int x)] (.int x :: st) h Q := x_iload (len := 1) rfl rfl
theorem s_153_23 {a : Nat} : wp V (cdT Ev) mx d 153 23 [some (.ref a), l1] st h Q = wp V (cdT Ev) mx d 153 24 [some (.ref a), l1] (.ref a :: st) h Q := x_aload (len := 1) rfl rfl
theorem s_153_23_n : wp V (cdT Ev) mx d 153 23 [some .null, l1] st h Q = wp V (cdT Ev) mx d 153 24 [some .null, l1] (.null :: st) h Q := x_aloadN (len := 1) rfl rfl
theorem s_153_24 {a : Nat} : wp V (cdT Ev) mx d 153 24 ls (.ref a :: st) h Q = gf [12] 10 h a (fun v => wp V (cdT Ev) mx d 153 27 ls (v :: st) h Q) := x_getf rfl
theorem s_153_27 {x z : Int32} : wp V (cdT Ev) mx d 153 27 ls (.int z :: .int x :: st) h Q = (if z ≤ x then wp V (cdT Ev) mx d 153 48 ls st h Q else wp V (cdT Ev) mx d 153 30 ls st h Q) := x_if2 (c := fun x z => z ≤ x) rfl
theorem s_153_30 {a : Nat} : wp V (cdT Ev) mx d 153 30 [some (.ref a), l1] st h Q = wp V (cdT Ev) mx d 153 31 [some (.ref a), l1] (.ref a :: st) h Q := x_aload (len := 1) rfl rfl
theorem s_153_30_n : wp V (cdT Ev) mx d 153 30 [some .null, l1] st h Q = wp V (cdT Ev) mx d 153 31 [some .null, l1] (.null :: st) h Q := x_aloadN (len := 1) rfl rfl
theorem s_153_31 {a : Nat} : wp V (cdT Ev) mx d 153 31 ls (.ref a :: st) h Q = gf [12] 9 h a (fun v => wp V (cdT Ev) mx d 153 34 ls (v :: st) h Q) := x_getf rfl
theorem s_153_34 {x : Int32} : wp V (cdT Ev) mx d 153 34 [l0, some (.int x)] st h Q = wp V (cdT Ev) mx d 153 35 [l0, some (.int x)] (.int x :: st) h Q := x_iload (len := 1) rfl rfl
theorem s_153_35 {a : Nat} : wp V (cdT Ev) mx d 153 35 [some (.ref a), l1] st h Q = wp V (cdT Ev) mx d 153 36 [some (.ref a), l1] (.ref a :: st) h Q := x_aload (len := 1) rfl rfl
theorem s_153_35_n : wp V (cdT Ev) mx d 153 35 [some .null, l1] st h Q = wp V (cdT Ev) mx d 153 36 [some .null, l1] (.null :: st) h Q := x_aloadN (len := 1) rfl rfl
theorem s_153_36 {a : Nat} : wp V (cdT Ev) mx d 153 36 ls (.ref a :: st) h Q = gf [12] 4 h a (fun v => wp V (cdT Ev) mx d 153 39 ls (v :: st) h Q) := x_getf rfl
theorem s_153_39 {x : Int32} : wp V (cdT Ev) mx d 153 39 [l0, some (.int x)] st h Q = wp V (cdT Ev) mx d 153 40 [l0, some (.int x)] (.int x :: st) h Q := x_iload (len := 1) rfl rfl
theorem s_153_40 {i : Int32} {a : Nat} : wp V (cdT Ev) mx d 153 40 ls (.int i :: .ref a :: st) h Q = ai 2 i V h a (fun x => wp V (cdT Ev) mx d 153 41 ls (.int x :: st) h Q) := x_iald rfl
theorem s_153_41 {x i : Int32} {a : Nat} : wp V (cdT Ev) mx d 153 41 ls (.int x :: .int i :: .ref a :: st) h Q = si 2 i (x) h a (fun hh => wp V (cdT Ev) mx d 153 42 ls st hh Q) := x_iast (nw := fun x => x) rfl
theorem s_153_42 {x : Int32} : wp V (cdT Ev) mx d 153 42 [l0, some (.int x)] st h Q = wp V (cdT Ev) mx d 153 45 [l0, some (.int (x + (1)))] st h Q := x_iinc rfl rfl rfl
theorem s_153_45 : wp V (cdT Ev) mx d 153 45 ls st h Q = wp V (cdT Ev) mx d 153 22 ls st h Q := x_goto rfl
theorem s_153_48 {a : Nat} : wp V (cdT Ev) mx d 153 48 [some (.ref a), l1] st h Q = wp V (cdT Ev) mx d 153 49 [some (.ref a), l1] (.ref a :: st) h Q := x_aload (len := 1) rfl rfl
theorem s_153_48_n : wp V (cdT Ev) mx d 153 48 [some .null, l1] st h Q = wp V (cdT Ev) mx d 153 49 [some .null, l1] (.null :: st) h Q := x_aloadN (len := 1) rfl rfl
theorem s_153_49 : wp V (cdT Ev) mx d 153 49 ls st h Q = wp V (cdT Ev) mx d 153 50 ls ((.int (0)) :: st) h Q := x_push (v := (.int (0))) (len := 1) rfl
theorem s_153_50 {w : Value} {a : Nat} : wp V (cdT Ev) mx d 153 50 ls (w :: .ref a :: st) h Q = pf [12] 5 0 w h a (fun hh => wp V (cdT Ev) mx d 153 53 ls st hh Q) := x_putf rfl
theorem s_153_53 {a : Nat} : wp V (cdT Ev) mx d 153 53 [some (.ref a), l1] st h Q = wp V (cdT Ev) mx d 153 54 [some (.ref a), l1] (.ref a :: st) h Q := x_aload (len := 1) rfl rfl
theorem s_153_53_n : wp V (cdT Ev) mx d 153 53 [some .null, l1] st h Q = wp V (cdT Ev) mx d 153 54 [some .null, l1] (.null :: st) h Q := x_aloadN (len := 1) rfl rfl
theorem s_153_54 {b : Nat} (hst : st.length ≤ 4) : wp V (cdT Ev) mx d 153 54 ls (.ref b :: st) h Q = cv [(12, 151)] h b (fun y' => WP V (cdT Ev) mx d y' [.ref b] h (fun r h' => wp V (cdT Ev) mx d 153 57 ls (rts r st) h' Q)) := x_cv (sg := []) rfl hst rfl rfl
theorem s_153_57 {x : Int32} : wp V (cdT Ev) mx d 153 57 ls (.int x :: st) h Q = (if ¬ x = 0 then wp V (cdT Ev) mx d 153 68 ls st h Q else wp V (cdT Ev) mx d 153 60 ls st h Q) := x_if1 (c := fun x => ¬ x = 0) rfl
theorem s_153_60 : wp V (cdT Ev) mx d 153 60 ls st h Q = wp V (cdT Ev) mx d 153 62 ls ((.int (-10)) :: st) h Q := x_push (v := (.int (-10))) (len := 2) rfl
theorem s_153_62 {a : Nat} : wp V (cdT Ev) mx d 153 62 [some (.ref a), l1] st h Q = wp V (cdT Ev) mx d 153 63 [some (.ref a), l1] (.ref a :: st) h Q := x_aload (len := 1) rfl rfl
theorem s_153_62_n : wp V (cdT Ev) mx d 153 62 [some .null, l1] st h Q = wp V (cdT Ev) mx d 153 63 [some .null, l1] (.null :: st) h Q := x_aloadN (len := 1) rfl rfl
theorem s_153_63 {a : Nat} : wp V (cdT Ev) mx d 153 63 ls (.ref a :: st) h Q = gf [12] 11 h a (fun v => wp V (cdT Ev) mx d 153 66 ls (v :: st) h Q) := x_getf rfl
theorem s_153_66 {x z : Int32} : wp V (cdT Ev) mx d 153 66 ls (.int z :: .int x :: st) h Q = wp V (cdT Ev) mx d 153 67 ls (.int (x - z) :: st) h Q := x_ib (f := fun x z => x - z) rfl
theorem s_153_67 {x : Int32} : wp V (cdT Ev) mx d 153 67 ls [.int x] h Q = Q (some (.int x)) h := x_ret rfl rfl
theorem s_153_68 : wp V (cdT Ev) mx d 153 68 ls st h Q = wp V (cdT Ev) mx d 153 69 ls ((.int (0)) :: st) h Q := x_push (v := (.int (0))) (len := 1) rfl
theorem s_153_69 {x : Int32} (hn : nl l0 = true) : wp V (cdT Ev) mx d 153 69 [l0, l1] (.int x :: st) h Q = wp V (cdT Ev) mx d 153 70 [l0, some (.int x)] st h Q := x_istore (len := 1) rfl (Nat.le_of_ble_eq_true rfl) (okp_nl rfl hn) rfl
theorem s_153_70 {x : Int32} : wp V (cdT Ev) mx d 153 70 [l0, some (.int x)] st h Q = wp V (cdT Ev) mx d 153 71 [l0, some (.int x)] (.int x :: st) h Q := x_iload (len := 1) rfl rfl
theorem s_153_71 {a : Nat} : wp V (cdT Ev) mx d 153 71 [some (.ref a), l1] st h Q = wp V (cdT Ev) mx d 153 72 [some (.ref a), l1] (.ref a :: st) h Q := x_aload (len := 1) rfl rfl
theorem s_153_71_n : wp V (cdT Ev) mx d 153 71 [some .null, l1] st h Q = wp V (cdT Ev) mx d 153 72 [some .null, l1] (.null :: st) h Q := x_aloadN (len := 1) rfl rfl
theorem s_153_72 {a : Nat} : wp V (cdT Ev) mx d 153 72 ls (.ref a :: st) h Q = gf [12] 10 h a (fun v => wp V (cdT Ev) mx d 153 75 ls (v :: st) h Q) := x_getf rfl
theorem s_153_75 {x z : Int32} : wp V (cdT Ev) mx d 153 75 ls (.int z :: .int x :: st) h Q = (if z ≤ x then wp V (cdT Ev) mx d 153 104 ls st h Q else wp V (cdT Ev) mx d 153 78 ls st h Q) := x_if2 (c := fun x z => z ≤ x) rfl
theorem s_153_78 {a : Nat} : wp V (cdT Ev) mx d 153 78 [some (.ref a), l1] st h Q = wp V (cdT Ev) mx d 153 79 [some (.ref a), l1] (.ref a :: st) h Q := x_aload (len := 1) rfl rfl
theorem s_153_78_n : wp V (cdT Ev) mx d 153 78 [some .null, l1] st h Q = wp V (cdT Ev) mx d 153 79 [some .null, l1] (.null :: st) h Q := x_aloadN (len := 1) rfl rfl
theorem s_153_79 {a : Nat} : wp V (cdT Ev) mx d 153 79 ls (.ref a :: st) h Q = gf [12] 6 h a (fun v => wp V (cdT Ev) mx d 153 82 ls (v :: st) h Q) := x_getf rfl
theorem s_153_82 : wp V (cdT Ev) mx d 153 82 ls st h Q = wp V (cdT Ev) mx d 153 84 ls ((.int (100)) :: st) h Q := x_push (v := (.int (100))) (len := 2) rfl
theorem s_153_84 {a : Nat} : wp V (cdT Ev) mx d 153 84 [some (.ref a), l1] st h Q = wp V (cdT Ev) mx d 153 85 [some (.ref a), l1] (.ref a :: st) h Q := x_aload (len := 1) rfl rfl
theorem s_153_84_n : wp V (cdT Ev) mx d 153 84 [some .null, l1] st h Q = wp V (cdT Ev) mx d 153 85 [some .null, l1] (.null :: st) h Q := x_aloadN (len := 1) rfl rfl
theorem s_153_85 {a : Nat} : wp V (cdT Ev) mx d 153 85 ls (.ref a :: st) h Q = gf [12] 8 h a (fun v => wp V (cdT Ev) mx d 153 88 ls (v :: st) h Q) := x_getf rfl
theorem s_153_88 {x z : Int32} : wp V (cdT Ev) mx d 153 88 ls (.int z :: .int x :: st) h Q = wp V (cdT Ev) mx d 153 89 ls (.int (x * z) :: st) h Q := x_ib (f := fun x z => x * z) rfl
theorem s_153_89 {x : Int32} : wp V (cdT Ev) mx d 153 89 [l0, some (.int x)] st h Q = wp V (cdT Ev) mx d 153 90 [l0, some (.int x)] (.int x :: st) h Q := x_iload (len := 1) rfl rfl
theorem s_153_90 {x z : Int32} : wp V (cdT Ev) mx d 153 90 ls (.int z :: .int x :: st) h Q = wp V (cdT Ev) mx d 153 91 ls (.int (x + z) :: st) h Q := x_ib (f := fun x z => x + z) rfl
theorem s_153_91 {a : Nat} : wp V (cdT Ev) mx d 153 91 [some (.ref a), l1] st h Q = wp V (cdT Ev) mx d 153 92 [some (.ref a), l1] (.ref a :: st) h Q := x_aload (len := 1) rfl rfl
theorem s_153_91_n : wp V (cdT Ev) mx d 153 91 [some .null, l1] st h Q = wp V (cdT Ev) mx d 153 92 [some .null, l1] (.null :: st) h Q := x_aloadN (len := 1) rfl rfl
theorem s_153_92 {a : Nat} : wp V (cdT Ev) mx d 153 92 ls (.ref a :: st) h Q = gf [12] 9 h a (fun v => wp V (cdT Ev) mx d 153 95 ls (v :: st) h Q) := x_getf rfl
theorem s_153_95 {x : Int32} : wp V (cdT Ev) mx d 153 95 [l0, some (.int x)] st h Q = wp V (cdT Ev) mx d 153 96 [l0, some (.int x)] (.int x :: st) h Q := x_iload (len := 1) rfl rfl
theorem s_153_96 {i : Int32} {a : Nat} : wp V (cdT Ev) mx d 153 96 ls (.int i :: .ref a :: st) h Q = ai 2 i V h a (fun x => wp V (cdT Ev) mx d 153 97 ls (.int x :: st) h Q) := x_iald rfl
theorem s_153_97 {x i : Int32} {a : Nat} : wp V (cdT Ev) mx d 153 97 ls (.int x :: .int i :: .ref a :: st) h Q = si 2 i (x) h a (fun hh => wp V (cdT Ev) mx d 153 98 ls st hh Q) := x_iast (nw := fun x => x) rfl
theorem s_153_98 {x : Int32} : wp V (cdT Ev) mx d 153 98 [l0, some (.int x)] st h Q = wp V (cdT Ev) mx d 153 101 [l0, some (.int (x + (1)))] st h Q := x_iinc rfl rfl rfl
theorem s_153_101 : wp V (cdT Ev) mx d 153 101 ls st h Q = wp V (cdT Ev) mx d 153 70 ls st h Q := x_goto rfl
theorem s_153_104 {a : Nat} : wp V (cdT Ev) mx d 153 104 [some (.ref a), l1] st h Q = wp V (cdT Ev) mx d 153 105 [some (.ref a), l1] (.ref a :: st) h Q := x_aload (len := 1) rfl rfl
theorem s_153_104_n : wp V (cdT Ev) mx d 153 104 [some .null, l1] st h Q = wp V (cdT Ev) mx d 153 105 [some .null, l1] (.null :: st) h Q := x_aloadN (len := 1) rfl rfl
theorem s_153_105 {a : Nat} : wp V (cdT Ev) mx d 153 105 ls (.ref a :: st) h Q = gf [12] 7 h a (fun v => wp V (cdT Ev) mx d 153 108 ls (v :: st) h Q) := x_getf rfl
theorem s_153_108 {a : Nat} : wp V (cdT Ev) mx d 153 108 [some (.ref a), l1] st h Q = wp V (cdT Ev) mx d 153 109 [some (.ref a), l1] (.ref a :: st) h Q := x_aload (len := 1) rfl rfl
theorem s_153_108_n : wp V (cdT Ev) mx d 153 108 [some .null, l1] st h Q = wp V (cdT Ev) mx d 153 109 [some .null, l1] (.null :: st) h Q := x_aloadN (len := 1) rfl rfl
theorem s_153_109 {a : Nat} : wp V (cdT Ev) mx d 153 109 ls (.ref a :: st) h Q = gf [12] 8 h a (fun v => wp V (cdT Ev) mx d 153 112 ls (v :: st) h Q) := x_getf rfl
theorem s_153_112 {a : Nat} : wp V (cdT Ev) mx d 153 112 [some (.ref a), l1] st h Q = wp V (cdT Ev) mx d 153 113 [some (.ref a), l1] (.ref a :: st) h Q := x_aload (len := 1) rfl rfl
theorem s_153_112_n : wp V (cdT Ev) mx d 153 112 [some .null, l1] st h Q = wp V (cdT Ev) mx d 153 113 [some .null, l1] (.null :: st) h Q := x_aloadN (len := 1) rfl rfl
theorem s_153_113 {a : Nat} : wp V (cdT Ev) mx d 153 113 ls (.ref a :: st) h Q = gf [12] 10 h a (fun v => wp V (cdT Ev) mx d 153 116 ls (v :: st) h Q) := x_getf rfl
theorem s_153_116 {x i : Int32} {a : Nat} : wp V (cdT Ev) mx d 153 116 ls (.int x :: .int i :: .ref a :: st) h Q = si 2 i (x) h a (fun hh => wp V (cdT Ev) mx d 153 117 ls st hh Q) := x_iast (nw := fun x => x) rfl
theorem s_153_117 {a : Nat} : wp V (cdT Ev) mx d 153 117 [some (.ref a), l1] st h Q = wp V (cdT Ev) mx d 153 118 [some (.ref a), l1] (.ref a :: st) h Q := x_aload (len := 1) rfl rfl
theorem s_153_117_n : wp V (cdT Ev) mx d 153 117 [some .null, l1] st h Q = wp V (cdT Ev) mx d 153 118 [some .null, l1] (.null :: st) h Q := x_aloadN (len := 1) rfl rfl
theorem s_153_118 {a : Nat} : wp V (cdT Ev) mx d 153 118 ls (.ref a :: st) h Q = wp V (cdT Ev) mx d 153 119 ls (.ref a :: .ref a :: st) h Q := x_dup rfl rfl
theorem s_153_118_i {x : Int32} : wp V (cdT Ev) mx d 153 118 ls (.int x :: st) h Q = wp V (cdT Ev) mx d 153 119 ls (.int x :: .int x :: st) h Q := x_dup rfl rfl
theorem s_153_119 {a : Nat} : wp V (cdT Ev) mx d 153 119 ls (.ref a :: st) h Q = gf [12] 8 h a (fun v => wp V (cdT Ev) mx d 153 122 ls (v :: st) h Q) := x_getf rfl
theorem s_153_122 : wp V (cdT Ev) mx d 153 122 ls st h Q = wp V (cdT Ev) mx d 153 123 ls ((.int (1)) :: st) h Q := x_push (v := (.int (1))) (len := 1) rfl
theorem s_153_123 {x z : Int32} : wp V (cdT Ev) mx d 153 123 ls (.int z :: .int x :: st) h Q = wp V (cdT Ev) mx d 153 124 ls (.int (x + z) :: st) h Q := x_ib (f := fun x z => x + z) rfl
theorem s_153_124 {w : Value} {a : Nat} : wp V (cdT Ev) mx d 153 124 ls (w :: .ref a :: st) h Q = pf [12] 8 0 w h a (fun hh => wp V (cdT Ev) mx d 153 127 ls st hh Q) := x_putf rfl
theorem s_153_127 {a : Nat} : wp V (cdT Ev) mx d 153 127 [some (.ref a), l1] st h Q = wp V (cdT Ev) mx d 153 128 [some (.ref a), l1] (.ref a :: st) h Q := x_aload (len := 1) rfl rfl
theorem s_153_127_n : wp V (cdT Ev) mx d 153 127 [some .null, l1] st h Q = wp V (cdT Ev) mx d 153 128 [some .null, l1] (.null :: st) h Q := x_aloadN (len := 1) rfl rfl
theorem s_153_128 {a : Nat} : wp V (cdT Ev) mx d 153 128 ls (.ref a :: st) h Q = gf [12] 0 h a (fun v => wp V (cdT Ev) mx d 153 131 ls (v :: st) h Q) := x_getf rfl
theorem s_153_131 : wp V (cdT Ev) mx d 153 131 ls st h Q = wp V (cdT Ev) mx d 153 133 ls ((.int (70)) :: st) h Q := x_push (v := (.int (70))) (len := 2) rfl
theorem s_153_133 {a : Nat} : wp V (cdT Ev) mx d 153 133 [some (.ref a), l1] st h Q = wp V (cdT Ev) mx d 153 134 [some (.ref a), l1] (.ref a :: st) h Q := x_aload (len := 1) rfl rfl
theorem s_153_133_n : wp V (cdT Ev) mx d 153 133 [some .null, l1] st h Q = wp V (cdT Ev) mx d 153 134 [some .null, l1] (.null :: st) h Q := x_aloadN (len := 1) rfl rfl
theorem s_153_134 {a : Nat} : wp V (cdT Ev) mx d 153 134 ls (.ref a :: st) h Q = gf [12] 8 h a (fun v => wp V (cdT Ev) mx d 153 137 ls (v :: st) h Q) := x_getf rfl
theorem s_153_137 {x i : Int32} {a : Nat} : wp V (cdT Ev) mx d 153 137 ls (.int x :: .int i :: .ref a :: st) h Q = si 2 i (x) h a (fun hh => wp V (cdT Ev) mx d 153 138 ls st hh Q) := x_iast (nw := fun x => x) rfl
theorem s_153_138 {a : Nat} : wp V (cdT Ev) mx d 153 138 [some (.ref a), l1] st h Q = wp V (cdT Ev) mx d 153 139 [some (.ref a), l1] (.ref a :: st) h Q := x_aload (len := 1) rfl rfl
theorem s_153_138_n : wp V (cdT Ev) mx d 153 138 [some .null, l1] st h Q = wp V (cdT Ev) mx d 153 139 [some .null, l1] (.null :: st) h Q := x_aloadN (len := 1) rfl rfl
theorem s_153_139 {a : Nat} : wp V (cdT Ev) mx d 153 139 ls (.ref a :: st) h Q = gf [12] 8 h a (fun v => wp V (cdT Ev) mx d 153 142 ls (v :: st) h Q) := x_getf rfl
theorem s_153_142 : wp V (cdT Ev) mx d 153 142 ls st h Q = wp V (cdT Ev) mx d 153 143 ls ((.int (1)) :: st) h Q := x_push (v := (.int (1))) (len := 1) rfl
theorem s_153_143 {x z : Int32} : wp V (cdT Ev) mx d 153 143 ls (.int z :: .int x :: st) h Q = wp V (cdT Ev) mx d 153 144 ls (.int (x - z) :: st) h Q := x_ib (f := fun x z => x - z) rfl
theorem s_153_144 {x : Int32} : wp V (cdT Ev) mx d 153 144 ls [.int x] h Q = Q (some (.int x)) h := x_ret rfl rfl
theorem e_153 {a : Nat} : WP V (cdT Ev) mx (d + 1) 153 [.ref a] h Q = wp V (cdT Ev) mx d 153 0 [some (.ref a), none] [] h Q := propext (WP_eq (Nat.le_of_ble_eq_true rfl))
theorem s_154_0 {x : Int32} : wp V (cdT Ev) mx d 154 0 [l0, l1, l2, some (.int x), l4, l5, l6] st h Q = wp V (cdT Ev) mx d 154 1 [l0, l1, l2, some (.int x), l4, l5, l6] (.int x :: st) h Q := x_iload (len := 1) rfl rfl
theorem s_154_1 {a : Nat} : wp V (cdT Ev) mx d 154 1 [some (.ref a), l1, l2, l3, l4, l5, l6] st h Q = wp V (cdT Ev) mx d 154 2 [some (.ref a), l1, l2, l3, l4, l5, l6] (.ref a :: st) h Q := x_aload (len := 1) rfl rfl
theorem s_154_1_n : wp V (cdT Ev) mx d 154 1 [some .null, l1, l2, l3, l4, l5, l6] st h Q = wp V (cdT Ev) mx d 154 2 [some .null, l1, l2, l3, l4, l5, l6] (.null :: st) h Q := x_aloadN (len := 1) rfl rfl
theorem s_154_2 {x : Int32} : wp V (cdT Ev) mx d 154 2 [l0, some (.int x), l2, l3, l4, l5, l6] st h Q = wp V (cdT Ev) mx d 154 3 [l0, some (.int x), l2, l3, l4, l5, l6] (.int x :: st) h Q := x_iload (len := 1) rfl rfl
theorem s_154_3 : wp V (cdT Ev) mx d 154 3 ls st h Q = wp V (cdT Ev) mx d 154 4 ls ((.int (3)) :: st) h Q := x_push (v := (.int (3))) (len := 1) rfl
theorem s_154_4 {b : Nat} {v0 v1 : Value} (hst : st.length ≤ 4) : wp V (cdT Ev) mx d 154 4 ls (v1 :: v0 :: .ref b :: st) h Q = cv [(12, 132)] h b (fun y' => WP V (cdT Ev) mx d y' [.ref b, v0, v1] h (fun r h' => wp V (cdT Ev) mx d 154 7 ls (rts r st) h' Q)) := x_cv (sg := [v1, v0]) rfl hst rfl rfl
theorem s_154_7 : wp V (cdT Ev) mx d 154 7 ls st h Q = wp V (cdT Ev) mx d 154 8 ls ((.int (1)) :: st) h Q := x_push (v := (.int (1))) (len := 1) rfl
theorem s_154_8 {x z : Int32} : wp V (cdT Ev) mx d 154 8 ls (.int z :: .int x :: st) h Q = (if ¬ x = z then wp V (cdT Ev) mx d 154 20 ls st h Q else wp V (cdT Ev) mx d 154 11 ls st h Q) := x_if2 (c := fun x z => ¬ x = z) rfl
theorem s_154_11 {a : Nat} : wp V (cdT Ev) mx d 154 11 [some (.ref a), l1, l2, l3, l4, l5, l6] st h Q = wp V (cdT Ev) mx d 154 12 [some (.ref a), l1, l2, l3, l4, l5, l6] (.ref a :: st) h Q := x_aload (len := 1) rfl rfl
theorem s_154_11_n : wp V (cdT Ev) mx d 154 11 [some .null, l1, l2, l3, l4, l5, l6] st h Q = wp V (cdT Ev) mx d 154 12 [some .null, l1, l2, l3, l4, l5, l6] (.null :: st) h Q := x_aloadN (len := 1) rfl rfl
theorem s_154_12 {x : Int32} : wp V (cdT Ev) mx d 154 12 [l0, some (.int x), l2, l3, l4, l5, l6] st h Q = wp V (cdT Ev) mx d 154 13 [l0, some (.int x), l2, l3, l4, l5, l6] (.int x :: st) h Q := x_iload (len := 1) rfl rfl
theorem s_154_13 : wp V (cdT Ev) mx d 154 13 ls st h Q = wp V (cdT Ev) mx d 154 14 ls ((.int (1)) :: st) h Q := x_push (v := (.int (1))) (len := 1) rfl
theorem s_154_14 {b : Nat} {v0 v1 : Value} (hst : st.length ≤ 4) : wp V (cdT Ev) mx d 154 14 ls (v1 :: v0 :: .ref b :: st) h Q = cv [(12, 132)] h b (fun y' => WP V (cdT Ev) mx d y' [.ref b, v0, v1] h (fun r h' => wp V (cdT Ev) mx d 154 17 ls (rts r st) h' Q)) := x_cv (sg := [v1, v0]) rfl hst rfl rfl
theorem s_154_17 : wp V (cdT Ev) mx d 154 17 ls st h Q = wp V (cdT Ev) mx d 154 21 ls st h Q := x_goto rfl
theorem s_154_20 : wp V (cdT Ev) mx d 154 20 ls st h Q = wp V (cdT Ev) mx d 154 21 ls ((.int (0)) :: st) h Q := x_push (v := (.int (0))) (len := 1) rfl
theorem s_154_21 {x z : Int32} : wp V (cdT Ev) mx d 154 21 ls (.int z :: .int x :: st) h Q = wp V (cdT Ev) mx d 154 22 ls (.int (x + z) :: st) h Q := x_ib (f := fun x z => x + z) rfl
theorem s_154_22 {x : Int32} (hn : nl l4 = true) : wp V (cdT Ev) mx d 154 22 [l0, l1, l2, l3, l4, l5, l6] (.int x :: st) h Q = wp V (cdT Ev) mx d 154 24 [l0, l1, l2, l3, l4, some (.int x), l6] st h Q := x_istore (len := 2) rfl (Nat.le_of_ble_eq_true rfl) (okp_nl rfl hn) rfl
theorem s_154_24 {x : Int32} : wp V (cdT Ev) mx d 154 24 [l0, l1, l2, some (.int x), l4, l5, l6] st h Q = wp V (cdT Ev) mx d 154 25 [l0, l1, l2, some (.int x), l4, l5, l6] (.int x :: st) h Q := x_iload (len := 1) rfl rfl
theorem s_154_25 {x : Int32} : wp V (cdT Ev) mx d 154 25 [l0, l1, l2, l3, some (.int x), l5, l6] st h Q = wp V (cdT Ev) mx d 154 27 [l0, l1, l2, l3, some (.int x), l5, l6] (.int x :: st) h Q := x_iload (len := 2) rfl rfl
theorem s_154_27 {v0 : Value} (hst : st.length ≤ 4) : wp V (cdT Ev) mx d 154 27 ls (v0 :: st) h Q = WP V (cdT Ev) mx d 131 [v0] h (fun r h' => wp V (cdT Ev) mx d 154 30 ls (rts r st) h' Q) := x_cs (sg := [v0]) rfl hst rfl rfl
theorem s_154_30 {x z : Int32} : wp V (cdT Ev) mx d 154 30 ls (.int z :: .int x :: st) h Q = wp V (cdT Ev) mx d 154 31 ls (.int (x - z) :: st) h Q := x_ib (f := fun x z => x - z) rfl
theorem s_154_31 {x : Int32} (hn : nl l5 = true) : wp V (cdT Ev) mx d 154 31 [l0, l1, l2, l3, l4, l5, l6] (.int x :: st) h Q = wp V (cdT Ev) mx d 154 33 [l0, l1, l2, l3, l4, l5, some (.int x)] st h Q := x_istore (len := 2) rfl (Nat.le_of_ble_eq_true rfl) (okp_nl rfl hn) rfl
theorem s_154_33 {a : Nat} : wp V (cdT Ev) mx d 154 33 [some (.ref a), l1, l2, l3, l4, l5, l6] st h Q = wp V (cdT Ev) mx d 154 34 [some (.ref a), l1, l2, l3, l4, l5, l6] (.ref a :: st) h Q := x_aload (len := 1) rfl rfl
theorem s_154_33_n : wp V (cdT Ev) mx d 154 33 [some .null, l1, l2, l3, l4, l5, l6] st h Q = wp V (cdT Ev) mx d 154 34 [some .null, l1, l2, l3, l4, l5, l6] (.null :: st) h Q := x_aloadN (len := 1) rfl rfl
theorem s_154_34 {x : Int32} : wp V (cdT Ev) mx d 154 34 [l0, some (.int x), l2, l3, l4, l5, l6] st h Q = wp V (cdT Ev) mx d 154 35 [l0, some (.int x), l2, l3, l4, l5, l6] (.int x :: st) h Q := x_iload (len := 1) rfl rfl
theorem s_154_35 : wp V (cdT Ev) mx d 154 35 ls st h Q = wp V (cdT Ev) mx d 154 36 ls ((.int (0)) :: st) h Q := x_push (v := (.int (0))) (len := 1) rfl
theorem s_154_36 {b : Nat} {v0 v1 : Value} (hst : st.length ≤ 4) : wp V (cdT Ev) mx d 154 36 ls (v1 :: v0 :: .ref b :: st) h Q = cv [(12, 132)] h b (fun y' => WP V (cdT Ev) mx d y' [.ref b, v0, v1] h (fun r h' => wp V (cdT Ev) mx d 154 39 ls (rts r st) h' Q)) := x_cv (sg := [v1, v0]) rfl hst rfl rfl
theorem s_154_39 {x : Int32} : wp V (cdT Ev) mx d 154 39 ls (.int x :: st) h Q = (if x = 1 then wp V (cdT Ev) mx d 154 76 ls st h Q else (if x = 2 then wp V (cdT Ev) mx d 154 79 ls st h Q else (if x = 3 then wp V (cdT Ev) mx d 154 83 ls st h Q else (if x = 4 then wp V (cdT Ev) mx d 154 86 ls st h Q else (if x = 5 then wp V (cdT Ev) mx d 154 102 ls st h Q else (if x = 6 then wp V (cdT Ev) mx d 154 118 ls st h Q else wp V (cdT Ev) mx d 154 132 ls st h Q)))))) := x_sw (t := 132) (l := [(1, 76), (2, 79), (3, 83), (4, 86), (5, 102), (6, 118)]) rfl
theorem s_154_76 {x : Int32} : wp V (cdT Ev) mx d 154 76 [l0, l1, l2, l3, l4, some (.int x), l6] st h Q = wp V (cdT Ev) mx d 154 78 [l0, l1, l2, l3, l4, some (.int x), l6] (.int x :: st) h Q := x_iload (len := 2) rfl rfl
theorem s_154_78 {x : Int32} : wp V (cdT Ev) mx d 154 78 ls [.int x] h Q = Q (some (.int x)) h := x_ret rfl rfl
theorem s_154_79 {x : Int32} : wp V (cdT Ev) mx d 154 79 [l0, l1, l2, some (.int x), l4, l5, l6] st h Q = wp V (cdT Ev) mx d 154 80 [l0, l1, l2, some (.int x), l4, l5, l6] (.int x :: st) h Q := x_iload (len := 1) rfl rfl
theorem s_154_80 : wp V (cdT Ev) mx d 154 80 ls st h Q = wp V (cdT Ev) mx d 154 81 ls ((.int (2)) :: st) h Q := x_push (v := (.int (2))) (len := 1) rfl
theorem s_154_81 {x z : Int32} : wp V (cdT Ev) mx d 154 81 ls (.int z :: .int x :: st) h Q = (¬ z = 0 ∧ wp V (cdT Ev) mx d 154 82 ls (.int (x / z) :: st) h Q) := x_ibz (f := fun x z => x / z) rfl
theorem s_154_82 {x : Int32} : wp V (cdT Ev) mx d 154 82 ls [.int x] h Q = Q (some (.int x)) h := x_ret rfl rfl
theorem s_154_83 {x : Int32} : wp V (cdT Ev) mx d 154 83 [l0, l1, l2, l3, l4, l5, some (.int x)] st h Q = wp V (cdT Ev) mx d 154 85 [l0, l1, l2, l3, l4, l5, some (.int x)] (.int x :: st) h Q := x_iload (len := 2) rfl rfl
theorem s_154_85 {x : Int32} : wp V (cdT Ev) mx d 154 85 ls [.int x] h Q = Q (some (.int x)) h := x_ret rfl rfl
theorem s_154_86 {x : Int32} : wp V (cdT Ev) mx d 154 86 [l0, l1, some (.int x), l3, l4, l5, l6] st h Q = wp V (cdT Ev) mx d 154 87 [l0, l1, some (.int x), l3, l4, l5, l6] (.int x :: st) h Q := x_iload (len := 1) rfl rfl
theorem s_154_87 : wp V (cdT Ev) mx d 154 87 ls st h Q = wp V (cdT Ev) mx d 154 88 ls ((.int (2)) :: st) h Q := x_push (v := (.int (2))) (len := 1) rfl
theorem s_154_88 {x z : Int32} : wp V (cdT Ev) mx d 154 88 ls (.int z :: .int x :: st) h Q = (¬ z = 0 ∧ wp V (cdT Ev) mx d 154 89 ls (.int (x - x / z * z) :: st) h Q) := x_ibz (f := fun x z => x - x / z * z) rfl
theorem s_154_89 {x : Int32} : wp V (cdT Ev) mx d 154 89 ls (.int x :: st) h Q = (if ¬ x = 0 then wp V (cdT Ev) mx d 154 99 ls st h Q else wp V (cdT Ev) mx d 154 92 ls st h Q) := x_if1 (c := fun x => ¬ x = 0) rfl
theorem s_154_92 : wp V (cdT Ev) mx d 154 92 ls st h Q = wp V (cdT Ev) mx d 154 93 ls ((.int (2)) :: st) h Q := x_push (v := (.int (2))) (len := 1) rfl
theorem s_154_93 {x : Int32} : wp V (cdT Ev) mx d 154 93 [l0, l1, l2, l3, l4, some (.int x), l6] st h Q = wp V (cdT Ev) mx d 154 95 [l0, l1, l2, l3, l4, some (.int x), l6] (.int x :: st) h Q := x_iload (len := 2) rfl rfl
theorem s_154_95 {x z : Int32} : wp V (cdT Ev) mx d 154 95 ls (.int z :: .int x :: st) h Q = wp V (cdT Ev) mx d 154 96 ls (.int (x * z) :: st) h Q := x_ib (f := fun x z => x * z) rfl
theorem s_154_96 : wp V (cdT Ev) mx d 154 96 ls st h Q = wp V (cdT Ev) mx d 154 101 ls st h Q := x_goto rfl
theorem s_154_99 {x : Int32} : wp V (cdT Ev) mx d 154 99 [l0, l1, l2, l3, l4, some (.int x), l6] st h Q = wp V (cdT Ev) mx d 154 101 [l0, l1, l2, l3, l4, some (.int x), l6] (.int x :: st) h Q := x_iload (len := 2) rfl rfl
theorem s_154_101 {x : Int32} : wp V (cdT Ev) mx d 154 101 ls [.int x] h Q = Q (some (.int x)) h := x_ret rfl rfl
theorem s_154_102 {x : Int32} : wp V (cdT Ev) mx d 154 102 [l0, l1, l2, some (.int x), l4, l5, l6] st h Q = wp V (cdT Ev) mx d 154 103 [l0, l1, l2, some (.int x), l4, l5, l6] (.int x :: st) h Q := x_iload (len := 1) rfl rfl
theorem s_154_103 : wp V (cdT Ev) mx d 154 103 ls st h Q = wp V (cdT Ev) mx d 154 104 ls ((.int (2)) :: st) h Q := x_push (v := (.int (2))) (len := 1) rfl
theorem s_154_104 {x z : Int32} : wp V (cdT Ev) mx d 154 104 ls (.int z :: .int x :: st) h Q = (¬ z = 0 ∧ wp V (cdT Ev) mx d 154 105 ls (.int (x / z) :: st) h Q) := x_ibz (f := fun x z => x / z) rfl
theorem s_154_105 : wp V (cdT Ev) mx d 154 105 ls st h Q = wp V (cdT Ev) mx d 154 107 ls ((.int (9)) :: st) h Q := x_push (v := (.int (9))) (len := 2) rfl
theorem s_154_107 {a : Nat} : wp V (cdT Ev) mx d 154 107 [some (.ref a), l1, l2, l3, l4, l5, l6] st h Q = wp V (cdT Ev) mx d 154 108 [some (.ref a), l1, l2, l3, l4, l5, l6] (.ref a :: st) h Q := x_aload (len := 1) rfl rfl
theorem s_154_107_n : wp V (cdT Ev) mx d 154 107 [some .null, l1, l2, l3, l4, l5, l6] st h Q = wp V (cdT Ev) mx d 154 108 [some .null, l1, l2, l3, l4, l5, l6] (.null :: st) h Q := x_aloadN (len := 1) rfl rfl
theorem s_154_108 {x : Int32} : wp V (cdT Ev) mx d 154 108 [l0, some (.int x), l2, l3, l4, l5, l6] st h Q = wp V (cdT Ev) mx d 154 109 [l0, some (.int x), l2, l3, l4, l5, l6] (.int x :: st) h Q := x_iload (len := 1) rfl rfl
theorem s_154_109 : wp V (cdT Ev) mx d 154 109 ls st h Q = wp V (cdT Ev) mx d 154 110 ls ((.int (4)) :: st) h Q := x_push (v := (.int (4))) (len := 1) rfl
theorem s_154_110 {b : Nat} {v0 v1 : Value} (hst : st.length ≤ 4) : wp V (cdT Ev) mx d 154 110 ls (v1 :: v0 :: .ref b :: st) h Q = cv [(12, 132)] h b (fun y' => WP V (cdT Ev) mx d y' [.ref b, v0, v1] h (fun r h' => wp V (cdT Ev) mx d 154 113 ls (rts r st) h' Q)) := x_cv (sg := [v1, v0]) rfl hst rfl rfl
theorem s_154_113 {v0 v1 : Value} (hst : st.length ≤ 4) : wp V (cdT Ev) mx d 154 113 ls (v1 :: v0 :: st) h Q = WP V (cdT Ev) mx d 197 [v0, v1] h (fun r h' => wp V (cdT Ev) mx d 154 116 ls (rts r st) h' Q) := x_cs (sg := [v1, v0]) rfl hst rfl rfl
theorem s_154_116 {x z : Int32} : wp V (cdT Ev) mx d 154 116 ls (.int z :: .int x :: st) h Q = wp V (cdT Ev) mx d 154 117 ls (.int (x - z) :: st) h Q := x_ib (f := fun x z => x - z) rfl
theorem s_154_117 {x : Int32} : wp V (cdT Ev) mx d 154 117 ls [.int x] h Q = Q (some (.int x)) h := x_ret rfl rfl
theorem s_154_118 {x : Int32} : wp V (cdT Ev) mx d 154 118 [l0, l1, l2, l3, l4, l5, some (.int x)] st h Q = wp V (cdT Ev) mx d 154 120 [l0, l1, l2, l3, l4, l5, some (.int x)] (.int x :: st) h Q := x_iload (len := 2) rfl rfl
theorem s_154_120 {a : Nat} : wp V (cdT Ev) mx d 154 120 [some (.ref a), l1, l2, l3, l4, l5, l6] st h Q = wp V (cdT Ev) mx d 154 121 [some (.ref a), l1, l2, l3, l4, l5, l6] (.ref a :: st) h Q := x_aload (len := 1) rfl rfl
theorem s_154_120_n : wp V (cdT Ev) mx d 154 120 [some .null, l1, l2, l3, l4, l5, l6] st h Q = wp V (cdT Ev) mx d 154 121 [some .null, l1, l2, l3, l4, l5, l6] (.null :: st) h Q := x_aloadN (len := 1) rfl rfl
theorem s_154_121 {x : Int32} : wp V (cdT Ev) mx d 154 121 [l0, some (.int x), l2, l3, l4, l5, l6] st h Q = wp V (cdT Ev) mx d 154 122 [l0, some (.int x), l2, l3, l4, l5, l6] (.int x :: st) h Q := x_iload (len := 1) rfl rfl
theorem s_154_122 : wp V (cdT Ev) mx d 154 122 ls st h Q = wp V (cdT Ev) mx d 154 123 ls ((.int (5)) :: st) h Q := x_push (v := (.int (5))) (len := 1) rfl
theorem s_154_123 {x : Int32} : wp V (cdT Ev) mx d 154 123 [l0, l1, some (.int x), l3, l4, l5, l6] st h Q = wp V (cdT Ev) mx d 154 124 [l0, l1, some (.int x), l3, l4, l5, l6] (.int x :: st) h Q := x_iload (len := 1) rfl rfl
theorem s_154_124 : wp V (cdT Ev) mx d 154 124 ls st h Q = wp V (cdT Ev) mx d 154 125 ls ((.int (4)) :: st) h Q := x_push (v := (.int (4))) (len := 1) rfl
theorem s_154_125 {x z : Int32} : wp V (cdT Ev) mx d 154 125 ls (.int z :: .int x :: st) h Q = (¬ z = 0 ∧ wp V (cdT Ev) mx d 154 126 ls (.int (x - x / z * z) :: st) h Q) := x_ibz (f := fun x z => x - x / z * z) rfl
theorem s_154_126 {x z : Int32} : wp V (cdT Ev) mx d 154 126 ls (.int z :: .int x :: st) h Q = wp V (cdT Ev) mx d 154 127 ls (.int (x + z) :: st) h Q := x_ib (f := fun x z => x + z) rfl
theorem s_154_127 {b : Nat} {v0 v1 : Value} (hst : st.length ≤ 4) : wp V (cdT Ev) mx d 154 127 ls (v1 :: v0 :: .ref b :: st) h Q = cv [(12, 132)] h b (fun y' => WP V (cdT Ev) mx d y' [.ref b, v0, v1] h (fun r h' => wp V (cdT Ev) mx d 154 130 ls (rts r st) h' Q)) := x_cv (sg := [v1, v0]) rfl hst rfl rfl
theorem s_154_130 {x z : Int32} : wp V (cdT Ev) mx d 154 130 ls (.int z :: .int x :: st) h Q = wp V (cdT Ev) mx d 154 131 ls (.int (x + z) :: st) h Q := x_ib (f := fun x z => x + z) rfl
theorem s_154_131 {x : Int32} : wp V (cdT Ev) mx d 154 131 ls [.int x] h Q = Q (some (.int x)) h := x_ret rfl rfl
theorem s_154_132 {x : Int32} : wp V (cdT Ev) mx d 154 132 [l0, l1, l2, some (.int x), l4, l5, l6] st h Q = wp V (cdT Ev) mx d 154 133 [l0, l1, l2, some (.int x), l4, l5, l6] (.int x :: st) h Q := x_iload (len := 1) rfl rfl
theorem s_154_133 {x : Int32} : wp V (cdT Ev) mx d 154 133 ls [.int x] h Q = Q (some (.int x)) h := x_ret rfl rfl
theorem e_154 {a : Nat} {p0 : Int32} {p1 : Int32} {p2 : Int32} {p3 : Int32} : WP V (cdT Ev) mx (d + 1) 154 [.ref a, .int p0, .int p1, .int p2, .int p3] h Q = wp V (cdT Ev) mx d 154 0 [some (.ref a), some (.int p0), some (.int p1), some (.int p2), some (.int p3), none, none] [] h Q := propext (WP_eq (Nat.le_of_ble_eq_true rfl))
theorem s_155_0 : wp V (cdT Ev) mx d 155 0 ls st h Q = wp V (cdT Ev) mx d 155 1 ls ((.int (0)) :: st) h Q := x_push (v := (.int (0))) (len := 1) rfl
theorem s_155_1 {x : Int32} (hn : nl l1 = true) : wp V (cdT Ev) mx d 155 1 [l0, l1, l2] (.int x :: st) h Q = wp V (cdT Ev) mx d 155 2 [l0, l1, some (.int x)] st h Q := x_istore (len := 1) rfl (Nat.le_of_ble_eq_true rfl) (okp_nl rfl hn) rfl
theorem s_155_2 {x : Int32} : wp V (cdT Ev) mx d 155 2 [l0, l1, some (.int x)] st h Q = wp V (cdT Ev) mx d 155 3 [l0, l1, some (.int x)] (.int x :: st) h Q := x_iload (len := 1) rfl rfl
theorem s_155_3 : wp V (cdT Ev) mx d 155 3 ls st h Q = wp V (cdT Ev) mx d 155 5 ls ((.int (12)) :: st) h Q := x_push (v := (.int (12))) (len := 2) rfl
theorem s_155_5 {x z : Int32} : wp V (cdT Ev) mx d 155 5 ls (.int z :: .int x :: st) h Q = (if z ≤ x then wp V (cdT Ev) mx d 155 30 ls st h Q else wp V (cdT Ev) mx d 155 8 ls st h Q) := x_if2 (c := fun x z => z ≤ x) rfl
theorem s_155_8 {a : Nat} : wp V (cdT Ev) mx d 155 8 [some (.ref a), l1, l2] st h Q = wp V (cdT Ev) mx d 155 9 [some (.ref a), l1, l2] (.ref a :: st) h Q := x_aload (len := 1) rfl rfl
theorem s_155_8_n : wp V (cdT Ev) mx d 155 8 [some .null, l1, l2] st h Q = wp V (cdT Ev) mx d 155 9 [some .null, l1, l2] (.null :: st) h Q := x_aloadN (len := 1) rfl rfl
theorem s_155_9 {x : Int32} : wp V (cdT Ev) mx d 155 9 [l0, some (.int x), l2] st h Q = wp V (cdT Ev) mx d 155 10 [l0, some (.int x), l2] (.int x :: st) h Q := x_iload (len := 1) rfl rfl
theorem s_155_10 {x : Int32} : wp V (cdT Ev) mx d 155 10 [l0, l1, some (.int x)] st h Q = wp V (cdT Ev) mx d 155 11 [l0, l1, some (.int x)] (.int x :: st) h Q := x_iload (len := 1) rfl rfl
theorem s_155_11 {b : Nat} {v0 v1 : Value} (hst : st.length ≤ 4) : wp V (cdT Ev) mx d 155 11 ls (v1 :: v0 :: .ref b :: st) h Q = cv [(12, 152)] h b (fun y' => WP V (cdT Ev) mx d y' [.ref b, v0, v1] h (fun r h' => wp V (cdT Ev) mx d 155 14 ls (rts r st) h' Q)) := x_cv (sg := [v1, v0]) rfl hst rfl rfl
theorem s_155_14 {a : Nat} : wp V (cdT Ev) mx d 155 14 [some (.ref a), l1, l2] st h Q = wp V (cdT Ev) mx d 155 15 [some (.ref a), l1, l2] (.ref a :: st) h Q := x_aload (len := 1) rfl rfl
theorem s_155_14_n : wp V (cdT Ev) mx d 155 14 [some .null, l1, l2] st h Q = wp V (cdT Ev) mx d 155 15 [some .null, l1, l2] (.null :: st) h Q := x_aloadN (len := 1) rfl rfl
theorem s_155_15 {a : Nat} : wp V (cdT Ev) mx d 155 15 ls (.ref a :: st) h Q = gf [12] 20 h a (fun v => wp V (cdT Ev) mx d 155 18 ls (v :: st) h Q) := x_getf rfl
theorem s_155_18 {x : Int32} : wp V (cdT Ev) mx d 155 18 [l0, l1, some (.int x)] st h Q = wp V (cdT Ev) mx d 155 19 [l0, l1, some (.int x)] (.int x :: st) h Q := x_iload (len := 1) rfl rfl
theorem s_155_19 {a : Nat} : wp V (cdT Ev) mx d 155 19 [some (.ref a), l1, l2] st h Q = wp V (cdT Ev) mx d 155 20 [some (.ref a), l1, l2] (.ref a :: st) h Q := x_aload (len := 1) rfl rfl
theorem s_155_19_n : wp V (cdT Ev) mx d 155 19 [some .null, l1, l2] st h Q = wp V (cdT Ev) mx d 155 20 [some .null, l1, l2] (.null :: st) h Q := x_aloadN (len := 1) rfl rfl
theorem s_155_20 {a : Nat} : wp V (cdT Ev) mx d 155 20 ls (.ref a :: st) h Q = gf [12] 14 h a (fun v => wp V (cdT Ev) mx d 155 23 ls (v :: st) h Q) := x_getf rfl
theorem s_155_23 {x i : Int32} {a : Nat} : wp V (cdT Ev) mx d 155 23 ls (.int x :: .int i :: .ref a :: st) h Q = si 2 i (x) h a (fun hh => wp V (cdT Ev) mx d 155 24 ls st hh Q) := x_iast (nw := fun x => x) rfl
theorem s_155_24 {x : Int32} : wp V (cdT Ev) mx d 155 24 [l0, l1, some (.int x)] st h Q = wp V (cdT Ev) mx d 155 27 [l0, l1, some (.int (x + (1)))] st h Q := x_iinc rfl rfl rfl
theorem s_155_27 : wp V (cdT Ev) mx d 155 27 ls st h Q = wp V (cdT Ev) mx d 155 2 ls st h Q := x_goto rfl
theorem s_155_30 : wp V (cdT Ev) mx d 155 30 ls [] h Q = Q none h := x_retv rfl
theorem e_155 {a : Nat} {p0 : Int32} : WP V (cdT Ev) mx (d + 1) 155 [.ref a, .int p0] h Q = wp V (cdT Ev) mx d 155 0 [some (.ref a), some (.int p0), none] [] h Q := propext (WP_eq (Nat.le_of_ble_eq_true rfl))
theorem s_156_0 : wp V (cdT Ev) mx d 156 0 ls st h Q = wp V (cdT Ev) mx d 156 1 ls ((.int (-1)) :: st) h Q := x_push (v := (.int (-1))) (len := 1) rfl
theorem s_156_1 {x : Int32} (hn : nl l2 = true) : wp V (cdT Ev) mx d 156 1 [l0, l1, l2, l3, l4, l5, l6] (.int x :: st) h Q = wp V (cdT Ev) mx d 156 2 [l0, l1, l2, some (.int x), l4, l5, l6] st h Q := x_istore (len := 1) rfl (Nat.le_of_ble_eq_true rfl) (okp_nl rfl hn) rfl
theorem s_156_2 : wp V (cdT Ev) mx d 156 2 ls st h Q = wp V (cdT Ev) mx d 156 3 ls ((.int (0)) :: st) h Q := x_push (v := (.int (0))) (len := 1) rfl
theorem s_156_3 {x : Int32} (hn : nl l3 = true) : wp V (cdT Ev) mx d 156 3 [l0, l1, l2, l3, l4, l5, l6] (.int x :: st) h Q = wp V (cdT Ev) mx d 156 5 [l0, l1, l2, l3, some (.int x), l5, l6] st h Q := x_istore (len := 2) rfl (Nat.le_of_ble_eq_true rfl) (okp_nl rfl hn) rfl
theorem s_156_5 : wp V (cdT Ev) mx d 156 5 ls st h Q = wp V (cdT Ev) mx d 156 6 ls ((.int (0)) :: st) h Q := x_push (v := (.int (0))) (len := 1) rfl
theorem s_156_6 {x : Int32} (hn : nl l4 = true) : wp V (cdT Ev) mx d 156 6 [l0, l1, l2, l3, l4, l5, l6] (.int x :: st) h Q = wp V (cdT Ev) mx d 156 8 [l0, l1, l2, l3, l4, some (.int x), l6] st h Q := x_istore (len := 2) rfl (Nat.le_of_ble_eq_true rfl) (okp_nl rfl hn) rfl
theorem s_156_8 {x : Int32} : wp V (cdT Ev) mx d 156 8 [l0, l1, l2, l3, l4, some (.int x), l6] st h Q = wp V (cdT Ev) mx d 156 10 [l0, l1, l2, l3, l4, some (.int x), l6] (.int x :: st) h Q := x_iload (len := 2) rfl rfl
theorem s_156_10 : wp V (cdT Ev) mx d 156 10 ls st h Q = wp V (cdT Ev) mx d 156 12 ls ((.int (12)) :: st) h Q := x_push (v := (.int (12))) (len := 2) rfl
theorem s_156_12 {x z : Int32} : wp V (cdT Ev) mx d 156 12 ls (.int z :: .int x :: st) h Q = (if z ≤ x then wp V (cdT Ev) mx d 156 71 ls st h Q else wp V (cdT Ev) mx d 156 15 ls st h Q) := x_if2 (c := fun x z => z ≤ x) rfl
theorem s_156_15 {x : Int32} : wp V (cdT Ev) mx d 156 15 [l0, l1, some (.int x), l3, l4, l5, l6] st h Q = wp V (cdT Ev) mx d 156 16 [l0, l1, some (.int x), l3, l4, l5, l6] (.int x :: st) h Q := x_iload (len := 1) rfl rfl
theorem s_156_16 {x : Int32} : wp V (cdT Ev) mx d 156 16 [l0, l1, l2, l3, l4, some (.int x), l6] st h Q = wp V (cdT Ev) mx d 156 18 [l0, l1, l2, l3, l4, some (.int x), l6] (.int x :: st) h Q := x_iload (len := 2) rfl rfl
theorem s_156_18 {x z : Int32} : wp V (cdT Ev) mx d 156 18 ls (.int z :: .int x :: st) h Q = wp V (cdT Ev) mx d 156 19 ls (.int (x >>> (z &&& 31)) :: st) h Q := x_ib (f := fun x z => x >>> (z &&& 31)) rfl
theorem s_156_19 : wp V (cdT Ev) mx d 156 19 ls st h Q = wp V (cdT Ev) mx d 156 20 ls ((.int (1)) :: st) h Q := x_push (v := (.int (1))) (len := 1) rfl
theorem s_156_20 {x z : Int32} : wp V (cdT Ev) mx d 156 20 ls (.int z :: .int x :: st) h Q = wp V (cdT Ev) mx d 156 21 ls (.int (x &&& z) :: st) h Q := x_ib (f := fun x z => x &&& z) rfl
theorem s_156_21 : wp V (cdT Ev) mx d 156 21 ls st h Q = wp V (cdT Ev) mx d 156 22 ls ((.int (1)) :: st) h Q := x_push (v := (.int (1))) (len := 1) rfl
theorem s_156_22 {x z : Int32} : wp V (cdT Ev) mx d 156 22 ls (.int z :: .int x :: st) h Q = (if ¬ x = z then wp V (cdT Ev) mx d 156 65 ls st h Q else wp V (cdT Ev) mx d 156 25 ls st h Q) := x_if2 (c := fun x z => ¬ x = z) rfl
theorem s_156_25 {a : Nat} : wp V (cdT Ev) mx d 156 25 [some (.ref a), l1, l2, l3, l4, l5, l6] st h Q = wp V (cdT Ev) mx d 156 26 [some (.ref a), l1, l2, l3, l4, l5, l6] (.ref a :: st) h Q := x_aload (len := 1) rfl rfl
theorem s_156_25_n : wp V (cdT Ev) mx d 156 25 [some .null, l1, l2, l3, l4, l5, l6] st h Q = wp V (cdT Ev) mx d 156 26 [some .null, l1, l2, l3, l4, l5, l6] (.null :: st) h Q := x_aloadN (len := 1) rfl rfl
theorem s_156_26 {x : Int32} : wp V (cdT Ev) mx d 156 26 [l0, some (.int x), l2, l3, l4, l5, l6] st h Q = wp V (cdT Ev) mx d 156 27 [l0, some (.int x), l2, l3, l4, l5, l6] (.int x :: st) h Q := x_iload (len := 1) rfl rfl
theorem s_156_27 {x : Int32} : wp V (cdT Ev) mx d 156 27 [l0, l1, l2, l3, l4, some (.int x), l6] st h Q = wp V (cdT Ev) mx d 156 29 [l0, l1, l2, l3, l4, some (.int x), l6] (.int x :: st) h Q := x_iload (len := 2) rfl rfl
theorem s_156_29 {a : Nat} : wp V (cdT Ev) mx d 156 29 [some (.ref a), l1, l2, l3, l4, l5, l6] st h Q = wp V (cdT Ev) mx d 156 30 [some (.ref a), l1, l2, l3, l4, l5, l6] (.ref a :: st) h Q := x_aload (len := 1) rfl rfl
theorem s_156_29_n : wp V (cdT Ev) mx d 156 29 [some .null, l1, l2, l3, l4, l5, l6] st h Q = wp V (cdT Ev) mx d 156 30 [some .null, l1, l2, l3, l4, l5, l6] (.null :: st) h Q := x_aloadN (len := 1) rfl rfl
theorem s_156_30 {a : Nat} : wp V (cdT Ev) mx d 156 30 ls (.ref a :: st) h Q = gf [12] 20 h a (fun v => wp V (cdT Ev) mx d 156 33 ls (v :: st) h Q) := x_getf rfl
theorem s_156_33 {x : Int32} : wp V (cdT Ev) mx d 156 33 [l0, l1, l2, l3, l4, some (.int x), l6] st h Q = wp V (cdT Ev) mx d 156 35 [l0, l1, l2, l3, l4, some (.int x), l6] (.int x :: st) h Q := x_iload (len := 2) rfl rfl
theorem s_156_35 {i : Int32} {a : Nat} : wp V (cdT Ev) mx d 156 35 ls (.int i :: .ref a :: st) h Q = ai 2 i V h a (fun x => wp V (cdT Ev) mx d 156 36 ls (.int x :: st) h Q) := x_iald rfl
theorem s_156_36 {x : Int32} : wp V (cdT Ev) mx d 156 36 [l0, l1, some (.int x), l3, l4, l5, l6] st h Q = wp V (cdT Ev) mx d 156 37 [l0, l1, some (.int x), l3, l4, l5, l6] (.int x :: st) h Q := x_iload (len := 1) rfl rfl
theorem s_156_37 {b : Nat} {v0 v1 v2 v3 : Value} (hst : st.length ≤ 4) : wp V (cdT Ev) mx d 156 37 ls (v3 :: v2 :: v1 :: v0 :: .ref b :: st) h Q = cv [(12, 154)] h b (fun y' => WP V (cdT Ev) mx d y' [.ref b, v0, v1, v2, v3] h (fun r h' => wp V (cdT Ev) mx d 156 40 ls (rts r st) h' Q)) := x_cv (sg := [v3, v2, v1, v0]) rfl hst rfl rfl
theorem s_156_40 {x : Int32} (hn : nl l5 = true) : wp V (cdT Ev) mx d 156 40 [l0, l1, l2, l3, l4, l5, l6] (.int x :: st) h Q = wp V (cdT Ev) mx d 156 42 [l0, l1, l2, l3, l4, l5, some (.int x)] st h Q := x_istore (len := 2) rfl (Nat.le_of_ble_eq_true rfl) (okp_nl rfl hn) rfl
theorem s_156_42 {x : Int32} : wp V (cdT Ev) mx d 156 42 [l0, l1, l2, l3, l4, l5, some (.int x)] st h Q = wp V (cdT Ev) mx d 156 44 [l0, l1, l2, l3, l4, l5, some (.int x)] (.int x :: st) h Q := x_iload (len := 2) rfl rfl
theorem s_156_44 {x : Int32} : wp V (cdT Ev) mx d 156 44 [l0, l1, l2, l3, some (.int x), l5, l6] st h Q = wp V (cdT Ev) mx d 156 46 [l0, l1, l2, l3, some (.int x), l5, l6] (.int x :: st) h Q := x_iload (len := 2) rfl rfl
theorem s_156_46 {x z : Int32} : wp V (cdT Ev) mx d 156 46 ls (.int z :: .int x :: st) h Q = (if x ≤ z then wp V (cdT Ev) mx d 156 54 ls st h Q else wp V (cdT Ev) mx d 156 49 ls st h Q) := x_if2 (c := fun x z => x ≤ z) rfl
theorem s_156_49 {x : Int32} : wp V (cdT Ev) mx d 156 49 [l0, l1, l2, l3, l4, some (.int x), l6] st h Q = wp V (cdT Ev) mx d 156 51 [l0, l1, l2, l3, l4, some (.int x), l6] (.int x :: st) h Q := x_iload (len := 2) rfl rfl
theorem s_156_51 : wp V (cdT Ev) mx d 156 51 ls st h Q = wp V (cdT Ev) mx d 156 55 ls st h Q := x_goto rfl
theorem s_156_54 {x : Int32} : wp V (cdT Ev) mx d 156 54 [l0, l1, l2, some (.int x), l4, l5, l6] st h Q = wp V (cdT Ev) mx d 156 55 [l0, l1, l2, some (.int x), l4, l5, l6] (.int x :: st) h Q := x_iload (len := 1) rfl rfl
theorem s_156_55 {x : Int32} (hn : nl l2 = true) : wp V (cdT Ev) mx d 156 55 [l0, l1, l2, l3, l4, l5, l6] (.int x :: st) h Q = wp V (cdT Ev) mx d 156 56 [l0, l1, l2, some (.int x), l4, l5, l6] st h Q := x_istore (len := 1) rfl (Nat.le_of_ble_eq_true rfl) (okp_nl rfl hn) rfl
theorem s_156_56 {x : Int32} : wp V (cdT Ev) mx d 156 56 [l0, l1, l2, l3, l4, l5, some (.int x)] st h Q = wp V (cdT Ev) mx d 156 58 [l0, l1, l2, l3, l4, l5, some (.int x)] (.int x :: st) h Q := x_iload (len := 2) rfl rfl
theorem s_156_58 {x : Int32} : wp V (cdT Ev) mx d 156 58 [l0, l1, l2, l3, some (.int x), l5, l6] st h Q = wp V (cdT Ev) mx d 156 60 [l0, l1, l2, l3, some (.int x), l5, l6] (.int x :: st) h Q := x_iload (len := 2) rfl rfl
theorem s_156_60 {v0 v1 : Value} (hst : st.length ≤ 4) : wp V (cdT Ev) mx d 156 60 ls (v1 :: v0 :: st) h Q = WP V (cdT Ev) mx d 196 [v0, v1] h (fun r h' => wp V (cdT Ev) mx d 156 63 ls (rts r st) h' Q) := x_cs (sg := [v1, v0]) rfl hst rfl rfl
theorem s_156_63 {x : Int32} (hn : nl l3 = true) : wp V (cdT Ev) mx d 156 63 [l0, l1, l2, l3, l4, l5, l6] (.int x :: st) h Q = wp V (cdT Ev) mx d 156 65 [l0, l1, l2, l3, some (.int x), l5, l6] st h Q := x_istore (len := 2) rfl (Nat.le_of_ble_eq_true rfl) (okp_nl rfl hn) rfl
theorem s_156_65 {x : Int32} : wp V (cdT Ev) mx d 156 65 [l0, l1, l2, l3, l4, some (.int x), l6] st h Q = wp V (cdT Ev) mx d 156 68 [l0, l1, l2, l3, l4, some (.int (x + (1))), l6] st h Q := x_iinc rfl rfl rfl
theorem s_156_68 : wp V (cdT Ev) mx d 156 68 ls st h Q = wp V (cdT Ev) mx d 156 8 ls st h Q := x_goto rfl
theorem s_156_71 {x : Int32} : wp V (cdT Ev) mx d 156 71 [l0, l1, l2, some (.int x), l4, l5, l6] st h Q = wp V (cdT Ev) mx d 156 72 [l0, l1, l2, some (.int x), l4, l5, l6] (.int x :: st) h Q := x_iload (len := 1) rfl rfl
theorem s_156_72 {x : Int32} : wp V (cdT Ev) mx d 156 72 ls [.int x] h Q = Q (some (.int x)) h := x_ret rfl rfl
theorem e_156 {a : Nat} {p0 : Int32} {p1 : Int32} : WP V (cdT Ev) mx (d + 1) 156 [.ref a, .int p0, .int p1] h Q = wp V (cdT Ev) mx d 156 0 [some (.ref a), some (.int p0), some (.int p1), none, none, none, none] [] h Q := propext (WP_eq (Nat.le_of_ble_eq_true rfl))
theorem s_157_0 {a : Nat} : wp V (cdT Ev) mx d 157 0 [some (.ref a), l1] st h Q = wp V (cdT Ev) mx d 157 1 [some (.ref a), l1] (.ref a :: st) h Q := x_aload (len := 1) rfl rfl
theorem s_157_0_n : wp V (cdT Ev) mx d 157 0 [some .null, l1] st h Q = wp V (cdT Ev) mx d 157 1 [some .null, l1] (.null :: st) h Q := x_aloadN (len := 1) rfl rfl
theorem s_157_1 {x : Int32} : wp V (cdT Ev) mx d 157 1 [l0, some (.int x)] st h Q = wp V (cdT Ev) mx d 157 2 [l0, some (.int x)] (.int x :: st) h Q := x_iload (len := 1) rfl rfl
theorem s_157_2 {b : Nat} {v0 : Value} (hst : st.length ≤ 4) : wp V (cdT Ev) mx d 157 2 ls (v0 :: .ref b :: st) h Q = cv [(12, 155)] h b (fun y' => WP V (cdT Ev) mx d y' [.ref b, v0] h (fun r h' => wp V (cdT Ev) mx d 157 5 ls (rts r st) h' Q)) := x_cv (sg := [v0]) rfl hst rfl rfl
theorem s_157_5 {a : Nat} : wp V (cdT Ev) mx d 157 5 [some (.ref a), l1] st h Q = wp V (cdT Ev) mx d 157 6 [some (.ref a), l1] (.ref a :: st) h Q := x_aload (len := 1) rfl rfl
theorem s_157_5_n : wp V (cdT Ev) mx d 157 5 [some .null, l1] st h Q = wp V (cdT Ev) mx d 157 6 [some .null, l1] (.null :: st) h Q := x_aloadN (len := 1) rfl rfl
theorem s_157_6 {x : Int32} : wp V (cdT Ev) mx d 157 6 [l0, some (.int x)] st h Q = wp V (cdT Ev) mx d 157 7 [l0, some (.int x)] (.int x :: st) h Q := x_iload (len := 1) rfl rfl
theorem s_157_7 {a : Nat} : wp V (cdT Ev) mx d 157 7 [some (.ref a), l1] st h Q = wp V (cdT Ev) mx d 157 8 [some (.ref a), l1] (.ref a :: st) h Q := x_aload (len := 1) rfl rfl
theorem s_157_7_n : wp V (cdT Ev) mx d 157 7 [some .null, l1] st h Q = wp V (cdT Ev) mx d 157 8 [some .null, l1] (.null :: st) h Q := x_aloadN (len := 1) rfl rfl
theorem s_157_8 {x : Int32} : wp V (cdT Ev) mx d 157 8 [l0, some (.int x)] st h Q = wp V (cdT Ev) mx d 157 9 [l0, some (.int x)] (.int x :: st) h Q := x_iload (len := 1) rfl rfl
theorem s_157_9 : wp V (cdT Ev) mx d 157 9 ls st h Q = wp V (cdT Ev) mx d 157 10 ls ((.int (2)) :: st) h Q := x_push (v := (.int (2))) (len := 1) rfl
theorem s_157_10 {b : Nat} {v0 v1 : Value} (hst : st.length ≤ 4) : wp V (cdT Ev) mx d 157 10 ls (v1 :: v0 :: .ref b :: st) h Q = cv [(12, 132)] h b (fun y' => WP V (cdT Ev) mx d y' [.ref b, v0, v1] h (fun r h' => wp V (cdT Ev) mx d 157 13 ls (rts r st) h' Q)) := x_cv (sg := [v1, v0]) rfl hst rfl rfl
theorem s_157_13 {b : Nat} {v0 v1 : Value} (hst : st.length ≤ 4) : wp V (cdT Ev) mx d 157 13 ls (v1 :: v0 :: .ref b :: st) h Q = cv [(12, 156)] h b (fun y' => WP V (cdT Ev) mx d y' [.ref b, v0, v1] h (fun r h' => wp V (cdT Ev) mx d 157 16 ls (rts r st) h' Q)) := x_cv (sg := [v1, v0]) rfl hst rfl rfl
theorem s_157_16 {x : Int32} : wp V (cdT Ev) mx d 157 16 ls [.int x] h Q = Q (some (.int x)) h := x_ret rfl rfl
theorem e_157 {a : Nat} {p0 : Int32} : WP V (cdT Ev) mx (d + 1) 157 [.ref a, .int p0] h Q = wp V (cdT Ev) mx d 157 0 [some (.ref a), some (.int p0)] [] h Q := propext (WP_eq (Nat.le_of_ble_eq_true rfl))
theorem s_158_0 {a : Nat} : wp V (cdT Ev) mx d 158 0 [some (.ref a), l1, l2, l3] st h Q = wp V (cdT Ev) mx d 158 1 [some (.ref a), l1, l2, l3] (.ref a :: st) h Q := x_aload (len := 1) rfl rfl
theorem s_158_0_n : wp V (cdT Ev) mx d 158 0 [some .null, l1, l2, l3] st h Q = wp V (cdT Ev) mx d 158 1 [some .null, l1, l2, l3] (.null :: st) h Q := x_aloadN (len := 1) rfl rfl
theorem s_158_1 {x : Int32} : wp V (cdT Ev) mx d 158 1 [l0, some (.int x), l2, l3] st h Q = wp V (cdT Ev) mx d 158 2 [l0, some (.int x), l2, l3] (.int x :: st) h Q := x_iload (len := 1) rfl rfl
theorem s_158_2 {b : Nat} {v0 : Value} (hst : st.length ≤ 4) : wp V (cdT Ev) mx d 158 2 ls (v0 :: .ref b :: st) h Q = cv [(12, 157)] h b (fun y' => WP V (cdT Ev) mx d y' [.ref b, v0] h (fun r h' => wp V (cdT Ev) mx d 158 5 ls (rts r st) h' Q)) := x_cv (sg := [v0]) rfl hst rfl rfl
theorem s_158_5 {x : Int32} (hn : nl l1 = true) : wp V (cdT Ev) mx d 158 5 [l0, l1, l2, l3] (.int x :: st) h Q = wp V (cdT Ev) mx d 158 6 [l0, l1, some (.int x), l3] st h Q := x_istore (len := 1) rfl (Nat.le_of_ble_eq_true rfl) (okp_nl rfl hn) rfl
theorem s_158_6 {a : Nat} : wp V (cdT Ev) mx d 158 6 [some (.ref a), l1, l2, l3] st h Q = wp V (cdT Ev) mx d 158 7 [some (.ref a), l1, l2, l3] (.ref a :: st) h Q := x_aload (len := 1) rfl rfl
theorem s_158_6_n : wp V (cdT Ev) mx d 158 6 [some .null, l1, l2, l3] st h Q = wp V (cdT Ev) mx d 158 7 [some .null, l1, l2, l3] (.null :: st) h Q := x_aloadN (len := 1) rfl rfl
theorem s_158_7 {x : Int32} : wp V (cdT Ev) mx d 158 7 [l0, some (.int x), l2, l3] st h Q = wp V (cdT Ev) mx d 158 8 [l0, some (.int x), l2, l3] (.int x :: st) h Q := x_iload (len := 1) rfl rfl
theorem s_158_8 : wp V (cdT Ev) mx d 158 8 ls st h Q = wp V (cdT Ev) mx d 158 9 ls ((.int (3)) :: st) h Q := x_push (v := (.int (3))) (len := 1) rfl
theorem s_158_9 {b : Nat} {v0 v1 : Value} (hst : st.length ≤ 4) : wp V (cdT Ev) mx d 158 9 ls (v1 :: v0 :: .ref b :: st) h Q = cv [(12, 132)] h b (fun y' => WP V (cdT Ev) mx d y' [.ref b, v0, v1] h (fun r h' => wp V (cdT Ev) mx d 158 12 ls (rts r st) h' Q)) := x_cv (sg := [v1, v0]) rfl hst rfl rfl
theorem s_158_12 : wp V (cdT Ev) mx d 158 12 ls st h Q = wp V (cdT Ev) mx d 158 13 ls ((.int (1)) :: st) h Q := x_push (v := (.int (1))) (len := 1) rfl
theorem s_158_13 {x z : Int32} : wp V (cdT Ev) mx d 158 13 ls (.int z :: .int x :: st) h Q = (if ¬ x = z then wp V (cdT Ev) mx d 158 20 ls st h Q else wp V (cdT Ev) mx d 158 16 ls st h Q) := x_if2 (c := fun x z => ¬ x = z) rfl
theorem s_158_16 : wp V (cdT Ev) mx d 158 16 ls st h Q = wp V (cdT Ev) mx d 158 17 ls ((.int (1)) :: st) h Q := x_push (v := (.int (1))) (len := 1) rfl
theorem s_158_17 : wp V (cdT Ev) mx d 158 17 ls st h Q = wp V (cdT Ev) mx d 158 21 ls st h Q := x_goto rfl
theorem s_158_20 : wp V (cdT Ev) mx d 158 20 ls st h Q = wp V (cdT Ev) mx d 158 21 ls ((.int (0)) :: st) h Q := x_push (v := (.int (0))) (len := 1) rfl
theorem s_158_21 {x : Int32} (hn : nl l2 = true) : wp V (cdT Ev) mx d 158 21 [l0, l1, l2, l3] (.int x :: st) h Q = wp V (cdT Ev) mx d 158 22 [l0, l1, l2, some (.int x)] st h Q := x_istore (len := 1) rfl (Nat.le_of_ble_eq_true rfl) (okp_nl rfl hn) rfl
theorem s_158_22 {x : Int32} : wp V (cdT Ev) mx d 158 22 [l0, l1, some (.int x), l3] st h Q = wp V (cdT Ev) mx d 158 23 [l0, l1, some (.int x), l3] (.int x :: st) h Q := x_iload (len := 1) rfl rfl
theorem s_158_23 : wp V (cdT Ev) mx d 158 23 ls st h Q = wp V (cdT Ev) mx d 158 24 ls ((.int (-1)) :: st) h Q := x_push (v := (.int (-1))) (len := 1) rfl
theorem s_158_24 {x z : Int32} : wp V (cdT Ev) mx d 158 24 ls (.int z :: .int x :: st) h Q = (if ¬ x = z then wp V (cdT Ev) mx d 158 51 ls st h Q else wp V (cdT Ev) mx d 158 27 ls st h Q) := x_if2 (c := fun x z => ¬ x = z) rfl
theorem s_158_27 {a : Nat} : wp V (cdT Ev) mx d 158 27 [some (.ref a), l1, l2, l3] st h Q = wp V (cdT Ev) mx d 158 28 [some (.ref a), l1, l2, l3] (.ref a :: st) h Q := x_aload (len := 1) rfl rfl
theorem s_158_27_n : wp V (cdT Ev) mx d 158 27 [some .null, l1, l2, l3] st h Q = wp V (cdT Ev) mx d 158 28 [some .null, l1, l2, l3] (.null :: st) h Q := x_aloadN (len := 1) rfl rfl
theorem s_158_28 {x : Int32} : wp V (cdT Ev) mx d 158 28 [l0, some (.int x), l2, l3] st h Q = wp V (cdT Ev) mx d 158 29 [l0, some (.int x), l2, l3] (.int x :: st) h Q := x_iload (len := 1) rfl rfl
theorem s_158_29 : wp V (cdT Ev) mx d 158 29 ls st h Q = wp V (cdT Ev) mx d 158 30 ls ((.int (4)) :: st) h Q := x_push (v := (.int (4))) (len := 1) rfl
theorem s_158_30 {a : Nat} : wp V (cdT Ev) mx d 158 30 [some (.ref a), l1, l2, l3] st h Q = wp V (cdT Ev) mx d 158 31 [some (.ref a), l1, l2, l3] (.ref a :: st) h Q := x_aload (len := 1) rfl rfl
theorem s_158_30_n : wp V (cdT Ev) mx d 158 30 [some .null, l1, l2, l3] st h Q = wp V (cdT Ev) mx d 158 31 [some .null, l1, l2, l3] (.null :: st) h Q := x_aloadN (len := 1) rfl rfl
theorem s_158_31 {x : Int32} : wp V (cdT Ev) mx d 158 31 [l0, some (.int x), l2, l3] st h Q = wp V (cdT Ev) mx d 158 32 [l0, some (.int x), l2, l3] (.int x :: st) h Q := x_iload (len := 1) rfl rfl
theorem s_158_32 : wp V (cdT Ev) mx d 158 32 ls st h Q = wp V (cdT Ev) mx d 158 33 ls ((.int (4)) :: st) h Q := x_push (v := (.int (4))) (len := 1) rfl
theorem s_158_33 {b : Nat} {v0 v1 : Value} (hst : st.length ≤ 4) : wp V (cdT Ev) mx d 158 33 ls (v1 :: v0 :: .ref b :: st) h Q = cv [(12, 132)] h b (fun y' => WP V (cdT Ev) mx d y' [.ref b, v0, v1] h (fun r h' => wp V (cdT Ev) mx d 158 36 ls (rts r st) h' Q)) := x_cv (sg := [v1, v0]) rfl hst rfl rfl
theorem s_158_36 {x : Int32} : wp V (cdT Ev) mx d 158 36 [l0, l1, l2, some (.int x)] st h Q = wp V (cdT Ev) mx d 158 37 [l0, l1, l2, some (.int x)] (.int x :: st) h Q := x_iload (len := 1) rfl rfl
theorem s_158_37 {x : Int32} : wp V (cdT Ev) mx d 158 37 ls (.int x :: st) h Q = (if x = 0 then wp V (cdT Ev) mx d 158 44 ls st h Q else wp V (cdT Ev) mx d 158 40 ls st h Q) := x_if1 (c := fun x => x = 0) rfl
theorem s_158_40 : wp V (cdT Ev) mx d 158 40 ls st h Q = wp V (cdT Ev) mx d 158 41 ls ((.int (0)) :: st) h Q := x_push (v := (.int (0))) (len := 1) rfl
theorem s_158_41 : wp V (cdT Ev) mx d 158 41 ls st h Q = wp V (cdT Ev) mx d 158 45 ls st h Q := x_goto rfl
theorem s_158_44 : wp V (cdT Ev) mx d 158 44 ls st h Q = wp V (cdT Ev) mx d 158 45 ls ((.int (1)) :: st) h Q := x_push (v := (.int (1))) (len := 1) rfl
theorem s_158_45 {x z : Int32} : wp V (cdT Ev) mx d 158 45 ls (.int z :: .int x :: st) h Q = wp V (cdT Ev) mx d 158 46 ls (.int (x + z) :: st) h Q := x_ib (f := fun x z => x + z) rfl
theorem s_158_46 {b : Nat} {v0 v1 v2 : Value} (hst : st.length ≤ 4) : wp V (cdT Ev) mx d 158 46 ls (v2 :: v1 :: v0 :: .ref b :: st) h Q = cv [(12, 133)] h b (fun y' => WP V (cdT Ev) mx d y' [.ref b, v0, v1, v2] h (fun r h' => wp V (cdT Ev) mx d 158 49 ls (rts r st) h' Q)) := x_cv (sg := [v2, v1, v0]) rfl hst rfl rfl
theorem s_158_49 {a : Nat} : wp V (cdT Ev) mx d 158 49 ls (.ref a :: st) h Q = wp V (cdT Ev) mx d 158 50 ls st h Q := x_pop rfl rfl
theorem s_158_49_i {x : Int32} : wp V (cdT Ev) mx d 158 49 ls (.int x :: st) h Q = wp V (cdT Ev) mx d 158 50 ls st h Q := x_pop rfl rfl
theorem s_158_50 : wp V (cdT Ev) mx d 158 50 ls [] h Q = Q none h := x_retv rfl
theorem s_158_51 {a : Nat} : wp V (cdT Ev) mx d 158 51 [some (.ref a), l1, l2, l3] st h Q = wp V (cdT Ev) mx d 158 52 [some (.ref a), l1, l2, l3] (.ref a :: st) h Q := x_aload (len := 1) rfl rfl
theorem s_158_51_n : wp V (cdT Ev) mx d 158 51 [some .null, l1, l2, l3] st h Q = wp V (cdT Ev) mx d 158 52 [some .null, l1, l2, l3] (.null :: st) h Q := x_aloadN (len := 1) rfl rfl
theorem s_158_52 {x : Int32} : wp V (cdT Ev) mx d 158 52 [l0, some (.int x), l2, l3] st h Q = wp V (cdT Ev) mx d 158 53 [l0, some (.int x), l2, l3] (.int x :: st) h Q := x_iload (len := 1) rfl rfl
theorem s_158_53 : wp V (cdT Ev) mx d 158 53 ls st h Q = wp V (cdT Ev) mx d 158 54 ls ((.int (2)) :: st) h Q := x_push (v := (.int (2))) (len := 1) rfl
theorem s_158_54 {a : Nat} : wp V (cdT Ev) mx d 158 54 [some (.ref a), l1, l2, l3] st h Q = wp V (cdT Ev) mx d 158 55 [some (.ref a), l1, l2, l3] (.ref a :: st) h Q := x_aload (len := 1) rfl rfl
theorem s_158_54_n : wp V (cdT Ev) mx d 158 54 [some .null, l1, l2, l3] st h Q = wp V (cdT Ev) mx d 158 55 [some .null, l1, l2, l3] (.null :: st) h Q := x_aloadN (len := 1) rfl rfl
theorem s_158_55 {x : Int32} : wp V (cdT Ev) mx d 158 55 [l0, some (.int x), l2, l3] st h Q = wp V (cdT Ev) mx d 158 56 [l0, some (.int x), l2, l3] (.int x :: st) h Q := x_iload (len := 1) rfl rfl
theorem s_158_56 : wp V (cdT Ev) mx d 158 56 ls st h Q = wp V (cdT Ev) mx d 158 57 ls ((.int (2)) :: st) h Q := x_push (v := (.int (2))) (len := 1) rfl
theorem s_158_57 {b : Nat} {v0 v1 : Value} (hst : st.length ≤ 4) : wp V (cdT Ev) mx d 158 57 ls (v1 :: v0 :: .ref b :: st) h Q = cv [(12, 132)] h b (fun y' => WP V (cdT Ev) mx d y' [.ref b, v0, v1] h (fun r h' => wp V (cdT Ev) mx d 158 60 ls (rts r st) h' Q)) := x_cv (sg := [v1, v0]) rfl hst rfl rfl
theorem s_158_60 : wp V (cdT Ev) mx d 158 60 ls st h Q = wp V (cdT Ev) mx d 158 61 ls ((.int (1)) :: st) h Q := x_push (v := (.int (1))) (len := 1) rfl
theorem s_158_61 {x : Int32} : wp V (cdT Ev) mx d 158 61 [l0, l1, some (.int x), l3] st h Q = wp V (cdT Ev) mx d 158 62 [l0, l1, some (.int x), l3] (.int x :: st) h Q := x_iload (len := 1) rfl rfl
theorem s_158_62 {x z : Int32} : wp V (cdT Ev) mx d 158 62 ls (.int z :: .int x :: st) h Q = wp V (cdT Ev) mx d 158 63 ls (.int (x <<< (z &&& 31)) :: st) h Q := x_ib (f := fun x z => x <<< (z &&& 31)) rfl
theorem s_158_63 : wp V (cdT Ev) mx d 158 63 ls st h Q = wp V (cdT Ev) mx d 158 64 ls ((.int (-1)) :: st) h Q := x_push (v := (.int (-1))) (len := 1) rfl
theorem s_158_64 {x z : Int32} : wp V (cdT Ev) mx d 158 64 ls (.int z :: .int x :: st) h Q = wp V (cdT Ev) mx d 158 65 ls (.int (x ^^^ z) :: st) h Q := x_ib (f := fun x z => x ^^^ z) rfl
theorem s_158_65 {x z : Int32} : wp V (cdT Ev) mx d 158 65 ls (.int z :: .int x :: st) h Q = wp V (cdT Ev) mx d 158 66 ls (.int (x &&& z) :: st) h Q := x_ib (f := fun x z => x &&& z) rfl
theorem s_158_66 {b : Nat} {v0 v1 v2 : Value} (hst : st.length ≤ 4) : wp V (cdT Ev) mx d 158 66 ls (v2 :: v1 :: v0 :: .ref b :: st) h Q = cv [(12, 133)] h b (fun y' => WP V (cdT Ev) mx d y' [.ref b, v0, v1, v2] h (fun r h' => wp V (cdT Ev) mx d 158 69 ls (rts r st) h' Q)) := x_cv (sg := [v2, v1, v0]) rfl hst rfl rfl
theorem s_158_69 {a : Nat} : wp V (cdT Ev) mx d 158 69 ls (.ref a :: st) h Q = wp V (cdT Ev) mx d 158 70 ls st h Q := x_pop rfl rfl
theorem s_158_69_i {x : Int32} : wp V (cdT Ev) mx d 158 69 ls (.int x :: st) h Q = wp V (cdT Ev) mx d 158 70 ls st h Q := x_pop rfl rfl
theorem s_158_70 {a : Nat} : wp V (cdT Ev) mx d 158 70 [some (.ref a), l1, l2, l3] st h Q = wp V (cdT Ev) mx d 158 71 [some (.ref a), l1, l2, l3] (.ref a :: st) h Q := x_aload (len := 1) rfl rfl
theorem s_158_70_n : wp V (cdT Ev) mx d 158 70 [some .null, l1, l2, l3] st h Q = wp V (cdT Ev) mx d 158 71 [some .null, l1, l2, l3] (.null :: st) h Q := x_aloadN (len := 1) rfl rfl
theorem s_158_71 {a : Nat} : wp V (cdT Ev) mx d 158 71 ls (.ref a :: st) h Q = gf [12] 0 h a (fun v => wp V (cdT Ev) mx d 158 74 ls (v :: st) h Q) := x_getf rfl
theorem s_158_74 {x : Int32} : wp V (cdT Ev) mx d 158 74 [l0, l1, l2, some (.int x)] st h Q = wp V (cdT Ev) mx d 158 75 [l0, l1, l2, some (.int x)] (.int x :: st) h Q := x_iload (len := 1) rfl rfl
theorem s_158_75 {x : Int32} : wp V (cdT Ev) mx d 158 75 ls (.int x :: st) h Q = (if x = 0 then wp V (cdT Ev) mx d 158 83 ls st h Q else wp V (cdT Ev) mx d 158 78 ls st h Q) := x_if1 (c := fun x => x = 0) rfl
theorem s_158_78 : wp V (cdT Ev) mx d 158 78 ls st h Q = wp V (cdT Ev) mx d 158 80 ls ((.int (13)) :: st) h Q := x_push (v := (.int (13))) (len := 2) rfl
theorem s_158_80 : wp V (cdT Ev) mx d 158 80 ls st h Q = wp V (cdT Ev) mx d 158 85 ls st h Q := x_goto rfl
theorem s_158_83 : wp V (cdT Ev) mx d 158 83 ls st h Q = wp V (cdT Ev) mx d 158 85 ls ((.int (12)) :: st) h Q := x_push (v := (.int (12))) (len := 2) rfl
theorem s_158_85 {x : Int32} {a : Nat} : wp V (cdT Ev) mx d 158 85 ls (.int x :: .ref a :: st) h Q = wp V (cdT Ev) mx d 158 86 ls (.int x :: .ref a :: .int x :: .ref a :: st) h Q := x_dup2 rfl rfl rfl
theorem s_158_86 {i : Int32} {a : Nat} : wp V (cdT Ev) mx d 158 86 ls (.int i :: .ref a :: st) h Q = ai 2 i V h a (fun x => wp V (cdT Ev) mx d 158 87 ls (.int x :: st) h Q) := x_iald rfl
theorem s_158_87 : wp V (cdT Ev) mx d 158 87 ls st h Q = wp V (cdT Ev) mx d 158 88 ls ((.int (1)) :: st) h Q := x_push (v := (.int (1))) (len := 1) rfl
theorem s_158_88 {x : Int32} : wp V (cdT Ev) mx d 158 88 [l0, l1, some (.int x), l3] st h Q = wp V (cdT Ev) mx d 158 89 [l0, l1, some (.int x), l3] (.int x :: st) h Q := x_iload (len := 1) rfl rfl
theorem s_158_89 {x z : Int32} : wp V (cdT Ev) mx d 158 89 ls (.int z :: .int x :: st) h Q = wp V (cdT Ev) mx d 158 90 ls (.int (x <<< (z &&& 31)) :: st) h Q := x_ib (f := fun x z => x <<< (z &&& 31)) rfl
theorem s_158_90 {x z : Int32} : wp V (cdT Ev) mx d 158 90 ls (.int z :: .int x :: st) h Q = wp V (cdT Ev) mx d 158 91 ls (.int (x ||| z) :: st) h Q := x_ib (f := fun x z => x ||| z) rfl
theorem s_158_91 {x i : Int32} {a : Nat} : wp V (cdT Ev) mx d 158 91 ls (.int x :: .int i :: .ref a :: st) h Q = si 2 i (x) h a (fun hh => wp V (cdT Ev) mx d 158 92 ls st hh Q) := x_iast (nw := fun x => x) rfl
theorem s_158_92 {a : Nat} : wp V (cdT Ev) mx d 158 92 [some (.ref a), l1, l2, l3] st h Q = wp V (cdT Ev) mx d 158 93 [some (.ref a), l1, l2, l3] (.ref a :: st) h Q := x_aload (len := 1) rfl rfl
theorem s_158_92_n : wp V (cdT Ev) mx d 158 92 [some .null, l1, l2, l3] st h Q = wp V (cdT Ev) mx d 158 93 [some .null, l1, l2, l3] (.null :: st) h Q := x_aloadN (len := 1) rfl rfl
theorem s_158_93 {x : Int32} : wp V (cdT Ev) mx d 158 93 [l0, some (.int x), l2, l3] st h Q = wp V (cdT Ev) mx d 158 94 [l0, some (.int x), l2, l3] (.int x :: st) h Q := x_iload (len := 1) rfl rfl
theorem s_158_94 : wp V (cdT Ev) mx d 158 94 ls st h Q = wp V (cdT Ev) mx d 158 95 ls ((.int (3)) :: st) h Q := x_push (v := (.int (3))) (len := 1) rfl
theorem s_158_95 : wp V (cdT Ev) mx d 158 95 ls st h Q = wp V (cdT Ev) mx d 158 96 ls ((.int (1)) :: st) h Q := x_push (v := (.int (1))) (len := 1) rfl
theorem s_158_96 {b : Nat} {v0 v1 v2 : Value} (hst : st.length ≤ 4) : wp V (cdT Ev) mx d 158 96 ls (v2 :: v1 :: v0 :: .ref b :: st) h Q = cv [(12, 133)] h b (fun y' => WP V (cdT Ev) mx d y' [.ref b, v0, v1, v2] h (fun r h' => wp V (cdT Ev) mx d 158 99 ls (rts r st) h' Q)) := x_cv (sg := [v2, v1, v0]) rfl hst rfl rfl
theorem s_158_99 {a : Nat} : wp V (cdT Ev) mx d 158 99 ls (.ref a :: st) h Q = wp V (cdT Ev) mx d 158 100 ls st h Q := x_pop rfl rfl
theorem s_158_99_i {x : Int32} : wp V (cdT Ev) mx d 158 99 ls (.int x :: st) h Q = wp V (cdT Ev) mx d 158 100 ls st h Q := x_pop rfl rfl
theorem s_158_100 : wp V (cdT Ev) mx d 158 100 ls [] h Q = Q none h := x_retv rfl
theorem e_158 {a : Nat} {p0 : Int32} : WP V (cdT Ev) mx (d + 1) 158 [.ref a, .int p0] h Q = wp V (cdT Ev) mx d 158 0 [some (.ref a), some (.int p0), none, none] [] h Q := propext (WP_eq (Nat.le_of_ble_eq_true rfl))
theorem s_159_0 {a : Nat} : wp V (cdT Ev) mx d 159 0 [some (.ref a)] st h Q = wp V (cdT Ev) mx d 159 1 [some (.ref a)] (.ref a :: st) h Q := x_aload (len := 1) rfl rfl
theorem s_159_0_n : wp V (cdT Ev) mx d 159 0 [some .null] st h Q = wp V (cdT Ev) mx d 159 1 [some .null] (.null :: st) h Q := x_aloadN (len := 1) rfl rfl
theorem s_159_1 : wp V (cdT Ev) mx d 159 1 ls st h Q = wp V (cdT Ev) mx d 159 2 ls ((.int (0)) :: st) h Q := x_push (v := (.int (0))) (len := 1) rfl
theorem s_159_2 : wp V (cdT Ev) mx d 159 2 ls st h Q = wp V (cdT Ev) mx d 159 3 ls ((.int (0)) :: st) h Q := x_push (v := (.int (0))) (len := 1) rfl
theorem s_159_3 {b : Nat} {v0 v1 : Value} (hst : st.length ≤ 4) : wp V (cdT Ev) mx d 159 3 ls (v1 :: v0 :: .ref b :: st) h Q = cv [(12, 152)] h b (fun y' => WP V (cdT Ev) mx d y' [.ref b, v0, v1] h (fun r h' => wp V (cdT Ev) mx d 159 6 ls (rts r st) h' Q)) := x_cv (sg := [v1, v0]) rfl hst rfl rfl
theorem s_159_6 {a : Nat} : wp V (cdT Ev) mx d 159 6 [some (.ref a)] st h Q = wp V (cdT Ev) mx d 159 7 [some (.ref a)] (.ref a :: st) h Q := x_aload (len := 1) rfl rfl
theorem s_159_6_n : wp V (cdT Ev) mx d 159 6 [some .null] st h Q = wp V (cdT Ev) mx d 159 7 [some .null] (.null :: st) h Q := x_aloadN (len := 1) rfl rfl
theorem s_159_7 {a : Nat} : wp V (cdT Ev) mx d 159 7 ls (.ref a :: st) h Q = gf [12] 15 h a (fun v => wp V (cdT Ev) mx d 159 10 ls (v :: st) h Q) := x_getf rfl
theorem s_159_10 {x : Int32} : wp V (cdT Ev) mx d 159 10 ls [.int x] h Q = Q (some (.int x)) h := x_ret rfl rfl
theorem e_159 {a : Nat} : WP V (cdT Ev) mx (d + 1) 159 [.ref a] h Q = wp V (cdT Ev) mx d 159 0 [some (.ref a)] [] h Q := propext (WP_eq (Nat.le_of_ble_eq_true rfl))
theorem s_160_0 {a : Nat} : wp V (cdT Ev) mx d 160 0 [some (.ref a), l1] st h Q = wp V (cdT Ev) mx d 160 1 [some (.ref a), l1] (.ref a :: st) h Q := x_aload (len := 1) rfl rfl
theorem s_160_0_n : wp V (cdT Ev) mx d 160 0 [some .null, l1] st h Q = wp V (cdT Ev) mx d 160 1 [some .null, l1] (.null :: st) h Q := x_aloadN (len := 1) rfl rfl
theorem s_160_1 {a : Nat} : wp V (cdT Ev) mx d 160 1 ls (.ref a :: st) h Q = gf [12] 0 h a (fun v => wp V (cdT Ev) mx d 160 4 ls (v :: st) h Q) := x_getf rfl
theorem s_160_4 : wp V (cdT Ev) mx d 160 4 ls st h Q = wp V (cdT Ev) mx d 160 6 ls ((.int (12)) :: st) h Q := x_push (v := (.int (12))) (len := 2) rfl
theorem s_160_6 {i : Int32} {a : Nat} : wp V (cdT Ev) mx d 160 6 ls (.int i :: .ref a :: st) h Q = ai 2 i V h a (fun x => wp V (cdT Ev) mx d 160 7 ls (.int x :: st) h Q) := x_iald rfl
theorem s_160_7 {x : Int32} : wp V (cdT Ev) mx d 160 7 [l0, some (.int x)] st h Q = wp V (cdT Ev) mx d 160 8 [l0, some (.int x)] (.int x :: st) h Q := x_iload (len := 1) rfl rfl
theorem s_160_8 {x z : Int32} : wp V (cdT Ev) mx d 160 8 ls (.int z :: .int x :: st) h Q = wp V (cdT Ev) mx d 160 9 ls (.int (x >>> (z &&& 31)) :: st) h Q := x_ib (f := fun x z => x >>> (z &&& 31)) rfl
theorem s_160_9 : wp V (cdT Ev) mx d 160 9 ls st h Q = wp V (cdT Ev) mx d 160 10 ls ((.int (1)) :: st) h Q := x_push (v := (.int (1))) (len := 1) rfl
theorem s_160_10 {x z : Int32} : wp V (cdT Ev) mx d 160 10 ls (.int z :: .int x :: st) h Q = wp V (cdT Ev) mx d 160 11 ls (.int (x &&& z) :: st) h Q := x_ib (f := fun x z => x &&& z) rfl
theorem s_160_11 : wp V (cdT Ev) mx d 160 11 ls st h Q = wp V (cdT Ev) mx d 160 12 ls ((.int (1)) :: st) h Q := x_push (v := (.int (1))) (len := 1) rfl
theorem s_160_12 {x z : Int32} : wp V (cdT Ev) mx d 160 12 ls (.int z :: .int x :: st) h Q = (if ¬ x = z then wp V (cdT Ev) mx d 160 43 ls st h Q else wp V (cdT Ev) mx d 160 15 ls st h Q) := x_if2 (c := fun x z => ¬ x = z) rfl
theorem s_160_15 {a : Nat} : wp V (cdT Ev) mx d 160 15 [some (.ref a), l1] st h Q = wp V (cdT Ev) mx d 160 16 [some (.ref a), l1] (.ref a :: st) h Q := x_aload (len := 1) rfl rfl
theorem s_160_15_n : wp V (cdT Ev) mx d 160 15 [some .null, l1] st h Q = wp V (cdT Ev) mx d 160 16 [some .null, l1] (.null :: st) h Q := x_aloadN (len := 1) rfl rfl
theorem s_160_16 {a : Nat} : wp V (cdT Ev) mx d 160 16 ls (.ref a :: st) h Q = gf [12] 0 h a (fun v => wp V (cdT Ev) mx d 160 19 ls (v :: st) h Q) := x_getf rfl
theorem s_160_19 : wp V (cdT Ev) mx d 160 19 ls st h Q = wp V (cdT Ev) mx d 160 21 ls ((.int (12)) :: st) h Q := x_push (v := (.int (12))) (len := 2) rfl
theorem s_160_21 {x : Int32} {a : Nat} : wp V (cdT Ev) mx d 160 21 ls (.int x :: .ref a :: st) h Q = wp V (cdT Ev) mx d 160 22 ls (.int x :: .ref a :: .int x :: .ref a :: st) h Q := x_dup2 rfl rfl rfl
theorem s_160_22 {i : Int32} {a : Nat} : wp V (cdT Ev) mx d 160 22 ls (.int i :: .ref a :: st) h Q = ai 2 i V h a (fun x => wp V (cdT Ev) mx d 160 23 ls (.int x :: st) h Q) := x_iald rfl
theorem s_160_23 : wp V (cdT Ev) mx d 160 23 ls st h Q = wp V (cdT Ev) mx d 160 24 ls ((.int (1)) :: st) h Q := x_push (v := (.int (1))) (len := 1) rfl
theorem s_160_24 {x : Int32} : wp V (cdT Ev) mx d 160 24 [l0, some (.int x)] st h Q = wp V (cdT Ev) mx d 160 25 [l0, some (.int x)] (.int x :: st) h Q := x_iload (len := 1) rfl rfl
theorem s_160_25 {x z : Int32} : wp V (cdT Ev) mx d 160 25 ls (.int z :: .int x :: st) h Q = wp V (cdT Ev) mx d 160 26 ls (.int (x <<< (z &&& 31)) :: st) h Q := x_ib (f := fun x z => x <<< (z &&& 31)) rfl
theorem s_160_26 : wp V (cdT Ev) mx d 160 26 ls st h Q = wp V (cdT Ev) mx d 160 27 ls ((.int (-1)) :: st) h Q := x_push (v := (.int (-1))) (len := 1) rfl
theorem s_160_27 {x z : Int32} : wp V (cdT Ev) mx d 160 27 ls (.int z :: .int x :: st) h Q = wp V (cdT Ev) mx d 160 28 ls (.int (x ^^^ z) :: st) h Q := x_ib (f := fun x z => x ^^^ z) rfl
theorem s_160_28 {x z : Int32} : wp V (cdT Ev) mx d 160 28 ls (.int z :: .int x :: st) h Q = wp V (cdT Ev) mx d 160 29 ls (.int (x &&& z) :: st) h Q := x_ib (f := fun x z => x &&& z) rfl
theorem s_160_29 {x i : Int32} {a : Nat} : wp V (cdT Ev) mx d 160 29 ls (.int x :: .int i :: .ref a :: st) h Q = si 2 i (x) h a (fun hh => wp V (cdT Ev) mx d 160 30 ls st hh Q) := x_iast (nw := fun x => x) rfl
theorem s_160_30 {a : Nat} : wp V (cdT Ev) mx d 160 30 [some (.ref a), l1] st h Q = wp V (cdT Ev) mx d 160 31 [some (.ref a), l1] (.ref a :: st) h Q := x_aload (len := 1) rfl rfl
theorem s_160_30_n : wp V (cdT Ev) mx d 160 30 [some .null, l1] st h Q = wp V (cdT Ev) mx d 160 31 [some .null, l1] (.null :: st) h Q := x_aloadN (len := 1) rfl rfl
theorem s_160_31 {a : Nat} : wp V (cdT Ev) mx d 160 31 ls (.ref a :: st) h Q = gf [12] 0 h a (fun v => wp V (cdT Ev) mx d 160 34 ls (v :: st) h Q) := x_getf rfl
theorem s_160_34 : wp V (cdT Ev) mx d 160 34 ls st h Q = wp V (cdT Ev) mx d 160 36 ls ((.int (13)) :: st) h Q := x_push (v := (.int (13))) (len := 2) rfl
theorem s_160_36 {x : Int32} {a : Nat} : wp V (cdT Ev) mx d 160 36 ls (.int x :: .ref a :: st) h Q = wp V (cdT Ev) mx d 160 37 ls (.int x :: .ref a :: .int x :: .ref a :: st) h Q := x_dup2 rfl rfl rfl
theorem s_160_37 {i : Int32} {a : Nat} : wp V (cdT Ev) mx d 160 37 ls (.int i :: .ref a :: st) h Q = ai 2 i V h a (fun x => wp V (cdT Ev) mx d 160 38 ls (.int x :: st) h Q) := x_iald rfl
theorem s_160_38 : wp V (cdT Ev) mx d 160 38 ls st h Q = wp V (cdT Ev) mx d 160 39 ls ((.int (1)) :: st) h Q := x_push (v := (.int (1))) (len := 1) rfl
theorem s_160_39 {x : Int32} : wp V (cdT Ev) mx d 160 39 [l0, some (.int x)] st h Q = wp V (cdT Ev) mx d 160 40 [l0, some (.int x)] (.int x :: st) h Q := x_iload (len := 1) rfl rfl
theorem s_160_40 {x z : Int32} : wp V (cdT Ev) mx d 160 40 ls (.int z :: .int x :: st) h Q = wp V (cdT Ev) mx d 160 41 ls (.int (x <<< (z &&& 31)) :: st) h Q := x_ib (f := fun x z => x <<< (z &&& 31)) rfl
theorem s_160_41 {x z : Int32} : wp V (cdT Ev) mx d 160 41 ls (.int z :: .int x :: st) h Q = wp V (cdT Ev) mx d 160 42 ls (.int (x ||| z) :: st) h Q := x_ib (f := fun x z => x ||| z) rfl
theorem s_160_42 {x i : Int32} {a : Nat} : wp V (cdT Ev) mx d 160 42 ls (.int x :: .int i :: .ref a :: st) h Q = si 2 i (x) h a (fun hh => wp V (cdT Ev) mx d 160 43 ls st hh Q) := x_iast (nw := fun x => x) rfl
theorem s_160_43 : wp V (cdT Ev) mx d 160 43 ls [] h Q = Q none h := x_retv rfl
theorem e_160 {a : Nat} {p0 : Int32} : WP V (cdT Ev) mx (d + 1) 160 [.ref a, .int p0] h Q = wp V (cdT Ev) mx d 160 0 [some (.ref a), some (.int p0)] [] h Q := propext (WP_eq (Nat.le_of_ble_eq_true rfl))
theorem s_161_0 : wp V (cdT Ev) mx d 161 0 ls st h Q = wp V (cdT Ev) mx d 161 1 ls ((.int (0)) :: st) h Q := x_push (v := (.int (0))) (len := 1) rfl
theorem s_161_1 {x : Int32} (hn : nl l0 = true) : wp V (cdT Ev) mx d 161 1 [l0, l1, l2] (.int x :: st) h Q = wp V (cdT Ev) mx d 161 2 [l0, some (.int x), l2] st h Q := x_istore (len := 1) rfl (Nat.le_of_ble_eq_true rfl) (okp_nl rfl hn) rfl
theorem s_161_2 {x : Int32} : wp V (cdT Ev) mx d 161 2 [l0, some (.int x), l2] st h Q = wp V (cdT Ev) mx d 161 3 [l0, some (.int x), l2] (.int x :: st) h Q := x_iload (len := 1) rfl rfl
theorem s_161_3 {a : Nat} : wp V (cdT Ev) mx d 161 3 [some (.ref a), l1, l2] st h Q = wp V (cdT Ev) mx d 161 4 [some (.ref a), l1, l2] (.ref a :: st) h Q := x_aload (len := 1) rfl rfl
theorem s_161_3_n : wp V (cdT Ev) mx d 161 3 [some .null, l1, l2] st h Q = wp V (cdT Ev) mx d 161 4 [some .null, l1, l2] (.null :: st) h Q := x_aloadN (len := 1) rfl rfl
theorem s_161_4 {a : Nat} : wp V (cdT Ev) mx d 161 4 ls (.ref a :: st) h Q = gf [12] 0 h a (fun v => wp V (cdT Ev) mx d 161 7 ls (v :: st) h Q) := x_getf rfl
theorem s_161_7 : wp V (cdT Ev) mx d 161 7 ls st h Q = wp V (cdT Ev) mx d 161 9 ls ((.int (68)) :: st) h Q := x_push (v := (.int (68))) (len := 2) rfl
theorem s_161_9 {i : Int32} {a : Nat} : wp V (cdT Ev) mx d 161 9 ls (.int i :: .ref a :: st) h Q = ai 2 i V h a (fun x => wp V (cdT Ev) mx d 161 10 ls (.int x :: st) h Q) := x_iald rfl
theorem s_161_10 {x z : Int32} : wp V (cdT Ev) mx d 161 10 ls (.int z :: .int x :: st) h Q = (if z ≤ x then wp V (cdT Ev) mx d 161 24 ls st h Q else wp V (cdT Ev) mx d 161 13 ls st h Q) := x_if2 (c := fun x z => z ≤ x) rfl
theorem s_161_13 {a : Nat} : wp V (cdT Ev) mx d 161 13 [some (.ref a), l1, l2] st h Q = wp V (cdT Ev) mx d 161 14 [some (.ref a), l1, l2] (.ref a :: st) h Q := x_aload (len := 1) rfl rfl
theorem s_161_13_n : wp V (cdT Ev) mx d 161 13 [some .null, l1, l2] st h Q = wp V (cdT Ev) mx d 161 14 [some .null, l1, l2] (.null :: st) h Q := x_aloadN (len := 1) rfl rfl
theorem s_161_14 {x : Int32} : wp V (cdT Ev) mx d 161 14 [l0, some (.int x), l2] st h Q = wp V (cdT Ev) mx d 161 15 [l0, some (.int x), l2] (.int x :: st) h Q := x_iload (len := 1) rfl rfl
theorem s_161_15 {b : Nat} {v0 : Value} (hst : st.length ≤ 4) : wp V (cdT Ev) mx d 161 15 ls (v0 :: .ref b :: st) h Q = cv [(12, 158)] h b (fun y' => WP V (cdT Ev) mx d y' [.ref b, v0] h (fun r h' => wp V (cdT Ev) mx d 161 18 ls (rts r st) h' Q)) := x_cv (sg := [v0]) rfl hst rfl rfl
theorem s_161_18 {x : Int32} : wp V (cdT Ev) mx d 161 18 [l0, some (.int x), l2] st h Q = wp V (cdT Ev) mx d 161 21 [l0, some (.int (x + (1))), l2] st h Q := x_iinc rfl rfl rfl
theorem s_161_21 : wp V (cdT Ev) mx d 161 21 ls st h Q = wp V (cdT Ev) mx d 161 2 ls st h Q := x_goto rfl
theorem s_161_24 {a : Nat} : wp V (cdT Ev) mx d 161 24 [some (.ref a), l1, l2] st h Q = wp V (cdT Ev) mx d 161 25 [some (.ref a), l1, l2] (.ref a :: st) h Q := x_aload (len := 1) rfl rfl
theorem s_161_24_n : wp V (cdT Ev) mx d 161 24 [some .null, l1, l2] st h Q = wp V (cdT Ev) mx d 161 25 [some .null, l1, l2] (.null :: st) h Q := x_aloadN (len := 1) rfl rfl
theorem s_161_25 {b : Nat} (hst : st.length ≤ 4) : wp V (cdT Ev) mx d 161 25 ls (.ref b :: st) h Q = cv [(12, 159)] h b (fun y' => WP V (cdT Ev) mx d y' [.ref b] h (fun r h' => wp V (cdT Ev) mx d 161 28 ls (rts r st) h' Q)) := x_cv (sg := []) rfl hst rfl rfl
theorem s_161_28 {x : Int32} (hn : nl l0 = true) : wp V (cdT Ev) mx d 161 28 [l0, l1, l2] (.int x :: st) h Q = wp V (cdT Ev) mx d 161 29 [l0, some (.int x), l2] st h Q := x_istore (len := 1) rfl (Nat.le_of_ble_eq_true rfl) (okp_nl rfl hn) rfl
theorem s_161_29 {x : Int32} : wp V (cdT Ev) mx d 161 29 [l0, some (.int x), l2] st h Q = wp V (cdT Ev) mx d 161 30 [l0, some (.int x), l2] (.int x :: st) h Q := x_iload (len := 1) rfl rfl
theorem s_161_30 {x : Int32} : wp V (cdT Ev) mx d 161 30 ls (.int x :: st) h Q = (if x ≤ 0 then wp V (cdT Ev) mx d 161 82 ls st h Q else wp V (cdT Ev) mx d 161 33 ls st h Q) := x_if1 (c := fun x => x ≤ 0) rfl
theorem s_161_33 {a : Nat} : wp V (cdT Ev) mx d 161 33 [some (.ref a), l1, l2] st h Q = wp V (cdT Ev) mx d 161 34 [some (.ref a), l1, l2] (.ref a :: st) h Q := x_aload (len := 1) rfl rfl
theorem s_161_33_n : wp V (cdT Ev) mx d 161 33 [some .null, l1, l2] st h Q = wp V (cdT Ev) mx d 161 34 [some .null, l1, l2] (.null :: st) h Q := x_aloadN (len := 1) rfl rfl
theorem s_161_34 {a : Nat} : wp V (cdT Ev) mx d 161 34 ls (.ref a :: st) h Q = gf [12] 0 h a (fun v => wp V (cdT Ev) mx d 161 37 ls (v :: st) h Q) := x_getf rfl
theorem s_161_37 : wp V (cdT Ev) mx d 161 37 ls st h Q = wp V (cdT Ev) mx d 161 39 ls ((.int (69)) :: st) h Q := x_push (v := (.int (69))) (len := 2) rfl
theorem s_161_39 {i : Int32} {a : Nat} : wp V (cdT Ev) mx d 161 39 ls (.int i :: .ref a :: st) h Q = ai 2 i V h a (fun x => wp V (cdT Ev) mx d 161 40 ls (.int x :: st) h Q) := x_iald rfl
theorem s_161_40 {x : Int32} : wp V (cdT Ev) mx d 161 40 [l0, some (.int x), l2] st h Q = wp V (cdT Ev) mx d 161 41 [l0, some (.int x), l2] (.int x :: st) h Q := x_iload (len := 1) rfl rfl
theorem s_161_41 {x z : Int32} : wp V (cdT Ev) mx d 161 41 ls (.int z :: .int x :: st) h Q = (¬ z = 0 ∧ wp V (cdT Ev) mx d 161 42 ls (.int (x - x / z * z) :: st) h Q) := x_ibz (f := fun x z => x - x / z * z) rfl
theorem s_161_42 {x : Int32} : wp V (cdT Ev) mx d 161 42 ls (.int x :: st) h Q = (if ¬ x = 0 then wp V (cdT Ev) mx d 161 82 ls st h Q else wp V (cdT Ev) mx d 161 45 ls st h Q) := x_if1 (c := fun x => ¬ x = 0) rfl
theorem s_161_45 {a : Nat} : wp V (cdT Ev) mx d 161 45 [some (.ref a), l1, l2] st h Q = wp V (cdT Ev) mx d 161 46 [some (.ref a), l1, l2] (.ref a :: st) h Q := x_aload (len := 1) rfl rfl
theorem s_161_45_n : wp V (cdT Ev) mx d 161 45 [some .null, l1, l2] st h Q = wp V (cdT Ev) mx d 161 46 [some .null, l1, l2] (.null :: st) h Q := x_aloadN (len := 1) rfl rfl
theorem s_161_46 {a : Nat} : wp V (cdT Ev) mx d 161 46 ls (.ref a :: st) h Q = gf [12] 0 h a (fun v => wp V (cdT Ev) mx d 161 49 ls (v :: st) h Q) := x_getf rfl
theorem s_161_49 : wp V (cdT Ev) mx d 161 49 ls st h Q = wp V (cdT Ev) mx d 161 51 ls ((.int (12)) :: st) h Q := x_push (v := (.int (12))) (len := 2) rfl
theorem s_161_51 {i : Int32} {a : Nat} : wp V (cdT Ev) mx d 161 51 ls (.int i :: .ref a :: st) h Q = ai 2 i V h a (fun x => wp V (cdT Ev) mx d 161 52 ls (.int x :: st) h Q) := x_iald rfl
theorem s_161_52 {x : Int32} : wp V (cdT Ev) mx d 161 52 ls (.int x :: st) h Q = (if x = 0 then wp V (cdT Ev) mx d 161 82 ls st h Q else wp V (cdT Ev) mx d 161 55 ls st h Q) := x_if1 (c := fun x => x = 0) rfl
theorem s_161_55 : wp V (cdT Ev) mx d 161 55 ls st h Q = wp V (cdT Ev) mx d 161 56 ls ((.int (0)) :: st) h Q := x_push (v := (.int (0))) (len := 1) rfl
theorem s_161_56 {x : Int32} (hn : nl l1 = true) : wp V (cdT Ev) mx d 161 56 [l0, l1, l2] (.int x :: st) h Q = wp V (cdT Ev) mx d 161 57 [l0, l1, some (.int x)] st h Q := x_istore (len := 1) rfl (Nat.le_of_ble_eq_true rfl) (okp_nl rfl hn) rfl
theorem s_161_57 {a : Nat} : wp V (cdT Ev) mx d 161 57 [some (.ref a), l1, l2] st h Q = wp V (cdT Ev) mx d 161 58 [some (.ref a), l1, l2] (.ref a :: st) h Q := x_aload (len := 1) rfl rfl
theorem s_161_57_n : wp V (cdT Ev) mx d 161 57 [some .null, l1, l2] st h Q = wp V (cdT Ev) mx d 161 58 [some .null, l1, l2] (.null :: st) h Q := x_aloadN (len := 1) rfl rfl
theorem s_161_58 {a : Nat} : wp V (cdT Ev) mx d 161 58 ls (.ref a :: st) h Q = gf [12] 0 h a (fun v => wp V (cdT Ev) mx d 161 61 ls (v :: st) h Q) := x_getf rfl
theorem s_161_61 : wp V (cdT Ev) mx d 161 61 ls st h Q = wp V (cdT Ev) mx d 161 63 ls ((.int (12)) :: st) h Q := x_push (v := (.int (12))) (len := 2) rfl
theorem s_161_63 {i : Int32} {a : Nat} : wp V (cdT Ev) mx d 161 63 ls (.int i :: .ref a :: st) h Q = ai 2 i V h a (fun x => wp V (cdT Ev) mx d 161 64 ls (.int x :: st) h Q) := x_iald rfl
theorem s_161_64 {x : Int32} : wp V (cdT Ev) mx d 161 64 [l0, l1, some (.int x)] st h Q = wp V (cdT Ev) mx d 161 65 [l0, l1, some (.int x)] (.int x :: st) h Q := x_iload (len := 1) rfl rfl
theorem s_161_65 {x z : Int32} : wp V (cdT Ev) mx d 161 65 ls (.int z :: .int x :: st) h Q = wp V (cdT Ev) mx d 161 66 ls (.int (x >>> (z &&& 31)) :: st) h Q := x_ib (f := fun x z => x >>> (z &&& 31)) rfl
theorem s_161_66 : wp V (cdT Ev) mx d 161 66 ls st h Q = wp V (cdT Ev) mx d 161 67 ls ((.int (1)) :: st) h Q := x_push (v := (.int (1))) (len := 1) rfl
theorem s_161_67 {x z : Int32} : wp V (cdT Ev) mx d 161 67 ls (.int z :: .int x :: st) h Q = wp V (cdT Ev) mx d 161 68 ls (.int (x &&& z) :: st) h Q := x_ib (f := fun x z => x &&& z) rfl
theorem s_161_68 {x : Int32} : wp V (cdT Ev) mx d 161 68 ls (.int x :: st) h Q = (if ¬ x = 0 then wp V (cdT Ev) mx d 161 77 ls st h Q else wp V (cdT Ev) mx d 161 71 ls st h Q) := x_if1 (c := fun x => ¬ x = 0) rfl
theorem s_161_71 {x : Int32} : wp V (cdT Ev) mx d 161 71 [l0, l1, some (.int x)] st h Q = wp V (cdT Ev) mx d 161 74 [l0, l1, some (.int (x + (1)))] st h Q := x_iinc rfl rfl rfl
theorem s_161_74 : wp V (cdT Ev) mx d 161 74 ls st h Q = wp V (cdT Ev) mx d 161 57 ls st h Q := x_goto rfl
theorem s_161_77 {a : Nat} : wp V (cdT Ev) mx d 161 77 [some (.ref a), l1, l2] st h Q = wp V (cdT Ev) mx d 161 78 [some (.ref a), l1, l2] (.ref a :: st) h Q := x_aload (len := 1) rfl rfl
theorem s_161_77_n : wp V (cdT Ev) mx d 161 77 [some .null, l1, l2] st h Q = wp V (cdT Ev) mx d 161 78 [some .null, l1, l2] (.null :: st) h Q := x_aloadN (len := 1) rfl rfl
theorem s_161_78 {x : Int32} : wp V (cdT Ev) mx d 161 78 [l0, l1, some (.int x)] st h Q = wp V (cdT Ev) mx d 161 79 [l0, l1, some (.int x)] (.int x :: st) h Q := x_iload (len := 1) rfl rfl
theorem s_161_79 {b : Nat} {v0 : Value} (hst : st.length ≤ 4) : wp V (cdT Ev) mx d 161 79 ls (v0 :: .ref b :: st) h Q = cv [(12, 160)] h b (fun y' => WP V (cdT Ev) mx d y' [.ref b, v0] h (fun r h' => wp V (cdT Ev) mx d 161 82 ls (rts r st) h' Q)) := x_cv (sg := [v0]) rfl hst rfl rfl
theorem s_161_82 {a : Nat} : wp V (cdT Ev) mx d 161 82 [some (.ref a), l1, l2] st h Q = wp V (cdT Ev) mx d 161 83 [some (.ref a), l1, l2] (.ref a :: st) h Q := x_aload (len := 1) rfl rfl
theorem s_161_82_n : wp V (cdT Ev) mx d 161 82 [some .null, l1, l2] st h Q = wp V (cdT Ev) mx d 161 83 [some .null, l1, l2] (.null :: st) h Q := x_aloadN (len := 1) rfl rfl
theorem s_161_83 {a : Nat} : wp V (cdT Ev) mx d 161 83 ls (.ref a :: st) h Q = gf [12] 0 h a (fun v => wp V (cdT Ev) mx d 161 86 ls (v :: st) h Q) := x_getf rfl
theorem s_161_86 : wp V (cdT Ev) mx d 161 86 ls st h Q = wp V (cdT Ev) mx d 161 88 ls ((.int (69)) :: st) h Q := x_push (v := (.int (69))) (len := 2) rfl
theorem s_161_88 {x : Int32} {a : Nat} : wp V (cdT Ev) mx d 161 88 ls (.int x :: .ref a :: st) h Q = wp V (cdT Ev) mx d 161 89 ls (.int x :: .ref a :: .int x :: .ref a :: st) h Q := x_dup2 rfl rfl rfl
theorem s_161_89 {i : Int32} {a : Nat} : wp V (cdT Ev) mx d 161 89 ls (.int i :: .ref a :: st) h Q = ai 2 i V h a (fun x => wp V (cdT Ev) mx d 161 90 ls (.int x :: st) h Q) := x_iald rfl
theorem s_161_90 : wp V (cdT Ev) mx d 161 90 ls st h Q = wp V (cdT Ev) mx d 161 91 ls ((.int (1)) :: st) h Q := x_push (v := (.int (1))) (len := 1) rfl
theorem s_161_91 {x z : Int32} : wp V (cdT Ev) mx d 161 91 ls (.int z :: .int x :: st) h Q = wp V (cdT Ev) mx d 161 92 ls (.int (x + z) :: st) h Q := x_ib (f := fun x z => x + z) rfl
theorem s_161_92 {x i : Int32} {a : Nat} : wp V (cdT Ev) mx d 161 92 ls (.int x :: .int i :: .ref a :: st) h Q = si 2 i (x) h a (fun hh => wp V (cdT Ev) mx d 161 93 ls st hh Q) := x_iast (nw := fun x => x) rfl
theorem s_161_93 : wp V (cdT Ev) mx d 161 93 ls [] h Q = Q none h := x_retv rfl
theorem e_161 {a : Nat} : WP V (cdT Ev) mx (d + 1) 161 [.ref a] h Q = wp V (cdT Ev) mx d 161 0 [some (.ref a), none, none] [] h Q := propext (WP_eq (Nat.le_of_ble_eq_true rfl))
theorem s_162_0 : wp V (cdT Ev) mx d 162 0 ls st h Q = wp V (cdT Ev) mx d 162 1 ls ((.int (0)) :: st) h Q := x_push (v := (.int (0))) (len := 1) rfl
theorem s_162_1 {x : Int32} (hn : nl l1 = true) : wp V (cdT Ev) mx d 162 1 [l0, l1, l2] (.int x :: st) h Q = wp V (cdT Ev) mx d 162 2 [l0, l1, some (.int x)] st h Q := x_istore (len := 1) rfl (Nat.le_of_ble_eq_true rfl) (okp_nl rfl hn) rfl
theorem s_162_2 {x : Int32} : wp V (cdT Ev) mx d 162 2 [l0, l1, some (.int x)] st h Q = wp V (cdT Ev) mx d 162 3 [l0, l1, some (.int x)] (.int x :: st) h Q := x_iload (len := 1) rfl rfl
theorem s_162_3 {x : Int32} : wp V (cdT Ev) mx d 162 3 [l0, some (.int x), l2] st h Q = wp V (cdT Ev) mx d 162 4 [l0, some (.int x), l2] (.int x :: st) h Q := x_iload (len := 1) rfl rfl
theorem s_162_4 {x z : Int32} : wp V (cdT Ev) mx d 162 4 ls (.int z :: .int x :: st) h Q = (if z ≤ x then wp V (cdT Ev) mx d 162 17 ls st h Q else wp V (cdT Ev) mx d 162 7 ls st h Q) := x_if2 (c := fun x z => z ≤ x) rfl
theorem s_162_7 {a : Nat} : wp V (cdT Ev) mx d 162 7 [some (.ref a), l1, l2] st h Q = wp V (cdT Ev) mx d 162 8 [some (.ref a), l1, l2] (.ref a :: st) h Q := x_aload (len := 1) rfl rfl
theorem s_162_7_n : wp V (cdT Ev) mx d 162 7 [some .null, l1, l2] st h Q = wp V (cdT Ev) mx d 162 8 [some .null, l1, l2] (.null :: st) h Q := x_aloadN (len := 1) rfl rfl
theorem s_162_8 {b : Nat} (hst : st.length ≤ 4) : wp V (cdT Ev) mx d 162 8 ls (.ref b :: st) h Q = cv [(12, 161)] h b (fun y' => WP V (cdT Ev) mx d y' [.ref b] h (fun r h' => wp V (cdT Ev) mx d 162 11 ls (rts r st) h' Q)) := x_cv (sg := []) rfl hst rfl rfl
theorem s_162_11 {x : Int32} : wp V (cdT Ev) mx d 162 11 [l0, l1, some (.int x)] st h Q = wp V (cdT Ev) mx d 162 14 [l0, l1, some (.int (x + (1)))] st h Q := x_iinc rfl rfl rfl
theorem s_162_14 : wp V (cdT Ev) mx d 162 14 ls st h Q = wp V (cdT Ev) mx d 162 2 ls st h Q := x_goto rfl
theorem s_162_17 : wp V (cdT Ev) mx d 162 17 ls [] h Q = Q none h := x_retv rfl
theorem e_162 {a : Nat} {p0 : Int32} : WP V (cdT Ev) mx (d + 1) 162 [.ref a, .int p0] h Q = wp V (cdT Ev) mx d 162 0 [some (.ref a), some (.int p0), none] [] h Q := propext (WP_eq (Nat.le_of_ble_eq_true rfl))
theorem s_163_0 : wp V (cdT Ev) mx d 163 0 ls st h Q = wp V (cdT Ev) mx d 163 1 ls ((.int (0)) :: st) h Q := x_push (v := (.int (0))) (len := 1) rfl
theorem s_163_1 {x : Int32} (hn : nl l0 = true) : wp V (cdT Ev) mx d 163 1 [l0, l1, l2] (.int x :: st) h Q = wp V (cdT Ev) mx d 163 2 [l0, some (.int x), l2] st h Q := x_istore (len := 1) rfl (Nat.le_of_ble_eq_true rfl) (okp_nl rfl hn) rfl
theorem s_163_2 : wp V (cdT Ev) mx d 163 2 ls st h Q = wp V (cdT Ev) mx d 163 3 ls ((.int (0)) :: st) h Q := x_push (v := (.int (0))) (len := 1) rfl
theorem s_163_3 {x : Int32} (hn : nl l1 = true) : wp V (cdT Ev) mx d 163 3 [l0, l1, l2] (.int x :: st) h Q = wp V (cdT Ev) mx d 163 4 [l0, l1, some (.int x)] st h Q := x_istore (len := 1) rfl (Nat.le_of_ble_eq_true rfl) (okp_nl rfl hn) rfl
theorem s_163_4 {x : Int32} : wp V (cdT Ev) mx d 163 4 [l0, l1, some (.int x)] st h Q = wp V (cdT Ev) mx d 163 5 [l0, l1, some (.int x)] (.int x :: st) h Q := x_iload (len := 1) rfl rfl
theorem s_163_5 {a : Nat} : wp V (cdT Ev) mx d 163 5 [some (.ref a), l1, l2] st h Q = wp V (cdT Ev) mx d 163 6 [some (.ref a), l1, l2] (.ref a :: st) h Q := x_aload (len := 1) rfl rfl
theorem s_163_5_n : wp V (cdT Ev) mx d 163 5 [some .null, l1, l2] st h Q = wp V (cdT Ev) mx d 163 6 [some .null, l1, l2] (.null :: st) h Q := x_aloadN (len := 1) rfl rfl
theorem s_163_6 {a : Nat} : wp V (cdT Ev) mx d 163 6 ls (.ref a :: st) h Q = gf [12] 0 h a (fun v => wp V (cdT Ev) mx d 163 9 ls (v :: st) h Q) := x_getf rfl
theorem s_163_9 : wp V (cdT Ev) mx d 163 9 ls st h Q = wp V (cdT Ev) mx d 163 11 ls ((.int (68)) :: st) h Q := x_push (v := (.int (68))) (len := 2) rfl
theorem s_163_11 {i : Int32} {a : Nat} : wp V (cdT Ev) mx d 163 11 ls (.int i :: .ref a :: st) h Q = ai 2 i V h a (fun x => wp V (cdT Ev) mx d 163 12 ls (.int x :: st) h Q) := x_iald rfl
theorem s_163_12 {x z : Int32} : wp V (cdT Ev) mx d 163 12 ls (.int z :: .int x :: st) h Q = (if z ≤ x then wp V (cdT Ev) mx d 163 32 ls st h Q else wp V (cdT Ev) mx d 163 15 ls st h Q) := x_if2 (c := fun x z => z ≤ x) rfl
theorem s_163_15 {x : Int32} : wp V (cdT Ev) mx d 163 15 [l0, some (.int x), l2] st h Q = wp V (cdT Ev) mx d 163 16 [l0, some (.int x), l2] (.int x :: st) h Q := x_iload (len := 1) rfl rfl
theorem s_163_16 {a : Nat} : wp V (cdT Ev) mx d 163 16 [some (.ref a), l1, l2] st h Q = wp V (cdT Ev) mx d 163 17 [some (.ref a), l1, l2] (.ref a :: st) h Q := x_aload (len := 1) rfl rfl
theorem s_163_16_n : wp V (cdT Ev) mx d 163 16 [some .null, l1, l2] st h Q = wp V (cdT Ev) mx d 163 17 [some .null, l1, l2] (.null :: st) h Q := x_aloadN (len := 1) rfl rfl
theorem s_163_17 {x : Int32} : wp V (cdT Ev) mx d 163 17 [l0, l1, some (.int x)] st h Q = wp V (cdT Ev) mx d 163 18 [l0, l1, some (.int x)] (.int x :: st) h Q := x_iload (len := 1) rfl rfl
theorem s_163_18 : wp V (cdT Ev) mx d 163 18 ls st h Q = wp V (cdT Ev) mx d 163 19 ls ((.int (3)) :: st) h Q := x_push (v := (.int (3))) (len := 1) rfl
theorem s_163_19 {b : Nat} {v0 v1 : Value} (hst : st.length ≤ 4) : wp V (cdT Ev) mx d 163 19 ls (v1 :: v0 :: .ref b :: st) h Q = cv [(12, 132)] h b (fun y' => WP V (cdT Ev) mx d y' [.ref b, v0, v1] h (fun r h' => wp V (cdT Ev) mx d 163 22 ls (rts r st) h' Q)) := x_cv (sg := [v1, v0]) rfl hst rfl rfl
theorem s_163_22 {x : Int32} : wp V (cdT Ev) mx d 163 22 [l0, l1, some (.int x)] st h Q = wp V (cdT Ev) mx d 163 23 [l0, l1, some (.int x)] (.int x :: st) h Q := x_iload (len := 1) rfl rfl
theorem s_163_23 {x z : Int32} : wp V (cdT Ev) mx d 163 23 ls (.int z :: .int x :: st) h Q = wp V (cdT Ev) mx d 163 24 ls (.int (x <<< (z &&& 31)) :: st) h Q := x_ib (f := fun x z => x <<< (z &&& 31)) rfl
theorem s_163_24 {x z : Int32} : wp V (cdT Ev) mx d 163 24 ls (.int z :: .int x :: st) h Q = wp V (cdT Ev) mx d 163 25 ls (.int (x ||| z) :: st) h Q := x_ib (f := fun x z => x ||| z) rfl
theorem s_163_25 {x : Int32} (hn : nl l0 = true) : wp V (cdT Ev) mx d 163 25 [l0, l1, l2] (.int x :: st) h Q = wp V (cdT Ev) mx d 163 26 [l0, some (.int x), l2] st h Q := x_istore (len := 1) rfl (Nat.le_of_ble_eq_true rfl) (okp_nl rfl hn) rfl
theorem s_163_26 {x : Int32} : wp V (cdT Ev) mx d 163 26 [l0, l1, some (.int x)] st h Q = wp V (cdT Ev) mx d 163 29 [l0, l1, some (.int (x + (1)))] st h Q := x_iinc rfl rfl rfl
theorem s_163_29 : wp V (cdT Ev) mx d 163 29 ls st h Q = wp V (cdT Ev) mx d 163 4 ls st h Q := x_goto rfl
theorem s_163_32 {x : Int32} : wp V (cdT Ev) mx d 163 32 [l0, some (.int x), l2] st h Q = wp V (cdT Ev) mx d 163 33 [l0, some (.int x), l2] (.int x :: st) h Q := x_iload (len := 1) rfl rfl
theorem s_163_33 {x : Int32} : wp V (cdT Ev) mx d 163 33 ls [.int x] h Q = Q (some (.int x)) h := x_ret rfl rfl
theorem e_163 {a : Nat} : WP V (cdT Ev) mx (d + 1) 163 [.ref a] h Q = wp V (cdT Ev) mx d 163 0 [some (.ref a), none, none] [] h Q := propext (WP_eq (Nat.le_of_ble_eq_true rfl))
theorem s_164_0 {a : Nat} : wp V (cdT Ev) mx d 164 0 [some (.ref a), l1, l2, l3] st h Q = wp V (cdT Ev) mx d 164 1 [some (.ref a), l1, l2, l3] (.ref a :: st) h Q := x_aload (len := 1) rfl rfl
theorem s_164_0_n : wp V (cdT Ev) mx d 164 0 [some .null, l1, l2, l3] st h Q = wp V (cdT Ev) mx d 164 1 [some .null, l1, l2, l3] (.null :: st) h Q := x_aloadN (len := 1) rfl rfl
theorem s_164_1 {a : Nat} : wp V (cdT Ev) mx d 164 1 ls (.ref a :: st) h Q = gf [12] 0 h a (fun v => wp V (cdT Ev) mx d 164 4 ls (v :: st) h Q) := x_getf rfl
theorem s_164_4 {a : Nat} : wp V (cdT Ev) mx d 164 4 [some (.ref a), l1, l2, l3] st h Q = wp V (cdT Ev) mx d 164 5 [some (.ref a), l1, l2, l3] (.ref a :: st) h Q := x_aload (len := 1) rfl rfl
theorem s_164_4_n : wp V (cdT Ev) mx d 164 4 [some .null, l1, l2, l3] st h Q = wp V (cdT Ev) mx d 164 5 [some .null, l1, l2, l3] (.null :: st) h Q := x_aloadN (len := 1) rfl rfl
theorem s_164_5 {a : Nat} : wp V (cdT Ev) mx d 164 5 ls (.ref a :: st) h Q = gf [12] 1 h a (fun v => wp V (cdT Ev) mx d 164 8 ls (v :: st) h Q) := x_getf rfl
theorem s_164_8 {v0 v1 : Value} (hst : st.length ≤ 4) : wp V (cdT Ev) mx d 164 8 ls (v1 :: v0 :: st) h Q = WP V (cdT Ev) mx d 125 [v0, v1] h (fun r h' => wp V (cdT Ev) mx d 164 11 ls (rts r st) h' Q) := x_cs (sg := [v1, v0]) rfl hst rfl rfl
theorem s_164_11 : wp V (cdT Ev) mx d 164 11 ls st h Q = wp V (cdT Ev) mx d 164 13 ls ((.int (-5)) :: st) h Q := x_push (v := (.int (-5))) (len := 2) rfl
theorem s_164_13 {x : Int32} (hn : nl l1 = true) : wp V (cdT Ev) mx d 164 13 [l0, l1, l2, l3] (.int x :: st) h Q = wp V (cdT Ev) mx d 164 14 [l0, l1, some (.int x), l3] st h Q := x_istore (len := 1) rfl (Nat.le_of_ble_eq_true rfl) (okp_nl rfl hn) rfl
theorem s_164_14 : wp V (cdT Ev) mx d 164 14 ls st h Q = wp V (cdT Ev) mx d 164 15 ls ((.int (0)) :: st) h Q := x_push (v := (.int (0))) (len := 1) rfl
theorem s_164_15 {x : Int32} (hn : nl l2 = true) : wp V (cdT Ev) mx d 164 15 [l0, l1, l2, l3] (.int x :: st) h Q = wp V (cdT Ev) mx d 164 16 [l0, l1, l2, some (.int x)] st h Q := x_istore (len := 1) rfl (Nat.le_of_ble_eq_true rfl) (okp_nl rfl hn) rfl
theorem s_164_16 {x : Int32} : wp V (cdT Ev) mx d 164 16 [l0, l1, l2, some (.int x)] st h Q = wp V (cdT Ev) mx d 164 17 [l0, l1, l2, some (.int x)] (.int x :: st) h Q := x_iload (len := 1) rfl rfl
theorem s_164_17 : wp V (cdT Ev) mx d 164 17 ls st h Q = wp V (cdT Ev) mx d 164 19 ls ((.int (60)) :: st) h Q := x_push (v := (.int (60))) (len := 2) rfl
theorem s_164_19 {x z : Int32} : wp V (cdT Ev) mx d 164 19 ls (.int z :: .int x :: st) h Q = (if z < x then wp V (cdT Ev) mx d 164 60 ls st h Q else wp V (cdT Ev) mx d 164 22 ls st h Q) := x_if2 (c := fun x z => z < x) rfl
theorem s_164_22 {x : Int32} : wp V (cdT Ev) mx d 164 22 [l0, l1, some (.int x), l3] st h Q = wp V (cdT Ev) mx d 164 23 [l0, l1, some (.int x), l3] (.int x :: st) h Q := x_iload (len := 1) rfl rfl
theorem s_164_23 : wp V (cdT Ev) mx d 164 23 ls st h Q = wp V (cdT Ev) mx d 164 25 ls ((.int (-5)) :: st) h Q := x_push (v := (.int (-5))) (len := 2) rfl
theorem s_164_25 {x z : Int32} : wp V (cdT Ev) mx d 164 25 ls (.int z :: .int x :: st) h Q = (if ¬ x = z then wp V (cdT Ev) mx d 164 60 ls st h Q else wp V (cdT Ev) mx d 164 28 ls st h Q) := x_if2 (c := fun x z => ¬ x = z) rfl
theorem s_164_28 {a : Nat} : wp V (cdT Ev) mx d 164 28 [some (.ref a), l1, l2, l3] st h Q = wp V (cdT Ev) mx d 164 29 [some (.ref a), l1, l2, l3] (.ref a :: st) h Q := x_aload (len := 1) rfl rfl
theorem s_164_28_n : wp V (cdT Ev) mx d 164 28 [some .null, l1, l2, l3] st h Q = wp V (cdT Ev) mx d 164 29 [some .null, l1, l2, l3] (.null :: st) h Q := x_aloadN (len := 1) rfl rfl
theorem s_164_29 {a : Nat} : wp V (cdT Ev) mx d 164 29 ls (.ref a :: st) h Q = gf [12] 0 h a (fun v => wp V (cdT Ev) mx d 164 32 ls (v :: st) h Q) := x_getf rfl
theorem s_164_32 : wp V (cdT Ev) mx d 164 32 ls st h Q = wp V (cdT Ev) mx d 164 34 ls ((.int (13)) :: st) h Q := x_push (v := (.int (13))) (len := 2) rfl
theorem s_164_34 {i : Int32} {a : Nat} : wp V (cdT Ev) mx d 164 34 ls (.int i :: .ref a :: st) h Q = ai 2 i V h a (fun x => wp V (cdT Ev) mx d 164 35 ls (.int x :: st) h Q) := x_iald rfl
theorem s_164_35 {x : Int32} : wp V (cdT Ev) mx d 164 35 [l0, some (.int x), l2, l3] st h Q = wp V (cdT Ev) mx d 164 36 [l0, some (.int x), l2, l3] (.int x :: st) h Q := x_iload (len := 1) rfl rfl
theorem s_164_36 {x z : Int32} : wp V (cdT Ev) mx d 164 36 ls (.int z :: .int x :: st) h Q = wp V (cdT Ev) mx d 164 37 ls (.int (x >>> (z &&& 31)) :: st) h Q := x_ib (f := fun x z => x >>> (z &&& 31)) rfl
theorem s_164_37 : wp V (cdT Ev) mx d 164 37 ls st h Q = wp V (cdT Ev) mx d 164 38 ls ((.int (1)) :: st) h Q := x_push (v := (.int (1))) (len := 1) rfl
theorem s_164_38 {x z : Int32} : wp V (cdT Ev) mx d 164 38 ls (.int z :: .int x :: st) h Q = wp V (cdT Ev) mx d 164 39 ls (.int (x &&& z) :: st) h Q := x_ib (f := fun x z => x &&& z) rfl
theorem s_164_39 : wp V (cdT Ev) mx d 164 39 ls st h Q = wp V (cdT Ev) mx d 164 40 ls ((.int (1)) :: st) h Q := x_push (v := (.int (1))) (len := 1) rfl
theorem s_164_40 {x z : Int32} : wp V (cdT Ev) mx d 164 40 ls (.int z :: .int x :: st) h Q = (if ¬ x = z then wp V (cdT Ev) mx d 164 47 ls st h Q else wp V (cdT Ev) mx d 164 43 ls st h Q) := x_if2 (c := fun x z => ¬ x = z) rfl
theorem s_164_43 {x : Int32} : wp V (cdT Ev) mx d 164 43 [l0, l1, l2, some (.int x)] st h Q = wp V (cdT Ev) mx d 164 44 [l0, l1, l2, some (.int x)] (.int x :: st) h Q := x_iload (len := 1) rfl rfl
theorem s_164_44 : wp V (cdT Ev) mx d 164 44 ls st h Q = wp V (cdT Ev) mx d 164 49 ls st h Q := x_goto rfl
theorem s_164_47 : wp V (cdT Ev) mx d 164 47 ls st h Q = wp V (cdT Ev) mx d 164 49 ls ((.int (-5)) :: st) h Q := x_push (v := (.int (-5))) (len := 2) rfl
theorem s_164_49 {x : Int32} (hn : nl l1 = true) : wp V (cdT Ev) mx d 164 49 [l0, l1, l2, l3] (.int x :: st) h Q = wp V (cdT Ev) mx d 164 50 [l0, l1, some (.int x), l3] st h Q := x_istore (len := 1) rfl (Nat.le_of_ble_eq_true rfl) (okp_nl rfl hn) rfl
theorem s_164_50 {a : Nat} : wp V (cdT Ev) mx d 164 50 [some (.ref a), l1, l2, l3] st h Q = wp V (cdT Ev) mx d 164 51 [some (.ref a), l1, l2, l3] (.ref a :: st) h Q := x_aload (len := 1) rfl rfl
theorem s_164_50_n : wp V (cdT Ev) mx d 164 50 [some .null, l1, l2, l3] st h Q = wp V (cdT Ev) mx d 164 51 [some .null, l1, l2, l3] (.null :: st) h Q := x_aloadN (len := 1) rfl rfl
theorem s_164_51 {b : Nat} (hst : st.length ≤ 4) : wp V (cdT Ev) mx d 164 51 ls (.ref b :: st) h Q = cv [(12, 161)] h b (fun y' => WP V (cdT Ev) mx d y' [.ref b] h (fun r h' => wp V (cdT Ev) mx d 164 54 ls (rts r st) h' Q)) := x_cv (sg := []) rfl hst rfl rfl
theorem s_164_54 {x : Int32} : wp V (cdT Ev) mx d 164 54 [l0, l1, l2, some (.int x)] st h Q = wp V (cdT Ev) mx d 164 57 [l0, l1, l2, some (.int (x + (1)))] st h Q := x_iinc rfl rfl rfl
theorem s_164_57 : wp V (cdT Ev) mx d 164 57 ls st h Q = wp V (cdT Ev) mx d 164 16 ls st h Q := x_goto rfl
theorem s_164_60 {a : Nat} : wp V (cdT Ev) mx d 164 60 [some (.ref a), l1, l2, l3] st h Q = wp V (cdT Ev) mx d 164 61 [some (.ref a), l1, l2, l3] (.ref a :: st) h Q := x_aload (len := 1) rfl rfl
theorem s_164_60_n : wp V (cdT Ev) mx d 164 60 [some .null, l1, l2, l3] st h Q = wp V (cdT Ev) mx d 164 61 [some .null, l1, l2, l3] (.null :: st) h Q := x_aloadN (len := 1) rfl rfl
theorem s_164_61 {a : Nat} : wp V (cdT Ev) mx d 164 61 ls (.ref a :: st) h Q = gf [12] 1 h a (fun v => wp V (cdT Ev) mx d 164 64 ls (v :: st) h Q) := x_getf rfl
theorem s_164_64 {a : Nat} : wp V (cdT Ev) mx d 164 64 [some (.ref a), l1, l2, l3] st h Q = wp V (cdT Ev) mx d 164 65 [some (.ref a), l1, l2, l3] (.ref a :: st) h Q := x_aload (len := 1) rfl rfl
theorem s_164_64_n : wp V (cdT Ev) mx d 164 64 [some .null, l1, l2, l3] st h Q = wp V (cdT Ev) mx d 164 65 [some .null, l1, l2, l3] (.null :: st) h Q := x_aloadN (len := 1) rfl rfl
theorem s_164_65 {a : Nat} : wp V (cdT Ev) mx d 164 65 ls (.ref a :: st) h Q = gf [12] 0 h a (fun v => wp V (cdT Ev) mx d 164 68 ls (v :: st) h Q) := x_getf rfl
theorem s_164_68 {v0 v1 : Value} (hst : st.length ≤ 4) : wp V (cdT Ev) mx d 164 68 ls (v1 :: v0 :: st) h Q = WP V (cdT Ev) mx d 125 [v0, v1] h (fun r h' => wp V (cdT Ev) mx d 164 71 ls (rts r st) h' Q) := x_cs (sg := [v1, v0]) rfl hst rfl rfl
theorem s_164_71 {x : Int32} : wp V (cdT Ev) mx d 164 71 [l0, l1, some (.int x), l3] st h Q = wp V (cdT Ev) mx d 164 72 [l0, l1, some (.int x), l3] (.int x :: st) h Q := x_iload (len := 1) rfl rfl
theorem s_164_72 {x : Int32} : wp V (cdT Ev) mx d 164 72 ls [.int x] h Q = Q (some (.int x)) h := x_ret rfl rfl
theorem e_164 {a : Nat} {p0 : Int32} : WP V (cdT Ev) mx (d + 1) 164 [.ref a, .int p0] h Q = wp V (cdT Ev) mx d 164 0 [some (.ref a), some (.int p0), none, none] [] h Q := propext (WP_eq (Nat.le_of_ble_eq_true rfl))
theorem s_165_0 {a : Nat} : wp V (cdT Ev) mx d 165 0 [some (.ref a), l1, l2, l3, l4, l5] st h Q = wp V (cdT Ev) mx d 165 1 [some (.ref a), l1, l2, l3, l4, l5] (.ref a :: st) h Q := x_aload (len := 1) rfl rfl
theorem s_165_0_n : wp V (cdT Ev) mx d 165 0 [some .null, l1, l2, l3, l4, l5] st h Q = wp V (cdT Ev) mx d 165 1 [some .null, l1, l2, l3, l4, l5] (.null :: st) h Q := x_aloadN (len := 1) rfl rfl
theorem s_165_1 {x : Int32} : wp V (cdT Ev) mx d 165 1 [l0, some (.int x), l2, l3, l4, l5] st h Q = wp V (cdT Ev) mx d 165 2 [l0, some (.int x), l2, l3, l4, l5] (.int x :: st) h Q := x_iload (len := 1) rfl rfl
theorem s_165_2 {b : Nat} {v0 : Value} (hst : st.length ≤ 4) : wp V (cdT Ev) mx d 165 2 ls (v0 :: .ref b :: st) h Q = cv [(12, 157)] h b (fun y' => WP V (cdT Ev) mx d y' [.ref b, v0] h (fun r h' => wp V (cdT Ev) mx d 165 5 ls (rts r st) h' Q)) := x_cv (sg := [v0]) rfl hst rfl rfl
theorem s_165_5 {x : Int32} (hn : nl l1 = true) : wp V (cdT Ev) mx d 165 5 [l0, l1, l2, l3, l4, l5] (.int x :: st) h Q = wp V (cdT Ev) mx d 165 6 [l0, l1, some (.int x), l3, l4, l5] st h Q := x_istore (len := 1) rfl (Nat.le_of_ble_eq_true rfl) (okp_nl rfl hn) rfl
theorem s_165_6 {x : Int32} : wp V (cdT Ev) mx d 165 6 [l0, l1, some (.int x), l3, l4, l5] st h Q = wp V (cdT Ev) mx d 165 7 [l0, l1, some (.int x), l3, l4, l5] (.int x :: st) h Q := x_iload (len := 1) rfl rfl
theorem s_165_7 : wp V (cdT Ev) mx d 165 7 ls st h Q = wp V (cdT Ev) mx d 165 8 ls ((.int (-1)) :: st) h Q := x_push (v := (.int (-1))) (len := 1) rfl
theorem s_165_8 {x z : Int32} : wp V (cdT Ev) mx d 165 8 ls (.int z :: .int x :: st) h Q = (if ¬ x = z then wp V (cdT Ev) mx d 165 14 ls st h Q else wp V (cdT Ev) mx d 165 11 ls st h Q) := x_if2 (c := fun x z => ¬ x = z) rfl
theorem s_165_11 : wp V (cdT Ev) mx d 165 11 ls st h Q = wp V (cdT Ev) mx d 165 13 ls ((.int (-5)) :: st) h Q := x_push (v := (.int (-5))) (len := 2) rfl
theorem s_165_13 {x : Int32} : wp V (cdT Ev) mx d 165 13 ls [.int x] h Q = Q (some (.int x)) h := x_ret rfl rfl
theorem s_165_14 {a : Nat} : wp V (cdT Ev) mx d 165 14 [some (.ref a), l1, l2, l3, l4, l5] st h Q = wp V (cdT Ev) mx d 165 15 [some (.ref a), l1, l2, l3, l4, l5] (.ref a :: st) h Q := x_aload (len := 1) rfl rfl
theorem s_165_14_n : wp V (cdT Ev) mx d 165 14 [some .null, l1, l2, l3, l4, l5] st h Q = wp V (cdT Ev) mx d 165 15 [some .null, l1, l2, l3, l4, l5] (.null :: st) h Q := x_aloadN (len := 1) rfl rfl
theorem s_165_15 {a : Nat} : wp V (cdT Ev) mx d 165 15 ls (.ref a :: st) h Q = gf [12] 0 h a (fun v => wp V (cdT Ev) mx d 165 18 ls (v :: st) h Q) := x_getf rfl
theorem s_165_18 {x : Int32} : wp V (cdT Ev) mx d 165 18 [l0, l1, some (.int x), l3, l4, l5] st h Q = wp V (cdT Ev) mx d 165 19 [l0, l1, some (.int x), l3, l4, l5] (.int x :: st) h Q := x_iload (len := 1) rfl rfl
theorem s_165_19 {i : Int32} {a : Nat} : wp V (cdT Ev) mx d 165 19 ls (.int i :: .ref a :: st) h Q = ai 2 i V h a (fun x => wp V (cdT Ev) mx d 165 20 ls (.int x :: st) h Q) := x_iald rfl
theorem s_165_20 {x : Int32} (hn : nl l2 = true) : wp V (cdT Ev) mx d 165 20 [l0, l1, l2, l3, l4, l5] (.int x :: st) h Q = wp V (cdT Ev) mx d 165 21 [l0, l1, l2, some (.int x), l4, l5] st h Q := x_istore (len := 1) rfl (Nat.le_of_ble_eq_true rfl) (okp_nl rfl hn) rfl
theorem s_165_21 : wp V (cdT Ev) mx d 165 21 ls st h Q = wp V (cdT Ev) mx d 165 22 ls ((.int (0)) :: st) h Q := x_push (v := (.int (0))) (len := 1) rfl
theorem s_165_22 {x : Int32} (hn : nl l3 = true) : wp V (cdT Ev) mx d 165 22 [l0, l1, l2, l3, l4, l5] (.int x :: st) h Q = wp V (cdT Ev) mx d 165 24 [l0, l1, l2, l3, some (.int x), l5] st h Q := x_istore (len := 2) rfl (Nat.le_of_ble_eq_true rfl) (okp_nl rfl hn) rfl
theorem s_165_24 : wp V (cdT Ev) mx d 165 24 ls st h Q = wp V (cdT Ev) mx d 165 25 ls ((.int (1)) :: st) h Q := x_push (v := (.int (1))) (len := 1) rfl
theorem s_165_25 {x : Int32} (hn : nl l4 = true) : wp V (cdT Ev) mx d 165 25 [l0, l1, l2, l3, l4, l5] (.int x :: st) h Q = wp V (cdT Ev) mx d 165 27 [l0, l1, l2, l3, l4, some (.int x)] st h Q := x_istore (len := 2) rfl (Nat.le_of_ble_eq_true rfl) (okp_nl rfl hn) rfl
theorem s_165_27 {x : Int32} : wp V (cdT Ev) mx d 165 27 [l0, l1, l2, l3, l4, some (.int x)] st h Q = wp V (cdT Ev) mx d 165 29 [l0, l1, l2, l3, l4, some (.int x)] (.int x :: st) h Q := x_iload (len := 2) rfl rfl
theorem s_165_29 : wp V (cdT Ev) mx d 165 29 ls st h Q = wp V (cdT Ev) mx d 165 31 ls ((.int (20)) :: st) h Q := x_push (v := (.int (20))) (len := 2) rfl
theorem s_165_31 {x z : Int32} : wp V (cdT Ev) mx d 165 31 ls (.int z :: .int x :: st) h Q = (if z < x then wp V (cdT Ev) mx d 165 72 ls st h Q else wp V (cdT Ev) mx d 165 34 ls st h Q) := x_if2 (c := fun x z => z < x) rfl
theorem s_165_34 {a : Nat} : wp V (cdT Ev) mx d 165 34 [some (.ref a), l1, l2, l3, l4, l5] st h Q = wp V (cdT Ev) mx d 165 35 [some (.ref a), l1, l2, l3, l4, l5] (.ref a :: st) h Q := x_aload (len := 1) rfl rfl
theorem s_165_34_n : wp V (cdT Ev) mx d 165 34 [some .null, l1, l2, l3, l4, l5] st h Q = wp V (cdT Ev) mx d 165 35 [some .null, l1, l2, l3, l4, l5] (.null :: st) h Q := x_aloadN (len := 1) rfl rfl
theorem s_165_35 {a : Nat} : wp V (cdT Ev) mx d 165 35 ls (.ref a :: st) h Q = gf [12] 0 h a (fun v => wp V (cdT Ev) mx d 165 38 ls (v :: st) h Q) := x_getf rfl
theorem s_165_38 {x : Int32} : wp V (cdT Ev) mx d 165 38 [l0, l1, some (.int x), l3, l4, l5] st h Q = wp V (cdT Ev) mx d 165 39 [l0, l1, some (.int x), l3, l4, l5] (.int x :: st) h Q := x_iload (len := 1) rfl rfl
theorem s_165_39 : wp V (cdT Ev) mx d 165 39 ls st h Q = wp V (cdT Ev) mx d 165 40 ls ((.int (0)) :: st) h Q := x_push (v := (.int (0))) (len := 1) rfl
theorem s_165_40 {x : Int32} : wp V (cdT Ev) mx d 165 40 [l0, l1, l2, some (.int x), l4, l5] st h Q = wp V (cdT Ev) mx d 165 41 [l0, l1, l2, some (.int x), l4, l5] (.int x :: st) h Q := x_iload (len := 1) rfl rfl
theorem s_165_41 {x : Int32} : wp V (cdT Ev) mx d 165 41 [l0, l1, l2, l3, l4, some (.int x)] st h Q = wp V (cdT Ev) mx d 165 43 [l0, l1, l2, l3, l4, some (.int x)] (.int x :: st) h Q := x_iload (len := 2) rfl rfl
theorem s_165_43 {x z : Int32} : wp V (cdT Ev) mx d 165 43 ls (.int z :: .int x :: st) h Q = wp V (cdT Ev) mx d 165 44 ls (.int (x - z) :: st) h Q := x_ib (f := fun x z => x - z) rfl
theorem s_165_44 {v0 v1 : Value} (hst : st.length ≤ 4) : wp V (cdT Ev) mx d 165 44 ls (v1 :: v0 :: st) h Q = WP V (cdT Ev) mx d 196 [v0, v1] h (fun r h' => wp V (cdT Ev) mx d 165 47 ls (rts r st) h' Q) := x_cs (sg := [v1, v0]) rfl hst rfl rfl
theorem s_165_47 {x i : Int32} {a : Nat} : wp V (cdT Ev) mx d 165 47 ls (.int x :: .int i :: .ref a :: st) h Q = si 2 i (x) h a (fun hh => wp V (cdT Ev) mx d 165 48 ls st hh Q) := x_iast (nw := fun x => x) rfl
theorem s_165_48 {a : Nat} : wp V (cdT Ev) mx d 165 48 [some (.ref a), l1, l2, l3, l4, l5] st h Q = wp V (cdT Ev) mx d 165 49 [some (.ref a), l1, l2, l3, l4, l5] (.ref a :: st) h Q := x_aload (len := 1) rfl rfl
theorem s_165_48_n : wp V (cdT Ev) mx d 165 48 [some .null, l1, l2, l3, l4, l5] st h Q = wp V (cdT Ev) mx d 165 49 [some .null, l1, l2, l3, l4, l5] (.null :: st) h Q := x_aloadN (len := 1) rfl rfl
theorem s_165_49 {x : Int32} : wp V (cdT Ev) mx d 165 49 [l0, some (.int x), l2, l3, l4, l5] st h Q = wp V (cdT Ev) mx d 165 50 [l0, some (.int x), l2, l3, l4, l5] (.int x :: st) h Q := x_iload (len := 1) rfl rfl
theorem s_165_50 {b : Nat} {v0 : Value} (hst : st.length ≤ 4) : wp V (cdT Ev) mx d 165 50 ls (v0 :: .ref b :: st) h Q = cv [(12, 157)] h b (fun y' => WP V (cdT Ev) mx d y' [.ref b, v0] h (fun r h' => wp V (cdT Ev) mx d 165 53 ls (rts r st) h' Q)) := x_cv (sg := [v0]) rfl hst rfl rfl
theorem s_165_53 {x : Int32} : wp V (cdT Ev) mx d 165 53 [l0, l1, some (.int x), l3, l4, l5] st h Q = wp V (cdT Ev) mx d 165 54 [l0, l1, some (.int x), l3, l4, l5] (.int x :: st) h Q := x_iload (len := 1) rfl rfl
theorem s_165_54 {x z : Int32} : wp V (cdT Ev) mx d 165 54 ls (.int z :: .int x :: st) h Q = (if ¬ x = z then wp V (cdT Ev) mx d 165 62 ls st h Q else wp V (cdT Ev) mx d 165 57 ls st h Q) := x_if2 (c := fun x z => ¬ x = z) rfl
theorem s_165_57 {x : Int32} : wp V (cdT Ev) mx d 165 57 [l0, l1, l2, l3, l4, some (.int x)] st h Q = wp V (cdT Ev) mx d 165 59 [l0, l1, l2, l3, l4, some (.int x)] (.int x :: st) h Q := x_iload (len := 2) rfl rfl
theorem s_165_59 : wp V (cdT Ev) mx d 165 59 ls st h Q = wp V (cdT Ev) mx d 165 64 ls st h Q := x_goto rfl
theorem s_165_62 {x : Int32} : wp V (cdT Ev) mx d 165 62 [l0, l1, l2, l3, some (.int x), l5] st h Q = wp V (cdT Ev) mx d 165 64 [l0, l1, l2, l3, some (.int x), l5] (.int x :: st) h Q := x_iload (len := 2) rfl rfl
theorem s_165_64 {x : Int32} (hn : nl l3 = true) : wp V (cdT Ev) mx d 165 64 [l0, l1, l2, l3, l4, l5] (.int x :: st) h Q = wp V (cdT Ev) mx d 165 66 [l0, l1, l2, l3, some (.int x), l5] st h Q := x_istore (len := 2) rfl (Nat.le_of_ble_eq_true rfl) (okp_nl rfl hn) rfl
theorem s_165_66 {x : Int32} : wp V (cdT Ev) mx d 165 66 [l0, l1, l2, l3, l4, some (.int x)] st h Q = wp V (cdT Ev) mx d 165 69 [l0, l1, l2, l3, l4, some (.int (x + (1)))] st h Q := x_iinc rfl rfl rfl
theorem s_165_69 : wp V (cdT Ev) mx d 165 69 ls st h Q = wp V (cdT Ev) mx d 165 27 ls st h Q := x_goto rfl
theorem s_165_72 {a : Nat} : wp V (cdT Ev) mx d 165 72 [some (.ref a), l1, l2, l3, l4, l5] st h Q = wp V (cdT Ev) mx d 165 73 [some (.ref a), l1, l2, l3, l4, l5] (.ref a :: st) h Q := x_aload (len := 1) rfl rfl
theorem s_165_72_n : wp V (cdT Ev) mx d 165 72 [some .null, l1, l2, l3, l4, l5] st h Q = wp V (cdT Ev) mx d 165 73 [some .null, l1, l2, l3, l4, l5] (.null :: st) h Q := x_aloadN (len := 1) rfl rfl
theorem s_165_73 {a : Nat} : wp V (cdT Ev) mx d 165 73 ls (.ref a :: st) h Q = gf [12] 0 h a (fun v => wp V (cdT Ev) mx d 165 76 ls (v :: st) h Q) := x_getf rfl
theorem s_165_76 {x : Int32} : wp V (cdT Ev) mx d 165 76 [l0, l1, some (.int x), l3, l4, l5] st h Q = wp V (cdT Ev) mx d 165 77 [l0, l1, some (.int x), l3, l4, l5] (.int x :: st) h Q := x_iload (len := 1) rfl rfl
theorem s_165_77 {x : Int32} : wp V (cdT Ev) mx d 165 77 [l0, l1, l2, some (.int x), l4, l5] st h Q = wp V (cdT Ev) mx d 165 78 [l0, l1, l2, some (.int x), l4, l5] (.int x :: st) h Q := x_iload (len := 1) rfl rfl
theorem s_165_78 {x i : Int32} {a : Nat} : wp V (cdT Ev) mx d 165 78 ls (.int x :: .int i :: .ref a :: st) h Q = si 2 i (x) h a (fun hh => wp V (cdT Ev) mx d 165 79 ls st hh Q) := x_iast (nw := fun x => x) rfl
theorem s_165_79 {x : Int32} : wp V (cdT Ev) mx d 165 79 [l0, l1, l2, l3, some (.int x), l5] st h Q = wp V (cdT Ev) mx d 165 81 [l0, l1, l2, l3, some (.int x), l5] (.int x :: st) h Q := x_iload (len := 2) rfl rfl
theorem s_165_81 {x : Int32} : wp V (cdT Ev) mx d 165 81 ls [.int x] h Q = Q (some (.int x)) h := x_ret rfl rfl
theorem e_165 {a : Nat} {p0 : Int32} : WP V (cdT Ev) mx (d + 1) 165 [.ref a, .int p0] h Q = wp V (cdT Ev) mx d 165 0 [some (.ref a), some (.int p0), none, none, none, none] [] h Q := propext (WP_eq (Nat.le_of_ble_eq_true rfl))
theorem s_166_0 {x : Int32} : wp V (cdT Ev) mx d 166 0 [l0, some (.int x)] st h Q = wp V (cdT Ev) mx d 166 1 [l0, some (.int x)] (.int x :: st) h Q := x_iload (len := 1) rfl rfl
theorem s_166_1 {x : Int32} : wp V (cdT Ev) mx d 166 1 ls (.int x :: st) h Q = (if x = 0 then wp V (cdT Ev) mx d 166 36 ls st h Q else (if x = 1 then wp V (cdT Ev) mx d 166 44 ls st h Q else (if x = 2 then wp V (cdT Ev) mx d 166 49 ls st h Q else (if x = 3 then wp V (cdT Ev) mx d 166 57 ls st h Q else (if x = 4 then wp V (cdT Ev) mx d 166 65 ls st h Q else wp V (cdT Ev) mx d 166 70 ls st h Q))))) := x_sw (t := 70) (l := [(0, 36), (1, 44), (2, 49), (3, 57), (4, 65)]) rfl
theorem s_166_36 {a : Nat} : wp V (cdT Ev) mx d 166 36 [some (.ref a), l1] st h Q = wp V (cdT Ev) mx d 166 37 [some (.ref a), l1] (.ref a :: st) h Q := x_aload (len := 1) rfl rfl
theorem s_166_36_n : wp V (cdT Ev) mx d 166 36 [some .null, l1] st h Q = wp V (cdT Ev) mx d 166 37 [some .null, l1] (.null :: st) h Q := x_aloadN (len := 1) rfl rfl
theorem s_166_37 {a : Nat} : wp V (cdT Ev) mx d 166 37 ls (.ref a :: st) h Q = gf [12] 0 h a (fun v => wp V (cdT Ev) mx d 166 40 ls (v :: st) h Q) := x_getf rfl
theorem s_166_40 : wp V (cdT Ev) mx d 166 40 ls st h Q = wp V (cdT Ev) mx d 166 42 ls ((.int (69)) :: st) h Q := x_push (v := (.int (69))) (len := 2) rfl
theorem s_166_42 {i : Int32} {a : Nat} : wp V (cdT Ev) mx d 166 42 ls (.int i :: .ref a :: st) h Q = ai 2 i V h a (fun x => wp V (cdT Ev) mx d 166 43 ls (.int x :: st) h Q) := x_iald rfl
theorem s_166_43 {x : Int32} : wp V (cdT Ev) mx d 166 43 ls [.int x] h Q = Q (some (.int x)) h := x_ret rfl rfl
theorem s_166_44 {a : Nat} : wp V (cdT Ev) mx d 166 44 [some (.ref a), l1] st h Q = wp V (cdT Ev) mx d 166 45 [some (.ref a), l1] (.ref a :: st) h Q := x_aload (len := 1) rfl rfl
theorem s_166_44_n : wp V (cdT Ev) mx d 166 44 [some .null, l1] st h Q = wp V (cdT Ev) mx d 166 45 [some .null, l1] (.null :: st) h Q := x_aloadN (len := 1) rfl rfl
theorem s_166_45 {b : Nat} (hst : st.length ≤ 4) : wp V (cdT Ev) mx d 166 45 ls (.ref b :: st) h Q = cv [(12, 159)] h b (fun y' => WP V (cdT Ev) mx d y' [.ref b] h (fun r h' => wp V (cdT Ev) mx d 166 48 ls (rts r st) h' Q)) := x_cv (sg := []) rfl hst rfl rfl
theorem s_166_48 {x : Int32} : wp V (cdT Ev) mx d 166 48 ls [.int x] h Q = Q (some (.int x)) h := x_ret rfl rfl
theorem s_166_49 {a : Nat} : wp V (cdT Ev) mx d 166 49 [some (.ref a), l1] st h Q = wp V (cdT Ev) mx d 166 50 [some (.ref a), l1] (.ref a :: st) h Q := x_aload (len := 1) rfl rfl
theorem s_166_49_n : wp V (cdT Ev) mx d 166 49 [some .null, l1] st h Q = wp V (cdT Ev) mx d 166 50 [some .null, l1] (.null :: st) h Q := x_aloadN (len := 1) rfl rfl
theorem s_166_50 {a : Nat} : wp V (cdT Ev) mx d 166 50 ls (.ref a :: st) h Q = gf [12] 0 h a (fun v => wp V (cdT Ev) mx d 166 53 ls (v :: st) h Q) := x_getf rfl
theorem s_166_53 : wp V (cdT Ev) mx d 166 53 ls st h Q = wp V (cdT Ev) mx d 166 55 ls ((.int (12)) :: st) h Q := x_push (v := (.int (12))) (len := 2) rfl
theorem s_166_55 {i : Int32} {a : Nat} : wp V (cdT Ev) mx d 166 55 ls (.int i :: .ref a :: st) h Q = ai 2 i V h a (fun x => wp V (cdT Ev) mx d 166 56 ls (.int x :: st) h Q) := x_iald rfl
theorem s_166_56 {x : Int32} : wp V (cdT Ev) mx d 166 56 ls [.int x] h Q = Q (some (.int x)) h := x_ret rfl rfl
theorem s_166_57 {a : Nat} : wp V (cdT Ev) mx d 166 57 [some (.ref a), l1] st h Q = wp V (cdT Ev) mx d 166 58 [some (.ref a), l1] (.ref a :: st) h Q := x_aload (len := 1) rfl rfl
theorem s_166_57_n : wp V (cdT Ev) mx d 166 57 [some .null, l1] st h Q = wp V (cdT Ev) mx d 166 58 [some .null, l1] (.null :: st) h Q := x_aloadN (len := 1) rfl rfl
theorem s_166_58 {a : Nat} : wp V (cdT Ev) mx d 166 58 ls (.ref a :: st) h Q = gf [12] 0 h a (fun v => wp V (cdT Ev) mx d 166 61 ls (v :: st) h Q) := x_getf rfl
theorem s_166_61 : wp V (cdT Ev) mx d 166 61 ls st h Q = wp V (cdT Ev) mx d 166 63 ls ((.int (13)) :: st) h Q := x_push (v := (.int (13))) (len := 2) rfl
theorem s_166_63 {i : Int32} {a : Nat} : wp V (cdT Ev) mx d 166 63 ls (.int i :: .ref a :: st) h Q = ai 2 i V h a (fun x => wp V (cdT Ev) mx d 166 64 ls (.int x :: st) h Q) := x_iald rfl
theorem s_166_64 {x : Int32} : wp V (cdT Ev) mx d 166 64 ls [.int x] h Q = Q (some (.int x)) h := x_ret rfl rfl
theorem s_166_65 {a : Nat} : wp V (cdT Ev) mx d 166 65 [some (.ref a), l1] st h Q = wp V (cdT Ev) mx d 166 66 [some (.ref a), l1] (.ref a :: st) h Q := x_aload (len := 1) rfl rfl
theorem s_166_65_n : wp V (cdT Ev) mx d 166 65 [some .null, l1] st h Q = wp V (cdT Ev) mx d 166 66 [some .null, l1] (.null :: st) h Q := x_aloadN (len := 1) rfl rfl
theorem s_166_66 {b : Nat} (hst : st.length ≤ 4) : wp V (cdT Ev) mx d 166 66 ls (.ref b :: st) h Q = cv [(12, 163)] h b (fun y' => WP V (cdT Ev) mx d y' [.ref b] h (fun r h' => wp V (cdT Ev) mx d 166 69 ls (rts r st) h' Q)) := x_cv (sg := []) rfl hst rfl rfl
theorem s_166_69 {x : Int32} : wp V (cdT Ev) mx d 166 69 ls [.int x] h Q = Q (some (.int x)) h := x_ret rfl rfl
theorem s_166_70 {x : Int32} : wp V (cdT Ev) mx d 166 70 [l0, some (.int x)] st h Q = wp V (cdT Ev) mx d 166 71 [l0, some (.int x)] (.int x :: st) h Q := x_iload (len := 1) rfl rfl
theorem s_166_71 : wp V (cdT Ev) mx d 166 71 ls st h Q = wp V (cdT Ev) mx d 166 73 ls ((.int (10)) :: st) h Q := x_push (v := (.int (10))) (len := 2) rfl
theorem s_166_73 {x z : Int32} : wp V (cdT Ev) mx d 166 73 ls (.int z :: .int x :: st) h Q = wp V (cdT Ev) mx d 166 74 ls (.int (x - z) :: st) h Q := x_ib (f := fun x z => x - z) rfl
theorem s_166_74 {v0 : Value} (hst : st.length ≤ 4) : wp V (cdT Ev) mx d 166 74 ls (v0 :: st) h Q = WP V (cdT Ev) mx d 129 [v0] h (fun r h' => wp V (cdT Ev) mx d 166 77 ls (rts r st) h' Q) := x_cs (sg := [v0]) rfl hst rfl rfl
theorem s_166_77 {x : Int32} : wp V (cdT Ev) mx d 166 77 ls (.int x :: st) h Q = (if x = 0 then wp V (cdT Ev) mx d 166 92 ls st h Q else wp V (cdT Ev) mx d 166 80 ls st h Q) := x_if1 (c := fun x => x = 0) rfl
theorem s_166_80 {a : Nat} : wp V (cdT Ev) mx d 166 80 [some (.ref a), l1] st h Q = wp V (cdT Ev) mx d 166 81 [some (.ref a), l1] (.ref a :: st) h Q := x_aload (len := 1) rfl rfl
theorem s_166_80_n : wp V (cdT Ev) mx d 166 80 [some .null, l1] st h Q = wp V (cdT Ev) mx d 166 81 [some .null, l1] (.null :: st) h Q := x_aloadN (len := 1) rfl rfl
theorem s_166_81 {a : Nat} : wp V (cdT Ev) mx d 166 81 ls (.ref a :: st) h Q = gf [12] 0 h a (fun v => wp V (cdT Ev) mx d 166 84 ls (v :: st) h Q) := x_getf rfl
theorem s_166_84 {x : Int32} : wp V (cdT Ev) mx d 166 84 [l0, some (.int x)] st h Q = wp V (cdT Ev) mx d 166 85 [l0, some (.int x)] (.int x :: st) h Q := x_iload (len := 1) rfl rfl
theorem s_166_85 : wp V (cdT Ev) mx d 166 85 ls st h Q = wp V (cdT Ev) mx d 166 87 ls ((.int (10)) :: st) h Q := x_push (v := (.int (10))) (len := 2) rfl
theorem s_166_87 {x z : Int32} : wp V (cdT Ev) mx d 166 87 ls (.int z :: .int x :: st) h Q = wp V (cdT Ev) mx d 166 88 ls (.int (x - z) :: st) h Q := x_ib (f := fun x z => x - z) rfl
theorem s_166_88 {i : Int32} {a : Nat} : wp V (cdT Ev) mx d 166 88 ls (.int i :: .ref a :: st) h Q = ai 2 i V h a (fun x => wp V (cdT Ev) mx d 166 89 ls (.int x :: st) h Q) := x_iald rfl
theorem s_166_89 : wp V (cdT Ev) mx d 166 89 ls st h Q = wp V (cdT Ev) mx d 166 135 ls st h Q := x_goto rfl
theorem s_166_92 {x : Int32} : wp V (cdT Ev) mx d 166 92 [l0, some (.int x)] st h Q = wp V (cdT Ev) mx d 166 93 [l0, some (.int x)] (.int x :: st) h Q := x_iload (len := 1) rfl rfl
theorem s_166_93 : wp V (cdT Ev) mx d 166 93 ls st h Q = wp V (cdT Ev) mx d 166 95 ls ((.int (30)) :: st) h Q := x_push (v := (.int (30))) (len := 2) rfl
theorem s_166_95 {x z : Int32} : wp V (cdT Ev) mx d 166 95 ls (.int z :: .int x :: st) h Q = wp V (cdT Ev) mx d 166 96 ls (.int (x - z) :: st) h Q := x_ib (f := fun x z => x - z) rfl
theorem s_166_96 {v0 : Value} (hst : st.length ≤ 4) : wp V (cdT Ev) mx d 166 96 ls (v0 :: st) h Q = WP V (cdT Ev) mx d 129 [v0] h (fun r h' => wp V (cdT Ev) mx d 166 99 ls (rts r st) h' Q) := x_cs (sg := [v0]) rfl hst rfl rfl
theorem s_166_99 {x : Int32} : wp V (cdT Ev) mx d 166 99 ls (.int x :: st) h Q = (if x = 0 then wp V (cdT Ev) mx d 166 113 ls st h Q else wp V (cdT Ev) mx d 166 102 ls st h Q) := x_if1 (c := fun x => x = 0) rfl
theorem s_166_102 {a : Nat} : wp V (cdT Ev) mx d 166 102 [some (.ref a), l1] st h Q = wp V (cdT Ev) mx d 166 103 [some (.ref a), l1] (.ref a :: st) h Q := x_aload (len := 1) rfl rfl
theorem s_166_102_n : wp V (cdT Ev) mx d 166 102 [some .null, l1] st h Q = wp V (cdT Ev) mx d 166 103 [some .null, l1] (.null :: st) h Q := x_aloadN (len := 1) rfl rfl
theorem s_166_103 {x : Int32} : wp V (cdT Ev) mx d 166 103 [l0, some (.int x)] st h Q = wp V (cdT Ev) mx d 166 104 [l0, some (.int x)] (.int x :: st) h Q := x_iload (len := 1) rfl rfl
theorem s_166_104 : wp V (cdT Ev) mx d 166 104 ls st h Q = wp V (cdT Ev) mx d 166 106 ls ((.int (30)) :: st) h Q := x_push (v := (.int (30))) (len := 2) rfl
theorem s_166_106 {x z : Int32} : wp V (cdT Ev) mx d 166 106 ls (.int z :: .int x :: st) h Q = wp V (cdT Ev) mx d 166 107 ls (.int (x - z) :: st) h Q := x_ib (f := fun x z => x - z) rfl
theorem s_166_107 {b : Nat} {v0 : Value} (hst : st.length ≤ 4) : wp V (cdT Ev) mx d 166 107 ls (v0 :: .ref b :: st) h Q = cv [(12, 164)] h b (fun y' => WP V (cdT Ev) mx d y' [.ref b, v0] h (fun r h' => wp V (cdT Ev) mx d 166 110 ls (rts r st) h' Q)) := x_cv (sg := [v0]) rfl hst rfl rfl
theorem s_166_110 : wp V (cdT Ev) mx d 166 110 ls st h Q = wp V (cdT Ev) mx d 166 135 ls st h Q := x_goto rfl
theorem s_166_113 {x : Int32} : wp V (cdT Ev) mx d 166 113 [l0, some (.int x)] st h Q = wp V (cdT Ev) mx d 166 114 [l0, some (.int x)] (.int x :: st) h Q := x_iload (len := 1) rfl rfl
theorem s_166_114 : wp V (cdT Ev) mx d 166 114 ls st h Q = wp V (cdT Ev) mx d 166 116 ls ((.int (50)) :: st) h Q := x_push (v := (.int (50))) (len := 2) rfl
theorem s_166_116 {x z : Int32} : wp V (cdT Ev) mx d 166 116 ls (.int z :: .int x :: st) h Q = wp V (cdT Ev) mx d 166 117 ls (.int (x - z) :: st) h Q := x_ib (f := fun x z => x - z) rfl
theorem s_166_117 {v0 : Value} (hst : st.length ≤ 4) : wp V (cdT Ev) mx d 166 117 ls (v0 :: st) h Q = WP V (cdT Ev) mx d 129 [v0] h (fun r h' => wp V (cdT Ev) mx d 166 120 ls (rts r st) h' Q) := x_cs (sg := [v0]) rfl hst rfl rfl
theorem s_166_120 {x : Int32} : wp V (cdT Ev) mx d 166 120 ls (.int x :: st) h Q = (if x = 0 then wp V (cdT Ev) mx d 166 134 ls st h Q else wp V (cdT Ev) mx d 166 123 ls st h Q) := x_if1 (c := fun x => x = 0) rfl
theorem s_166_123 {a : Nat} : wp V (cdT Ev) mx d 166 123 [some (.ref a), l1] st h Q = wp V (cdT Ev) mx d 166 124 [some (.ref a), l1] (.ref a :: st) h Q := x_aload (len := 1) rfl rfl
theorem s_166_123_n : wp V (cdT Ev) mx d 166 123 [some .null, l1] st h Q = wp V (cdT Ev) mx d 166 124 [some .null, l1] (.null :: st) h Q := x_aloadN (len := 1) rfl rfl
theorem s_166_124 {x : Int32} : wp V (cdT Ev) mx d 166 124 [l0, some (.int x)] st h Q = wp V (cdT Ev) mx d 166 125 [l0, some (.int x)] (.int x :: st) h Q := x_iload (len := 1) rfl rfl
theorem s_166_125 : wp V (cdT Ev) mx d 166 125 ls st h Q = wp V (cdT Ev) mx d 166 127 ls ((.int (50)) :: st) h Q := x_push (v := (.int (50))) (len := 2) rfl
theorem s_166_127 {x z : Int32} : wp V (cdT Ev) mx d 166 127 ls (.int z :: .int x :: st) h Q = wp V (cdT Ev) mx d 166 128 ls (.int (x - z) :: st) h Q := x_ib (f := fun x z => x - z) rfl
theorem s_166_128 {b : Nat} {v0 : Value} (hst : st.length ≤ 4) : wp V (cdT Ev) mx d 166 128 ls (v0 :: .ref b :: st) h Q = cv [(12, 173)] h b (fun y' => WP V (cdT Ev) mx d y' [.ref b, v0] h (fun r h' => wp V (cdT Ev) mx d 166 131 ls (rts r st) h' Q)) := x_cv (sg := [v0]) rfl hst rfl rfl
theorem s_166_131 : wp V (cdT Ev) mx d 166 131 ls st h Q = wp V (cdT Ev) mx d 166 135 ls st h Q := x_goto rfl
theorem s_166_134 : wp V (cdT Ev) mx d 166 134 ls st h Q = wp V (cdT Ev) mx d 166 135 ls ((.int (-1)) :: st) h Q := x_push (v := (.int (-1))) (len := 1) rfl
theorem s_166_135 {x : Int32} : wp V (cdT Ev) mx d 166 135 ls [.int x] h Q = Q (some (.int x)) h := x_ret rfl rfl
theorem e_166 {a : Nat} {p0 : Int32} : WP V (cdT Ev) mx (d + 1) 166 [.ref a, .int p0] h Q = wp V (cdT Ev) mx d 166 0 [some (.ref a), some (.int p0)] [] h Q := propext (WP_eq (Nat.le_of_ble_eq_true rfl))
theorem s_167_0 {x : Int32} : wp V (cdT Ev) mx d 167 0 [l0, some (.int x)] st h Q = wp V (cdT Ev) mx d 167 1 [l0, some (.int x)] (.int x :: st) h Q := x_iload (len := 1) rfl rfl
theorem s_167_1 : wp V (cdT Ev) mx d 167 1 ls st h Q = wp V (cdT Ev) mx d 167 2 ls ((.int (0)) :: st) h Q := x_push (v := (.int (0))) (len := 1) rfl
theorem s_167_2 : wp V (cdT Ev) mx d 167 2 ls st h Q = wp V (cdT Ev) mx d 167 4 ls ((.int (60)) :: st) h Q := x_push (v := (.int (60))) (len := 2) rfl
theorem s_167_4 {v0 v1 v2 : Value} (hst : st.length ≤ 4) : wp V (cdT Ev) mx d 167 4 ls (v2 :: v1 :: v0 :: st) h Q = WP V (cdT Ev) mx d 123 [v0, v1, v2] h (fun r h' => wp V (cdT Ev) mx d 167 7 ls (rts r st) h' Q) := x_cs (sg := [v2, v1, v0]) rfl hst rfl rfl
theorem s_167_7 {x : Int32} : wp V (cdT Ev) mx d 167 7 ls (.int x :: st) h Q = (if ¬ x = 0 then wp V (cdT Ev) mx d 167 13 ls st h Q else wp V (cdT Ev) mx d 167 10 ls st h Q) := x_if1 (c := fun x => ¬ x = 0) rfl
theorem s_167_10 : wp V (cdT Ev) mx d 167 10 ls st h Q = wp V (cdT Ev) mx d 167 12 ls ((.int (-2)) :: st) h Q := x_push (v := (.int (-2))) (len := 2) rfl
theorem s_167_12 {x : Int32} : wp V (cdT Ev) mx d 167 12 ls [.int x] h Q = Q (some (.int x)) h := x_ret rfl rfl
theorem s_167_13 {a : Nat} : wp V (cdT Ev) mx d 167 13 [some (.ref a), l1] st h Q = wp V (cdT Ev) mx d 167 14 [some (.ref a), l1] (.ref a :: st) h Q := x_aload (len := 1) rfl rfl
theorem s_167_13_n : wp V (cdT Ev) mx d 167 13 [some .null, l1] st h Q = wp V (cdT Ev) mx d 167 14 [some .null, l1] (.null :: st) h Q := x_aloadN (len := 1) rfl rfl
theorem s_167_14 {a : Nat} : wp V (cdT Ev) mx d 167 14 ls (.ref a :: st) h Q = gf [12] 0 h a (fun v => wp V (cdT Ev) mx d 167 17 ls (v :: st) h Q) := x_getf rfl
theorem s_167_17 : wp V (cdT Ev) mx d 167 17 ls st h Q = wp V (cdT Ev) mx d 167 19 ls ((.int (69)) :: st) h Q := x_push (v := (.int (69))) (len := 2) rfl
theorem s_167_19 {i : Int32} {a : Nat} : wp V (cdT Ev) mx d 167 19 ls (.int i :: .ref a :: st) h Q = ai 2 i V h a (fun x => wp V (cdT Ev) mx d 167 20 ls (.int x :: st) h Q) := x_iald rfl
theorem s_167_20 {x : Int32} : wp V (cdT Ev) mx d 167 20 [l0, some (.int x)] st h Q = wp V (cdT Ev) mx d 167 21 [l0, some (.int x)] (.int x :: st) h Q := x_iload (len := 1) rfl rfl
theorem s_167_21 {x z : Int32} : wp V (cdT Ev) mx d 167 21 ls (.int z :: .int x :: st) h Q = wp V (cdT Ev) mx d 167 22 ls (.int (x + z) :: st) h Q := x_ib (f := fun x z => x + z) rfl
theorem s_167_22 : wp V (cdT Ev) mx d 167 22 ls st h Q = wp V (cdT Ev) mx d 167 25 ls ((.int (9999)) :: st) h Q := x_push (v := (.int (9999))) (len := 3) rfl
theorem s_167_25 {x z : Int32} : wp V (cdT Ev) mx d 167 25 ls (.int z :: .int x :: st) h Q = (if x ≤ z then wp V (cdT Ev) mx d 167 31 ls st h Q else wp V (cdT Ev) mx d 167 28 ls st h Q) := x_if2 (c := fun x z => x ≤ z) rfl
theorem s_167_28 : wp V (cdT Ev) mx d 167 28 ls st h Q = wp V (cdT Ev) mx d 167 30 ls ((.int (-3)) :: st) h Q := x_push (v := (.int (-3))) (len := 2) rfl
theorem s_167_30 {x : Int32} : wp V (cdT Ev) mx d 167 30 ls [.int x] h Q = Q (some (.int x)) h := x_ret rfl rfl
theorem s_167_31 {a : Nat} : wp V (cdT Ev) mx d 167 31 [some (.ref a), l1] st h Q = wp V (cdT Ev) mx d 167 32 [some (.ref a), l1] (.ref a :: st) h Q := x_aload (len := 1) rfl rfl
theorem s_167_31_n : wp V (cdT Ev) mx d 167 31 [some .null, l1] st h Q = wp V (cdT Ev) mx d 167 32 [some .null, l1] (.null :: st) h Q := x_aloadN (len := 1) rfl rfl
theorem s_167_32 {x : Int32} : wp V (cdT Ev) mx d 167 32 [l0, some (.int x)] st h Q = wp V (cdT Ev) mx d 167 33 [l0, some (.int x)] (.int x :: st) h Q := x_iload (len := 1) rfl rfl
theorem s_167_33 {b : Nat} {v0 : Value} (hst : st.length ≤ 4) : wp V (cdT Ev) mx d 167 33 ls (v0 :: .ref b :: st) h Q = cv [(12, 162)] h b (fun y' => WP V (cdT Ev) mx d y' [.ref b, v0] h (fun r h' => wp V (cdT Ev) mx d 167 36 ls (rts r st) h' Q)) := x_cv (sg := [v0]) rfl hst rfl rfl
theorem s_167_36 {a : Nat} : wp V (cdT Ev) mx d 167 36 [some (.ref a), l1] st h Q = wp V (cdT Ev) mx d 167 37 [some (.ref a), l1] (.ref a :: st) h Q := x_aload (len := 1) rfl rfl
theorem s_167_36_n : wp V (cdT Ev) mx d 167 36 [some .null, l1] st h Q = wp V (cdT Ev) mx d 167 37 [some .null, l1] (.null :: st) h Q := x_aloadN (len := 1) rfl rfl
theorem s_167_37 {a : Nat} : wp V (cdT Ev) mx d 167 37 ls (.ref a :: st) h Q = gf [12] 0 h a (fun v => wp V (cdT Ev) mx d 167 40 ls (v :: st) h Q) := x_getf rfl
theorem s_167_40 : wp V (cdT Ev) mx d 167 40 ls st h Q = wp V (cdT Ev) mx d 167 42 ls ((.int (69)) :: st) h Q := x_push (v := (.int (69))) (len := 2) rfl
theorem s_167_42 {i : Int32} {a : Nat} : wp V (cdT Ev) mx d 167 42 ls (.int i :: .ref a :: st) h Q = ai 2 i V h a (fun x => wp V (cdT Ev) mx d 167 43 ls (.int x :: st) h Q) := x_iald rfl
theorem s_167_43 {x : Int32} : wp V (cdT Ev) mx d 167 43 ls [.int x] h Q = Q (some (.int x)) h := x_ret rfl rfl
theorem e_167 {a : Nat} {p0 : Int32} : WP V (cdT Ev) mx (d + 1) 167 [.ref a, .int p0] h Q = wp V (cdT Ev) mx d 167 0 [some (.ref a), some (.int p0)] [] h Q := propext (WP_eq (Nat.le_of_ble_eq_true rfl))
theorem s_168_0 {x : Int32} : wp V (cdT Ev) mx d 168 0 [l0, l1, some (.int x), l3] st h Q = wp V (cdT Ev) mx d 168 1 [l0, l1, some (.int x), l3] (.int x :: st) h Q := x_iload (len := 1) rfl rfl
theorem s_168_1 : wp V (cdT Ev) mx d 168 1 ls st h Q = wp V (cdT Ev) mx d 168 2 ls ((.int (0)) :: st) h Q := x_push (v := (.int (0))) (len := 1) rfl
theorem s_168_2 : wp V (cdT Ev) mx d 168 2 ls st h Q = wp V (cdT Ev) mx d 168 3 ls ((.int (2)) :: st) h Q := x_push (v := (.int (2))) (len := 1) rfl
theorem s_168_3 {v0 v1 v2 : Value} (hst : st.length ≤ 4) : wp V (cdT Ev) mx d 168 3 ls (v2 :: v1 :: v0 :: st) h Q = WP V (cdT Ev) mx d 123 [v0, v1, v2] h (fun r h' => wp V (cdT Ev) mx d 168 6 ls (rts r st) h' Q) := x_cs (sg := [v2, v1, v0]) rfl hst rfl rfl
theorem s_168_6 {x : Int32} : wp V (cdT Ev) mx d 168 6 ls (.int x :: st) h Q = (if ¬ x = 0 then wp V (cdT Ev) mx d 168 22 ls st h Q else wp V (cdT Ev) mx d 168 9 ls st h Q) := x_if1 (c := fun x => ¬ x = 0) rfl
theorem s_168_9 {a : Nat} : wp V (cdT Ev) mx d 168 9 [some (.ref a), l1, l2, l3] st h Q = wp V (cdT Ev) mx d 168 10 [some (.ref a), l1, l2, l3] (.ref a :: st) h Q := x_aload (len := 1) rfl rfl
theorem s_168_9_n : wp V (cdT Ev) mx d 168 9 [some .null, l1, l2, l3] st h Q = wp V (cdT Ev) mx d 168 10 [some .null, l1, l2, l3] (.null :: st) h Q := x_aloadN (len := 1) rfl rfl
theorem s_168_10 {x : Int32} : wp V (cdT Ev) mx d 168 10 [l0, l1, some (.int x), l3] st h Q = wp V (cdT Ev) mx d 168 11 [l0, l1, some (.int x), l3] (.int x :: st) h Q := x_iload (len := 1) rfl rfl
theorem s_168_11 : wp V (cdT Ev) mx d 168 11 ls st h Q = wp V (cdT Ev) mx d 168 13 ls ((.int (10)) :: st) h Q := x_push (v := (.int (10))) (len := 2) rfl
theorem s_168_13 {x z : Int32} : wp V (cdT Ev) mx d 168 13 ls (.int z :: .int x :: st) h Q = wp V (cdT Ev) mx d 168 14 ls (.int (x - z) :: st) h Q := x_ib (f := fun x z => x - z) rfl
theorem s_168_14 {b : Nat} {v0 : Value} (hst : st.length ≤ 4) : wp V (cdT Ev) mx d 168 14 ls (v0 :: .ref b :: st) h Q = cv [(12, 128)] h b (fun y' => WP V (cdT Ev) mx d y' [.ref b, v0] h (fun r h' => wp V (cdT Ev) mx d 168 17 ls (rts r st) h' Q)) := x_cv (sg := [v0]) rfl hst rfl rfl
theorem s_168_17 {x : Int32} : wp V (cdT Ev) mx d 168 17 ls (.int x :: st) h Q = (if ¬ x = 0 then wp V (cdT Ev) mx d 168 22 ls st h Q else wp V (cdT Ev) mx d 168 20 ls st h Q) := x_if1 (c := fun x => ¬ x = 0) rfl
theorem s_168_20 : wp V (cdT Ev) mx d 168 20 ls st h Q = wp V (cdT Ev) mx d 168 21 ls ((.int (-1)) :: st) h Q := x_push (v := (.int (-1))) (len := 1) rfl
theorem s_168_21 {x : Int32} : wp V (cdT Ev) mx d 168 21 ls [.int x] h Q = Q (some (.int x)) h := x_ret rfl rfl
theorem s_168_22 {x : Int32} : wp V (cdT Ev) mx d 168 22 [l0, some (.int x), l2, l3] st h Q = wp V (cdT Ev) mx d 168 23 [l0, some (.int x), l2, l3] (.int x :: st) h Q := x_iload (len := 1) rfl rfl
theorem s_168_23 : wp V (cdT Ev) mx d 168 23 ls st h Q = wp V (cdT Ev) mx d 168 24 ls ((.int (0)) :: st) h Q := x_push (v := (.int (0))) (len := 1) rfl
theorem s_168_24 : wp V (cdT Ev) mx d 168 24 ls st h Q = wp V (cdT Ev) mx d 168 26 ls ((.int (60)) :: st) h Q := x_push (v := (.int (60))) (len := 2) rfl
theorem s_168_26 {v0 v1 v2 : Value} (hst : st.length ≤ 4) : wp V (cdT Ev) mx d 168 26 ls (v2 :: v1 :: v0 :: st) h Q = WP V (cdT Ev) mx d 123 [v0, v1, v2] h (fun r h' => wp V (cdT Ev) mx d 168 29 ls (rts r st) h' Q) := x_cs (sg := [v2, v1, v0]) rfl hst rfl rfl
theorem s_168_29 {x : Int32} : wp V (cdT Ev) mx d 168 29 ls (.int x :: st) h Q = (if ¬ x = 0 then wp V (cdT Ev) mx d 168 35 ls st h Q else wp V (cdT Ev) mx d 168 32 ls st h Q) := x_if1 (c := fun x => ¬ x = 0) rfl
theorem s_168_32 : wp V (cdT Ev) mx d 168 32 ls st h Q = wp V (cdT Ev) mx d 168 34 ls ((.int (-2)) :: st) h Q := x_push (v := (.int (-2))) (len := 2) rfl
theorem s_168_34 {x : Int32} : wp V (cdT Ev) mx d 168 34 ls [.int x] h Q = Q (some (.int x)) h := x_ret rfl rfl
theorem s_168_35 {a : Nat} : wp V (cdT Ev) mx d 168 35 [some (.ref a), l1, l2, l3] st h Q = wp V (cdT Ev) mx d 168 36 [some (.ref a), l1, l2, l3] (.ref a :: st) h Q := x_aload (len := 1) rfl rfl
theorem s_168_35_n : wp V (cdT Ev) mx d 168 35 [some .null, l1, l2, l3] st h Q = wp V (cdT Ev) mx d 168 36 [some .null, l1, l2, l3] (.null :: st) h Q := x_aloadN (len := 1) rfl rfl
theorem s_168_36 {a : Nat} : wp V (cdT Ev) mx d 168 36 ls (.ref a :: st) h Q = gf [12] 0 h a (fun v => wp V (cdT Ev) mx d 168 39 ls (v :: st) h Q) := x_getf rfl
theorem s_168_39 {a : Nat} : wp V (cdT Ev) mx d 168 39 [some (.ref a), l1, l2, l3] st h Q = wp V (cdT Ev) mx d 168 40 [some (.ref a), l1, l2, l3] (.ref a :: st) h Q := x_aload (len := 1) rfl rfl
theorem s_168_39_n : wp V (cdT Ev) mx d 168 39 [some .null, l1, l2, l3] st h Q = wp V (cdT Ev) mx d 168 40 [some .null, l1, l2, l3] (.null :: st) h Q := x_aloadN (len := 1) rfl rfl
theorem s_168_40 {a : Nat} : wp V (cdT Ev) mx d 168 40 ls (.ref a :: st) h Q = gf [12] 1 h a (fun v => wp V (cdT Ev) mx d 168 43 ls (v :: st) h Q) := x_getf rfl
theorem s_168_43 {v0 v1 : Value} (hst : st.length ≤ 4) : wp V (cdT Ev) mx d 168 43 ls (v1 :: v0 :: st) h Q = WP V (cdT Ev) mx d 125 [v0, v1] h (fun r h' => wp V (cdT Ev) mx d 168 46 ls (rts r st) h' Q) := x_cs (sg := [v1, v0]) rfl hst rfl rfl
theorem s_168_46 {a : Nat} : wp V (cdT Ev) mx d 168 46 [some (.ref a), l1, l2, l3] st h Q = wp V (cdT Ev) mx d 168 47 [some (.ref a), l1, l2, l3] (.ref a :: st) h Q := x_aload (len := 1) rfl rfl
theorem s_168_46_n : wp V (cdT Ev) mx d 168 46 [some .null, l1, l2, l3] st h Q = wp V (cdT Ev) mx d 168 47 [some .null, l1, l2, l3] (.null :: st) h Q := x_aloadN (len := 1) rfl rfl
theorem s_168_47 {x : Int32} : wp V (cdT Ev) mx d 168 47 [l0, some (.int x), l2, l3] st h Q = wp V (cdT Ev) mx d 168 48 [l0, some (.int x), l2, l3] (.int x :: st) h Q := x_iload (len := 1) rfl rfl
theorem s_168_48 {b : Nat} {v0 : Value} (hst : st.length ≤ 4) : wp V (cdT Ev) mx d 168 48 ls (v0 :: .ref b :: st) h Q = cv [(12, 162)] h b (fun y' => WP V (cdT Ev) mx d y' [.ref b, v0] h (fun r h' => wp V (cdT Ev) mx d 168 51 ls (rts r st) h' Q)) := x_cv (sg := [v0]) rfl hst rfl rfl
theorem s_168_51 {x : Int32} : wp V (cdT Ev) mx d 168 51 [l0, l1, some (.int x), l3] st h Q = wp V (cdT Ev) mx d 168 52 [l0, l1, some (.int x), l3] (.int x :: st) h Q := x_iload (len := 1) rfl rfl
theorem s_168_52 {x : Int32} : wp V (cdT Ev) mx d 168 52 ls (.int x :: st) h Q = (if ¬ x = 0 then wp V (cdT Ev) mx d 168 65 ls st h Q else wp V (cdT Ev) mx d 168 55 ls st h Q) := x_if1 (c := fun x => ¬ x = 0) rfl
theorem s_168_55 {a : Nat} : wp V (cdT Ev) mx d 168 55 [some (.ref a), l1, l2, l3] st h Q = wp V (cdT Ev) mx d 168 56 [some (.ref a), l1, l2, l3] (.ref a :: st) h Q := x_aload (len := 1) rfl rfl
theorem s_168_55_n : wp V (cdT Ev) mx d 168 55 [some .null, l1, l2, l3] st h Q = wp V (cdT Ev) mx d 168 56 [some .null, l1, l2, l3] (.null :: st) h Q := x_aloadN (len := 1) rfl rfl
theorem s_168_56 {a : Nat} : wp V (cdT Ev) mx d 168 56 ls (.ref a :: st) h Q = gf [12] 0 h a (fun v => wp V (cdT Ev) mx d 168 59 ls (v :: st) h Q) := x_getf rfl
theorem s_168_59 : wp V (cdT Ev) mx d 168 59 ls st h Q = wp V (cdT Ev) mx d 168 61 ls ((.int (12)) :: st) h Q := x_push (v := (.int (12))) (len := 2) rfl
theorem s_168_61 {i : Int32} {a : Nat} : wp V (cdT Ev) mx d 168 61 ls (.int i :: .ref a :: st) h Q = ai 2 i V h a (fun x => wp V (cdT Ev) mx d 168 62 ls (.int x :: st) h Q) := x_iald rfl
theorem s_168_62 : wp V (cdT Ev) mx d 168 62 ls st h Q = wp V (cdT Ev) mx d 168 101 ls st h Q := x_goto rfl
theorem s_168_65 {x : Int32} : wp V (cdT Ev) mx d 168 65 [l0, l1, some (.int x), l3] st h Q = wp V (cdT Ev) mx d 168 66 [l0, l1, some (.int x), l3] (.int x :: st) h Q := x_iload (len := 1) rfl rfl
theorem s_168_66 : wp V (cdT Ev) mx d 168 66 ls st h Q = wp V (cdT Ev) mx d 168 67 ls ((.int (1)) :: st) h Q := x_push (v := (.int (1))) (len := 1) rfl
theorem s_168_67 {x z : Int32} : wp V (cdT Ev) mx d 168 67 ls (.int z :: .int x :: st) h Q = (if ¬ x = z then wp V (cdT Ev) mx d 168 80 ls st h Q else wp V (cdT Ev) mx d 168 70 ls st h Q) := x_if2 (c := fun x z => ¬ x = z) rfl
theorem s_168_70 {a : Nat} : wp V (cdT Ev) mx d 168 70 [some (.ref a), l1, l2, l3] st h Q = wp V (cdT Ev) mx d 168 71 [some (.ref a), l1, l2, l3] (.ref a :: st) h Q := x_aload (len := 1) rfl rfl
theorem s_168_70_n : wp V (cdT Ev) mx d 168 70 [some .null, l1, l2, l3] st h Q = wp V (cdT Ev) mx d 168 71 [some .null, l1, l2, l3] (.null :: st) h Q := x_aloadN (len := 1) rfl rfl
theorem s_168_71 {a : Nat} : wp V (cdT Ev) mx d 168 71 ls (.ref a :: st) h Q = gf [12] 0 h a (fun v => wp V (cdT Ev) mx d 168 74 ls (v :: st) h Q) := x_getf rfl
theorem s_168_74 : wp V (cdT Ev) mx d 168 74 ls st h Q = wp V (cdT Ev) mx d 168 76 ls ((.int (13)) :: st) h Q := x_push (v := (.int (13))) (len := 2) rfl
theorem s_168_76 {i : Int32} {a : Nat} : wp V (cdT Ev) mx d 168 76 ls (.int i :: .ref a :: st) h Q = ai 2 i V h a (fun x => wp V (cdT Ev) mx d 168 77 ls (.int x :: st) h Q) := x_iald rfl
theorem s_168_77 : wp V (cdT Ev) mx d 168 77 ls st h Q = wp V (cdT Ev) mx d 168 101 ls st h Q := x_goto rfl
theorem s_168_80 {x : Int32} : wp V (cdT Ev) mx d 168 80 [l0, l1, some (.int x), l3] st h Q = wp V (cdT Ev) mx d 168 81 [l0, l1, some (.int x), l3] (.int x :: st) h Q := x_iload (len := 1) rfl rfl
theorem s_168_81 : wp V (cdT Ev) mx d 168 81 ls st h Q = wp V (cdT Ev) mx d 168 82 ls ((.int (2)) :: st) h Q := x_push (v := (.int (2))) (len := 1) rfl
theorem s_168_82 {x z : Int32} : wp V (cdT Ev) mx d 168 82 ls (.int z :: .int x :: st) h Q = (if ¬ x = z then wp V (cdT Ev) mx d 168 92 ls st h Q else wp V (cdT Ev) mx d 168 85 ls st h Q) := x_if2 (c := fun x z => ¬ x = z) rfl
theorem s_168_85 {a : Nat} : wp V (cdT Ev) mx d 168 85 [some (.ref a), l1, l2, l3] st h Q = wp V (cdT Ev) mx d 168 86 [some (.ref a), l1, l2, l3] (.ref a :: st) h Q := x_aload (len := 1) rfl rfl
theorem s_168_85_n : wp V (cdT Ev) mx d 168 85 [some .null, l1, l2, l3] st h Q = wp V (cdT Ev) mx d 168 86 [some .null, l1, l2, l3] (.null :: st) h Q := x_aloadN (len := 1) rfl rfl
theorem s_168_86 {b : Nat} (hst : st.length ≤ 4) : wp V (cdT Ev) mx d 168 86 ls (.ref b :: st) h Q = cv [(12, 163)] h b (fun y' => WP V (cdT Ev) mx d y' [.ref b] h (fun r h' => wp V (cdT Ev) mx d 168 89 ls (rts r st) h' Q)) := x_cv (sg := []) rfl hst rfl rfl
theorem s_168_89 : wp V (cdT Ev) mx d 168 89 ls st h Q = wp V (cdT Ev) mx d 168 101 ls st h Q := x_goto rfl
theorem s_168_92 {a : Nat} : wp V (cdT Ev) mx d 168 92 [some (.ref a), l1, l2, l3] st h Q = wp V (cdT Ev) mx d 168 93 [some (.ref a), l1, l2, l3] (.ref a :: st) h Q := x_aload (len := 1) rfl rfl
theorem s_168_92_n : wp V (cdT Ev) mx d 168 92 [some .null, l1, l2, l3] st h Q = wp V (cdT Ev) mx d 168 93 [some .null, l1, l2, l3] (.null :: st) h Q := x_aloadN (len := 1) rfl rfl
theorem s_168_93 {x : Int32} : wp V (cdT Ev) mx d 168 93 [l0, l1, some (.int x), l3] st h Q = wp V (cdT Ev) mx d 168 94 [l0, l1, some (.int x), l3] (.int x :: st) h Q := x_iload (len := 1) rfl rfl
theorem s_168_94 : wp V (cdT Ev) mx d 168 94 ls st h Q = wp V (cdT Ev) mx d 168 96 ls ((.int (10)) :: st) h Q := x_push (v := (.int (10))) (len := 2) rfl
theorem s_168_96 {x z : Int32} : wp V (cdT Ev) mx d 168 96 ls (.int z :: .int x :: st) h Q = wp V (cdT Ev) mx d 168 97 ls (.int (x - z) :: st) h Q := x_ib (f := fun x z => x - z) rfl
theorem s_168_97 : wp V (cdT Ev) mx d 168 97 ls st h Q = wp V (cdT Ev) mx d 168 98 ls ((.int (2)) :: st) h Q := x_push (v := (.int (2))) (len := 1) rfl
theorem s_168_98 {b : Nat} {v0 v1 : Value} (hst : st.length ≤ 4) : wp V (cdT Ev) mx d 168 98 ls (v1 :: v0 :: .ref b :: st) h Q = cv [(12, 132)] h b (fun y' => WP V (cdT Ev) mx d y' [.ref b, v0, v1] h (fun r h' => wp V (cdT Ev) mx d 168 101 ls (rts r st) h' Q)) := x_cv (sg := [v1, v0]) rfl hst rfl rfl
theorem s_168_101 {x : Int32} (hn : nl l2 = true) : wp V (cdT Ev) mx d 168 101 [l0, l1, l2, l3] (.int x :: st) h Q = wp V (cdT Ev) mx d 168 102 [l0, l1, l2, some (.int x)] st h Q := x_istore (len := 1) rfl (Nat.le_of_ble_eq_true rfl) (okp_nl rfl hn) rfl
theorem s_168_102 {a : Nat} : wp V (cdT Ev) mx d 168 102 [some (.ref a), l1, l2, l3] st h Q = wp V (cdT Ev) mx d 168 103 [some (.ref a), l1, l2, l3] (.ref a :: st) h Q := x_aload (len := 1) rfl rfl
theorem s_168_102_n : wp V (cdT Ev) mx d 168 102 [some .null, l1, l2, l3] st h Q = wp V (cdT Ev) mx d 168 103 [some .null, l1, l2, l3] (.null :: st) h Q := x_aloadN (len := 1) rfl rfl
theorem s_168_103 {a : Nat} : wp V (cdT Ev) mx d 168 103 ls (.ref a :: st) h Q = gf [12] 1 h a (fun v => wp V (cdT Ev) mx d 168 106 ls (v :: st) h Q) := x_getf rfl
theorem s_168_106 {a : Nat} : wp V (cdT Ev) mx d 168 106 [some (.ref a), l1, l2, l3] st h Q = wp V (cdT Ev) mx d 168 107 [some (.ref a), l1, l2, l3] (.ref a :: st) h Q := x_aload (len := 1) rfl rfl
theorem s_168_106_n : wp V (cdT Ev) mx d 168 106 [some .null, l1, l2, l3] st h Q = wp V (cdT Ev) mx d 168 107 [some .null, l1, l2, l3] (.null :: st) h Q := x_aloadN (len := 1) rfl rfl
theorem s_168_107 {a : Nat} : wp V (cdT Ev) mx d 168 107 ls (.ref a :: st) h Q = gf [12] 0 h a (fun v => wp V (cdT Ev) mx d 168 110 ls (v :: st) h Q) := x_getf rfl
theorem s_168_110 {v0 v1 : Value} (hst : st.length ≤ 4) : wp V (cdT Ev) mx d 168 110 ls (v1 :: v0 :: st) h Q = WP V (cdT Ev) mx d 125 [v0, v1] h (fun r h' => wp V (cdT Ev) mx d 168 113 ls (rts r st) h' Q) := x_cs (sg := [v1, v0]) rfl hst rfl rfl
theorem s_168_113 {x : Int32} : wp V (cdT Ev) mx d 168 113 [l0, l1, l2, some (.int x)] st h Q = wp V (cdT Ev) mx d 168 114 [l0, l1, l2, some (.int x)] (.int x :: st) h Q := x_iload (len := 1) rfl rfl
theorem s_168_114 {x : Int32} : wp V (cdT Ev) mx d 168 114 ls [.int x] h Q = Q (some (.int x)) h := x_ret rfl rfl
theorem e_168 {a : Nat} {p0 : Int32} {p1 : Int32} : WP V (cdT Ev) mx (d + 1) 168 [.ref a, .int p0, .int p1] h Q = wp V (cdT Ev) mx d 168 0 [some (.ref a), some (.int p0), some (.int p1), none] [] h Q := propext (WP_eq (Nat.le_of_ble_eq_true rfl))
theorem s_169_0 {a : Nat} : wp V (cdT Ev) mx d 169 0 [some (.ref a), l1, l2, l3, l4, l5, l6] st h Q = wp V (cdT Ev) mx d 169 1 [some (.ref a), l1, l2, l3, l4, l5, l6] (.ref a :: st) h Q := x_aload (len := 1) rfl rfl
theorem s_169_0_n : wp V (cdT Ev) mx d 169 0 [some .null, l1, l2, l3, l4, l5, l6] st h Q = wp V (cdT Ev) mx d 169 1 [some .null, l1, l2, l3, l4, l5, l6] (.null :: st) h Q := x_aloadN (len := 1) rfl rfl
theorem s_169_1 {x : Int32} : wp V (cdT Ev) mx d 169 1 [l0, some (.int x), l2, l3, l4, l5, l6] st h Q = wp V (cdT Ev) mx d 169 2 [l0, some (.int x), l2, l3, l4, l5, l6] (.int x :: st) h Q := x_iload (len := 1) rfl rfl
theorem s_169_2 {b : Nat} {v0 : Value} (hst : st.length ≤ 4) : wp V (cdT Ev) mx d 169 2 ls (v0 :: .ref b :: st) h Q = cv [(12, 128)] h b (fun y' => WP V (cdT Ev) mx d y' [.ref b, v0] h (fun r h' => wp V (cdT Ev) mx d 169 5 ls (rts r st) h' Q)) := x_cv (sg := [v0]) rfl hst rfl rfl
theorem s_169_5 {x : Int32} : wp V (cdT Ev) mx d 169 5 ls (.int x :: st) h Q = (if x = 0 then wp V (cdT Ev) mx d 169 15 ls st h Q else wp V (cdT Ev) mx d 169 8 ls st h Q) := x_if1 (c := fun x => x = 0) rfl
theorem s_169_8 {x : Int32} : wp V (cdT Ev) mx d 169 8 [l0, l1, some (.int x), l3, l4, l5, l6] st h Q = wp V (cdT Ev) mx d 169 9 [l0, l1, some (.int x), l3, l4, l5, l6] (.int x :: st) h Q := x_iload (len := 1) rfl rfl
theorem s_169_9 {v0 : Value} (hst : st.length ≤ 4) : wp V (cdT Ev) mx d 169 9 ls (v0 :: st) h Q = WP V (cdT Ev) mx d 129 [v0] h (fun r h' => wp V (cdT Ev) mx d 169 12 ls (rts r st) h' Q) := x_cs (sg := [v0]) rfl hst rfl rfl
theorem s_169_12 {x : Int32} : wp V (cdT Ev) mx d 169 12 ls (.int x :: st) h Q = (if ¬ x = 0 then wp V (cdT Ev) mx d 169 17 ls st h Q else wp V (cdT Ev) mx d 169 15 ls st h Q) := x_if1 (c := fun x => ¬ x = 0) rfl
theorem s_169_15 : wp V (cdT Ev) mx d 169 15 ls st h Q = wp V (cdT Ev) mx d 169 16 ls ((.int (-1)) :: st) h Q := x_push (v := (.int (-1))) (len := 1) rfl
theorem s_169_16 {x : Int32} : wp V (cdT Ev) mx d 169 16 ls [.int x] h Q = Q (some (.int x)) h := x_ret rfl rfl
theorem s_169_17 {a : Nat} : wp V (cdT Ev) mx d 169 17 [some (.ref a), l1, l2, l3, l4, l5, l6] st h Q = wp V (cdT Ev) mx d 169 18 [some (.ref a), l1, l2, l3, l4, l5, l6] (.ref a :: st) h Q := x_aload (len := 1) rfl rfl
theorem s_169_17_n : wp V (cdT Ev) mx d 169 17 [some .null, l1, l2, l3, l4, l5, l6] st h Q = wp V (cdT Ev) mx d 169 18 [some .null, l1, l2, l3, l4, l5, l6] (.null :: st) h Q := x_aloadN (len := 1) rfl rfl
theorem s_169_18 {x : Int32} : wp V (cdT Ev) mx d 169 18 [l0, some (.int x), l2, l3, l4, l5, l6] st h Q = wp V (cdT Ev) mx d 169 19 [l0, some (.int x), l2, l3, l4, l5, l6] (.int x :: st) h Q := x_iload (len := 1) rfl rfl
theorem s_169_19 : wp V (cdT Ev) mx d 169 19 ls st h Q = wp V (cdT Ev) mx d 169 20 ls ((.int (2)) :: st) h Q := x_push (v := (.int (2))) (len := 1) rfl
theorem s_169_20 {b : Nat} {v0 v1 : Value} (hst : st.length ≤ 4) : wp V (cdT Ev) mx d 169 20 ls (v1 :: v0 :: .ref b :: st) h Q = cv [(12, 132)] h b (fun y' => WP V (cdT Ev) mx d y' [.ref b, v0, v1] h (fun r h' => wp V (cdT Ev) mx d 169 23 ls (rts r st) h' Q)) := x_cv (sg := [v1, v0]) rfl hst rfl rfl
theorem s_169_23 {x : Int32} (hn : nl l2 = true) : wp V (cdT Ev) mx d 169 23 [l0, l1, l2, l3, l4, l5, l6] (.int x :: st) h Q = wp V (cdT Ev) mx d 169 24 [l0, l1, l2, some (.int x), l4, l5, l6] st h Q := x_istore (len := 1) rfl (Nat.le_of_ble_eq_true rfl) (okp_nl rfl hn) rfl
theorem s_169_24 : wp V (cdT Ev) mx d 169 24 ls st h Q = wp V (cdT Ev) mx d 169 26 ls ((.int (-5)) :: st) h Q := x_push (v := (.int (-5))) (len := 2) rfl
theorem s_169_26 {x : Int32} (hn : nl l3 = true) : wp V (cdT Ev) mx d 169 26 [l0, l1, l2, l3, l4, l5, l6] (.int x :: st) h Q = wp V (cdT Ev) mx d 169 28 [l0, l1, l2, l3, some (.int x), l5, l6] st h Q := x_istore (len := 2) rfl (Nat.le_of_ble_eq_true rfl) (okp_nl rfl hn) rfl
theorem s_169_28 {a : Nat} : wp V (cdT Ev) mx d 169 28 [some (.ref a), l1, l2, l3, l4, l5, l6] st h Q = wp V (cdT Ev) mx d 169 29 [some (.ref a), l1, l2, l3, l4, l5, l6] (.ref a :: st) h Q := x_aload (len := 1) rfl rfl
theorem s_169_28_n : wp V (cdT Ev) mx d 169 28 [some .null, l1, l2, l3, l4, l5, l6] st h Q = wp V (cdT Ev) mx d 169 29 [some .null, l1, l2, l3, l4, l5, l6] (.null :: st) h Q := x_aloadN (len := 1) rfl rfl
theorem s_169_29 {x : Int32} : wp V (cdT Ev) mx d 169 29 [l0, some (.int x), l2, l3, l4, l5, l6] st h Q = wp V (cdT Ev) mx d 169 30 [l0, some (.int x), l2, l3, l4, l5, l6] (.int x :: st) h Q := x_iload (len := 1) rfl rfl
theorem s_169_30 {b : Nat} {v0 : Value} (hst : st.length ≤ 4) : wp V (cdT Ev) mx d 169 30 ls (v0 :: .ref b :: st) h Q = cv [(12, 155)] h b (fun y' => WP V (cdT Ev) mx d y' [.ref b, v0] h (fun r h' => wp V (cdT Ev) mx d 169 33 ls (rts r st) h' Q)) := x_cv (sg := [v0]) rfl hst rfl rfl
theorem s_169_33 : wp V (cdT Ev) mx d 169 33 ls st h Q = wp V (cdT Ev) mx d 169 34 ls ((.int (0)) :: st) h Q := x_push (v := (.int (0))) (len := 1) rfl
theorem s_169_34 {x : Int32} (hn : nl l4 = true) : wp V (cdT Ev) mx d 169 34 [l0, l1, l2, l3, l4, l5, l6] (.int x :: st) h Q = wp V (cdT Ev) mx d 169 36 [l0, l1, l2, l3, l4, some (.int x), l6] st h Q := x_istore (len := 2) rfl (Nat.le_of_ble_eq_true rfl) (okp_nl rfl hn) rfl
theorem s_169_36 {x : Int32} : wp V (cdT Ev) mx d 169 36 [l0, l1, l2, l3, l4, some (.int x), l6] st h Q = wp V (cdT Ev) mx d 169 38 [l0, l1, l2, l3, l4, some (.int x), l6] (.int x :: st) h Q := x_iload (len := 2) rfl rfl
theorem s_169_38 : wp V (cdT Ev) mx d 169 38 ls st h Q = wp V (cdT Ev) mx d 169 41 ls ((.int (4096)) :: st) h Q := x_push (v := (.int (4096))) (len := 3) rfl
theorem s_169_41 {x z : Int32} : wp V (cdT Ev) mx d 169 41 ls (.int z :: .int x :: st) h Q = (if z ≤ x then wp V (cdT Ev) mx d 169 118 ls st h Q else wp V (cdT Ev) mx d 169 44 ls st h Q) := x_if2 (c := fun x z => z ≤ x) rfl
theorem s_169_44 {x : Int32} : wp V (cdT Ev) mx d 169 44 [l0, l1, l2, some (.int x), l4, l5, l6] st h Q = wp V (cdT Ev) mx d 169 45 [l0, l1, l2, some (.int x), l4, l5, l6] (.int x :: st) h Q := x_iload (len := 1) rfl rfl
theorem s_169_45 {x : Int32} : wp V (cdT Ev) mx d 169 45 [l0, l1, some (.int x), l3, l4, l5, l6] st h Q = wp V (cdT Ev) mx d 169 46 [l0, l1, some (.int x), l3, l4, l5, l6] (.int x :: st) h Q := x_iload (len := 1) rfl rfl
theorem s_169_46 {x z : Int32} : wp V (cdT Ev) mx d 169 46 ls (.int z :: .int x :: st) h Q = wp V (cdT Ev) mx d 169 47 ls (.int (x >>> (z &&& 31)) :: st) h Q := x_ib (f := fun x z => x >>> (z &&& 31)) rfl
theorem s_169_47 : wp V (cdT Ev) mx d 169 47 ls st h Q = wp V (cdT Ev) mx d 169 48 ls ((.int (1)) :: st) h Q := x_push (v := (.int (1))) (len := 1) rfl
theorem s_169_48 {x z : Int32} : wp V (cdT Ev) mx d 169 48 ls (.int z :: .int x :: st) h Q = wp V (cdT Ev) mx d 169 49 ls (.int (x &&& z) :: st) h Q := x_ib (f := fun x z => x &&& z) rfl
theorem s_169_49 : wp V (cdT Ev) mx d 169 49 ls st h Q = wp V (cdT Ev) mx d 169 50 ls ((.int (1)) :: st) h Q := x_push (v := (.int (1))) (len := 1) rfl
theorem s_169_50 {x z : Int32} : wp V (cdT Ev) mx d 169 50 ls (.int z :: .int x :: st) h Q = (if ¬ x = z then wp V (cdT Ev) mx d 169 118 ls st h Q else wp V (cdT Ev) mx d 169 53 ls st h Q) := x_if2 (c := fun x z => ¬ x = z) rfl
theorem s_169_53 {x : Int32} : wp V (cdT Ev) mx d 169 53 [l0, l1, l2, l3, l4, some (.int x), l6] st h Q = wp V (cdT Ev) mx d 169 55 [l0, l1, l2, l3, l4, some (.int x), l6] (.int x :: st) h Q := x_iload (len := 2) rfl rfl
theorem s_169_55 {x : Int32} : wp V (cdT Ev) mx d 169 55 [l0, l1, l2, some (.int x), l4, l5, l6] st h Q = wp V (cdT Ev) mx d 169 56 [l0, l1, l2, some (.int x), l4, l5, l6] (.int x :: st) h Q := x_iload (len := 1) rfl rfl
theorem s_169_56 {x z : Int32} : wp V (cdT Ev) mx d 169 56 ls (.int z :: .int x :: st) h Q = wp V (cdT Ev) mx d 169 57 ls (.int (x &&& z) :: st) h Q := x_ib (f := fun x z => x &&& z) rfl
theorem s_169_57 {x : Int32} : wp V (cdT Ev) mx d 169 57 ls (.int x :: st) h Q = (if ¬ x = 0 then wp V (cdT Ev) mx d 169 112 ls st h Q else wp V (cdT Ev) mx d 169 60 ls st h Q) := x_if1 (c := fun x => ¬ x = 0) rfl
theorem s_169_60 {x : Int32} : wp V (cdT Ev) mx d 169 60 [l0, l1, l2, l3, some (.int x), l5, l6] st h Q = wp V (cdT Ev) mx d 169 62 [l0, l1, l2, l3, some (.int x), l5, l6] (.int x :: st) h Q := x_iload (len := 2) rfl rfl
theorem s_169_62 : wp V (cdT Ev) mx d 169 62 ls st h Q = wp V (cdT Ev) mx d 169 64 ls ((.int (-5)) :: st) h Q := x_push (v := (.int (-5))) (len := 2) rfl
theorem s_169_64 {x z : Int32} : wp V (cdT Ev) mx d 169 64 ls (.int z :: .int x :: st) h Q = (if x = z then wp V (cdT Ev) mx d 169 80 ls st h Q else wp V (cdT Ev) mx d 169 67 ls st h Q) := x_if2 (c := fun x z => x = z) rfl
theorem s_169_67 {x : Int32} : wp V (cdT Ev) mx d 169 67 [l0, l1, l2, l3, l4, some (.int x), l6] st h Q = wp V (cdT Ev) mx d 169 69 [l0, l1, l2, l3, l4, some (.int x), l6] (.int x :: st) h Q := x_iload (len := 2) rfl rfl
theorem s_169_69 {v0 : Value} (hst : st.length ≤ 4) : wp V (cdT Ev) mx d 169 69 ls (v0 :: st) h Q = WP V (cdT Ev) mx d 131 [v0] h (fun r h' => wp V (cdT Ev) mx d 169 72 ls (rts r st) h' Q) := x_cs (sg := [v0]) rfl hst rfl rfl
theorem s_169_72 {x : Int32} : wp V (cdT Ev) mx d 169 72 [l0, l1, l2, l3, some (.int x), l5, l6] st h Q = wp V (cdT Ev) mx d 169 74 [l0, l1, l2, l3, some (.int x), l5, l6] (.int x :: st) h Q := x_iload (len := 2) rfl rfl
theorem s_169_74 {v0 : Value} (hst : st.length ≤ 4) : wp V (cdT Ev) mx d 169 74 ls (v0 :: st) h Q = WP V (cdT Ev) mx d 131 [v0] h (fun r h' => wp V (cdT Ev) mx d 169 77 ls (rts r st) h' Q) := x_cs (sg := [v0]) rfl hst rfl rfl
theorem s_169_77 {x z : Int32} : wp V (cdT Ev) mx d 169 77 ls (.int z :: .int x :: st) h Q = (if z ≤ x then wp V (cdT Ev) mx d 169 112 ls st h Q else wp V (cdT Ev) mx d 169 80 ls st h Q) := x_if2 (c := fun x z => z ≤ x) rfl
theorem s_169_80 {a : Nat} : wp V (cdT Ev) mx d 169 80 [some (.ref a), l1, l2, l3, l4, l5, l6] st h Q = wp V (cdT Ev) mx d 169 81 [some (.ref a), l1, l2, l3, l4, l5, l6] (.ref a :: st) h Q := x_aload (len := 1) rfl rfl
theorem s_169_80_n : wp V (cdT Ev) mx d 169 80 [some .null, l1, l2, l3, l4, l5, l6] st h Q = wp V (cdT Ev) mx d 169 81 [some .null, l1, l2, l3, l4, l5, l6] (.null :: st) h Q := x_aloadN (len := 1) rfl rfl
theorem s_169_81 {x : Int32} : wp V (cdT Ev) mx d 169 81 [l0, some (.int x), l2, l3, l4, l5, l6] st h Q = wp V (cdT Ev) mx d 169 82 [l0, some (.int x), l2, l3, l4, l5, l6] (.int x :: st) h Q := x_iload (len := 1) rfl rfl
theorem s_169_82 {x : Int32} : wp V (cdT Ev) mx d 169 82 [l0, l1, l2, some (.int x), l4, l5, l6] st h Q = wp V (cdT Ev) mx d 169 83 [l0, l1, l2, some (.int x), l4, l5, l6] (.int x :: st) h Q := x_iload (len := 1) rfl rfl
theorem s_169_83 {x : Int32} : wp V (cdT Ev) mx d 169 83 [l0, l1, l2, l3, l4, some (.int x), l6] st h Q = wp V (cdT Ev) mx d 169 85 [l0, l1, l2, l3, l4, some (.int x), l6] (.int x :: st) h Q := x_iload (len := 2) rfl rfl
theorem s_169_85 {x z : Int32} : wp V (cdT Ev) mx d 169 85 ls (.int z :: .int x :: st) h Q = wp V (cdT Ev) mx d 169 86 ls (.int (x ||| z) :: st) h Q := x_ib (f := fun x z => x ||| z) rfl
theorem s_169_86 {b : Nat} {v0 v1 : Value} (hst : st.length ≤ 4) : wp V (cdT Ev) mx d 169 86 ls (v1 :: v0 :: .ref b :: st) h Q = cv [(12, 156)] h b (fun y' => WP V (cdT Ev) mx d y' [.ref b, v0, v1] h (fun r h' => wp V (cdT Ev) mx d 169 89 ls (rts r st) h' Q)) := x_cv (sg := [v1, v0]) rfl hst rfl rfl
theorem s_169_89 {x : Int32} (hn : nl l5 = true) : wp V (cdT Ev) mx d 169 89 [l0, l1, l2, l3, l4, l5, l6] (.int x :: st) h Q = wp V (cdT Ev) mx d 169 91 [l0, l1, l2, l3, l4, l5, some (.int x)] st h Q := x_istore (len := 2) rfl (Nat.le_of_ble_eq_true rfl) (okp_nl rfl hn) rfl
theorem s_169_91 {x : Int32} : wp V (cdT Ev) mx d 169 91 [l0, l1, l2, l3, l4, l5, some (.int x)] st h Q = wp V (cdT Ev) mx d 169 93 [l0, l1, l2, l3, l4, l5, some (.int x)] (.int x :: st) h Q := x_iload (len := 2) rfl rfl
theorem s_169_93 : wp V (cdT Ev) mx d 169 93 ls st h Q = wp V (cdT Ev) mx d 169 94 ls ((.int (-1)) :: st) h Q := x_push (v := (.int (-1))) (len := 1) rfl
theorem s_169_94 {x z : Int32} : wp V (cdT Ev) mx d 169 94 ls (.int z :: .int x :: st) h Q = (if x = z then wp V (cdT Ev) mx d 169 108 ls st h Q else wp V (cdT Ev) mx d 169 97 ls st h Q) := x_if2 (c := fun x z => x = z) rfl
theorem s_169_97 {x : Int32} : wp V (cdT Ev) mx d 169 97 [l0, l1, l2, l3, l4, l5, some (.int x)] st h Q = wp V (cdT Ev) mx d 169 99 [l0, l1, l2, l3, l4, l5, some (.int x)] (.int x :: st) h Q := x_iload (len := 2) rfl rfl
theorem s_169_99 {x : Int32} : wp V (cdT Ev) mx d 169 99 [l0, l1, some (.int x), l3, l4, l5, l6] st h Q = wp V (cdT Ev) mx d 169 100 [l0, l1, some (.int x), l3, l4, l5, l6] (.int x :: st) h Q := x_iload (len := 1) rfl rfl
theorem s_169_100 {x z : Int32} : wp V (cdT Ev) mx d 169 100 ls (.int z :: .int x :: st) h Q = (if x = z then wp V (cdT Ev) mx d 169 108 ls st h Q else wp V (cdT Ev) mx d 169 103 ls st h Q) := x_if2 (c := fun x z => x = z) rfl
theorem s_169_103 {x : Int32} : wp V (cdT Ev) mx d 169 103 [l0, l1, l2, l3, l4, some (.int x), l6] st h Q = wp V (cdT Ev) mx d 169 105 [l0, l1, l2, l3, l4, some (.int x), l6] (.int x :: st) h Q := x_iload (len := 2) rfl rfl
theorem s_169_105 : wp V (cdT Ev) mx d 169 105 ls st h Q = wp V (cdT Ev) mx d 169 110 ls st h Q := x_goto rfl
theorem s_169_108 {x : Int32} : wp V (cdT Ev) mx d 169 108 [l0, l1, l2, l3, some (.int x), l5, l6] st h Q = wp V (cdT Ev) mx d 169 110 [l0, l1, l2, l3, some (.int x), l5, l6] (.int x :: st) h Q := x_iload (len := 2) rfl rfl
theorem s_169_110 {x : Int32} (hn : nl l3 = true) : wp V (cdT Ev) mx d 169 110 [l0, l1, l2, l3, l4, l5, l6] (.int x :: st) h Q = wp V (cdT Ev) mx d 169 112 [l0, l1, l2, l3, some (.int x), l5, l6] st h Q := x_istore (len := 2) rfl (Nat.le_of_ble_eq_true rfl) (okp_nl rfl hn) rfl
theorem s_169_112 {x : Int32} : wp V (cdT Ev) mx d 169 112 [l0, l1, l2, l3, l4, some (.int x), l6] st h Q = wp V (cdT Ev) mx d 169 115 [l0, l1, l2, l3, l4, some (.int (x + (1))), l6] st h Q := x_iinc rfl rfl rfl
theorem s_169_115 : wp V (cdT Ev) mx d 169 115 ls st h Q = wp V (cdT Ev) mx d 169 36 ls st h Q := x_goto rfl
theorem s_169_118 {x : Int32} : wp V (cdT Ev) mx d 169 118 [l0, l1, l2, l3, some (.int x), l5, l6] st h Q = wp V (cdT Ev) mx d 169 120 [l0, l1, l2, l3, some (.int x), l5, l6] (.int x :: st) h Q := x_iload (len := 2) rfl rfl
theorem s_169_120 {x : Int32} : wp V (cdT Ev) mx d 169 120 ls [.int x] h Q = Q (some (.int x)) h := x_ret rfl rfl
theorem e_169 {a : Nat} {p0 : Int32} {p1 : Int32} : WP V (cdT Ev) mx (d + 1) 169 [.ref a, .int p0, .int p1] h Q = wp V (cdT Ev) mx d 169 0 [some (.ref a), some (.int p0), some (.int p1), none, none, none, none] [] h Q := propext (WP_eq (Nat.le_of_ble_eq_true rfl))
theorem s_170_0 {x : Int32} : wp V (cdT Ev) mx d 170 0 [l0, some (.int x), l2, l3] st h Q = wp V (cdT Ev) mx d 170 1 [l0, some (.int x), l2, l3] (.int x :: st) h Q := x_iload (len := 1) rfl rfl
theorem s_170_1 : wp V (cdT Ev) mx d 170 1 ls st h Q = wp V (cdT Ev) mx d 170 2 ls ((.int (-1)) :: st) h Q := x_push (v := (.int (-1))) (len := 1) rfl
theorem s_170_2 {x z : Int32} : wp V (cdT Ev) mx d 170 2 ls (.int z :: .int x :: st) h Q = (if ¬ x = z then wp V (cdT Ev) mx d 170 15 ls st h Q else wp V (cdT Ev) mx d 170 5 ls st h Q) := x_if2 (c := fun x z => ¬ x = z) rfl
theorem s_170_5 {a : Nat} : wp V (cdT Ev) mx d 170 5 [some (.ref a), l1, l2, l3] st h Q = wp V (cdT Ev) mx d 170 6 [some (.ref a), l1, l2, l3] (.ref a :: st) h Q := x_aload (len := 1) rfl rfl
theorem s_170_5_n : wp V (cdT Ev) mx d 170 5 [some .null, l1, l2, l3] st h Q = wp V (cdT Ev) mx d 170 6 [some .null, l1, l2, l3] (.null :: st) h Q := x_aloadN (len := 1) rfl rfl
theorem s_170_6 {a : Nat} : wp V (cdT Ev) mx d 170 6 ls (.ref a :: st) h Q = gf [12] 0 h a (fun v => wp V (cdT Ev) mx d 170 9 ls (v :: st) h Q) := x_getf rfl
theorem s_170_9 : wp V (cdT Ev) mx d 170 9 ls st h Q = wp V (cdT Ev) mx d 170 11 ls ((.int (71)) :: st) h Q := x_push (v := (.int (71))) (len := 2) rfl
theorem s_170_11 : wp V (cdT Ev) mx d 170 11 ls st h Q = wp V (cdT Ev) mx d 170 12 ls ((.int (0)) :: st) h Q := x_push (v := (.int (0))) (len := 1) rfl
theorem s_170_12 {x i : Int32} {a : Nat} : wp V (cdT Ev) mx d 170 12 ls (.int x :: .int i :: .ref a :: st) h Q = si 2 i (x) h a (fun hh => wp V (cdT Ev) mx d 170 13 ls st hh Q) := x_iast (nw := fun x => x) rfl
theorem s_170_13 : wp V (cdT Ev) mx d 170 13 ls st h Q = wp V (cdT Ev) mx d 170 14 ls ((.int (0)) :: st) h Q := x_push (v := (.int (0))) (len := 1) rfl
theorem s_170_14 {x : Int32} : wp V (cdT Ev) mx d 170 14 ls [.int x] h Q = Q (some (.int x)) h := x_ret rfl rfl
theorem s_170_15 {a : Nat} : wp V (cdT Ev) mx d 170 15 [some (.ref a), l1, l2, l3] st h Q = wp V (cdT Ev) mx d 170 16 [some (.ref a), l1, l2, l3] (.ref a :: st) h Q := x_aload (len := 1) rfl rfl
theorem s_170_15_n : wp V (cdT Ev) mx d 170 15 [some .null, l1, l2, l3] st h Q = wp V (cdT Ev) mx d 170 16 [some .null, l1, l2, l3] (.null :: st) h Q := x_aloadN (len := 1) rfl rfl
theorem s_170_16 {x : Int32} : wp V (cdT Ev) mx d 170 16 [l0, some (.int x), l2, l3] st h Q = wp V (cdT Ev) mx d 170 17 [l0, some (.int x), l2, l3] (.int x :: st) h Q := x_iload (len := 1) rfl rfl
theorem s_170_17 {b : Nat} {v0 : Value} (hst : st.length ≤ 4) : wp V (cdT Ev) mx d 170 17 ls (v0 :: .ref b :: st) h Q = cv [(12, 128)] h b (fun y' => WP V (cdT Ev) mx d y' [.ref b, v0] h (fun r h' => wp V (cdT Ev) mx d 170 20 ls (rts r st) h' Q)) := x_cv (sg := [v0]) rfl hst rfl rfl
theorem s_170_20 {x : Int32} : wp V (cdT Ev) mx d 170 20 ls (.int x :: st) h Q = (if x = 0 then wp V (cdT Ev) mx d 170 33 ls st h Q else wp V (cdT Ev) mx d 170 23 ls st h Q) := x_if1 (c := fun x => x = 0) rfl
theorem s_170_23 {x : Int32} : wp V (cdT Ev) mx d 170 23 [l0, l1, some (.int x), l3] st h Q = wp V (cdT Ev) mx d 170 24 [l0, l1, some (.int x), l3] (.int x :: st) h Q := x_iload (len := 1) rfl rfl
theorem s_170_24 : wp V (cdT Ev) mx d 170 24 ls st h Q = wp V (cdT Ev) mx d 170 25 ls ((.int (-1)) :: st) h Q := x_push (v := (.int (-1))) (len := 1) rfl
theorem s_170_25 : wp V (cdT Ev) mx d 170 25 ls st h Q = wp V (cdT Ev) mx d 170 27 ls ((.int (11)) :: st) h Q := x_push (v := (.int (11))) (len := 2) rfl
theorem s_170_27 {v0 v1 v2 : Value} (hst : st.length ≤ 4) : wp V (cdT Ev) mx d 170 27 ls (v2 :: v1 :: v0 :: st) h Q = WP V (cdT Ev) mx d 123 [v0, v1, v2] h (fun r h' => wp V (cdT Ev) mx d 170 30 ls (rts r st) h' Q) := x_cs (sg := [v2, v1, v0]) rfl hst rfl rfl
theorem s_170_30 {x : Int32} : wp V (cdT Ev) mx d 170 30 ls (.int x :: st) h Q = (if ¬ x = 0 then wp V (cdT Ev) mx d 170 35 ls st h Q else wp V (cdT Ev) mx d 170 33 ls st h Q) := x_if1 (c := fun x => ¬ x = 0) rfl
theorem s_170_33 : wp V (cdT Ev) mx d 170 33 ls st h Q = wp V (cdT Ev) mx d 170 34 ls ((.int (-1)) :: st) h Q := x_push (v := (.int (-1))) (len := 1) rfl
theorem s_170_34 {x : Int32} : wp V (cdT Ev) mx d 170 34 ls [.int x] h Q = Q (some (.int x)) h := x_ret rfl rfl
theorem s_170_35 {a : Nat} : wp V (cdT Ev) mx d 170 35 [some (.ref a), l1, l2, l3] st h Q = wp V (cdT Ev) mx d 170 36 [some (.ref a), l1, l2, l3] (.ref a :: st) h Q := x_aload (len := 1) rfl rfl
theorem s_170_35_n : wp V (cdT Ev) mx d 170 35 [some .null, l1, l2, l3] st h Q = wp V (cdT Ev) mx d 170 36 [some .null, l1, l2, l3] (.null :: st) h Q := x_aloadN (len := 1) rfl rfl
theorem s_170_36 {a : Nat} : wp V (cdT Ev) mx d 170 36 ls (.ref a :: st) h Q = gf [12] 0 h a (fun v => wp V (cdT Ev) mx d 170 39 ls (v :: st) h Q) := x_getf rfl
theorem s_170_39 : wp V (cdT Ev) mx d 170 39 ls st h Q = wp V (cdT Ev) mx d 170 41 ls ((.int (71)) :: st) h Q := x_push (v := (.int (71))) (len := 2) rfl
theorem s_170_41 {i : Int32} {a : Nat} : wp V (cdT Ev) mx d 170 41 ls (.int i :: .ref a :: st) h Q = ai 2 i V h a (fun x => wp V (cdT Ev) mx d 170 42 ls (.int x :: st) h Q) := x_iald rfl
theorem s_170_42 : wp V (cdT Ev) mx d 170 42 ls st h Q = wp V (cdT Ev) mx d 170 43 ls ((.int (5)) :: st) h Q := x_push (v := (.int (5))) (len := 1) rfl
theorem s_170_43 {x z : Int32} : wp V (cdT Ev) mx d 170 43 ls (.int z :: .int x :: st) h Q = (if ¬ x = z then wp V (cdT Ev) mx d 170 49 ls st h Q else wp V (cdT Ev) mx d 170 46 ls st h Q) := x_if2 (c := fun x z => ¬ x = z) rfl
theorem s_170_46 : wp V (cdT Ev) mx d 170 46 ls st h Q = wp V (cdT Ev) mx d 170 48 ls ((.int (-4)) :: st) h Q := x_push (v := (.int (-4))) (len := 2) rfl
theorem s_170_48 {x : Int32} : wp V (cdT Ev) mx d 170 48 ls [.int x] h Q = Q (some (.int x)) h := x_ret rfl rfl
theorem s_170_49 : wp V (cdT Ev) mx d 170 49 ls st h Q = wp V (cdT Ev) mx d 170 51 ls ((.int (72)) :: st) h Q := x_push (v := (.int (72))) (len := 2) rfl
theorem s_170_51 : wp V (cdT Ev) mx d 170 51 ls st h Q = wp V (cdT Ev) mx d 170 52 ls ((.int (2)) :: st) h Q := x_push (v := (.int (2))) (len := 1) rfl
theorem s_170_52 {a : Nat} : wp V (cdT Ev) mx d 170 52 [some (.ref a), l1, l2, l3] st h Q = wp V (cdT Ev) mx d 170 53 [some (.ref a), l1, l2, l3] (.ref a :: st) h Q := x_aload (len := 1) rfl rfl
theorem s_170_52_n : wp V (cdT Ev) mx d 170 52 [some .null, l1, l2, l3] st h Q = wp V (cdT Ev) mx d 170 53 [some .null, l1, l2, l3] (.null :: st) h Q := x_aloadN (len := 1) rfl rfl
theorem s_170_53 {a : Nat} : wp V (cdT Ev) mx d 170 53 ls (.ref a :: st) h Q = gf [12] 0 h a (fun v => wp V (cdT Ev) mx d 170 56 ls (v :: st) h Q) := x_getf rfl
theorem s_170_56 : wp V (cdT Ev) mx d 170 56 ls st h Q = wp V (cdT Ev) mx d 170 58 ls ((.int (71)) :: st) h Q := x_push (v := (.int (71))) (len := 2) rfl
theorem s_170_58 {i : Int32} {a : Nat} : wp V (cdT Ev) mx d 170 58 ls (.int i :: .ref a :: st) h Q = ai 2 i V h a (fun x => wp V (cdT Ev) mx d 170 59 ls (.int x :: st) h Q) := x_iald rfl
theorem s_170_59 {x z : Int32} : wp V (cdT Ev) mx d 170 59 ls (.int z :: .int x :: st) h Q = wp V (cdT Ev) mx d 170 60 ls (.int (x * z) :: st) h Q := x_ib (f := fun x z => x * z) rfl
theorem s_170_60 {x z : Int32} : wp V (cdT Ev) mx d 170 60 ls (.int z :: .int x :: st) h Q = wp V (cdT Ev) mx d 170 61 ls (.int (x + z) :: st) h Q := x_ib (f := fun x z => x + z) rfl
theorem s_170_61 {x : Int32} (hn : nl l2 = true) : wp V (cdT Ev) mx d 170 61 [l0, l1, l2, l3] (.int x :: st) h Q = wp V (cdT Ev) mx d 170 62 [l0, l1, l2, some (.int x)] st h Q := x_istore (len := 1) rfl (Nat.le_of_ble_eq_true rfl) (okp_nl rfl hn) rfl
theorem s_170_62 {a : Nat} : wp V (cdT Ev) mx d 170 62 [some (.ref a), l1, l2, l3] st h Q = wp V (cdT Ev) mx d 170 63 [some (.ref a), l1, l2, l3] (.ref a :: st) h Q := x_aload (len := 1) rfl rfl
theorem s_170_62_n : wp V (cdT Ev) mx d 170 62 [some .null, l1, l2, l3] st h Q = wp V (cdT Ev) mx d 170 63 [some .null, l1, l2, l3] (.null :: st) h Q := x_aloadN (len := 1) rfl rfl
theorem s_170_63 {a : Nat} : wp V (cdT Ev) mx d 170 63 ls (.ref a :: st) h Q = gf [12] 0 h a (fun v => wp V (cdT Ev) mx d 170 66 ls (v :: st) h Q) := x_getf rfl
theorem s_170_66 {x : Int32} : wp V (cdT Ev) mx d 170 66 [l0, l1, l2, some (.int x)] st h Q = wp V (cdT Ev) mx d 170 67 [l0, l1, l2, some (.int x)] (.int x :: st) h Q := x_iload (len := 1) rfl rfl
theorem s_170_67 {x : Int32} : wp V (cdT Ev) mx d 170 67 [l0, some (.int x), l2, l3] st h Q = wp V (cdT Ev) mx d 170 68 [l0, some (.int x), l2, l3] (.int x :: st) h Q := x_iload (len := 1) rfl rfl
theorem s_170_68 {x i : Int32} {a : Nat} : wp V (cdT Ev) mx d 170 68 ls (.int x :: .int i :: .ref a :: st) h Q = si 2 i (x) h a (fun hh => wp V (cdT Ev) mx d 170 69 ls st hh Q) := x_iast (nw := fun x => x) rfl
theorem s_170_69 {a : Nat} : wp V (cdT Ev) mx d 170 69 [some (.ref a), l1, l2, l3] st h Q = wp V (cdT Ev) mx d 170 70 [some (.ref a), l1, l2, l3] (.ref a :: st) h Q := x_aload (len := 1) rfl rfl
theorem s_170_69_n : wp V (cdT Ev) mx d 170 69 [some .null, l1, l2, l3] st h Q = wp V (cdT Ev) mx d 170 70 [some .null, l1, l2, l3] (.null :: st) h Q := x_aloadN (len := 1) rfl rfl
theorem s_170_70 {a : Nat} : wp V (cdT Ev) mx d 170 70 ls (.ref a :: st) h Q = gf [12] 0 h a (fun v => wp V (cdT Ev) mx d 170 73 ls (v :: st) h Q) := x_getf rfl
theorem s_170_73 {x : Int32} : wp V (cdT Ev) mx d 170 73 [l0, l1, l2, some (.int x)] st h Q = wp V (cdT Ev) mx d 170 74 [l0, l1, l2, some (.int x)] (.int x :: st) h Q := x_iload (len := 1) rfl rfl
theorem s_170_74 : wp V (cdT Ev) mx d 170 74 ls st h Q = wp V (cdT Ev) mx d 170 75 ls ((.int (1)) :: st) h Q := x_push (v := (.int (1))) (len := 1) rfl
theorem s_170_75 {x z : Int32} : wp V (cdT Ev) mx d 170 75 ls (.int z :: .int x :: st) h Q = wp V (cdT Ev) mx d 170 76 ls (.int (x + z) :: st) h Q := x_ib (f := fun x z => x + z) rfl
theorem s_170_76 {x : Int32} : wp V (cdT Ev) mx d 170 76 [l0, l1, some (.int x), l3] st h Q = wp V (cdT Ev) mx d 170 77 [l0, l1, some (.int x), l3] (.int x :: st) h Q := x_iload (len := 1) rfl rfl
theorem s_170_77 {x i : Int32} {a : Nat} : wp V (cdT Ev) mx d 170 77 ls (.int x :: .int i :: .ref a :: st) h Q = si 2 i (x) h a (fun hh => wp V (cdT Ev) mx d 170 78 ls st hh Q) := x_iast (nw := fun x => x) rfl
theorem s_170_78 {a : Nat} : wp V (cdT Ev) mx d 170 78 [some (.ref a), l1, l2, l3] st h Q = wp V (cdT Ev) mx d 170 79 [some (.ref a), l1, l2, l3] (.ref a :: st) h Q := x_aload (len := 1) rfl rfl
theorem s_170_78_n : wp V (cdT Ev) mx d 170 78 [some .null, l1, l2, l3] st h Q = wp V (cdT Ev) mx d 170 79 [some .null, l1, l2, l3] (.null :: st) h Q := x_aloadN (len := 1) rfl rfl
theorem s_170_79 {a : Nat} : wp V (cdT Ev) mx d 170 79 ls (.ref a :: st) h Q = gf [12] 0 h a (fun v => wp V (cdT Ev) mx d 170 82 ls (v :: st) h Q) := x_getf rfl
theorem s_170_82 : wp V (cdT Ev) mx d 170 82 ls st h Q = wp V (cdT Ev) mx d 170 84 ls ((.int (71)) :: st) h Q := x_push (v := (.int (71))) (len := 2) rfl
theorem s_170_84 {x : Int32} {a : Nat} : wp V (cdT Ev) mx d 170 84 ls (.int x :: .ref a :: st) h Q = wp V (cdT Ev) mx d 170 85 ls (.int x :: .ref a :: .int x :: .ref a :: st) h Q := x_dup2 rfl rfl rfl
theorem s_170_85 {i : Int32} {a : Nat} : wp V (cdT Ev) mx d 170 85 ls (.int i :: .ref a :: st) h Q = ai 2 i V h a (fun x => wp V (cdT Ev) mx d 170 86 ls (.int x :: st) h Q) := x_iald rfl
theorem s_170_86 : wp V (cdT Ev) mx d 170 86 ls st h Q = wp V (cdT Ev) mx d 170 87 ls ((.int (1)) :: st) h Q := x_push (v := (.int (1))) (len := 1) rfl
theorem s_170_87 {x z : Int32} : wp V (cdT Ev) mx d 170 87 ls (.int z :: .int x :: st) h Q = wp V (cdT Ev) mx d 170 88 ls (.int (x + z) :: st) h Q := x_ib (f := fun x z => x + z) rfl
theorem s_170_88 {x i : Int32} {a : Nat} : wp V (cdT Ev) mx d 170 88 ls (.int x :: .int i :: .ref a :: st) h Q = si 2 i (x) h a (fun hh => wp V (cdT Ev) mx d 170 89 ls st hh Q) := x_iast (nw := fun x => x) rfl
theorem s_170_89 {a : Nat} : wp V (cdT Ev) mx d 170 89 [some (.ref a), l1, l2, l3] st h Q = wp V (cdT Ev) mx d 170 90 [some (.ref a), l1, l2, l3] (.ref a :: st) h Q := x_aload (len := 1) rfl rfl
theorem s_170_89_n : wp V (cdT Ev) mx d 170 89 [some .null, l1, l2, l3] st h Q = wp V (cdT Ev) mx d 170 90 [some .null, l1, l2, l3] (.null :: st) h Q := x_aloadN (len := 1) rfl rfl
theorem s_170_90 {a : Nat} : wp V (cdT Ev) mx d 170 90 ls (.ref a :: st) h Q = gf [12] 0 h a (fun v => wp V (cdT Ev) mx d 170 93 ls (v :: st) h Q) := x_getf rfl
theorem s_170_93 : wp V (cdT Ev) mx d 170 93 ls st h Q = wp V (cdT Ev) mx d 170 95 ls ((.int (71)) :: st) h Q := x_push (v := (.int (71))) (len := 2) rfl
theorem s_170_95 {i : Int32} {a : Nat} : wp V (cdT Ev) mx d 170 95 ls (.int i :: .ref a :: st) h Q = ai 2 i V h a (fun x => wp V (cdT Ev) mx d 170 96 ls (.int x :: st) h Q) := x_iald rfl
theorem s_170_96 {x : Int32} : wp V (cdT Ev) mx d 170 96 ls [.int x] h Q = Q (some (.int x)) h := x_ret rfl rfl
theorem e_170 {a : Nat} {p0 : Int32} {p1 : Int32} : WP V (cdT Ev) mx (d + 1) 170 [.ref a, .int p0, .int p1] h Q = wp V (cdT Ev) mx d 170 0 [some (.ref a), some (.int p0), some (.int p1), none] [] h Q := propext (WP_eq (Nat.le_of_ble_eq_true rfl))
theorem s_171_0 : wp V (cdT Ev) mx d 171 0 ls st h Q = wp V (cdT Ev) mx d 171 1 ls ((.int (1)) :: st) h Q := x_push (v := (.int (1))) (len := 1) rfl
theorem s_171_1 {x : Int32} (hn : nl l2 = true) : wp V (cdT Ev) mx d 171 1 [l0, l1, l2, l3, l4, l5] (.int x :: st) h Q = wp V (cdT Ev) mx d 171 2 [l0, l1, l2, some (.int x), l4, l5] st h Q := x_istore (len := 1) rfl (Nat.le_of_ble_eq_true rfl) (okp_nl rfl hn) rfl
theorem s_171_2 : wp V (cdT Ev) mx d 171 2 ls st h Q = wp V (cdT Ev) mx d 171 3 ls ((.int (0)) :: st) h Q := x_push (v := (.int (0))) (len := 1) rfl
theorem s_171_3 {x : Int32} (hn : nl l3 = true) : wp V (cdT Ev) mx d 171 3 [l0, l1, l2, l3, l4, l5] (.int x :: st) h Q = wp V (cdT Ev) mx d 171 5 [l0, l1, l2, l3, some (.int x), l5] st h Q := x_istore (len := 2) rfl (Nat.le_of_ble_eq_true rfl) (okp_nl rfl hn) rfl
theorem s_171_5 {x : Int32} : wp V (cdT Ev) mx d 171 5 [l0, l1, l2, l3, some (.int x), l5] st h Q = wp V (cdT Ev) mx d 171 7 [l0, l1, l2, l3, some (.int x), l5] (.int x :: st) h Q := x_iload (len := 2) rfl rfl
theorem s_171_7 {a : Nat} : wp V (cdT Ev) mx d 171 7 [some (.ref a), l1, l2, l3, l4, l5] st h Q = wp V (cdT Ev) mx d 171 8 [some (.ref a), l1, l2, l3, l4, l5] (.ref a :: st) h Q := x_aload (len := 1) rfl rfl
theorem s_171_7_n : wp V (cdT Ev) mx d 171 7 [some .null, l1, l2, l3, l4, l5] st h Q = wp V (cdT Ev) mx d 171 8 [some .null, l1, l2, l3, l4, l5] (.null :: st) h Q := x_aloadN (len := 1) rfl rfl
theorem s_171_8 {a : Nat} : wp V (cdT Ev) mx d 171 8 ls (.ref a :: st) h Q = gf [12] 0 h a (fun v => wp V (cdT Ev) mx d 171 11 ls (v :: st) h Q) := x_getf rfl
theorem s_171_11 : wp V (cdT Ev) mx d 171 11 ls st h Q = wp V (cdT Ev) mx d 171 13 ls ((.int (71)) :: st) h Q := x_push (v := (.int (71))) (len := 2) rfl
theorem s_171_13 {i : Int32} {a : Nat} : wp V (cdT Ev) mx d 171 13 ls (.int i :: .ref a :: st) h Q = ai 2 i V h a (fun x => wp V (cdT Ev) mx d 171 14 ls (.int x :: st) h Q) := x_iald rfl
theorem s_171_14 {x z : Int32} : wp V (cdT Ev) mx d 171 14 ls (.int z :: .int x :: st) h Q = (if z ≤ x then wp V (cdT Ev) mx d 171 66 ls st h Q else wp V (cdT Ev) mx d 171 17 ls st h Q) := x_if2 (c := fun x z => z ≤ x) rfl
theorem s_171_17 : wp V (cdT Ev) mx d 171 17 ls st h Q = wp V (cdT Ev) mx d 171 19 ls ((.int (72)) :: st) h Q := x_push (v := (.int (72))) (len := 2) rfl
theorem s_171_19 : wp V (cdT Ev) mx d 171 19 ls st h Q = wp V (cdT Ev) mx d 171 20 ls ((.int (2)) :: st) h Q := x_push (v := (.int (2))) (len := 1) rfl
theorem s_171_20 {x : Int32} : wp V (cdT Ev) mx d 171 20 [l0, l1, l2, l3, some (.int x), l5] st h Q = wp V (cdT Ev) mx d 171 22 [l0, l1, l2, l3, some (.int x), l5] (.int x :: st) h Q := x_iload (len := 2) rfl rfl
theorem s_171_22 {x z : Int32} : wp V (cdT Ev) mx d 171 22 ls (.int z :: .int x :: st) h Q = wp V (cdT Ev) mx d 171 23 ls (.int (x * z) :: st) h Q := x_ib (f := fun x z => x * z) rfl
theorem s_171_23 {x z : Int32} : wp V (cdT Ev) mx d 171 23 ls (.int z :: .int x :: st) h Q = wp V (cdT Ev) mx d 171 24 ls (.int (x + z) :: st) h Q := x_ib (f := fun x z => x + z) rfl
theorem s_171_24 {x : Int32} (hn : nl l4 = true) : wp V (cdT Ev) mx d 171 24 [l0, l1, l2, l3, l4, l5] (.int x :: st) h Q = wp V (cdT Ev) mx d 171 26 [l0, l1, l2, l3, l4, some (.int x)] st h Q := x_istore (len := 2) rfl (Nat.le_of_ble_eq_true rfl) (okp_nl rfl hn) rfl
theorem s_171_26 {x : Int32} : wp V (cdT Ev) mx d 171 26 [l0, l1, l2, some (.int x), l4, l5] st h Q = wp V (cdT Ev) mx d 171 27 [l0, l1, l2, some (.int x), l4, l5] (.int x :: st) h Q := x_iload (len := 1) rfl rfl
theorem s_171_27 {x : Int32} : wp V (cdT Ev) mx d 171 27 ls (.int x :: st) h Q = (if x = 0 then wp V (cdT Ev) mx d 171 58 ls st h Q else wp V (cdT Ev) mx d 171 30 ls st h Q) := x_if1 (c := fun x => x = 0) rfl
theorem s_171_30 {a : Nat} : wp V (cdT Ev) mx d 171 30 [some (.ref a), l1, l2, l3, l4, l5] st h Q = wp V (cdT Ev) mx d 171 31 [some (.ref a), l1, l2, l3, l4, l5] (.ref a :: st) h Q := x_aload (len := 1) rfl rfl
theorem s_171_30_n : wp V (cdT Ev) mx d 171 30 [some .null, l1, l2, l3, l4, l5] st h Q = wp V (cdT Ev) mx d 171 31 [some .null, l1, l2, l3, l4, l5] (.null :: st) h Q := x_aloadN (len := 1) rfl rfl
theorem s_171_31 {a : Nat} : wp V (cdT Ev) mx d 171 31 ls (.ref a :: st) h Q = gf [12] 0 h a (fun v => wp V (cdT Ev) mx d 171 34 ls (v :: st) h Q) := x_getf rfl
theorem s_171_34 {x : Int32} : wp V (cdT Ev) mx d 171 34 [l0, l1, l2, l3, l4, some (.int x)] st h Q = wp V (cdT Ev) mx d 171 36 [l0, l1, l2, l3, l4, some (.int x)] (.int x :: st) h Q := x_iload (len := 2) rfl rfl
theorem s_171_36 {i : Int32} {a : Nat} : wp V (cdT Ev) mx d 171 36 ls (.int i :: .ref a :: st) h Q = ai 2 i V h a (fun x => wp V (cdT Ev) mx d 171 37 ls (.int x :: st) h Q) := x_iald rfl
theorem s_171_37 {x : Int32} : wp V (cdT Ev) mx d 171 37 [l0, some (.int x), l2, l3, l4, l5] st h Q = wp V (cdT Ev) mx d 171 38 [l0, some (.int x), l2, l3, l4, l5] (.int x :: st) h Q := x_iload (len := 1) rfl rfl
theorem s_171_38 {x z : Int32} : wp V (cdT Ev) mx d 171 38 ls (.int z :: .int x :: st) h Q = (if ¬ x = z then wp V (cdT Ev) mx d 171 54 ls st h Q else wp V (cdT Ev) mx d 171 41 ls st h Q) := x_if2 (c := fun x z => ¬ x = z) rfl
theorem s_171_41 {a : Nat} : wp V (cdT Ev) mx d 171 41 [some (.ref a), l1, l2, l3, l4, l5] st h Q = wp V (cdT Ev) mx d 171 42 [some (.ref a), l1, l2, l3, l4, l5] (.ref a :: st) h Q := x_aload (len := 1) rfl rfl
theorem s_171_41_n : wp V (cdT Ev) mx d 171 41 [some .null, l1, l2, l3, l4, l5] st h Q = wp V (cdT Ev) mx d 171 42 [some .null, l1, l2, l3, l4, l5] (.null :: st) h Q := x_aloadN (len := 1) rfl rfl
theorem s_171_42 {a : Nat} : wp V (cdT Ev) mx d 171 42 ls (.ref a :: st) h Q = gf [12] 0 h a (fun v => wp V (cdT Ev) mx d 171 45 ls (v :: st) h Q) := x_getf rfl
theorem s_171_45 {x : Int32} : wp V (cdT Ev) mx d 171 45 [l0, l1, l2, l3, l4, some (.int x)] st h Q = wp V (cdT Ev) mx d 171 47 [l0, l1, l2, l3, l4, some (.int x)] (.int x :: st) h Q := x_iload (len := 2) rfl rfl
theorem s_171_47 : wp V (cdT Ev) mx d 171 47 ls st h Q = wp V (cdT Ev) mx d 171 48 ls ((.int (1)) :: st) h Q := x_push (v := (.int (1))) (len := 1) rfl
theorem s_171_48 {x z : Int32} : wp V (cdT Ev) mx d 171 48 ls (.int z :: .int x :: st) h Q = wp V (cdT Ev) mx d 171 49 ls (.int (x + z) :: st) h Q := x_ib (f := fun x z => x + z) rfl
theorem s_171_49 {i : Int32} {a : Nat} : wp V (cdT Ev) mx d 171 49 ls (.int i :: .ref a :: st) h Q = ai 2 i V h a (fun x => wp V (cdT Ev) mx d 171 50 ls (.int x :: st) h Q) := x_iald rfl
theorem s_171_50 {x : Int32} : wp V (cdT Ev) mx d 171 50 [l0, l1, some (.int x), l3, l4, l5] st h Q = wp V (cdT Ev) mx d 171 51 [l0, l1, some (.int x), l3, l4, l5] (.int x :: st) h Q := x_iload (len := 1) rfl rfl
theorem s_171_51 {x z : Int32} : wp V (cdT Ev) mx d 171 51 ls (.int z :: .int x :: st) h Q = (if ¬ x = z then wp V (cdT Ev) mx d 171 58 ls st h Q else wp V (cdT Ev) mx d 171 54 ls st h Q) := x_if2 (c := fun x z => ¬ x = z) rfl
theorem s_171_54 : wp V (cdT Ev) mx d 171 54 ls st h Q = wp V (cdT Ev) mx d 171 55 ls ((.int (1)) :: st) h Q := x_push (v := (.int (1))) (len := 1) rfl
theorem s_171_55 : wp V (cdT Ev) mx d 171 55 ls st h Q = wp V (cdT Ev) mx d 171 59 ls st h Q := x_goto rfl
theorem s_171_58 : wp V (cdT Ev) mx d 171 58 ls st h Q = wp V (cdT Ev) mx d 171 59 ls ((.int (0)) :: st) h Q := x_push (v := (.int (0))) (len := 1) rfl
theorem s_171_59 {x : Int32} (hn : nl l2 = true) : wp V (cdT Ev) mx d 171 59 [l0, l1, l2, l3, l4, l5] (.int x :: st) h Q = wp V (cdT Ev) mx d 171 60 [l0, l1, l2, some (.int x), l4, l5] st h Q := x_istore (len := 1) rfl (Nat.le_of_ble_eq_true rfl) (okp_nl rfl hn) rfl
theorem s_171_60 {x : Int32} : wp V (cdT Ev) mx d 171 60 [l0, l1, l2, l3, some (.int x), l5] st h Q = wp V (cdT Ev) mx d 171 63 [l0, l1, l2, l3, some (.int (x + (1))), l5] st h Q := x_iinc rfl rfl rfl
theorem s_171_63 : wp V (cdT Ev) mx d 171 63 ls st h Q = wp V (cdT Ev) mx d 171 5 ls st h Q := x_goto rfl
theorem s_171_66 {x : Int32} : wp V (cdT Ev) mx d 171 66 [l0, l1, l2, some (.int x), l4, l5] st h Q = wp V (cdT Ev) mx d 171 67 [l0, l1, l2, some (.int x), l4, l5] (.int x :: st) h Q := x_iload (len := 1) rfl rfl
theorem s_171_67 {x : Int32} (hx : okr 1 (.int x) = true) : wp V (cdT Ev) mx d 171 67 ls [.int x] h Q = Q (some (.int x)) h := x_ret rfl hx
theorem e_171 {a : Nat} {p0 : Int32} {p1 : Int32} : WP V (cdT Ev) mx (d + 1) 171 [.ref a, .int p0, .int p1] h Q = wp V (cdT Ev) mx d 171 0 [some (.ref a), some (.int p0), some (.int p1), none, none, none] [] h Q := propext (WP_eq (Nat.le_of_ble_eq_true rfl))
theorem s_172_0 {a : Nat} : wp V (cdT Ev) mx d 172 0 [some (.ref a), l1, l2, l3, l4, l5, l6] st h Q = wp V (cdT Ev) mx d 172 1 [some (.ref a), l1, l2, l3, l4, l5, l6] (.ref a :: st) h Q := x_aload (len := 1) rfl rfl
theorem s_172_0_n : wp V (cdT Ev) mx d 172 0 [some .null, l1, l2, l3, l4, l5, l6] st h Q = wp V (cdT Ev) mx d 172 1 [some .null, l1, l2, l3, l4, l5, l6] (.null :: st) h Q := x_aloadN (len := 1) rfl rfl
theorem s_172_1 {x : Int32} : wp V (cdT Ev) mx d 172 1 [l0, some (.int x), l2, l3, l4, l5, l6] st h Q = wp V (cdT Ev) mx d 172 2 [l0, some (.int x), l2, l3, l4, l5, l6] (.int x :: st) h Q := x_iload (len := 1) rfl rfl
theorem s_172_2 {b : Nat} {v0 : Value} (hst : st.length ≤ 4) : wp V (cdT Ev) mx d 172 2 ls (v0 :: .ref b :: st) h Q = cv [(12, 155)] h b (fun y' => WP V (cdT Ev) mx d y' [.ref b, v0] h (fun r h' => wp V (cdT Ev) mx d 172 5 ls (rts r st) h' Q)) := x_cv (sg := [v0]) rfl hst rfl rfl
theorem s_172_5 : wp V (cdT Ev) mx d 172 5 ls st h Q = wp V (cdT Ev) mx d 172 6 ls ((.int (0)) :: st) h Q := x_push (v := (.int (0))) (len := 1) rfl
theorem s_172_6 {x : Int32} (hn : nl l2 = true) : wp V (cdT Ev) mx d 172 6 [l0, l1, l2, l3, l4, l5, l6] (.int x :: st) h Q = wp V (cdT Ev) mx d 172 7 [l0, l1, l2, some (.int x), l4, l5, l6] st h Q := x_istore (len := 1) rfl (Nat.le_of_ble_eq_true rfl) (okp_nl rfl hn) rfl
theorem s_172_7 : wp V (cdT Ev) mx d 172 7 ls st h Q = wp V (cdT Ev) mx d 172 9 ls ((.int (-5)) :: st) h Q := x_push (v := (.int (-5))) (len := 2) rfl
theorem s_172_9 {x : Int32} (hn : nl l3 = true) : wp V (cdT Ev) mx d 172 9 [l0, l1, l2, l3, l4, l5, l6] (.int x :: st) h Q = wp V (cdT Ev) mx d 172 11 [l0, l1, l2, l3, some (.int x), l5, l6] st h Q := x_istore (len := 2) rfl (Nat.le_of_ble_eq_true rfl) (okp_nl rfl hn) rfl
theorem s_172_11 : wp V (cdT Ev) mx d 172 11 ls st h Q = wp V (cdT Ev) mx d 172 14 ls ((.int (4095)) :: st) h Q := x_push (v := (.int (4095))) (len := 3) rfl
theorem s_172_14 {x : Int32} (hn : nl l4 = true) : wp V (cdT Ev) mx d 172 14 [l0, l1, l2, l3, l4, l5, l6] (.int x :: st) h Q = wp V (cdT Ev) mx d 172 16 [l0, l1, l2, l3, l4, some (.int x), l6] st h Q := x_istore (len := 2) rfl (Nat.le_of_ble_eq_true rfl) (okp_nl rfl hn) rfl
theorem s_172_16 {x : Int32} : wp V (cdT Ev) mx d 172 16 [l0, l1, l2, l3, l4, some (.int x), l6] st h Q = wp V (cdT Ev) mx d 172 18 [l0, l1, l2, l3, l4, some (.int x), l6] (.int x :: st) h Q := x_iload (len := 2) rfl rfl
theorem s_172_18 {x : Int32} : wp V (cdT Ev) mx d 172 18 ls (.int x :: st) h Q = (if x < 0 then wp V (cdT Ev) mx d 172 68 ls st h Q else wp V (cdT Ev) mx d 172 21 ls st h Q) := x_if1 (c := fun x => x < 0) rfl
theorem s_172_21 {a : Nat} : wp V (cdT Ev) mx d 172 21 [some (.ref a), l1, l2, l3, l4, l5, l6] st h Q = wp V (cdT Ev) mx d 172 22 [some (.ref a), l1, l2, l3, l4, l5, l6] (.ref a :: st) h Q := x_aload (len := 1) rfl rfl
theorem s_172_21_n : wp V (cdT Ev) mx d 172 21 [some .null, l1, l2, l3, l4, l5, l6] st h Q = wp V (cdT Ev) mx d 172 22 [some .null, l1, l2, l3, l4, l5, l6] (.null :: st) h Q := x_aloadN (len := 1) rfl rfl
theorem s_172_22 {x : Int32} : wp V (cdT Ev) mx d 172 22 [l0, some (.int x), l2, l3, l4, l5, l6] st h Q = wp V (cdT Ev) mx d 172 23 [l0, some (.int x), l2, l3, l4, l5, l6] (.int x :: st) h Q := x_iload (len := 1) rfl rfl
theorem s_172_23 {a : Nat} : wp V (cdT Ev) mx d 172 23 [some (.ref a), l1, l2, l3, l4, l5, l6] st h Q = wp V (cdT Ev) mx d 172 24 [some (.ref a), l1, l2, l3, l4, l5, l6] (.ref a :: st) h Q := x_aload (len := 1) rfl rfl
theorem s_172_23_n : wp V (cdT Ev) mx d 172 23 [some .null, l1, l2, l3, l4, l5, l6] st h Q = wp V (cdT Ev) mx d 172 24 [some .null, l1, l2, l3, l4, l5, l6] (.null :: st) h Q := x_aloadN (len := 1) rfl rfl
theorem s_172_24 {x : Int32} : wp V (cdT Ev) mx d 172 24 [l0, some (.int x), l2, l3, l4, l5, l6] st h Q = wp V (cdT Ev) mx d 172 25 [l0, some (.int x), l2, l3, l4, l5, l6] (.int x :: st) h Q := x_iload (len := 1) rfl rfl
theorem s_172_25 {x : Int32} : wp V (cdT Ev) mx d 172 25 [l0, l1, l2, l3, l4, some (.int x), l6] st h Q = wp V (cdT Ev) mx d 172 27 [l0, l1, l2, l3, l4, some (.int x), l6] (.int x :: st) h Q := x_iload (len := 2) rfl rfl
theorem s_172_27 {b : Nat} {v0 v1 : Value} (hst : st.length ≤ 4) : wp V (cdT Ev) mx d 172 27 ls (v1 :: v0 :: .ref b :: st) h Q = cv [(12, 156)] h b (fun y' => WP V (cdT Ev) mx d y' [.ref b, v0, v1] h (fun r h' => wp V (cdT Ev) mx d 172 30 ls (rts r st) h' Q)) := x_cv (sg := [v1, v0]) rfl hst rfl rfl
theorem s_172_30 {b : Nat} {v0 v1 : Value} (hst : st.length ≤ 4) : wp V (cdT Ev) mx d 172 30 ls (v1 :: v0 :: .ref b :: st) h Q = cv [(12, 171)] h b (fun y' => WP V (cdT Ev) mx d y' [.ref b, v0, v1] h (fun r h' => wp V (cdT Ev) mx d 172 33 ls (rts r st) h' Q)) := x_cv (sg := [v1, v0]) rfl hst rfl rfl
theorem s_172_33 {x : Int32} (hn : nl l5 = true) : wp V (cdT Ev) mx d 172 33 [l0, l1, l2, l3, l4, l5, l6] (.int x :: st) h Q = wp V (cdT Ev) mx d 172 35 [l0, l1, l2, l3, l4, l5, some (.int x)] st h Q := x_istore (len := 2) rfl (Nat.le_of_ble_eq_true rfl) (okp_nl rfl hn) rfl
theorem s_172_35 {x : Int32} : wp V (cdT Ev) mx d 172 35 [l0, l1, l2, some (.int x), l4, l5, l6] st h Q = wp V (cdT Ev) mx d 172 36 [l0, l1, l2, some (.int x), l4, l5, l6] (.int x :: st) h Q := x_iload (len := 1) rfl rfl
theorem s_172_36 {x : Int32} : wp V (cdT Ev) mx d 172 36 [l0, l1, l2, l3, l4, l5, some (.int x)] st h Q = wp V (cdT Ev) mx d 172 38 [l0, l1, l2, l3, l4, l5, some (.int x)] (.int x :: st) h Q := x_iload (len := 2) rfl rfl
theorem s_172_38 {x : Int32} : wp V (cdT Ev) mx d 172 38 ls (.int x :: st) h Q = (if x = 0 then wp V (cdT Ev) mx d 172 45 ls st h Q else wp V (cdT Ev) mx d 172 41 ls st h Q) := x_if1 (c := fun x => x = 0) rfl
theorem s_172_41 : wp V (cdT Ev) mx d 172 41 ls st h Q = wp V (cdT Ev) mx d 172 42 ls ((.int (1)) :: st) h Q := x_push (v := (.int (1))) (len := 1) rfl
theorem s_172_42 : wp V (cdT Ev) mx d 172 42 ls st h Q = wp V (cdT Ev) mx d 172 46 ls st h Q := x_goto rfl
theorem s_172_45 : wp V (cdT Ev) mx d 172 45 ls st h Q = wp V (cdT Ev) mx d 172 46 ls ((.int (0)) :: st) h Q := x_push (v := (.int (0))) (len := 1) rfl
theorem s_172_46 {x z : Int32} : wp V (cdT Ev) mx d 172 46 ls (.int z :: .int x :: st) h Q = wp V (cdT Ev) mx d 172 47 ls (.int (x + z) :: st) h Q := x_ib (f := fun x z => x + z) rfl
theorem s_172_47 {x : Int32} (hn : nl l2 = true) : wp V (cdT Ev) mx d 172 47 [l0, l1, l2, l3, l4, l5, l6] (.int x :: st) h Q = wp V (cdT Ev) mx d 172 48 [l0, l1, l2, some (.int x), l4, l5, l6] st h Q := x_istore (len := 1) rfl (Nat.le_of_ble_eq_true rfl) (okp_nl rfl hn) rfl
theorem s_172_48 {x : Int32} : wp V (cdT Ev) mx d 172 48 [l0, l1, l2, l3, l4, l5, some (.int x)] st h Q = wp V (cdT Ev) mx d 172 50 [l0, l1, l2, l3, l4, l5, some (.int x)] (.int x :: st) h Q := x_iload (len := 2) rfl rfl
theorem s_172_50 {x : Int32} : wp V (cdT Ev) mx d 172 50 ls (.int x :: st) h Q = (if x = 0 then wp V (cdT Ev) mx d 172 58 ls st h Q else wp V (cdT Ev) mx d 172 53 ls st h Q) := x_if1 (c := fun x => x = 0) rfl
theorem s_172_53 {x : Int32} : wp V (cdT Ev) mx d 172 53 [l0, l1, l2, l3, l4, some (.int x), l6] st h Q = wp V (cdT Ev) mx d 172 55 [l0, l1, l2, l3, l4, some (.int x), l6] (.int x :: st) h Q := x_iload (len := 2) rfl rfl
theorem s_172_55 : wp V (cdT Ev) mx d 172 55 ls st h Q = wp V (cdT Ev) mx d 172 60 ls st h Q := x_goto rfl
theorem s_172_58 {x : Int32} : wp V (cdT Ev) mx d 172 58 [l0, l1, l2, l3, some (.int x), l5, l6] st h Q = wp V (cdT Ev) mx d 172 60 [l0, l1, l2, l3, some (.int x), l5, l6] (.int x :: st) h Q := x_iload (len := 2) rfl rfl
theorem s_172_60 {x : Int32} (hn : nl l3 = true) : wp V (cdT Ev) mx d 172 60 [l0, l1, l2, l3, l4, l5, l6] (.int x :: st) h Q = wp V (cdT Ev) mx d 172 62 [l0, l1, l2, l3, some (.int x), l5, l6] st h Q := x_istore (len := 2) rfl (Nat.le_of_ble_eq_true rfl) (okp_nl rfl hn) rfl
theorem s_172_62 {x : Int32} : wp V (cdT Ev) mx d 172 62 [l0, l1, l2, l3, l4, some (.int x), l6] st h Q = wp V (cdT Ev) mx d 172 65 [l0, l1, l2, l3, l4, some (.int (x + (-1))), l6] st h Q := x_iinc rfl rfl rfl
theorem s_172_65 : wp V (cdT Ev) mx d 172 65 ls st h Q = wp V (cdT Ev) mx d 172 16 ls st h Q := x_goto rfl
theorem s_172_68 {x : Int32} : wp V (cdT Ev) mx d 172 68 [l0, l1, some (.int x), l3, l4, l5, l6] st h Q = wp V (cdT Ev) mx d 172 69 [l0, l1, some (.int x), l3, l4, l5, l6] (.int x :: st) h Q := x_iload (len := 1) rfl rfl
theorem s_172_69 {x : Int32} : wp V (cdT Ev) mx d 172 69 ls (.int x :: st) h Q = (if x = 0 then wp V (cdT Ev) mx d 172 76 ls st h Q else wp V (cdT Ev) mx d 172 72 ls st h Q) := x_if1 (c := fun x => x = 0) rfl
theorem s_172_72 {x : Int32} : wp V (cdT Ev) mx d 172 72 [l0, l1, l2, some (.int x), l4, l5, l6] st h Q = wp V (cdT Ev) mx d 172 73 [l0, l1, l2, some (.int x), l4, l5, l6] (.int x :: st) h Q := x_iload (len := 1) rfl rfl
theorem s_172_73 : wp V (cdT Ev) mx d 172 73 ls st h Q = wp V (cdT Ev) mx d 172 78 ls st h Q := x_goto rfl
theorem s_172_76 {x : Int32} : wp V (cdT Ev) mx d 172 76 [l0, l1, l2, l3, some (.int x), l5, l6] st h Q = wp V (cdT Ev) mx d 172 78 [l0, l1, l2, l3, some (.int x), l5, l6] (.int x :: st) h Q := x_iload (len := 2) rfl rfl
theorem s_172_78 {x : Int32} : wp V (cdT Ev) mx d 172 78 ls [.int x] h Q = Q (some (.int x)) h := x_ret rfl rfl
theorem e_172 {a : Nat} {p0 : Int32} {p1 : Int32} : WP V (cdT Ev) mx (d + 1) 172 [.ref a, .int p0, .int p1] h Q = wp V (cdT Ev) mx d 172 0 [some (.ref a), some (.int p0), some (.int p1), none, none, none, none] [] h Q := propext (WP_eq (Nat.le_of_ble_eq_true rfl))
theorem s_173_0 {a : Nat} : wp V (cdT Ev) mx d 173 0 [some (.ref a), l1, l2, l3, l4, l5, l6] st h Q = wp V (cdT Ev) mx d 173 1 [some (.ref a), l1, l2, l3, l4, l5, l6] (.ref a :: st) h Q := x_aload (len := 1) rfl rfl
theorem s_173_0_n : wp V (cdT Ev) mx d 173 0 [some .null, l1, l2, l3, l4, l5, l6] st h Q = wp V (cdT Ev) mx d 173 1 [some .null, l1, l2, l3, l4, l5, l6] (.null :: st) h Q := x_aloadN (len := 1) rfl rfl
theorem s_173_1 {a : Nat} : wp V (cdT Ev) mx d 173 1 ls (.ref a :: st) h Q = gf [12] 0 h a (fun v => wp V (cdT Ev) mx d 173 4 ls (v :: st) h Q) := x_getf rfl
theorem s_173_4 {x : Int32} : wp V (cdT Ev) mx d 173 4 [l0, some (.int x), l2, l3, l4, l5, l6] st h Q = wp V (cdT Ev) mx d 173 5 [l0, some (.int x), l2, l3, l4, l5, l6] (.int x :: st) h Q := x_iload (len := 1) rfl rfl
theorem s_173_5 {i : Int32} {a : Nat} : wp V (cdT Ev) mx d 173 5 ls (.int i :: .ref a :: st) h Q = ai 2 i V h a (fun x => wp V (cdT Ev) mx d 173 6 ls (.int x :: st) h Q) := x_iald rfl
theorem s_173_6 {x : Int32} (hn : nl l1 = true) : wp V (cdT Ev) mx d 173 6 [l0, l1, l2, l3, l4, l5, l6] (.int x :: st) h Q = wp V (cdT Ev) mx d 173 7 [l0, l1, some (.int x), l3, l4, l5, l6] st h Q := x_istore (len := 1) rfl (Nat.le_of_ble_eq_true rfl) (okp_nl rfl hn) rfl
theorem s_173_7 : wp V (cdT Ev) mx d 173 7 ls st h Q = wp V (cdT Ev) mx d 173 8 ls ((.int (0)) :: st) h Q := x_push (v := (.int (0))) (len := 1) rfl
theorem s_173_8 {x : Int32} (hn : nl l2 = true) : wp V (cdT Ev) mx d 173 8 [l0, l1, l2, l3, l4, l5, l6] (.int x :: st) h Q = wp V (cdT Ev) mx d 173 9 [l0, l1, l2, some (.int x), l4, l5, l6] st h Q := x_istore (len := 1) rfl (Nat.le_of_ble_eq_true rfl) (okp_nl rfl hn) rfl
theorem s_173_9 : wp V (cdT Ev) mx d 173 9 ls st h Q = wp V (cdT Ev) mx d 173 10 ls ((.int (0)) :: st) h Q := x_push (v := (.int (0))) (len := 1) rfl
theorem s_173_10 {x : Int32} (hn : nl l3 = true) : wp V (cdT Ev) mx d 173 10 [l0, l1, l2, l3, l4, l5, l6] (.int x :: st) h Q = wp V (cdT Ev) mx d 173 12 [l0, l1, l2, l3, some (.int x), l5, l6] st h Q := x_istore (len := 2) rfl (Nat.le_of_ble_eq_true rfl) (okp_nl rfl hn) rfl
theorem s_173_12 {x : Int32} : wp V (cdT Ev) mx d 173 12 [l0, l1, l2, l3, some (.int x), l5, l6] st h Q = wp V (cdT Ev) mx d 173 14 [l0, l1, l2, l3, some (.int x), l5, l6] (.int x :: st) h Q := x_iload (len := 2) rfl rfl
theorem s_173_14 : wp V (cdT Ev) mx d 173 14 ls st h Q = wp V (cdT Ev) mx d 173 16 ls ((.int (20)) :: st) h Q := x_push (v := (.int (20))) (len := 2) rfl
theorem s_173_16 {x z : Int32} : wp V (cdT Ev) mx d 173 16 ls (.int z :: .int x :: st) h Q = (if z < x then wp V (cdT Ev) mx d 173 100 ls st h Q else wp V (cdT Ev) mx d 173 19 ls st h Q) := x_if2 (c := fun x z => z < x) rfl
theorem s_173_19 {a : Nat} : wp V (cdT Ev) mx d 173 19 [some (.ref a), l1, l2, l3, l4, l5, l6] st h Q = wp V (cdT Ev) mx d 173 20 [some (.ref a), l1, l2, l3, l4, l5, l6] (.ref a :: st) h Q := x_aload (len := 1) rfl rfl
theorem s_173_19_n : wp V (cdT Ev) mx d 173 19 [some .null, l1, l2, l3, l4, l5, l6] st h Q = wp V (cdT Ev) mx d 173 20 [some .null, l1, l2, l3, l4, l5, l6] (.null :: st) h Q := x_aloadN (len := 1) rfl rfl
theorem s_173_20 {a : Nat} : wp V (cdT Ev) mx d 173 20 ls (.ref a :: st) h Q = gf [12] 0 h a (fun v => wp V (cdT Ev) mx d 173 23 ls (v :: st) h Q) := x_getf rfl
theorem s_173_23 {x : Int32} : wp V (cdT Ev) mx d 173 23 [l0, some (.int x), l2, l3, l4, l5, l6] st h Q = wp V (cdT Ev) mx d 173 24 [l0, some (.int x), l2, l3, l4, l5, l6] (.int x :: st) h Q := x_iload (len := 1) rfl rfl
theorem s_173_24 {x : Int32} : wp V (cdT Ev) mx d 173 24 [l0, l1, l2, l3, some (.int x), l5, l6] st h Q = wp V (cdT Ev) mx d 173 26 [l0, l1, l2, l3, some (.int x), l5, l6] (.int x :: st) h Q := x_iload (len := 2) rfl rfl
theorem s_173_26 {x i : Int32} {a : Nat} : wp V (cdT Ev) mx d 173 26 ls (.int x :: .int i :: .ref a :: st) h Q = si 2 i (x) h a (fun hh => wp V (cdT Ev) mx d 173 27 ls st hh Q) := x_iast (nw := fun x => x) rfl
theorem s_173_27 : wp V (cdT Ev) mx d 173 27 ls st h Q = wp V (cdT Ev) mx d 173 28 ls ((.int (1)) :: st) h Q := x_push (v := (.int (1))) (len := 1) rfl
theorem s_173_28 {x : Int32} (hn : nl l4 = true) : wp V (cdT Ev) mx d 173 28 [l0, l1, l2, l3, l4, l5, l6] (.int x :: st) h Q = wp V (cdT Ev) mx d 173 30 [l0, l1, l2, l3, l4, some (.int x), l6] st h Q := x_istore (len := 2) rfl (Nat.le_of_ble_eq_true rfl) (okp_nl rfl hn) rfl
theorem s_173_30 : wp V (cdT Ev) mx d 173 30 ls st h Q = wp V (cdT Ev) mx d 173 31 ls ((.int (0)) :: st) h Q := x_push (v := (.int (0))) (len := 1) rfl
theorem s_173_31 {x : Int32} (hn : nl l5 = true) : wp V (cdT Ev) mx d 173 31 [l0, l1, l2, l3, l4, l5, l6] (.int x :: st) h Q = wp V (cdT Ev) mx d 173 33 [l0, l1, l2, l3, l4, l5, some (.int x)] st h Q := x_istore (len := 2) rfl (Nat.le_of_ble_eq_true rfl) (okp_nl rfl hn) rfl
theorem s_173_33 {x : Int32} : wp V (cdT Ev) mx d 173 33 [l0, l1, l2, l3, l4, l5, some (.int x)] st h Q = wp V (cdT Ev) mx d 173 35 [l0, l1, l2, l3, l4, l5, some (.int x)] (.int x :: st) h Q := x_iload (len := 2) rfl rfl
theorem s_173_35 {a : Nat} : wp V (cdT Ev) mx d 173 35 [some (.ref a), l1, l2, l3, l4, l5, l6] st h Q = wp V (cdT Ev) mx d 173 36 [some (.ref a), l1, l2, l3, l4, l5, l6] (.ref a :: st) h Q := x_aload (len := 1) rfl rfl
theorem s_173_35_n : wp V (cdT Ev) mx d 173 35 [some .null, l1, l2, l3, l4, l5, l6] st h Q = wp V (cdT Ev) mx d 173 36 [some .null, l1, l2, l3, l4, l5, l6] (.null :: st) h Q := x_aloadN (len := 1) rfl rfl
theorem s_173_36 {a : Nat} : wp V (cdT Ev) mx d 173 36 ls (.ref a :: st) h Q = gf [12] 0 h a (fun v => wp V (cdT Ev) mx d 173 39 ls (v :: st) h Q) := x_getf rfl
theorem s_173_39 : wp V (cdT Ev) mx d 173 39 ls st h Q = wp V (cdT Ev) mx d 173 41 ls ((.int (68)) :: st) h Q := x_push (v := (.int (68))) (len := 2) rfl
theorem s_173_41 {i : Int32} {a : Nat} : wp V (cdT Ev) mx d 173 41 ls (.int i :: .ref a :: st) h Q = ai 2 i V h a (fun x => wp V (cdT Ev) mx d 173 42 ls (.int x :: st) h Q) := x_iald rfl
theorem s_173_42 {x z : Int32} : wp V (cdT Ev) mx d 173 42 ls (.int z :: .int x :: st) h Q = (if z ≤ x then wp V (cdT Ev) mx d 173 78 ls st h Q else wp V (cdT Ev) mx d 173 45 ls st h Q) := x_if2 (c := fun x z => z ≤ x) rfl
theorem s_173_45 {x : Int32} : wp V (cdT Ev) mx d 173 45 [l0, l1, l2, l3, l4, some (.int x), l6] st h Q = wp V (cdT Ev) mx d 173 47 [l0, l1, l2, l3, l4, some (.int x), l6] (.int x :: st) h Q := x_iload (len := 2) rfl rfl
theorem s_173_47 {x : Int32} : wp V (cdT Ev) mx d 173 47 ls (.int x :: st) h Q = (if x = 0 then wp V (cdT Ev) mx d 173 69 ls st h Q else wp V (cdT Ev) mx d 173 50 ls st h Q) := x_if1 (c := fun x => x = 0) rfl
theorem s_173_50 {a : Nat} : wp V (cdT Ev) mx d 173 50 [some (.ref a), l1, l2, l3, l4, l5, l6] st h Q = wp V (cdT Ev) mx d 173 51 [some (.ref a), l1, l2, l3, l4, l5, l6] (.ref a :: st) h Q := x_aload (len := 1) rfl rfl
theorem s_173_50_n : wp V (cdT Ev) mx d 173 50 [some .null, l1, l2, l3, l4, l5, l6] st h Q = wp V (cdT Ev) mx d 173 51 [some .null, l1, l2, l3, l4, l5, l6] (.null :: st) h Q := x_aloadN (len := 1) rfl rfl
theorem s_173_51 {x : Int32} : wp V (cdT Ev) mx d 173 51 [l0, l1, l2, l3, l4, l5, some (.int x)] st h Q = wp V (cdT Ev) mx d 173 53 [l0, l1, l2, l3, l4, l5, some (.int x)] (.int x :: st) h Q := x_iload (len := 2) rfl rfl
theorem s_173_53 {a : Nat} : wp V (cdT Ev) mx d 173 53 [some (.ref a), l1, l2, l3, l4, l5, l6] st h Q = wp V (cdT Ev) mx d 173 54 [some (.ref a), l1, l2, l3, l4, l5, l6] (.ref a :: st) h Q := x_aload (len := 1) rfl rfl
theorem s_173_53_n : wp V (cdT Ev) mx d 173 53 [some .null, l1, l2, l3, l4, l5, l6] st h Q = wp V (cdT Ev) mx d 173 54 [some .null, l1, l2, l3, l4, l5, l6] (.null :: st) h Q := x_aloadN (len := 1) rfl rfl
theorem s_173_54 {x : Int32} : wp V (cdT Ev) mx d 173 54 [l0, l1, l2, l3, l4, l5, some (.int x)] st h Q = wp V (cdT Ev) mx d 173 56 [l0, l1, l2, l3, l4, l5, some (.int x)] (.int x :: st) h Q := x_iload (len := 2) rfl rfl
theorem s_173_56 {b : Nat} {v0 : Value} (hst : st.length ≤ 4) : wp V (cdT Ev) mx d 173 56 ls (v0 :: .ref b :: st) h Q = cv [(12, 157)] h b (fun y' => WP V (cdT Ev) mx d y' [.ref b, v0] h (fun r h' => wp V (cdT Ev) mx d 173 59 ls (rts r st) h' Q)) := x_cv (sg := [v0]) rfl hst rfl rfl
theorem s_173_59 {b : Nat} {v0 v1 : Value} (hst : st.length ≤ 4) : wp V (cdT Ev) mx d 173 59 ls (v1 :: v0 :: .ref b :: st) h Q = cv [(12, 171)] h b (fun y' => WP V (cdT Ev) mx d y' [.ref b, v0, v1] h (fun r h' => wp V (cdT Ev) mx d 173 62 ls (rts r st) h' Q)) := x_cv (sg := [v1, v0]) rfl hst rfl rfl
theorem s_173_62 {x : Int32} : wp V (cdT Ev) mx d 173 62 ls (.int x :: st) h Q = (if x = 0 then wp V (cdT Ev) mx d 173 69 ls st h Q else wp V (cdT Ev) mx d 173 65 ls st h Q) := x_if1 (c := fun x => x = 0) rfl
theorem s_173_65 : wp V (cdT Ev) mx d 173 65 ls st h Q = wp V (cdT Ev) mx d 173 66 ls ((.int (1)) :: st) h Q := x_push (v := (.int (1))) (len := 1) rfl
theorem s_173_66 : wp V (cdT Ev) mx d 173 66 ls st h Q = wp V (cdT Ev) mx d 173 70 ls st h Q := x_goto rfl
theorem s_173_69 : wp V (cdT Ev) mx d 173 69 ls st h Q = wp V (cdT Ev) mx d 173 70 ls ((.int (0)) :: st) h Q := x_push (v := (.int (0))) (len := 1) rfl
theorem s_173_70 {x : Int32} (hn : nl l4 = true) : wp V (cdT Ev) mx d 173 70 [l0, l1, l2, l3, l4, l5, l6] (.int x :: st) h Q = wp V (cdT Ev) mx d 173 72 [l0, l1, l2, l3, l4, some (.int x), l6] st h Q := x_istore (len := 2) rfl (Nat.le_of_ble_eq_true rfl) (okp_nl rfl hn) rfl
theorem s_173_72 {x : Int32} : wp V (cdT Ev) mx d 173 72 [l0, l1, l2, l3, l4, l5, some (.int x)] st h Q = wp V (cdT Ev) mx d 173 75 [l0, l1, l2, l3, l4, l5, some (.int (x + (1)))] st h Q := x_iinc rfl rfl rfl
theorem s_173_75 : wp V (cdT Ev) mx d 173 75 ls st h Q = wp V (cdT Ev) mx d 173 33 ls st h Q := x_goto rfl
theorem s_173_78 {x : Int32} : wp V (cdT Ev) mx d 173 78 [l0, l1, l2, some (.int x), l4, l5, l6] st h Q = wp V (cdT Ev) mx d 173 79 [l0, l1, l2, some (.int x), l4, l5, l6] (.int x :: st) h Q := x_iload (len := 1) rfl rfl
theorem s_173_79 {x : Int32} : wp V (cdT Ev) mx d 173 79 [l0, l1, l2, l3, l4, some (.int x), l6] st h Q = wp V (cdT Ev) mx d 173 81 [l0, l1, l2, l3, l4, some (.int x), l6] (.int x :: st) h Q := x_iload (len := 2) rfl rfl
theorem s_173_81 {x : Int32} : wp V (cdT Ev) mx d 173 81 ls (.int x :: st) h Q = (if x = 0 then wp V (cdT Ev) mx d 173 91 ls st h Q else wp V (cdT Ev) mx d 173 84 ls st h Q) := x_if1 (c := fun x => x = 0) rfl
theorem s_173_84 : wp V (cdT Ev) mx d 173 84 ls st h Q = wp V (cdT Ev) mx d 173 85 ls ((.int (1)) :: st) h Q := x_push (v := (.int (1))) (len := 1) rfl
theorem s_173_85 {x : Int32} : wp V (cdT Ev) mx d 173 85 [l0, l1, l2, l3, some (.int x), l5, l6] st h Q = wp V (cdT Ev) mx d 173 87 [l0, l1, l2, l3, some (.int x), l5, l6] (.int x :: st) h Q := x_iload (len := 2) rfl rfl
theorem s_173_87 {x z : Int32} : wp V (cdT Ev) mx d 173 87 ls (.int z :: .int x :: st) h Q = wp V (cdT Ev) mx d 173 88 ls (.int (x <<< (z &&& 31)) :: st) h Q := x_ib (f := fun x z => x <<< (z &&& 31)) rfl
theorem s_173_88 : wp V (cdT Ev) mx d 173 88 ls st h Q = wp V (cdT Ev) mx d 173 92 ls st h Q := x_goto rfl
theorem s_173_91 : wp V (cdT Ev) mx d 173 91 ls st h Q = wp V (cdT Ev) mx d 173 92 ls ((.int (0)) :: st) h Q := x_push (v := (.int (0))) (len := 1) rfl
theorem s_173_92 {x z : Int32} : wp V (cdT Ev) mx d 173 92 ls (.int z :: .int x :: st) h Q = wp V (cdT Ev) mx d 173 93 ls (.int (x ||| z) :: st) h Q := x_ib (f := fun x z => x ||| z) rfl
theorem s_173_93 {x : Int32} (hn : nl l2 = true) : wp V (cdT Ev) mx d 173 93 [l0, l1, l2, l3, l4, l5, l6] (.int x :: st) h Q = wp V (cdT Ev) mx d 173 94 [l0, l1, l2, some (.int x), l4, l5, l6] st h Q := x_istore (len := 1) rfl (Nat.le_of_ble_eq_true rfl) (okp_nl rfl hn) rfl
theorem s_173_94 {x : Int32} : wp V (cdT Ev) mx d 173 94 [l0, l1, l2, l3, some (.int x), l5, l6] st h Q = wp V (cdT Ev) mx d 173 97 [l0, l1, l2, l3, some (.int (x + (1))), l5, l6] st h Q := x_iinc rfl rfl rfl
theorem s_173_97 : wp V (cdT Ev) mx d 173 97 ls st h Q = wp V (cdT Ev) mx d 173 12 ls st h Q := x_goto rfl
theorem s_173_100 {a : Nat} : wp V (cdT Ev) mx d 173 100 [some (.ref a), l1, l2, l3, l4, l5, l6] st h Q = wp V (cdT Ev) mx d 173 101 [some (.ref a), l1, l2, l3, l4, l5, l6] (.ref a :: st) h Q := x_aload (len := 1) rfl rfl
theorem s_173_100_n : wp V (cdT Ev) mx d 173 100 [some .null, l1, l2, l3, l4, l5, l6] st h Q = wp V (cdT Ev) mx d 173 101 [some .null, l1, l2, l3, l4, l5, l6] (.null :: st) h Q := x_aloadN (len := 1) rfl rfl
theorem s_173_101 {a : Nat} : wp V (cdT Ev) mx d 173 101 ls (.ref a :: st) h Q = gf [12] 0 h a (fun v => wp V (cdT Ev) mx d 173 104 ls (v :: st) h Q) := x_getf rfl
theorem s_173_104 {x : Int32} : wp V (cdT Ev) mx d 173 104 [l0, some (.int x), l2, l3, l4, l5, l6] st h Q = wp V (cdT Ev) mx d 173 105 [l0, some (.int x), l2, l3, l4, l5, l6] (.int x :: st) h Q := x_iload (len := 1) rfl rfl
theorem s_173_105 {x : Int32} : wp V (cdT Ev) mx d 173 105 [l0, l1, some (.int x), l3, l4, l5, l6] st h Q = wp V (cdT Ev) mx d 173 106 [l0, l1, some (.int x), l3, l4, l5, l6] (.int x :: st) h Q := x_iload (len := 1) rfl rfl
theorem s_173_106 {x i : Int32} {a : Nat} : wp V (cdT Ev) mx d 173 106 ls (.int x :: .int i :: .ref a :: st) h Q = si 2 i (x) h a (fun hh => wp V (cdT Ev) mx d 173 107 ls st hh Q) := x_iast (nw := fun x => x) rfl
theorem s_173_107 {x : Int32} : wp V (cdT Ev) mx d 173 107 [l0, l1, l2, some (.int x), l4, l5, l6] st h Q = wp V (cdT Ev) mx d 173 108 [l0, l1, l2, some (.int x), l4, l5, l6] (.int x :: st) h Q := x_iload (len := 1) rfl rfl
theorem s_173_108 {x : Int32} : wp V (cdT Ev) mx d 173 108 ls [.int x] h Q = Q (some (.int x)) h := x_ret rfl rfl
theorem e_173 {a : Nat} {p0 : Int32} : WP V (cdT Ev) mx (d + 1) 173 [.ref a, .int p0] h Q = wp V (cdT Ev) mx d 173 0 [some (.ref a), some (.int p0), none, none, none, none, none] [] h Q := propext (WP_eq (Nat.le_of_ble_eq_true rfl))
theorem s_174_0 {a : Nat} : wp V (cdT Ev) mx d 174 0 [some (.ref a), l1, l2, l3, l4, l5, l6, l7] st h Q = wp V (cdT Ev) mx d 174 1 [some (.ref a), l1, l2, l3, l4, l5, l6, l7] (.ref a :: st) h Q := x_aload (len := 1) rfl rfl
theorem s_174_0_n : wp V (cdT Ev) mx d 174 0 [some .null, l1, l2, l3, l4, l5, l6, l7] st h Q = wp V (cdT Ev) mx d 174 1 [some .null, l1, l2, l3, l4, l5, l6, l7] (.null :: st) h Q := x_aloadN (len := 1) rfl rfl
theorem s_174_1 {x : Int32} : wp V (cdT Ev) mx d 174 1 [l0, some (.int x), l2, l3, l4, l5, l6, l7] st h Q = wp V (cdT Ev) mx d 174 2 [l0, some (.int x), l2, l3, l4, l5, l6, l7] (.int x :: st) h Q := x_iload (len := 1) rfl rfl
theorem s_174_2 {b : Nat} {v0 : Value} (hst : st.length ≤ 4) : wp V (cdT Ev) mx d 174 2 ls (v0 :: .ref b :: st) h Q = cv [(12, 128)] h b (fun y' => WP V (cdT Ev) mx d y' [.ref b, v0] h (fun r h' => wp V (cdT Ev) mx d 174 5 ls (rts r st) h' Q)) := x_cv (sg := [v0]) rfl hst rfl rfl
theorem s_174_5 {x : Int32} : wp V (cdT Ev) mx d 174 5 ls (.int x :: st) h Q = (if x = 0 then wp V (cdT Ev) mx d 174 17 ls st h Q else wp V (cdT Ev) mx d 174 8 ls st h Q) := x_if1 (c := fun x => x = 0) rfl
theorem s_174_8 {x : Int32} : wp V (cdT Ev) mx d 174 8 [l0, l1, some (.int x), l3, l4, l5, l6, l7] st h Q = wp V (cdT Ev) mx d 174 9 [l0, l1, some (.int x), l3, l4, l5, l6, l7] (.int x :: st) h Q := x_iload (len := 1) rfl rfl
theorem s_174_9 : wp V (cdT Ev) mx d 174 9 ls st h Q = wp V (cdT Ev) mx d 174 10 ls ((.int (0)) :: st) h Q := x_push (v := (.int (0))) (len := 1) rfl
theorem s_174_10 : wp V (cdT Ev) mx d 174 10 ls st h Q = wp V (cdT Ev) mx d 174 11 ls ((.int (1)) :: st) h Q := x_push (v := (.int (1))) (len := 1) rfl
theorem s_174_11 {v0 v1 v2 : Value} (hst : st.length ≤ 4) : wp V (cdT Ev) mx d 174 11 ls (v2 :: v1 :: v0 :: st) h Q = WP V (cdT Ev) mx d 123 [v0, v1, v2] h (fun r h' => wp V (cdT Ev) mx d 174 14 ls (rts r st) h' Q) := x_cs (sg := [v2, v1, v0]) rfl hst rfl rfl
theorem s_174_14 {x : Int32} : wp V (cdT Ev) mx d 174 14 ls (.int x :: st) h Q = (if ¬ x = 0 then wp V (cdT Ev) mx d 174 19 ls st h Q else wp V (cdT Ev) mx d 174 17 ls st h Q) := x_if1 (c := fun x => ¬ x = 0) rfl
theorem s_174_17 : wp V (cdT Ev) mx d 174 17 ls st h Q = wp V (cdT Ev) mx d 174 18 ls ((.int (-1)) :: st) h Q := x_push (v := (.int (-1))) (len := 1) rfl
theorem s_174_18 {x : Int32} : wp V (cdT Ev) mx d 174 18 ls [.int x] h Q = Q (some (.int x)) h := x_ret rfl rfl
theorem s_174_19 {a : Nat} : wp V (cdT Ev) mx d 174 19 [some (.ref a), l1, l2, l3, l4, l5, l6, l7] st h Q = wp V (cdT Ev) mx d 174 20 [some (.ref a), l1, l2, l3, l4, l5, l6, l7] (.ref a :: st) h Q := x_aload (len := 1) rfl rfl
theorem s_174_19_n : wp V (cdT Ev) mx d 174 19 [some .null, l1, l2, l3, l4, l5, l6, l7] st h Q = wp V (cdT Ev) mx d 174 20 [some .null, l1, l2, l3, l4, l5, l6, l7] (.null :: st) h Q := x_aloadN (len := 1) rfl rfl
theorem s_174_20 {x : Int32} : wp V (cdT Ev) mx d 174 20 [l0, some (.int x), l2, l3, l4, l5, l6, l7] st h Q = wp V (cdT Ev) mx d 174 21 [l0, some (.int x), l2, l3, l4, l5, l6, l7] (.int x :: st) h Q := x_iload (len := 1) rfl rfl
theorem s_174_21 : wp V (cdT Ev) mx d 174 21 ls st h Q = wp V (cdT Ev) mx d 174 22 ls ((.int (1)) :: st) h Q := x_push (v := (.int (1))) (len := 1) rfl
theorem s_174_22 {b : Nat} {v0 v1 : Value} (hst : st.length ≤ 4) : wp V (cdT Ev) mx d 174 22 ls (v1 :: v0 :: .ref b :: st) h Q = cv [(12, 132)] h b (fun y' => WP V (cdT Ev) mx d y' [.ref b, v0, v1] h (fun r h' => wp V (cdT Ev) mx d 174 25 ls (rts r st) h' Q)) := x_cv (sg := [v1, v0]) rfl hst rfl rfl
theorem s_174_25 {x : Int32} (hn : nl l2 = true) : wp V (cdT Ev) mx d 174 25 [l0, l1, l2, l3, l4, l5, l6, l7] (.int x :: st) h Q = wp V (cdT Ev) mx d 174 26 [l0, l1, l2, some (.int x), l4, l5, l6, l7] st h Q := x_istore (len := 1) rfl (Nat.le_of_ble_eq_true rfl) (okp_nl rfl hn) rfl
theorem s_174_26 : wp V (cdT Ev) mx d 174 26 ls st h Q = wp V (cdT Ev) mx d 174 27 ls ((.int (0)) :: st) h Q := x_push (v := (.int (0))) (len := 1) rfl
theorem s_174_27 {x : Int32} (hn : nl l3 = true) : wp V (cdT Ev) mx d 174 27 [l0, l1, l2, l3, l4, l5, l6, l7] (.int x :: st) h Q = wp V (cdT Ev) mx d 174 29 [l0, l1, l2, l3, some (.int x), l5, l6, l7] st h Q := x_istore (len := 2) rfl (Nat.le_of_ble_eq_true rfl) (okp_nl rfl hn) rfl
theorem s_174_29 : wp V (cdT Ev) mx d 174 29 ls st h Q = wp V (cdT Ev) mx d 174 31 ls ((.int (-5)) :: st) h Q := x_push (v := (.int (-5))) (len := 2) rfl
theorem s_174_31 {x : Int32} (hn : nl l4 = true) : wp V (cdT Ev) mx d 174 31 [l0, l1, l2, l3, l4, l5, l6, l7] (.int x :: st) h Q = wp V (cdT Ev) mx d 174 33 [l0, l1, l2, l3, l4, some (.int x), l6, l7] st h Q := x_istore (len := 2) rfl (Nat.le_of_ble_eq_true rfl) (okp_nl rfl hn) rfl
theorem s_174_33 : wp V (cdT Ev) mx d 174 33 ls st h Q = wp V (cdT Ev) mx d 174 35 ls ((.int (9)) :: st) h Q := x_push (v := (.int (9))) (len := 2) rfl
theorem s_174_35 {x : Int32} (hn : nl l5 = true) : wp V (cdT Ev) mx d 174 35 [l0, l1, l2, l3, l4, l5, l6, l7] (.int x :: st) h Q = wp V (cdT Ev) mx d 174 37 [l0, l1, l2, l3, l4, l5, some (.int x), l7] st h Q := x_istore (len := 2) rfl (Nat.le_of_ble_eq_true rfl) (okp_nl rfl hn) rfl
theorem s_174_37 {x : Int32} : wp V (cdT Ev) mx d 174 37 [l0, l1, l2, l3, l4, l5, some (.int x), l7] st h Q = wp V (cdT Ev) mx d 174 39 [l0, l1, l2, l3, l4, l5, some (.int x), l7] (.int x :: st) h Q := x_iload (len := 2) rfl rfl
theorem s_174_39 {x : Int32} : wp V (cdT Ev) mx d 174 39 ls (.int x :: st) h Q = (if x < 0 then wp V (cdT Ev) mx d 174 98 ls st h Q else wp V (cdT Ev) mx d 174 42 ls st h Q) := x_if1 (c := fun x => x < 0) rfl
theorem s_174_42 {a : Nat} : wp V (cdT Ev) mx d 174 42 [some (.ref a), l1, l2, l3, l4, l5, l6, l7] st h Q = wp V (cdT Ev) mx d 174 43 [some (.ref a), l1, l2, l3, l4, l5, l6, l7] (.ref a :: st) h Q := x_aload (len := 1) rfl rfl
theorem s_174_42_n : wp V (cdT Ev) mx d 174 42 [some .null, l1, l2, l3, l4, l5, l6, l7] st h Q = wp V (cdT Ev) mx d 174 43 [some .null, l1, l2, l3, l4, l5, l6, l7] (.null :: st) h Q := x_aloadN (len := 1) rfl rfl
theorem s_174_43 {x : Int32} : wp V (cdT Ev) mx d 174 43 [l0, some (.int x), l2, l3, l4, l5, l6, l7] st h Q = wp V (cdT Ev) mx d 174 44 [l0, some (.int x), l2, l3, l4, l5, l6, l7] (.int x :: st) h Q := x_iload (len := 1) rfl rfl
theorem s_174_44 : wp V (cdT Ev) mx d 174 44 ls st h Q = wp V (cdT Ev) mx d 174 45 ls ((.int (1)) :: st) h Q := x_push (v := (.int (1))) (len := 1) rfl
theorem s_174_45 {x : Int32} : wp V (cdT Ev) mx d 174 45 [l0, l1, l2, l3, l4, l5, some (.int x), l7] st h Q = wp V (cdT Ev) mx d 174 47 [l0, l1, l2, l3, l4, l5, some (.int x), l7] (.int x :: st) h Q := x_iload (len := 2) rfl rfl
theorem s_174_47 {b : Nat} {v0 v1 v2 : Value} (hst : st.length ≤ 4) : wp V (cdT Ev) mx d 174 47 ls (v2 :: v1 :: v0 :: .ref b :: st) h Q = cv [(12, 133)] h b (fun y' => WP V (cdT Ev) mx d y' [.ref b, v0, v1, v2] h (fun r h' => wp V (cdT Ev) mx d 174 50 ls (rts r st) h' Q)) := x_cv (sg := [v2, v1, v0]) rfl hst rfl rfl
theorem s_174_50 {a : Nat} : wp V (cdT Ev) mx d 174 50 ls (.ref a :: st) h Q = wp V (cdT Ev) mx d 174 51 ls st h Q := x_pop rfl rfl
theorem s_174_50_i {x : Int32} : wp V (cdT Ev) mx d 174 50 ls (.int x :: st) h Q = wp V (cdT Ev) mx d 174 51 ls st h Q := x_pop rfl rfl
theorem s_174_51 {a : Nat} : wp V (cdT Ev) mx d 174 51 [some (.ref a), l1, l2, l3, l4, l5, l6, l7] st h Q = wp V (cdT Ev) mx d 174 52 [some (.ref a), l1, l2, l3, l4, l5, l6, l7] (.ref a :: st) h Q := x_aload (len := 1) rfl rfl
theorem s_174_51_n : wp V (cdT Ev) mx d 174 51 [some .null, l1, l2, l3, l4, l5, l6, l7] st h Q = wp V (cdT Ev) mx d 174 52 [some .null, l1, l2, l3, l4, l5, l6, l7] (.null :: st) h Q := x_aloadN (len := 1) rfl rfl
theorem s_174_52 {x : Int32} : wp V (cdT Ev) mx d 174 52 [l0, some (.int x), l2, l3, l4, l5, l6, l7] st h Q = wp V (cdT Ev) mx d 174 53 [l0, some (.int x), l2, l3, l4, l5, l6, l7] (.int x :: st) h Q := x_iload (len := 1) rfl rfl
theorem s_174_53 {a : Nat} : wp V (cdT Ev) mx d 174 53 [some (.ref a), l1, l2, l3, l4, l5, l6, l7] st h Q = wp V (cdT Ev) mx d 174 54 [some (.ref a), l1, l2, l3, l4, l5, l6, l7] (.ref a :: st) h Q := x_aload (len := 1) rfl rfl
theorem s_174_53_n : wp V (cdT Ev) mx d 174 53 [some .null, l1, l2, l3, l4, l5, l6, l7] st h Q = wp V (cdT Ev) mx d 174 54 [some .null, l1, l2, l3, l4, l5, l6, l7] (.null :: st) h Q := x_aloadN (len := 1) rfl rfl
theorem s_174_54 {x : Int32} : wp V (cdT Ev) mx d 174 54 [l0, some (.int x), l2, l3, l4, l5, l6, l7] st h Q = wp V (cdT Ev) mx d 174 55 [l0, some (.int x), l2, l3, l4, l5, l6, l7] (.int x :: st) h Q := x_iload (len := 1) rfl rfl
theorem s_174_55 {b : Nat} {v0 : Value} (hst : st.length ≤ 4) : wp V (cdT Ev) mx d 174 55 ls (v0 :: .ref b :: st) h Q = cv [(12, 157)] h b (fun y' => WP V (cdT Ev) mx d y' [.ref b, v0] h (fun r h' => wp V (cdT Ev) mx d 174 58 ls (rts r st) h' Q)) := x_cv (sg := [v0]) rfl hst rfl rfl
theorem s_174_58 {b : Nat} {v0 v1 : Value} (hst : st.length ≤ 4) : wp V (cdT Ev) mx d 174 58 ls (v1 :: v0 :: .ref b :: st) h Q = cv [(12, 171)] h b (fun y' => WP V (cdT Ev) mx d y' [.ref b, v0, v1] h (fun r h' => wp V (cdT Ev) mx d 174 61 ls (rts r st) h' Q)) := x_cv (sg := [v1, v0]) rfl hst rfl rfl
theorem s_174_61 {x : Int32} (hn : nl l6 = true) : wp V (cdT Ev) mx d 174 61 [l0, l1, l2, l3, l4, l5, l6, l7] (.int x :: st) h Q = wp V (cdT Ev) mx d 174 63 [l0, l1, l2, l3, l4, l5, l6, some (.int x)] st h Q := x_istore (len := 2) rfl (Nat.le_of_ble_eq_true rfl) (okp_nl rfl hn) rfl
theorem s_174_63 {x : Int32} : wp V (cdT Ev) mx d 174 63 [l0, l1, l2, l3, some (.int x), l5, l6, l7] st h Q = wp V (cdT Ev) mx d 174 65 [l0, l1, l2, l3, some (.int x), l5, l6, l7] (.int x :: st) h Q := x_iload (len := 2) rfl rfl
theorem s_174_65 {x : Int32} : wp V (cdT Ev) mx d 174 65 [l0, l1, l2, l3, l4, l5, l6, some (.int x)] st h Q = wp V (cdT Ev) mx d 174 67 [l0, l1, l2, l3, l4, l5, l6, some (.int x)] (.int x :: st) h Q := x_iload (len := 2) rfl rfl
theorem s_174_67 {x : Int32} : wp V (cdT Ev) mx d 174 67 ls (.int x :: st) h Q = (if x = 0 then wp V (cdT Ev) mx d 174 74 ls st h Q else wp V (cdT Ev) mx d 174 70 ls st h Q) := x_if1 (c := fun x => x = 0) rfl
theorem s_174_70 : wp V (cdT Ev) mx d 174 70 ls st h Q = wp V (cdT Ev) mx d 174 71 ls ((.int (1)) :: st) h Q := x_push (v := (.int (1))) (len := 1) rfl
theorem s_174_71 : wp V (cdT Ev) mx d 174 71 ls st h Q = wp V (cdT Ev) mx d 174 75 ls st h Q := x_goto rfl
theorem s_174_74 : wp V (cdT Ev) mx d 174 74 ls st h Q = wp V (cdT Ev) mx d 174 75 ls ((.int (0)) :: st) h Q := x_push (v := (.int (0))) (len := 1) rfl
theorem s_174_75 {x z : Int32} : wp V (cdT Ev) mx d 174 75 ls (.int z :: .int x :: st) h Q = wp V (cdT Ev) mx d 174 76 ls (.int (x + z) :: st) h Q := x_ib (f := fun x z => x + z) rfl
theorem s_174_76 {x : Int32} (hn : nl l3 = true) : wp V (cdT Ev) mx d 174 76 [l0, l1, l2, l3, l4, l5, l6, l7] (.int x :: st) h Q = wp V (cdT Ev) mx d 174 78 [l0, l1, l2, l3, some (.int x), l5, l6, l7] st h Q := x_istore (len := 2) rfl (Nat.le_of_ble_eq_true rfl) (okp_nl rfl hn) rfl
theorem s_174_78 {x : Int32} : wp V (cdT Ev) mx d 174 78 [l0, l1, l2, l3, l4, l5, l6, some (.int x)] st h Q = wp V (cdT Ev) mx d 174 80 [l0, l1, l2, l3, l4, l5, l6, some (.int x)] (.int x :: st) h Q := x_iload (len := 2) rfl rfl
theorem s_174_80 {x : Int32} : wp V (cdT Ev) mx d 174 80 ls (.int x :: st) h Q = (if x = 0 then wp V (cdT Ev) mx d 174 88 ls st h Q else wp V (cdT Ev) mx d 174 83 ls st h Q) := x_if1 (c := fun x => x = 0) rfl
theorem s_174_83 {x : Int32} : wp V (cdT Ev) mx d 174 83 [l0, l1, l2, l3, l4, l5, some (.int x), l7] st h Q = wp V (cdT Ev) mx d 174 85 [l0, l1, l2, l3, l4, l5, some (.int x), l7] (.int x :: st) h Q := x_iload (len := 2) rfl rfl
theorem s_174_85 : wp V (cdT Ev) mx d 174 85 ls st h Q = wp V (cdT Ev) mx d 174 90 ls st h Q := x_goto rfl
theorem s_174_88 {x : Int32} : wp V (cdT Ev) mx d 174 88 [l0, l1, l2, l3, l4, some (.int x), l6, l7] st h Q = wp V (cdT Ev) mx d 174 90 [l0, l1, l2, l3, l4, some (.int x), l6, l7] (.int x :: st) h Q := x_iload (len := 2) rfl rfl
theorem s_174_90 {x : Int32} (hn : nl l4 = true) : wp V (cdT Ev) mx d 174 90 [l0, l1, l2, l3, l4, l5, l6, l7] (.int x :: st) h Q = wp V (cdT Ev) mx d 174 92 [l0, l1, l2, l3, l4, some (.int x), l6, l7] st h Q := x_istore (len := 2) rfl (Nat.le_of_ble_eq_true rfl) (okp_nl rfl hn) rfl
theorem s_174_92 {x : Int32} : wp V (cdT Ev) mx d 174 92 [l0, l1, l2, l3, l4, l5, some (.int x), l7] st h Q = wp V (cdT Ev) mx d 174 95 [l0, l1, l2, l3, l4, l5, some (.int (x + (-1))), l7] st h Q := x_iinc rfl rfl rfl
theorem s_174_95 : wp V (cdT Ev) mx d 174 95 ls st h Q = wp V (cdT Ev) mx d 174 37 ls st h Q := x_goto rfl
theorem s_174_98 {a : Nat} : wp V (cdT Ev) mx d 174 98 [some (.ref a), l1, l2, l3, l4, l5, l6, l7] st h Q = wp V (cdT Ev) mx d 174 99 [some (.ref a), l1, l2, l3, l4, l5, l6, l7] (.ref a :: st) h Q := x_aload (len := 1) rfl rfl
theorem s_174_98_n : wp V (cdT Ev) mx d 174 98 [some .null, l1, l2, l3, l4, l5, l6, l7] st h Q = wp V (cdT Ev) mx d 174 99 [some .null, l1, l2, l3, l4, l5, l6, l7] (.null :: st) h Q := x_aloadN (len := 1) rfl rfl
theorem s_174_99 {x : Int32} : wp V (cdT Ev) mx d 174 99 [l0, some (.int x), l2, l3, l4, l5, l6, l7] st h Q = wp V (cdT Ev) mx d 174 100 [l0, some (.int x), l2, l3, l4, l5, l6, l7] (.int x :: st) h Q := x_iload (len := 1) rfl rfl
theorem s_174_100 : wp V (cdT Ev) mx d 174 100 ls st h Q = wp V (cdT Ev) mx d 174 101 ls ((.int (1)) :: st) h Q := x_push (v := (.int (1))) (len := 1) rfl
theorem s_174_101 {x : Int32} : wp V (cdT Ev) mx d 174 101 [l0, l1, l2, some (.int x), l4, l5, l6, l7] st h Q = wp V (cdT Ev) mx d 174 102 [l0, l1, l2, some (.int x), l4, l5, l6, l7] (.int x :: st) h Q := x_iload (len := 1) rfl rfl
theorem s_174_102 {b : Nat} {v0 v1 v2 : Value} (hst : st.length ≤ 4) : wp V (cdT Ev) mx d 174 102 ls (v2 :: v1 :: v0 :: .ref b :: st) h Q = cv [(12, 133)] h b (fun y' => WP V (cdT Ev) mx d y' [.ref b, v0, v1, v2] h (fun r h' => wp V (cdT Ev) mx d 174 105 ls (rts r st) h' Q)) := x_cv (sg := [v2, v1, v0]) rfl hst rfl rfl
theorem s_174_105 {a : Nat} : wp V (cdT Ev) mx d 174 105 ls (.ref a :: st) h Q = wp V (cdT Ev) mx d 174 106 ls st h Q := x_pop rfl rfl
theorem s_174_105_i {x : Int32} : wp V (cdT Ev) mx d 174 105 ls (.int x :: st) h Q = wp V (cdT Ev) mx d 174 106 ls st h Q := x_pop rfl rfl
theorem s_174_106 {x : Int32} : wp V (cdT Ev) mx d 174 106 [l0, l1, some (.int x), l3, l4, l5, l6, l7] st h Q = wp V (cdT Ev) mx d 174 107 [l0, l1, some (.int x), l3, l4, l5, l6, l7] (.int x :: st) h Q := x_iload (len := 1) rfl rfl
theorem s_174_107 {x : Int32} : wp V (cdT Ev) mx d 174 107 ls (.int x :: st) h Q = (if ¬ x = 0 then wp V (cdT Ev) mx d 174 115 ls st h Q else wp V (cdT Ev) mx d 174 110 ls st h Q) := x_if1 (c := fun x => ¬ x = 0) rfl
theorem s_174_110 {x : Int32} : wp V (cdT Ev) mx d 174 110 [l0, l1, l2, l3, some (.int x), l5, l6, l7] st h Q = wp V (cdT Ev) mx d 174 112 [l0, l1, l2, l3, some (.int x), l5, l6, l7] (.int x :: st) h Q := x_iload (len := 2) rfl rfl
theorem s_174_112 : wp V (cdT Ev) mx d 174 112 ls st h Q = wp V (cdT Ev) mx d 174 117 ls st h Q := x_goto rfl
theorem s_174_115 {x : Int32} : wp V (cdT Ev) mx d 174 115 [l0, l1, l2, l3, l4, some (.int x), l6, l7] st h Q = wp V (cdT Ev) mx d 174 117 [l0, l1, l2, l3, l4, some (.int x), l6, l7] (.int x :: st) h Q := x_iload (len := 2) rfl rfl
theorem s_174_117 {x : Int32} : wp V (cdT Ev) mx d 174 117 ls [.int x] h Q = Q (some (.int x)) h := x_ret rfl rfl
theorem e_174 {a : Nat} {p0 : Int32} {p1 : Int32} : WP V (cdT Ev) mx (d + 1) 174 [.ref a, .int p0, .int p1] h Q = wp V (cdT Ev) mx d 174 0 [some (.ref a), some (.int p0), some (.int p1), none, none, none, none, none] [] h Q := propext (WP_eq (Nat.le_of_ble_eq_true rfl))
theorem s_175_0 {x : Int64} : wp V (cdT Ev) mx d 175 0 [some (.long x), l1, l2, l3, l4, l5, l6, l7, l8, l9, l10] st h Q = wp V (cdT Ev) mx d 175 1 [some (.long x), l1, l2, l3, l4, l5, l6, l7, l8, l9, l10] (.long x :: st) h Q := x_lload (len := 1) rfl rfl
theorem s_175_1 {x : Int64} (hn : nl l4 = true) : wp V (cdT Ev) mx d 175 1 [l0, l1, l2, l3, l4, l5, l6, l7, l8, l9, l10] (.long x :: st) h Q = wp V (cdT Ev) mx d 175 3 [l0, l1, l2, l3, l4, some (.long x), none, l7, l8, l9, l10] st h Q := x_lstore (len := 2) rfl (Nat.le_of_ble_eq_true rfl) (okp_nl rfl hn) rfl
theorem s_175_3 {x : Int64} : wp V (cdT Ev) mx d 175 3 [l0, l1, some (.long x), l3, l4, l5, l6, l7, l8, l9, l10] st h Q = wp V (cdT Ev) mx d 175 4 [l0, l1, some (.long x), l3, l4, l5, l6, l7, l8, l9, l10] (.long x :: st) h Q := x_lload (len := 1) rfl rfl
theorem s_175_4 {x : Int64} (hn : nl l6 = true) : wp V (cdT Ev) mx d 175 4 [l0, l1, l2, l3, l4, l5, l6, l7, l8, l9, l10] (.long x :: st) h Q = wp V (cdT Ev) mx d 175 6 [l0, l1, l2, l3, l4, l5, l6, some (.long x), none, l9, l10] st h Q := x_lstore (len := 2) rfl (Nat.le_of_ble_eq_true rfl) (okp_nl rfl hn) rfl
theorem s_175_6 {x : Int64} : wp V (cdT Ev) mx d 175 6 [l0, l1, l2, l3, l4, l5, l6, some (.long x), l8, l9, l10] st h Q = wp V (cdT Ev) mx d 175 8 [l0, l1, l2, l3, l4, l5, l6, some (.long x), l8, l9, l10] (.long x :: st) h Q := x_lload (len := 2) rfl rfl
theorem s_175_8 : wp V (cdT Ev) mx d 175 8 ls st h Q = wp V (cdT Ev) mx d 175 9 ls ((.long (0)) :: st) h Q := x_push (v := (.long (0))) (len := 1) rfl
theorem s_175_9 {x z : Int64} : wp V (cdT Ev) mx d 175 9 ls (.long z :: .long x :: st) h Q = wp V (cdT Ev) mx d 175 10 ls (.int (lg_cmp x z) :: st) h Q := x_lcmp rfl
theorem s_175_10 {x : Int32} : wp V (cdT Ev) mx d 175 10 ls (.int x :: st) h Q = (if x = 0 then wp V (cdT Ev) mx d 175 31 ls st h Q else wp V (cdT Ev) mx d 175 13 ls st h Q) := x_if1 (c := fun x => x = 0) rfl
theorem s_175_13 {x : Int64} : wp V (cdT Ev) mx d 175 13 [l0, l1, l2, l3, l4, some (.long x), l6, l7, l8, l9, l10] st h Q = wp V (cdT Ev) mx d 175 15 [l0, l1, l2, l3, l4, some (.long x), l6, l7, l8, l9, l10] (.long x :: st) h Q := x_lload (len := 2) rfl rfl
theorem s_175_15 {x : Int64} : wp V (cdT Ev) mx d 175 15 [l0, l1, l2, l3, l4, l5, l6, some (.long x), l8, l9, l10] st h Q = wp V (cdT Ev) mx d 175 17 [l0, l1, l2, l3, l4, l5, l6, some (.long x), l8, l9, l10] (.long x :: st) h Q := x_lload (len := 2) rfl rfl
theorem s_175_17 {x z : Int64} : wp V (cdT Ev) mx d 175 17 ls (.long z :: .long x :: st) h Q = (¬ z = 0 ∧ wp V (cdT Ev) mx d 175 18 ls (.long (x - x / z * z) :: st) h Q) := x_lbz (f := fun x z => x - x / z * z) rfl
theorem s_175_18 {x : Int64} (hn : nl l8 = true) : wp V (cdT Ev) mx d 175 18 [l0, l1, l2, l3, l4, l5, l6, l7, l8, l9, l10] (.long x :: st) h Q = wp V (cdT Ev) mx d 175 20 [l0, l1, l2, l3, l4, l5, l6, l7, l8, some (.long x), none] st h Q := x_lstore (len := 2) rfl (Nat.le_of_ble_eq_true rfl) (okp_nl rfl hn) rfl
theorem s_175_20 {x : Int64} : wp V (cdT Ev) mx d 175 20 [l0, l1, l2, l3, l4, l5, l6, some (.long x), l8, l9, l10] st h Q = wp V (cdT Ev) mx d 175 22 [l0, l1, l2, l3, l4, l5, l6, some (.long x), l8, l9, l10] (.long x :: st) h Q := x_lload (len := 2) rfl rfl
theorem s_175_22 {x : Int64} (hn : nl l4 = true) : wp V (cdT Ev) mx d 175 22 [l0, l1, l2, l3, l4, l5, l6, l7, l8, l9, l10] (.long x :: st) h Q = wp V (cdT Ev) mx d 175 24 [l0, l1, l2, l3, l4, some (.long x), none, l7, l8, l9, l10] st h Q := x_lstore (len := 2) rfl (Nat.le_of_ble_eq_true rfl) (okp_nl rfl hn) rfl
theorem s_175_24 {x : Int64} : wp V (cdT Ev) mx d 175 24 [l0, l1, l2, l3, l4, l5, l6, l7, l8, some (.long x), l10] st h Q = wp V (cdT Ev) mx d 175 26 [l0, l1, l2, l3, l4, l5, l6, l7, l8, some (.long x), l10] (.long x :: st) h Q := x_lload (len := 2) rfl rfl
theorem s_175_26 {x : Int64} (hn : nl l6 = true) : wp V (cdT Ev) mx d 175 26 [l0, l1, l2, l3, l4, l5, l6, l7, l8, l9, l10] (.long x :: st) h Q = wp V (cdT Ev) mx d 175 28 [l0, l1, l2, l3, l4, l5, l6, some (.long x), none, l9, l10] st h Q := x_lstore (len := 2) rfl (Nat.le_of_ble_eq_true rfl) (okp_nl rfl hn) rfl
theorem s_175_28 : wp V (cdT Ev) mx d 175 28 ls st h Q = wp V (cdT Ev) mx d 175 6 ls st h Q := x_goto rfl
theorem s_175_31 {x : Int32} : wp V (cdT Ev) mx d 175 31 [l0, l1, l2, l3, some (.int x), l5, l6, l7, l8, l9, l10] st h Q = wp V (cdT Ev) mx d 175 33 [l0, l1, l2, l3, some (.int x), l5, l6, l7, l8, l9, l10] (.int x :: st) h Q := x_iload (len := 2) rfl rfl
theorem s_175_33 {x : Int32} : wp V (cdT Ev) mx d 175 33 ls (.int x :: st) h Q = (if ¬ x = 0 then wp V (cdT Ev) mx d 175 43 ls st h Q else wp V (cdT Ev) mx d 175 36 ls st h Q) := x_if1 (c := fun x => ¬ x = 0) rfl
theorem s_175_36 {x : Int64} : wp V (cdT Ev) mx d 175 36 [some (.long x), l1, l2, l3, l4, l5, l6, l7, l8, l9, l10] st h Q = wp V (cdT Ev) mx d 175 37 [some (.long x), l1, l2, l3, l4, l5, l6, l7, l8, l9, l10] (.long x :: st) h Q := x_lload (len := 1) rfl rfl
theorem s_175_37 {x : Int64} : wp V (cdT Ev) mx d 175 37 [l0, l1, l2, l3, l4, some (.long x), l6, l7, l8, l9, l10] st h Q = wp V (cdT Ev) mx d 175 39 [l0, l1, l2, l3, l4, some (.long x), l6, l7, l8, l9, l10] (.long x :: st) h Q := x_lload (len := 2) rfl rfl
theorem s_175_39 {x z : Int64} : wp V (cdT Ev) mx d 175 39 ls (.long z :: .long x :: st) h Q = (¬ z = 0 ∧ wp V (cdT Ev) mx d 175 40 ls (.long (x / z) :: st) h Q) := x_lbz (f := fun x z => x / z) rfl
theorem s_175_40 : wp V (cdT Ev) mx d 175 40 ls st h Q = wp V (cdT Ev) mx d 175 47 ls st h Q := x_goto rfl
theorem s_175_43 {x : Int64} : wp V (cdT Ev) mx d 175 43 [l0, l1, some (.long x), l3, l4, l5, l6, l7, l8, l9, l10] st h Q = wp V (cdT Ev) mx d 175 44 [l0, l1, some (.long x), l3, l4, l5, l6, l7, l8, l9, l10] (.long x :: st) h Q := x_lload (len := 1) rfl rfl
theorem s_175_44 {x : Int64} : wp V (cdT Ev) mx d 175 44 [l0, l1, l2, l3, l4, some (.long x), l6, l7, l8, l9, l10] st h Q = wp V (cdT Ev) mx d 175 46 [l0, l1, l2, l3, l4, some (.long x), l6, l7, l8, l9, l10] (.long x :: st) h Q := x_lload (len := 2) rfl rfl
theorem s_175_46 {x z : Int64} : wp V (cdT Ev) mx d 175 46 ls (.long z :: .long x :: st) h Q = (¬ z = 0 ∧ wp V (cdT Ev) mx d 175 47 ls (.long (x / z) :: st) h Q) := x_lbz (f := fun x z => x / z) rfl
theorem s_175_47 {x : Int64} : wp V (cdT Ev) mx d 175 47 ls [.long x] h Q = Q (some (.long x)) h := x_ret rfl rfl
theorem e_175 {p0 : Int64} {p1 : Int64} {p2 : Int32} : WP V (cdT Ev) mx (d + 1) 175 [.long p0, .long p1, .int p2] h Q = wp V (cdT Ev) mx d 175 0 [some (.long p0), none, some (.long p1), none, some (.int p2), none, none, none, none, none, none] [] h Q := propext (WP_eq (Nat.le_of_ble_eq_true rfl))
theorem s_176_0 {a : Nat} : wp V (cdT Ev) mx d 176 0 [some (.ref a), l1, l2, l3, l4, l5, l6] st h Q = wp V (cdT Ev) mx d 176 1 [some (.ref a), l1, l2, l3, l4, l5, l6] (.ref a :: st) h Q := x_aload (len := 1) rfl rfl
theorem s_176_0_n : wp V (cdT Ev) mx d 176 0 [some .null, l1, l2, l3, l4, l5, l6] st h Q = wp V (cdT Ev) mx d 176 1 [some .null, l1, l2, l3, l4, l5, l6] (.null :: st) h Q := x_aloadN (len := 1) rfl rfl
theorem s_176_1 {x : Int32} : wp V (cdT Ev) mx d 176 1 [l0, some (.int x), l2, l3, l4, l5, l6] st h Q = wp V (cdT Ev) mx d 176 2 [l0, some (.int x), l2, l3, l4, l5, l6] (.int x :: st) h Q := x_iload (len := 1) rfl rfl
theorem s_176_2 {b : Nat} {v0 : Value} (hst : st.length ≤ 4) : wp V (cdT Ev) mx d 176 2 ls (v0 :: .ref b :: st) h Q = cv [(12, 128)] h b (fun y' => WP V (cdT Ev) mx d y' [.ref b, v0] h (fun r h' => wp V (cdT Ev) mx d 176 5 ls (rts r st) h' Q)) := x_cv (sg := [v0]) rfl hst rfl rfl
theorem s_176_5 {x : Int32} : wp V (cdT Ev) mx d 176 5 ls (.int x :: st) h Q = (if x = 0 then wp V (cdT Ev) mx d 176 17 ls st h Q else wp V (cdT Ev) mx d 176 8 ls st h Q) := x_if1 (c := fun x => x = 0) rfl
theorem s_176_8 {x : Int32} : wp V (cdT Ev) mx d 176 8 [l0, l1, some (.int x), l3, l4, l5, l6] st h Q = wp V (cdT Ev) mx d 176 9 [l0, l1, some (.int x), l3, l4, l5, l6] (.int x :: st) h Q := x_iload (len := 1) rfl rfl
theorem s_176_9 : wp V (cdT Ev) mx d 176 9 ls st h Q = wp V (cdT Ev) mx d 176 10 ls ((.int (0)) :: st) h Q := x_push (v := (.int (0))) (len := 1) rfl
theorem s_176_10 : wp V (cdT Ev) mx d 176 10 ls st h Q = wp V (cdT Ev) mx d 176 11 ls ((.int (1)) :: st) h Q := x_push (v := (.int (1))) (len := 1) rfl
theorem s_176_11 {v0 v1 v2 : Value} (hst : st.length ≤ 4) : wp V (cdT Ev) mx d 176 11 ls (v2 :: v1 :: v0 :: st) h Q = WP V (cdT Ev) mx d 123 [v0, v1, v2] h (fun r h' => wp V (cdT Ev) mx d 176 14 ls (rts r st) h' Q) := x_cs (sg := [v2, v1, v0]) rfl hst rfl rfl
theorem s_176_14 {x : Int32} : wp V (cdT Ev) mx d 176 14 ls (.int x :: st) h Q = (if ¬ x = 0 then wp V (cdT Ev) mx d 176 21 ls st h Q else wp V (cdT Ev) mx d 176 17 ls st h Q) := x_if1 (c := fun x => ¬ x = 0) rfl
theorem s_176_17 : wp V (cdT Ev) mx d 176 17 ls st h Q = wp V (cdT Ev) mx d 176 20 ls ((.long (-9223372036854775808)) :: st) h Q := x_push (v := (.long (-9223372036854775808))) (len := 3) rfl
theorem s_176_20 {x : Int64} : wp V (cdT Ev) mx d 176 20 ls [.long x] h Q = Q (some (.long x)) h := x_ret rfl rfl
theorem s_176_21 {a : Nat} : wp V (cdT Ev) mx d 176 21 [some (.ref a), l1, l2, l3, l4, l5, l6] st h Q = wp V (cdT Ev) mx d 176 22 [some (.ref a), l1, l2, l3, l4, l5, l6] (.ref a :: st) h Q := x_aload (len := 1) rfl rfl
theorem s_176_21_n : wp V (cdT Ev) mx d 176 21 [some .null, l1, l2, l3, l4, l5, l6] st h Q = wp V (cdT Ev) mx d 176 22 [some .null, l1, l2, l3, l4, l5, l6] (.null :: st) h Q := x_aloadN (len := 1) rfl rfl
theorem s_176_22 {x : Int32} : wp V (cdT Ev) mx d 176 22 [l0, some (.int x), l2, l3, l4, l5, l6] st h Q = wp V (cdT Ev) mx d 176 23 [l0, some (.int x), l2, l3, l4, l5, l6] (.int x :: st) h Q := x_iload (len := 1) rfl rfl
theorem s_176_23 {b : Nat} {v0 : Value} (hst : st.length ≤ 4) : wp V (cdT Ev) mx d 176 23 ls (v0 :: .ref b :: st) h Q = cv [(12, 157)] h b (fun y' => WP V (cdT Ev) mx d y' [.ref b, v0] h (fun r h' => wp V (cdT Ev) mx d 176 26 ls (rts r st) h' Q)) := x_cv (sg := [v0]) rfl hst rfl rfl
theorem s_176_26 {x : Int32} (hn : nl l2 = true) : wp V (cdT Ev) mx d 176 26 [l0, l1, l2, l3, l4, l5, l6] (.int x :: st) h Q = wp V (cdT Ev) mx d 176 27 [l0, l1, l2, some (.int x), l4, l5, l6] st h Q := x_istore (len := 1) rfl (Nat.le_of_ble_eq_true rfl) (okp_nl rfl hn) rfl
theorem s_176_27 : wp V (cdT Ev) mx d 176 27 ls st h Q = wp V (cdT Ev) mx d 176 28 ls ((.int (0)) :: st) h Q := x_push (v := (.int (0))) (len := 1) rfl
theorem s_176_28 {x : Int32} (hn : nl l3 = true) : wp V (cdT Ev) mx d 176 28 [l0, l1, l2, l3, l4, l5, l6] (.int x :: st) h Q = wp V (cdT Ev) mx d 176 30 [l0, l1, l2, l3, some (.int x), l5, l6] st h Q := x_istore (len := 2) rfl (Nat.le_of_ble_eq_true rfl) (okp_nl rfl hn) rfl
theorem s_176_30 : wp V (cdT Ev) mx d 176 30 ls st h Q = wp V (cdT Ev) mx d 176 31 ls ((.int (0)) :: st) h Q := x_push (v := (.int (0))) (len := 1) rfl
theorem s_176_31 {x : Int32} (hn : nl l4 = true) : wp V (cdT Ev) mx d 176 31 [l0, l1, l2, l3, l4, l5, l6] (.int x :: st) h Q = wp V (cdT Ev) mx d 176 33 [l0, l1, l2, l3, l4, some (.int x), l6] st h Q := x_istore (len := 2) rfl (Nat.le_of_ble_eq_true rfl) (okp_nl rfl hn) rfl
theorem s_176_33 {x : Int32} : wp V (cdT Ev) mx d 176 33 [l0, l1, l2, l3, l4, some (.int x), l6] st h Q = wp V (cdT Ev) mx d 176 35 [l0, l1, l2, l3, l4, some (.int x), l6] (.int x :: st) h Q := x_iload (len := 2) rfl rfl
theorem s_176_35 : wp V (cdT Ev) mx d 176 35 ls st h Q = wp V (cdT Ev) mx d 176 37 ls ((.int (12)) :: st) h Q := x_push (v := (.int (12))) (len := 2) rfl
theorem s_176_37 {x z : Int32} : wp V (cdT Ev) mx d 176 37 ls (.int z :: .int x :: st) h Q = (if z ≤ x then wp V (cdT Ev) mx d 176 86 ls st h Q else wp V (cdT Ev) mx d 176 40 ls st h Q) := x_if2 (c := fun x z => z ≤ x) rfl
theorem s_176_40 {a : Nat} : wp V (cdT Ev) mx d 176 40 [some (.ref a), l1, l2, l3, l4, l5, l6] st h Q = wp V (cdT Ev) mx d 176 41 [some (.ref a), l1, l2, l3, l4, l5, l6] (.ref a :: st) h Q := x_aload (len := 1) rfl rfl
theorem s_176_40_n : wp V (cdT Ev) mx d 176 40 [some .null, l1, l2, l3, l4, l5, l6] st h Q = wp V (cdT Ev) mx d 176 41 [some .null, l1, l2, l3, l4, l5, l6] (.null :: st) h Q := x_aloadN (len := 1) rfl rfl
theorem s_176_41 {x : Int32} : wp V (cdT Ev) mx d 176 41 [l0, some (.int x), l2, l3, l4, l5, l6] st h Q = wp V (cdT Ev) mx d 176 42 [l0, some (.int x), l2, l3, l4, l5, l6] (.int x :: st) h Q := x_iload (len := 1) rfl rfl
theorem s_176_42 {a : Nat} : wp V (cdT Ev) mx d 176 42 [some (.ref a), l1, l2, l3, l4, l5, l6] st h Q = wp V (cdT Ev) mx d 176 43 [some (.ref a), l1, l2, l3, l4, l5, l6] (.ref a :: st) h Q := x_aload (len := 1) rfl rfl
theorem s_176_42_n : wp V (cdT Ev) mx d 176 42 [some .null, l1, l2, l3, l4, l5, l6] st h Q = wp V (cdT Ev) mx d 176 43 [some .null, l1, l2, l3, l4, l5, l6] (.null :: st) h Q := x_aloadN (len := 1) rfl rfl
theorem s_176_43 {x : Int32} : wp V (cdT Ev) mx d 176 43 [l0, some (.int x), l2, l3, l4, l5, l6] st h Q = wp V (cdT Ev) mx d 176 44 [l0, some (.int x), l2, l3, l4, l5, l6] (.int x :: st) h Q := x_iload (len := 1) rfl rfl
theorem s_176_44 : wp V (cdT Ev) mx d 176 44 ls st h Q = wp V (cdT Ev) mx d 176 45 ls ((.int (2)) :: st) h Q := x_push (v := (.int (2))) (len := 1) rfl
theorem s_176_45 {b : Nat} {v0 v1 : Value} (hst : st.length ≤ 4) : wp V (cdT Ev) mx d 176 45 ls (v1 :: v0 :: .ref b :: st) h Q = cv [(12, 132)] h b (fun y' => WP V (cdT Ev) mx d y' [.ref b, v0, v1] h (fun r h' => wp V (cdT Ev) mx d 176 48 ls (rts r st) h' Q)) := x_cv (sg := [v1, v0]) rfl hst rfl rfl
theorem s_176_48 : wp V (cdT Ev) mx d 176 48 ls st h Q = wp V (cdT Ev) mx d 176 49 ls ((.int (1)) :: st) h Q := x_push (v := (.int (1))) (len := 1) rfl
theorem s_176_49 {x : Int32} : wp V (cdT Ev) mx d 176 49 [l0, l1, l2, l3, l4, some (.int x), l6] st h Q = wp V (cdT Ev) mx d 176 51 [l0, l1, l2, l3, l4, some (.int x), l6] (.int x :: st) h Q := x_iload (len := 2) rfl rfl
theorem s_176_51 {x z : Int32} : wp V (cdT Ev) mx d 176 51 ls (.int z :: .int x :: st) h Q = wp V (cdT Ev) mx d 176 52 ls (.int (x <<< (z &&& 31)) :: st) h Q := x_ib (f := fun x z => x <<< (z &&& 31)) rfl
theorem s_176_52 {x z : Int32} : wp V (cdT Ev) mx d 176 52 ls (.int z :: .int x :: st) h Q = wp V (cdT Ev) mx d 176 53 ls (.int (x ||| z) :: st) h Q := x_ib (f := fun x z => x ||| z) rfl
theorem s_176_53 {b : Nat} {v0 v1 : Value} (hst : st.length ≤ 4) : wp V (cdT Ev) mx d 176 53 ls (v1 :: v0 :: .ref b :: st) h Q = cv [(12, 156)] h b (fun y' => WP V (cdT Ev) mx d y' [.ref b, v0, v1] h (fun r h' => wp V (cdT Ev) mx d 176 56 ls (rts r st) h' Q)) := x_cv (sg := [v1, v0]) rfl hst rfl rfl
theorem s_176_56 {x : Int32} (hn : nl l5 = true) : wp V (cdT Ev) mx d 176 56 [l0, l1, l2, l3, l4, l5, l6] (.int x :: st) h Q = wp V (cdT Ev) mx d 176 58 [l0, l1, l2, l3, l4, l5, some (.int x)] st h Q := x_istore (len := 2) rfl (Nat.le_of_ble_eq_true rfl) (okp_nl rfl hn) rfl
theorem s_176_58 {x : Int32} : wp V (cdT Ev) mx d 176 58 [l0, l1, l2, l3, some (.int x), l5, l6] st h Q = wp V (cdT Ev) mx d 176 60 [l0, l1, l2, l3, some (.int x), l5, l6] (.int x :: st) h Q := x_iload (len := 2) rfl rfl
theorem s_176_60 {x : Int32} : wp V (cdT Ev) mx d 176 60 [l0, l1, l2, l3, l4, l5, some (.int x)] st h Q = wp V (cdT Ev) mx d 176 62 [l0, l1, l2, l3, l4, l5, some (.int x)] (.int x :: st) h Q := x_iload (len := 2) rfl rfl
theorem s_176_62 : wp V (cdT Ev) mx d 176 62 ls st h Q = wp V (cdT Ev) mx d 176 63 ls ((.int (-1)) :: st) h Q := x_push (v := (.int (-1))) (len := 1) rfl
theorem s_176_63 {x z : Int32} : wp V (cdT Ev) mx d 176 63 ls (.int z :: .int x :: st) h Q = (if x = z then wp V (cdT Ev) mx d 176 76 ls st h Q else wp V (cdT Ev) mx d 176 66 ls st h Q) := x_if2 (c := fun x z => x = z) rfl
theorem s_176_66 {x : Int32} : wp V (cdT Ev) mx d 176 66 [l0, l1, l2, l3, l4, l5, some (.int x)] st h Q = wp V (cdT Ev) mx d 176 68 [l0, l1, l2, l3, l4, l5, some (.int x)] (.int x :: st) h Q := x_iload (len := 2) rfl rfl
theorem s_176_68 {x : Int32} : wp V (cdT Ev) mx d 176 68 [l0, l1, l2, some (.int x), l4, l5, l6] st h Q = wp V (cdT Ev) mx d 176 69 [l0, l1, l2, some (.int x), l4, l5, l6] (.int x :: st) h Q := x_iload (len := 1) rfl rfl
theorem s_176_69 {x z : Int32} : wp V (cdT Ev) mx d 176 69 ls (.int z :: .int x :: st) h Q = (if x = z then wp V (cdT Ev) mx d 176 76 ls st h Q else wp V (cdT Ev) mx d 176 72 ls st h Q) := x_if2 (c := fun x z => x = z) rfl
theorem s_176_72 : wp V (cdT Ev) mx d 176 72 ls st h Q = wp V (cdT Ev) mx d 176 73 ls ((.int (1)) :: st) h Q := x_push (v := (.int (1))) (len := 1) rfl
theorem s_176_73 : wp V (cdT Ev) mx d 176 73 ls st h Q = wp V (cdT Ev) mx d 176 77 ls st h Q := x_goto rfl
theorem s_176_76 : wp V (cdT Ev) mx d 176 76 ls st h Q = wp V (cdT Ev) mx d 176 77 ls ((.int (0)) :: st) h Q := x_push (v := (.int (0))) (len := 1) rfl
theorem s_176_77 {x z : Int32} : wp V (cdT Ev) mx d 176 77 ls (.int z :: .int x :: st) h Q = wp V (cdT Ev) mx d 176 78 ls (.int (x + z) :: st) h Q := x_ib (f := fun x z => x + z) rfl
theorem s_176_78 {x : Int32} (hn : nl l3 = true) : wp V (cdT Ev) mx d 176 78 [l0, l1, l2, l3, l4, l5, l6] (.int x :: st) h Q = wp V (cdT Ev) mx d 176 80 [l0, l1, l2, l3, some (.int x), l5, l6] st h Q := x_istore (len := 2) rfl (Nat.le_of_ble_eq_true rfl) (okp_nl rfl hn) rfl
theorem s_176_80 {x : Int32} : wp V (cdT Ev) mx d 176 80 [l0, l1, l2, l3, l4, some (.int x), l6] st h Q = wp V (cdT Ev) mx d 176 83 [l0, l1, l2, l3, l4, some (.int (x + (1))), l6] st h Q := x_iinc rfl rfl rfl
theorem s_176_83 : wp V (cdT Ev) mx d 176 83 ls st h Q = wp V (cdT Ev) mx d 176 33 ls st h Q := x_goto rfl
theorem s_176_86 {x : Int32} : wp V (cdT Ev) mx d 176 86 [l0, l1, l2, l3, some (.int x), l5, l6] st h Q = wp V (cdT Ev) mx d 176 88 [l0, l1, l2, l3, some (.int x), l5, l6] (.int x :: st) h Q := x_iload (len := 2) rfl rfl
theorem s_176_88 {x : Int32} : wp V (cdT Ev) mx d 176 88 ls (.int x :: st) h Q = wp V (cdT Ev) mx d 176 89 ls (.long x.toInt64 :: st) h Q := x_i2l rfl
theorem s_176_89 : wp V (cdT Ev) mx d 176 89 ls st h Q = wp V (cdT Ev) mx d 176 92 ls ((.long (12)) :: st) h Q := x_push (v := (.long (12))) (len := 3) rfl
theorem s_176_92 {x : Int32} : wp V (cdT Ev) mx d 176 92 [l0, l1, some (.int x), l3, l4, l5, l6] st h Q = wp V (cdT Ev) mx d 176 93 [l0, l1, some (.int x), l3, l4, l5, l6] (.int x :: st) h Q := x_iload (len := 1) rfl rfl
theorem s_176_93 {v0 v1 v2 : Value} (hst : st.length ≤ 4) : wp V (cdT Ev) mx d 176 93 ls (v2 :: v1 :: v0 :: st) h Q = WP V (cdT Ev) mx d 175 [v0, v1, v2] h (fun r h' => wp V (cdT Ev) mx d 176 96 ls (rts r st) h' Q) := x_cs (sg := [v2, v1, v0]) rfl hst rfl rfl
theorem s_176_96 {x : Int64} : wp V (cdT Ev) mx d 176 96 ls [.long x] h Q = Q (some (.long x)) h := x_ret rfl rfl
theorem e_176 {a : Nat} {p0 : Int32} {p1 : Int32} : WP V (cdT Ev) mx (d + 1) 176 [.ref a, .int p0, .int p1] h Q = wp V (cdT Ev) mx d 176 0 [some (.ref a), some (.int p0), some (.int p1), none, none, none, none] [] h Q := propext (WP_eq (Nat.le_of_ble_eq_true rfl))
theorem s_177_0 {x : Int32} : wp V (cdT Ev) mx d 177 0 [l0, some (.int x), l2, l3, l4, l5] st h Q = wp V (cdT Ev) mx d 177 1 [l0, some (.int x), l2, l3, l4, l5] (.int x :: st) h Q := x_iload (len := 1) rfl rfl
theorem s_177_1 : wp V (cdT Ev) mx d 177 1 ls st h Q = wp V (cdT Ev) mx d 177 2 ls ((.int (0)) :: st) h Q := x_push (v := (.int (0))) (len := 1) rfl
theorem s_177_2 : wp V (cdT Ev) mx d 177 2 ls st h Q = wp V (cdT Ev) mx d 177 4 ls ((.int (60)) :: st) h Q := x_push (v := (.int (60))) (len := 2) rfl
theorem s_177_4 {v0 v1 v2 : Value} (hst : st.length ≤ 4) : wp V (cdT Ev) mx d 177 4 ls (v2 :: v1 :: v0 :: st) h Q = WP V (cdT Ev) mx d 123 [v0, v1, v2] h (fun r h' => wp V (cdT Ev) mx d 177 7 ls (rts r st) h' Q) := x_cs (sg := [v2, v1, v0]) rfl hst rfl rfl
theorem s_177_7 {x : Int32} : wp V (cdT Ev) mx d 177 7 ls (.int x :: st) h Q = (if x = 0 then wp V (cdT Ev) mx d 177 19 ls st h Q else wp V (cdT Ev) mx d 177 10 ls st h Q) := x_if1 (c := fun x => x = 0) rfl
theorem s_177_10 {x : Int32} : wp V (cdT Ev) mx d 177 10 [l0, l1, some (.int x), l3, l4, l5] st h Q = wp V (cdT Ev) mx d 177 11 [l0, l1, some (.int x), l3, l4, l5] (.int x :: st) h Q := x_iload (len := 1) rfl rfl
theorem s_177_11 : wp V (cdT Ev) mx d 177 11 ls st h Q = wp V (cdT Ev) mx d 177 12 ls ((.int (0)) :: st) h Q := x_push (v := (.int (0))) (len := 1) rfl
theorem s_177_12 : wp V (cdT Ev) mx d 177 12 ls st h Q = wp V (cdT Ev) mx d 177 13 ls ((.int (1)) :: st) h Q := x_push (v := (.int (1))) (len := 1) rfl
theorem s_177_13 {v0 v1 v2 : Value} (hst : st.length ≤ 4) : wp V (cdT Ev) mx d 177 13 ls (v2 :: v1 :: v0 :: st) h Q = WP V (cdT Ev) mx d 123 [v0, v1, v2] h (fun r h' => wp V (cdT Ev) mx d 177 16 ls (rts r st) h' Q) := x_cs (sg := [v2, v1, v0]) rfl hst rfl rfl
theorem s_177_16 {x : Int32} : wp V (cdT Ev) mx d 177 16 ls (.int x :: st) h Q = (if ¬ x = 0 then wp V (cdT Ev) mx d 177 23 ls st h Q else wp V (cdT Ev) mx d 177 19 ls st h Q) := x_if1 (c := fun x => ¬ x = 0) rfl
theorem s_177_19 : wp V (cdT Ev) mx d 177 19 ls st h Q = wp V (cdT Ev) mx d 177 22 ls ((.long (-9223372036854775808)) :: st) h Q := x_push (v := (.long (-9223372036854775808))) (len := 3) rfl
theorem s_177_22 {x : Int64} : wp V (cdT Ev) mx d 177 22 ls [.long x] h Q = Q (some (.long x)) h := x_ret rfl rfl
theorem s_177_23 {a : Nat} : wp V (cdT Ev) mx d 177 23 [some (.ref a), l1, l2, l3, l4, l5] st h Q = wp V (cdT Ev) mx d 177 24 [some (.ref a), l1, l2, l3, l4, l5] (.ref a :: st) h Q := x_aload (len := 1) rfl rfl
theorem s_177_23_n : wp V (cdT Ev) mx d 177 23 [some .null, l1, l2, l3, l4, l5] st h Q = wp V (cdT Ev) mx d 177 24 [some .null, l1, l2, l3, l4, l5] (.null :: st) h Q := x_aloadN (len := 1) rfl rfl
theorem s_177_24 {x : Int32} : wp V (cdT Ev) mx d 177 24 [l0, some (.int x), l2, l3, l4, l5] st h Q = wp V (cdT Ev) mx d 177 25 [l0, some (.int x), l2, l3, l4, l5] (.int x :: st) h Q := x_iload (len := 1) rfl rfl
theorem s_177_25 : wp V (cdT Ev) mx d 177 25 ls st h Q = wp V (cdT Ev) mx d 177 26 ls ((.int (1)) :: st) h Q := x_push (v := (.int (1))) (len := 1) rfl
theorem s_177_26 {b : Nat} {v0 v1 : Value} (hst : st.length ≤ 4) : wp V (cdT Ev) mx d 177 26 ls (v1 :: v0 :: .ref b :: st) h Q = cv [(12, 168)] h b (fun y' => WP V (cdT Ev) mx d y' [.ref b, v0, v1] h (fun r h' => wp V (cdT Ev) mx d 177 29 ls (rts r st) h' Q)) := x_cv (sg := [v1, v0]) rfl hst rfl rfl
theorem s_177_29 {x : Int32} (hn : nl l2 = true) : wp V (cdT Ev) mx d 177 29 [l0, l1, l2, l3, l4, l5] (.int x :: st) h Q = wp V (cdT Ev) mx d 177 30 [l0, l1, l2, some (.int x), l4, l5] st h Q := x_istore (len := 1) rfl (Nat.le_of_ble_eq_true rfl) (okp_nl rfl hn) rfl
theorem s_177_30 : wp V (cdT Ev) mx d 177 30 ls st h Q = wp V (cdT Ev) mx d 177 31 ls ((.int (0)) :: st) h Q := x_push (v := (.int (0))) (len := 1) rfl
theorem s_177_31 {x : Int32} (hn : nl l3 = true) : wp V (cdT Ev) mx d 177 31 [l0, l1, l2, l3, l4, l5] (.int x :: st) h Q = wp V (cdT Ev) mx d 177 33 [l0, l1, l2, l3, some (.int x), l5] st h Q := x_istore (len := 2) rfl (Nat.le_of_ble_eq_true rfl) (okp_nl rfl hn) rfl
theorem s_177_33 : wp V (cdT Ev) mx d 177 33 ls st h Q = wp V (cdT Ev) mx d 177 34 ls ((.int (0)) :: st) h Q := x_push (v := (.int (0))) (len := 1) rfl
theorem s_177_34 {x : Int32} (hn : nl l4 = true) : wp V (cdT Ev) mx d 177 34 [l0, l1, l2, l3, l4, l5] (.int x :: st) h Q = wp V (cdT Ev) mx d 177 36 [l0, l1, l2, l3, l4, some (.int x)] st h Q := x_istore (len := 2) rfl (Nat.le_of_ble_eq_true rfl) (okp_nl rfl hn) rfl
theorem s_177_36 {x : Int32} : wp V (cdT Ev) mx d 177 36 [l0, l1, l2, l3, l4, some (.int x)] st h Q = wp V (cdT Ev) mx d 177 38 [l0, l1, l2, l3, l4, some (.int x)] (.int x :: st) h Q := x_iload (len := 2) rfl rfl
theorem s_177_38 : wp V (cdT Ev) mx d 177 38 ls st h Q = wp V (cdT Ev) mx d 177 40 ls ((.int (12)) :: st) h Q := x_push (v := (.int (12))) (len := 2) rfl
theorem s_177_40 {x z : Int32} : wp V (cdT Ev) mx d 177 40 ls (.int z :: .int x :: st) h Q = (if z ≤ x then wp V (cdT Ev) mx d 177 75 ls st h Q else wp V (cdT Ev) mx d 177 43 ls st h Q) := x_if2 (c := fun x z => z ≤ x) rfl
theorem s_177_43 {x : Int32} : wp V (cdT Ev) mx d 177 43 [l0, l1, l2, l3, some (.int x), l5] st h Q = wp V (cdT Ev) mx d 177 45 [l0, l1, l2, l3, some (.int x), l5] (.int x :: st) h Q := x_iload (len := 2) rfl rfl
theorem s_177_45 {x : Int32} : wp V (cdT Ev) mx d 177 45 [l0, l1, l2, some (.int x), l4, l5] st h Q = wp V (cdT Ev) mx d 177 46 [l0, l1, l2, some (.int x), l4, l5] (.int x :: st) h Q := x_iload (len := 1) rfl rfl
theorem s_177_46 {x : Int32} : wp V (cdT Ev) mx d 177 46 [l0, l1, l2, l3, l4, some (.int x)] st h Q = wp V (cdT Ev) mx d 177 48 [l0, l1, l2, l3, l4, some (.int x)] (.int x :: st) h Q := x_iload (len := 2) rfl rfl
theorem s_177_48 {x z : Int32} : wp V (cdT Ev) mx d 177 48 ls (.int z :: .int x :: st) h Q = wp V (cdT Ev) mx d 177 49 ls (.int (x >>> (z &&& 31)) :: st) h Q := x_ib (f := fun x z => x >>> (z &&& 31)) rfl
theorem s_177_49 : wp V (cdT Ev) mx d 177 49 ls st h Q = wp V (cdT Ev) mx d 177 50 ls ((.int (1)) :: st) h Q := x_push (v := (.int (1))) (len := 1) rfl
theorem s_177_50 {x z : Int32} : wp V (cdT Ev) mx d 177 50 ls (.int z :: .int x :: st) h Q = wp V (cdT Ev) mx d 177 51 ls (.int (x &&& z) :: st) h Q := x_ib (f := fun x z => x &&& z) rfl
theorem s_177_51 : wp V (cdT Ev) mx d 177 51 ls st h Q = wp V (cdT Ev) mx d 177 52 ls ((.int (1)) :: st) h Q := x_push (v := (.int (1))) (len := 1) rfl
theorem s_177_52 {x z : Int32} : wp V (cdT Ev) mx d 177 52 ls (.int z :: .int x :: st) h Q = (if ¬ x = z then wp V (cdT Ev) mx d 177 65 ls st h Q else wp V (cdT Ev) mx d 177 55 ls st h Q) := x_if2 (c := fun x z => ¬ x = z) rfl
theorem s_177_55 {a : Nat} : wp V (cdT Ev) mx d 177 55 [some (.ref a), l1, l2, l3, l4, l5] st h Q = wp V (cdT Ev) mx d 177 56 [some (.ref a), l1, l2, l3, l4, l5] (.ref a :: st) h Q := x_aload (len := 1) rfl rfl
theorem s_177_55_n : wp V (cdT Ev) mx d 177 55 [some .null, l1, l2, l3, l4, l5] st h Q = wp V (cdT Ev) mx d 177 56 [some .null, l1, l2, l3, l4, l5] (.null :: st) h Q := x_aloadN (len := 1) rfl rfl
theorem s_177_56 {a : Nat} : wp V (cdT Ev) mx d 177 56 ls (.ref a :: st) h Q = gf [12] 0 h a (fun v => wp V (cdT Ev) mx d 177 59 ls (v :: st) h Q) := x_getf rfl
theorem s_177_59 {x : Int32} : wp V (cdT Ev) mx d 177 59 [l0, l1, l2, l3, l4, some (.int x)] st h Q = wp V (cdT Ev) mx d 177 61 [l0, l1, l2, l3, l4, some (.int x)] (.int x :: st) h Q := x_iload (len := 2) rfl rfl
theorem s_177_61 {i : Int32} {a : Nat} : wp V (cdT Ev) mx d 177 61 ls (.int i :: .ref a :: st) h Q = ai 2 i V h a (fun x => wp V (cdT Ev) mx d 177 62 ls (.int x :: st) h Q) := x_iald rfl
theorem s_177_62 : wp V (cdT Ev) mx d 177 62 ls st h Q = wp V (cdT Ev) mx d 177 66 ls st h Q := x_goto rfl
theorem s_177_65 : wp V (cdT Ev) mx d 177 65 ls st h Q = wp V (cdT Ev) mx d 177 66 ls ((.int (0)) :: st) h Q := x_push (v := (.int (0))) (len := 1) rfl
theorem s_177_66 {x z : Int32} : wp V (cdT Ev) mx d 177 66 ls (.int z :: .int x :: st) h Q = wp V (cdT Ev) mx d 177 67 ls (.int (x + z) :: st) h Q := x_ib (f := fun x z => x + z) rfl
theorem s_177_67 {x : Int32} (hn : nl l3 = true) : wp V (cdT Ev) mx d 177 67 [l0, l1, l2, l3, l4, l5] (.int x :: st) h Q = wp V (cdT Ev) mx d 177 69 [l0, l1, l2, l3, some (.int x), l5] st h Q := x_istore (len := 2) rfl (Nat.le_of_ble_eq_true rfl) (okp_nl rfl hn) rfl
theorem s_177_69 {x : Int32} : wp V (cdT Ev) mx d 177 69 [l0, l1, l2, l3, l4, some (.int x)] st h Q = wp V (cdT Ev) mx d 177 72 [l0, l1, l2, l3, l4, some (.int (x + (1)))] st h Q := x_iinc rfl rfl rfl
theorem s_177_72 : wp V (cdT Ev) mx d 177 72 ls st h Q = wp V (cdT Ev) mx d 177 36 ls st h Q := x_goto rfl
theorem s_177_75 {x : Int32} : wp V (cdT Ev) mx d 177 75 [l0, l1, l2, some (.int x), l4, l5] st h Q = wp V (cdT Ev) mx d 177 76 [l0, l1, l2, some (.int x), l4, l5] (.int x :: st) h Q := x_iload (len := 1) rfl rfl
theorem s_177_76 {x : Int32} : wp V (cdT Ev) mx d 177 76 ls (.int x :: st) h Q = (if ¬ x = 0 then wp V (cdT Ev) mx d 177 85 ls st h Q else wp V (cdT Ev) mx d 177 79 ls st h Q) := x_if1 (c := fun x => ¬ x = 0) rfl
theorem s_177_79 : wp V (cdT Ev) mx d 177 79 ls st h Q = wp V (cdT Ev) mx d 177 82 ls ((.long (-9223372036854775808)) :: st) h Q := x_push (v := (.long (-9223372036854775808))) (len := 3) rfl
theorem s_177_82 : wp V (cdT Ev) mx d 177 82 ls st h Q = wp V (cdT Ev) mx d 177 97 ls st h Q := x_goto rfl
theorem s_177_85 {x : Int32} : wp V (cdT Ev) mx d 177 85 [l0, l1, l2, l3, some (.int x), l5] st h Q = wp V (cdT Ev) mx d 177 87 [l0, l1, l2, l3, some (.int x), l5] (.int x :: st) h Q := x_iload (len := 2) rfl rfl
theorem s_177_87 {x : Int32} : wp V (cdT Ev) mx d 177 87 ls (.int x :: st) h Q = wp V (cdT Ev) mx d 177 88 ls (.long x.toInt64 :: st) h Q := x_i2l rfl
theorem s_177_88 {x : Int32} : wp V (cdT Ev) mx d 177 88 [l0, l1, l2, some (.int x), l4, l5] st h Q = wp V (cdT Ev) mx d 177 89 [l0, l1, l2, some (.int x), l4, l5] (.int x :: st) h Q := x_iload (len := 1) rfl rfl
theorem s_177_89 {v0 : Value} (hst : st.length ≤ 4) : wp V (cdT Ev) mx d 177 89 ls (v0 :: st) h Q = WP V (cdT Ev) mx d 131 [v0] h (fun r h' => wp V (cdT Ev) mx d 177 92 ls (rts r st) h' Q) := x_cs (sg := [v0]) rfl hst rfl rfl
theorem s_177_92 {x : Int32} : wp V (cdT Ev) mx d 177 92 ls (.int x :: st) h Q = wp V (cdT Ev) mx d 177 93 ls (.long x.toInt64 :: st) h Q := x_i2l rfl
theorem s_177_93 {x : Int32} : wp V (cdT Ev) mx d 177 93 [l0, l1, some (.int x), l3, l4, l5] st h Q = wp V (cdT Ev) mx d 177 94 [l0, l1, some (.int x), l3, l4, l5] (.int x :: st) h Q := x_iload (len := 1) rfl rfl
theorem s_177_94 {v0 v1 v2 : Value} (hst : st.length ≤ 4) : wp V (cdT Ev) mx d 177 94 ls (v2 :: v1 :: v0 :: st) h Q = WP V (cdT Ev) mx d 175 [v0, v1, v2] h (fun r h' => wp V (cdT Ev) mx d 177 97 ls (rts r st) h' Q) := x_cs (sg := [v2, v1, v0]) rfl hst rfl rfl
theorem s_177_97 {x : Int64} : wp V (cdT Ev) mx d 177 97 ls [.long x] h Q = Q (some (.long x)) h := x_ret rfl rfl
theorem e_177 {a : Nat} {p0 : Int32} {p1 : Int32} : WP V (cdT Ev) mx (d + 1) 177 [.ref a, .int p0, .int p1] h Q = wp V (cdT Ev) mx d 177 0 [some (.ref a), some (.int p0), some (.int p1), none, none, none] [] h Q := propext (WP_eq (Nat.le_of_ble_eq_true rfl))
theorem s_178_0 {x : Int32} : wp V (cdT Ev) mx d 178 0 [l0, some (.int x), l2, l3] st h Q = wp V (cdT Ev) mx d 178 1 [l0, some (.int x), l2, l3] (.int x :: st) h Q := x_iload (len := 1) rfl rfl
theorem s_178_1 : wp V (cdT Ev) mx d 178 1 ls st h Q = wp V (cdT Ev) mx d 178 2 ls ((.int (-1)) :: st) h Q := x_push (v := (.int (-1))) (len := 1) rfl
theorem s_178_2 {x z : Int32} : wp V (cdT Ev) mx d 178 2 ls (.int z :: .int x :: st) h Q = (if ¬ x = z then wp V (cdT Ev) mx d 178 15 ls st h Q else wp V (cdT Ev) mx d 178 5 ls st h Q) := x_if2 (c := fun x z => ¬ x = z) rfl
theorem s_178_5 {a : Nat} : wp V (cdT Ev) mx d 178 5 [some (.ref a), l1, l2, l3] st h Q = wp V (cdT Ev) mx d 178 6 [some (.ref a), l1, l2, l3] (.ref a :: st) h Q := x_aload (len := 1) rfl rfl
theorem s_178_5_n : wp V (cdT Ev) mx d 178 5 [some .null, l1, l2, l3] st h Q = wp V (cdT Ev) mx d 178 6 [some .null, l1, l2, l3] (.null :: st) h Q := x_aloadN (len := 1) rfl rfl
theorem s_178_6 {a : Nat} : wp V (cdT Ev) mx d 178 6 ls (.ref a :: st) h Q = gf [12] 0 h a (fun v => wp V (cdT Ev) mx d 178 9 ls (v :: st) h Q) := x_getf rfl
theorem s_178_9 : wp V (cdT Ev) mx d 178 9 ls st h Q = wp V (cdT Ev) mx d 178 11 ls ((.int (82)) :: st) h Q := x_push (v := (.int (82))) (len := 2) rfl
theorem s_178_11 : wp V (cdT Ev) mx d 178 11 ls st h Q = wp V (cdT Ev) mx d 178 12 ls ((.int (0)) :: st) h Q := x_push (v := (.int (0))) (len := 1) rfl
theorem s_178_12 {x i : Int32} {a : Nat} : wp V (cdT Ev) mx d 178 12 ls (.int x :: .int i :: .ref a :: st) h Q = si 2 i (x) h a (fun hh => wp V (cdT Ev) mx d 178 13 ls st hh Q) := x_iast (nw := fun x => x) rfl
theorem s_178_13 : wp V (cdT Ev) mx d 178 13 ls st h Q = wp V (cdT Ev) mx d 178 14 ls ((.int (0)) :: st) h Q := x_push (v := (.int (0))) (len := 1) rfl
theorem s_178_14 {x : Int32} : wp V (cdT Ev) mx d 178 14 ls [.int x] h Q = Q (some (.int x)) h := x_ret rfl rfl
theorem s_178_15 {x : Int32} : wp V (cdT Ev) mx d 178 15 [l0, some (.int x), l2, l3] st h Q = wp V (cdT Ev) mx d 178 16 [l0, some (.int x), l2, l3] (.int x :: st) h Q := x_iload (len := 1) rfl rfl
theorem s_178_16 {x : Int32} : wp V (cdT Ev) mx d 178 16 ls (.int x :: st) h Q = (if x = 0 then wp V (cdT Ev) mx d 178 49 ls st h Q else wp V (cdT Ev) mx d 178 19 ls st h Q) := x_if1 (c := fun x => x = 0) rfl
theorem s_178_19 {x : Int32} : wp V (cdT Ev) mx d 178 19 [l0, some (.int x), l2, l3] st h Q = wp V (cdT Ev) mx d 178 20 [l0, some (.int x), l2, l3] (.int x :: st) h Q := x_iload (len := 1) rfl rfl
theorem s_178_20 : wp V (cdT Ev) mx d 178 20 ls st h Q = wp V (cdT Ev) mx d 178 21 ls ((.int (1)) :: st) h Q := x_push (v := (.int (1))) (len := 1) rfl
theorem s_178_21 {x z : Int32} : wp V (cdT Ev) mx d 178 21 ls (.int z :: .int x :: st) h Q = (if x = z then wp V (cdT Ev) mx d 178 29 ls st h Q else wp V (cdT Ev) mx d 178 24 ls st h Q) := x_if2 (c := fun x z => x = z) rfl
theorem s_178_24 {x : Int32} : wp V (cdT Ev) mx d 178 24 [l0, some (.int x), l2, l3] st h Q = wp V (cdT Ev) mx d 178 25 [l0, some (.int x), l2, l3] (.int x :: st) h Q := x_iload (len := 1) rfl rfl
theorem s_178_25 : wp V (cdT Ev) mx d 178 25 ls st h Q = wp V (cdT Ev) mx d 178 26 ls ((.int (2)) :: st) h Q := x_push (v := (.int (2))) (len := 1) rfl
theorem s_178_26 {x z : Int32} : wp V (cdT Ev) mx d 178 26 ls (.int z :: .int x :: st) h Q = (if ¬ x = z then wp V (cdT Ev) mx d 178 37 ls st h Q else wp V (cdT Ev) mx d 178 29 ls st h Q) := x_if2 (c := fun x z => ¬ x = z) rfl
theorem s_178_29 {a : Nat} : wp V (cdT Ev) mx d 178 29 [some (.ref a), l1, l2, l3] st h Q = wp V (cdT Ev) mx d 178 30 [some (.ref a), l1, l2, l3] (.ref a :: st) h Q := x_aload (len := 1) rfl rfl
theorem s_178_29_n : wp V (cdT Ev) mx d 178 29 [some .null, l1, l2, l3] st h Q = wp V (cdT Ev) mx d 178 30 [some .null, l1, l2, l3] (.null :: st) h Q := x_aloadN (len := 1) rfl rfl
theorem s_178_30 {x : Int32} : wp V (cdT Ev) mx d 178 30 [l0, l1, some (.int x), l3] st h Q = wp V (cdT Ev) mx d 178 31 [l0, l1, some (.int x), l3] (.int x :: st) h Q := x_iload (len := 1) rfl rfl
theorem s_178_31 {b : Nat} {v0 : Value} (hst : st.length ≤ 4) : wp V (cdT Ev) mx d 178 31 ls (v0 :: .ref b :: st) h Q = cv [(12, 128)] h b (fun y' => WP V (cdT Ev) mx d y' [.ref b, v0] h (fun r h' => wp V (cdT Ev) mx d 178 34 ls (rts r st) h' Q)) := x_cv (sg := [v0]) rfl hst rfl rfl
theorem s_178_34 {x : Int32} : wp V (cdT Ev) mx d 178 34 ls (.int x :: st) h Q = (if ¬ x = 0 then wp V (cdT Ev) mx d 178 49 ls st h Q else wp V (cdT Ev) mx d 178 37 ls st h Q) := x_if1 (c := fun x => ¬ x = 0) rfl
theorem s_178_37 {x : Int32} : wp V (cdT Ev) mx d 178 37 [l0, some (.int x), l2, l3] st h Q = wp V (cdT Ev) mx d 178 38 [l0, some (.int x), l2, l3] (.int x :: st) h Q := x_iload (len := 1) rfl rfl
theorem s_178_38 : wp V (cdT Ev) mx d 178 38 ls st h Q = wp V (cdT Ev) mx d 178 39 ls ((.int (3)) :: st) h Q := x_push (v := (.int (3))) (len := 1) rfl
theorem s_178_39 {x z : Int32} : wp V (cdT Ev) mx d 178 39 ls (.int z :: .int x :: st) h Q = (if ¬ x = z then wp V (cdT Ev) mx d 178 53 ls st h Q else wp V (cdT Ev) mx d 178 42 ls st h Q) := x_if2 (c := fun x z => ¬ x = z) rfl
theorem s_178_42 {x : Int32} : wp V (cdT Ev) mx d 178 42 [l0, l1, some (.int x), l3] st h Q = wp V (cdT Ev) mx d 178 43 [l0, l1, some (.int x), l3] (.int x :: st) h Q := x_iload (len := 1) rfl rfl
theorem s_178_43 {v0 : Value} (hst : st.length ≤ 4) : wp V (cdT Ev) mx d 178 43 ls (v0 :: st) h Q = WP V (cdT Ev) mx d 129 [v0] h (fun r h' => wp V (cdT Ev) mx d 178 46 ls (rts r st) h' Q) := x_cs (sg := [v0]) rfl hst rfl rfl
theorem s_178_46 {x : Int32} : wp V (cdT Ev) mx d 178 46 ls (.int x :: st) h Q = (if x = 0 then wp V (cdT Ev) mx d 178 53 ls st h Q else wp V (cdT Ev) mx d 178 49 ls st h Q) := x_if1 (c := fun x => x = 0) rfl
theorem s_178_49 : wp V (cdT Ev) mx d 178 49 ls st h Q = wp V (cdT Ev) mx d 178 50 ls ((.int (1)) :: st) h Q := x_push (v := (.int (1))) (len := 1) rfl
theorem s_178_50 : wp V (cdT Ev) mx d 178 50 ls st h Q = wp V (cdT Ev) mx d 178 54 ls st h Q := x_goto rfl
theorem s_178_53 : wp V (cdT Ev) mx d 178 53 ls st h Q = wp V (cdT Ev) mx d 178 54 ls ((.int (0)) :: st) h Q := x_push (v := (.int (0))) (len := 1) rfl
theorem s_178_54 {x : Int32} (hn : nl l2 = true) : wp V (cdT Ev) mx d 178 54 [l0, l1, l2, l3] (.int x :: st) h Q = wp V (cdT Ev) mx d 178 55 [l0, l1, l2, some (.int x)] st h Q := x_istore (len := 1) rfl (Nat.le_of_ble_eq_true rfl) (okp_nl rfl hn) rfl
theorem s_178_55 {x : Int32} : wp V (cdT Ev) mx d 178 55 [l0, l1, l2, some (.int x)] st h Q = wp V (cdT Ev) mx d 178 56 [l0, l1, l2, some (.int x)] (.int x :: st) h Q := x_iload (len := 1) rfl rfl
theorem s_178_56 {x : Int32} : wp V (cdT Ev) mx d 178 56 ls (.int x :: st) h Q = (if ¬ x = 0 then wp V (cdT Ev) mx d 178 61 ls st h Q else wp V (cdT Ev) mx d 178 59 ls st h Q) := x_if1 (c := fun x => ¬ x = 0) rfl
theorem s_178_59 : wp V (cdT Ev) mx d 178 59 ls st h Q = wp V (cdT Ev) mx d 178 60 ls ((.int (-1)) :: st) h Q := x_push (v := (.int (-1))) (len := 1) rfl
theorem s_178_60 {x : Int32} : wp V (cdT Ev) mx d 178 60 ls [.int x] h Q = Q (some (.int x)) h := x_ret rfl rfl
theorem s_178_61 {a : Nat} : wp V (cdT Ev) mx d 178 61 [some (.ref a), l1, l2, l3] st h Q = wp V (cdT Ev) mx d 178 62 [some (.ref a), l1, l2, l3] (.ref a :: st) h Q := x_aload (len := 1) rfl rfl
theorem s_178_61_n : wp V (cdT Ev) mx d 178 61 [some .null, l1, l2, l3] st h Q = wp V (cdT Ev) mx d 178 62 [some .null, l1, l2, l3] (.null :: st) h Q := x_aloadN (len := 1) rfl rfl
theorem s_178_62 {a : Nat} : wp V (cdT Ev) mx d 178 62 ls (.ref a :: st) h Q = gf [12] 0 h a (fun v => wp V (cdT Ev) mx d 178 65 ls (v :: st) h Q) := x_getf rfl
theorem s_178_65 : wp V (cdT Ev) mx d 178 65 ls st h Q = wp V (cdT Ev) mx d 178 67 ls ((.int (82)) :: st) h Q := x_push (v := (.int (82))) (len := 2) rfl
theorem s_178_67 {i : Int32} {a : Nat} : wp V (cdT Ev) mx d 178 67 ls (.int i :: .ref a :: st) h Q = ai 2 i V h a (fun x => wp V (cdT Ev) mx d 178 68 ls (.int x :: st) h Q) := x_iald rfl
theorem s_178_68 : wp V (cdT Ev) mx d 178 68 ls st h Q = wp V (cdT Ev) mx d 178 70 ls ((.int (10)) :: st) h Q := x_push (v := (.int (10))) (len := 2) rfl
theorem s_178_70 {x z : Int32} : wp V (cdT Ev) mx d 178 70 ls (.int z :: .int x :: st) h Q = (if ¬ x = z then wp V (cdT Ev) mx d 178 76 ls st h Q else wp V (cdT Ev) mx d 178 73 ls st h Q) := x_if2 (c := fun x z => ¬ x = z) rfl
theorem s_178_73 : wp V (cdT Ev) mx d 178 73 ls st h Q = wp V (cdT Ev) mx d 178 75 ls ((.int (-4)) :: st) h Q := x_push (v := (.int (-4))) (len := 2) rfl
theorem s_178_75 {x : Int32} : wp V (cdT Ev) mx d 178 75 ls [.int x] h Q = Q (some (.int x)) h := x_ret rfl rfl
theorem s_178_76 {a : Nat} : wp V (cdT Ev) mx d 178 76 [some (.ref a), l1, l2, l3] st h Q = wp V (cdT Ev) mx d 178 77 [some (.ref a), l1, l2, l3] (.ref a :: st) h Q := x_aload (len := 1) rfl rfl
theorem s_178_76_n : wp V (cdT Ev) mx d 178 76 [some .null, l1, l2, l3] st h Q = wp V (cdT Ev) mx d 178 77 [some .null, l1, l2, l3] (.null :: st) h Q := x_aloadN (len := 1) rfl rfl
theorem s_178_77 {a : Nat} : wp V (cdT Ev) mx d 178 77 ls (.ref a :: st) h Q = gf [12] 0 h a (fun v => wp V (cdT Ev) mx d 178 80 ls (v :: st) h Q) := x_getf rfl
theorem s_178_80 : wp V (cdT Ev) mx d 178 80 ls st h Q = wp V (cdT Ev) mx d 178 82 ls ((.int (83)) :: st) h Q := x_push (v := (.int (83))) (len := 2) rfl
theorem s_178_82 : wp V (cdT Ev) mx d 178 82 ls st h Q = wp V (cdT Ev) mx d 178 83 ls ((.int (2)) :: st) h Q := x_push (v := (.int (2))) (len := 1) rfl
theorem s_178_83 {a : Nat} : wp V (cdT Ev) mx d 178 83 [some (.ref a), l1, l2, l3] st h Q = wp V (cdT Ev) mx d 178 84 [some (.ref a), l1, l2, l3] (.ref a :: st) h Q := x_aload (len := 1) rfl rfl
theorem s_178_83_n : wp V (cdT Ev) mx d 178 83 [some .null, l1, l2, l3] st h Q = wp V (cdT Ev) mx d 178 84 [some .null, l1, l2, l3] (.null :: st) h Q := x_aloadN (len := 1) rfl rfl
theorem s_178_84 {a : Nat} : wp V (cdT Ev) mx d 178 84 ls (.ref a :: st) h Q = gf [12] 0 h a (fun v => wp V (cdT Ev) mx d 178 87 ls (v :: st) h Q) := x_getf rfl
theorem s_178_87 : wp V (cdT Ev) mx d 178 87 ls st h Q = wp V (cdT Ev) mx d 178 89 ls ((.int (82)) :: st) h Q := x_push (v := (.int (82))) (len := 2) rfl
theorem s_178_89 {i : Int32} {a : Nat} : wp V (cdT Ev) mx d 178 89 ls (.int i :: .ref a :: st) h Q = ai 2 i V h a (fun x => wp V (cdT Ev) mx d 178 90 ls (.int x :: st) h Q) := x_iald rfl
theorem s_178_90 {x z : Int32} : wp V (cdT Ev) mx d 178 90 ls (.int z :: .int x :: st) h Q = wp V (cdT Ev) mx d 178 91 ls (.int (x * z) :: st) h Q := x_ib (f := fun x z => x * z) rfl
theorem s_178_91 {x z : Int32} : wp V (cdT Ev) mx d 178 91 ls (.int z :: .int x :: st) h Q = wp V (cdT Ev) mx d 178 92 ls (.int (x + z) :: st) h Q := x_ib (f := fun x z => x + z) rfl
theorem s_178_92 {x : Int32} : wp V (cdT Ev) mx d 178 92 [l0, some (.int x), l2, l3] st h Q = wp V (cdT Ev) mx d 178 93 [l0, some (.int x), l2, l3] (.int x :: st) h Q := x_iload (len := 1) rfl rfl
theorem s_178_93 {x i : Int32} {a : Nat} : wp V (cdT Ev) mx d 178 93 ls (.int x :: .int i :: .ref a :: st) h Q = si 2 i (x) h a (fun hh => wp V (cdT Ev) mx d 178 94 ls st hh Q) := x_iast (nw := fun x => x) rfl
theorem s_178_94 {a : Nat} : wp V (cdT Ev) mx d 178 94 [some (.ref a), l1, l2, l3] st h Q = wp V (cdT Ev) mx d 178 95 [some (.ref a), l1, l2, l3] (.ref a :: st) h Q := x_aload (len := 1) rfl rfl
theorem s_178_94_n : wp V (cdT Ev) mx d 178 94 [some .null, l1, l2, l3] st h Q = wp V (cdT Ev) mx d 178 95 [some .null, l1, l2, l3] (.null :: st) h Q := x_aloadN (len := 1) rfl rfl
theorem s_178_95 {a : Nat} : wp V (cdT Ev) mx d 178 95 ls (.ref a :: st) h Q = gf [12] 0 h a (fun v => wp V (cdT Ev) mx d 178 98 ls (v :: st) h Q) := x_getf rfl
theorem s_178_98 : wp V (cdT Ev) mx d 178 98 ls st h Q = wp V (cdT Ev) mx d 178 100 ls ((.int (84)) :: st) h Q := x_push (v := (.int (84))) (len := 2) rfl
theorem s_178_100 : wp V (cdT Ev) mx d 178 100 ls st h Q = wp V (cdT Ev) mx d 178 101 ls ((.int (2)) :: st) h Q := x_push (v := (.int (2))) (len := 1) rfl
theorem s_178_101 {a : Nat} : wp V (cdT Ev) mx d 178 101 [some (.ref a), l1, l2, l3] st h Q = wp V (cdT Ev) mx d 178 102 [some (.ref a), l1, l2, l3] (.ref a :: st) h Q := x_aload (len := 1) rfl rfl
theorem s_178_101_n : wp V (cdT Ev) mx d 178 101 [some .null, l1, l2, l3] st h Q = wp V (cdT Ev) mx d 178 102 [some .null, l1, l2, l3] (.null :: st) h Q := x_aloadN (len := 1) rfl rfl
theorem s_178_102 {a : Nat} : wp V (cdT Ev) mx d 178 102 ls (.ref a :: st) h Q = gf [12] 0 h a (fun v => wp V (cdT Ev) mx d 178 105 ls (v :: st) h Q) := x_getf rfl
theorem s_178_105 : wp V (cdT Ev) mx d 178 105 ls st h Q = wp V (cdT Ev) mx d 178 107 ls ((.int (82)) :: st) h Q := x_push (v := (.int (82))) (len := 2) rfl
theorem s_178_107 {i : Int32} {a : Nat} : wp V (cdT Ev) mx d 178 107 ls (.int i :: .ref a :: st) h Q = ai 2 i V h a (fun x => wp V (cdT Ev) mx d 178 108 ls (.int x :: st) h Q) := x_iald rfl
theorem s_178_108 {x z : Int32} : wp V (cdT Ev) mx d 178 108 ls (.int z :: .int x :: st) h Q = wp V (cdT Ev) mx d 178 109 ls (.int (x * z) :: st) h Q := x_ib (f := fun x z => x * z) rfl
theorem s_178_109 {x z : Int32} : wp V (cdT Ev) mx d 178 109 ls (.int z :: .int x :: st) h Q = wp V (cdT Ev) mx d 178 110 ls (.int (x + z) :: st) h Q := x_ib (f := fun x z => x + z) rfl
theorem s_178_110 {x : Int32} : wp V (cdT Ev) mx d 178 110 [l0, l1, some (.int x), l3] st h Q = wp V (cdT Ev) mx d 178 111 [l0, l1, some (.int x), l3] (.int x :: st) h Q := x_iload (len := 1) rfl rfl
theorem s_178_111 {x i : Int32} {a : Nat} : wp V (cdT Ev) mx d 178 111 ls (.int x :: .int i :: .ref a :: st) h Q = si 2 i (x) h a (fun hh => wp V (cdT Ev) mx d 178 112 ls st hh Q) := x_iast (nw := fun x => x) rfl
theorem s_178_112 {a : Nat} : wp V (cdT Ev) mx d 178 112 [some (.ref a), l1, l2, l3] st h Q = wp V (cdT Ev) mx d 178 113 [some (.ref a), l1, l2, l3] (.ref a :: st) h Q := x_aload (len := 1) rfl rfl
theorem s_178_112_n : wp V (cdT Ev) mx d 178 112 [some .null, l1, l2, l3] st h Q = wp V (cdT Ev) mx d 178 113 [some .null, l1, l2, l3] (.null :: st) h Q := x_aloadN (len := 1) rfl rfl
theorem s_178_113 {a : Nat} : wp V (cdT Ev) mx d 178 113 ls (.ref a :: st) h Q = gf [12] 0 h a (fun v => wp V (cdT Ev) mx d 178 116 ls (v :: st) h Q) := x_getf rfl
theorem s_178_116 : wp V (cdT Ev) mx d 178 116 ls st h Q = wp V (cdT Ev) mx d 178 118 ls ((.int (82)) :: st) h Q := x_push (v := (.int (82))) (len := 2) rfl
theorem s_178_118 {x : Int32} {a : Nat} : wp V (cdT Ev) mx d 178 118 ls (.int x :: .ref a :: st) h Q = wp V (cdT Ev) mx d 178 119 ls (.int x :: .ref a :: .int x :: .ref a :: st) h Q := x_dup2 rfl rfl rfl
theorem s_178_119 {i : Int32} {a : Nat} : wp V (cdT Ev) mx d 178 119 ls (.int i :: .ref a :: st) h Q = ai 2 i V h a (fun x => wp V (cdT Ev) mx d 178 120 ls (.int x :: st) h Q) := x_iald rfl
theorem s_178_120 : wp V (cdT Ev) mx d 178 120 ls st h Q = wp V (cdT Ev) mx d 178 121 ls ((.int (1)) :: st) h Q := x_push (v := (.int (1))) (len := 1) rfl
theorem s_178_121 {x z : Int32} : wp V (cdT Ev) mx d 178 121 ls (.int z :: .int x :: st) h Q = wp V (cdT Ev) mx d 178 122 ls (.int (x + z) :: st) h Q := x_ib (f := fun x z => x + z) rfl
theorem s_178_122 {x i : Int32} {a : Nat} : wp V (cdT Ev) mx d 178 122 ls (.int x :: .int i :: .ref a :: st) h Q = si 2 i (x) h a (fun hh => wp V (cdT Ev) mx d 178 123 ls st hh Q) := x_iast (nw := fun x => x) rfl
theorem s_178_123 {a : Nat} : wp V (cdT Ev) mx d 178 123 [some (.ref a), l1, l2, l3] st h Q = wp V (cdT Ev) mx d 178 124 [some (.ref a), l1, l2, l3] (.ref a :: st) h Q := x_aload (len := 1) rfl rfl
theorem s_178_123_n : wp V (cdT Ev) mx d 178 123 [some .null, l1, l2, l3] st h Q = wp V (cdT Ev) mx d 178 124 [some .null, l1, l2, l3] (.null :: st) h Q := x_aloadN (len := 1) rfl rfl
theorem s_178_124 {a : Nat} : wp V (cdT Ev) mx d 178 124 ls (.ref a :: st) h Q = gf [12] 0 h a (fun v => wp V (cdT Ev) mx d 178 127 ls (v :: st) h Q) := x_getf rfl
theorem s_178_127 : wp V (cdT Ev) mx d 178 127 ls st h Q = wp V (cdT Ev) mx d 178 129 ls ((.int (82)) :: st) h Q := x_push (v := (.int (82))) (len := 2) rfl
theorem s_178_129 {i : Int32} {a : Nat} : wp V (cdT Ev) mx d 178 129 ls (.int i :: .ref a :: st) h Q = ai 2 i V h a (fun x => wp V (cdT Ev) mx d 178 130 ls (.int x :: st) h Q) := x_iald rfl
theorem s_178_130 {x : Int32} : wp V (cdT Ev) mx d 178 130 ls [.int x] h Q = Q (some (.int x)) h := x_ret rfl rfl
theorem e_178 {a : Nat} {p0 : Int32} {p1 : Int32} : WP V (cdT Ev) mx (d + 1) 178 [.ref a, .int p0, .int p1] h Q = wp V (cdT Ev) mx d 178 0 [some (.ref a), some (.int p0), some (.int p1), none] [] h Q := propext (WP_eq (Nat.le_of_ble_eq_true rfl))
theorem s_179_0 {x : Int32} : wp V (cdT Ev) mx d 179 0 [l0, some (.int x), l2, l3, l4] st h Q = wp V (cdT Ev) mx d 179 1 [l0, some (.int x), l2, l3, l4] (.int x :: st) h Q := x_iload (len := 1) rfl rfl
theorem s_179_1 : wp V (cdT Ev) mx d 179 1 ls st h Q = wp V (cdT Ev) mx d 179 2 ls ((.int (0)) :: st) h Q := x_push (v := (.int (0))) (len := 1) rfl
theorem s_179_2 : wp V (cdT Ev) mx d 179 2 ls st h Q = wp V (cdT Ev) mx d 179 3 ls ((.int (1)) :: st) h Q := x_push (v := (.int (1))) (len := 1) rfl
theorem s_179_3 {v0 v1 v2 : Value} (hst : st.length ≤ 4) : wp V (cdT Ev) mx d 179 3 ls (v2 :: v1 :: v0 :: st) h Q = WP V (cdT Ev) mx d 123 [v0, v1, v2] h (fun r h' => wp V (cdT Ev) mx d 179 6 ls (rts r st) h' Q) := x_cs (sg := [v2, v1, v0]) rfl hst rfl rfl
theorem s_179_6 {x : Int32} : wp V (cdT Ev) mx d 179 6 ls (.int x :: st) h Q = (if ¬ x = 0 then wp V (cdT Ev) mx d 179 11 ls st h Q else wp V (cdT Ev) mx d 179 9 ls st h Q) := x_if1 (c := fun x => ¬ x = 0) rfl
theorem s_179_9 : wp V (cdT Ev) mx d 179 9 ls st h Q = wp V (cdT Ev) mx d 179 10 ls ((.int (-1)) :: st) h Q := x_push (v := (.int (-1))) (len := 1) rfl
theorem s_179_10 {x : Int32} : wp V (cdT Ev) mx d 179 10 ls [.int x] h Q = Q (some (.int x)) h := x_ret rfl rfl
theorem s_179_11 {a : Nat} : wp V (cdT Ev) mx d 179 11 [some (.ref a), l1, l2, l3, l4] st h Q = wp V (cdT Ev) mx d 179 12 [some (.ref a), l1, l2, l3, l4] (.ref a :: st) h Q := x_aload (len := 1) rfl rfl
theorem s_179_11_n : wp V (cdT Ev) mx d 179 11 [some .null, l1, l2, l3, l4] st h Q = wp V (cdT Ev) mx d 179 12 [some .null, l1, l2, l3, l4] (.null :: st) h Q := x_aloadN (len := 1) rfl rfl
theorem s_179_12 {a : Nat} : wp V (cdT Ev) mx d 179 12 ls (.ref a :: st) h Q = gf [12] 0 h a (fun v => wp V (cdT Ev) mx d 179 15 ls (v :: st) h Q) := x_getf rfl
theorem s_179_15 {a : Nat} : wp V (cdT Ev) mx d 179 15 [some (.ref a), l1, l2, l3, l4] st h Q = wp V (cdT Ev) mx d 179 16 [some (.ref a), l1, l2, l3, l4] (.ref a :: st) h Q := x_aload (len := 1) rfl rfl
theorem s_179_15_n : wp V (cdT Ev) mx d 179 15 [some .null, l1, l2, l3, l4] st h Q = wp V (cdT Ev) mx d 179 16 [some .null, l1, l2, l3, l4] (.null :: st) h Q := x_aloadN (len := 1) rfl rfl
theorem s_179_16 {a : Nat} : wp V (cdT Ev) mx d 179 16 ls (.ref a :: st) h Q = gf [12] 1 h a (fun v => wp V (cdT Ev) mx d 179 19 ls (v :: st) h Q) := x_getf rfl
theorem s_179_19 {v0 v1 : Value} (hst : st.length ≤ 4) : wp V (cdT Ev) mx d 179 19 ls (v1 :: v0 :: st) h Q = WP V (cdT Ev) mx d 125 [v0, v1] h (fun r h' => wp V (cdT Ev) mx d 179 22 ls (rts r st) h' Q) := x_cs (sg := [v1, v0]) rfl hst rfl rfl
theorem s_179_22 : wp V (cdT Ev) mx d 179 22 ls st h Q = wp V (cdT Ev) mx d 179 23 ls ((.int (0)) :: st) h Q := x_push (v := (.int (0))) (len := 1) rfl
theorem s_179_23 {x : Int32} (hn : nl l1 = true) : wp V (cdT Ev) mx d 179 23 [l0, l1, l2, l3, l4] (.int x :: st) h Q = wp V (cdT Ev) mx d 179 24 [l0, l1, some (.int x), l3, l4] st h Q := x_istore (len := 1) rfl (Nat.le_of_ble_eq_true rfl) (okp_nl rfl hn) rfl
theorem s_179_24 {x : Int32} : wp V (cdT Ev) mx d 179 24 [l0, l1, some (.int x), l3, l4] st h Q = wp V (cdT Ev) mx d 179 25 [l0, l1, some (.int x), l3, l4] (.int x :: st) h Q := x_iload (len := 1) rfl rfl
theorem s_179_25 {a : Nat} : wp V (cdT Ev) mx d 179 25 [some (.ref a), l1, l2, l3, l4] st h Q = wp V (cdT Ev) mx d 179 26 [some (.ref a), l1, l2, l3, l4] (.ref a :: st) h Q := x_aload (len := 1) rfl rfl
theorem s_179_25_n : wp V (cdT Ev) mx d 179 25 [some .null, l1, l2, l3, l4] st h Q = wp V (cdT Ev) mx d 179 26 [some .null, l1, l2, l3, l4] (.null :: st) h Q := x_aloadN (len := 1) rfl rfl
theorem s_179_26 {a : Nat} : wp V (cdT Ev) mx d 179 26 ls (.ref a :: st) h Q = gf [12] 0 h a (fun v => wp V (cdT Ev) mx d 179 29 ls (v :: st) h Q) := x_getf rfl
theorem s_179_29 : wp V (cdT Ev) mx d 179 29 ls st h Q = wp V (cdT Ev) mx d 179 31 ls ((.int (82)) :: st) h Q := x_push (v := (.int (82))) (len := 2) rfl
theorem s_179_31 {i : Int32} {a : Nat} : wp V (cdT Ev) mx d 179 31 ls (.int i :: .ref a :: st) h Q = ai 2 i V h a (fun x => wp V (cdT Ev) mx d 179 32 ls (.int x :: st) h Q) := x_iald rfl
theorem s_179_32 {x z : Int32} : wp V (cdT Ev) mx d 179 32 ls (.int z :: .int x :: st) h Q = (if z ≤ x then wp V (cdT Ev) mx d 179 102 ls st h Q else wp V (cdT Ev) mx d 179 35 ls st h Q) := x_if2 (c := fun x z => z ≤ x) rfl
theorem s_179_35 {a : Nat} : wp V (cdT Ev) mx d 179 35 [some (.ref a), l1, l2, l3, l4] st h Q = wp V (cdT Ev) mx d 179 36 [some (.ref a), l1, l2, l3, l4] (.ref a :: st) h Q := x_aload (len := 1) rfl rfl
theorem s_179_35_n : wp V (cdT Ev) mx d 179 35 [some .null, l1, l2, l3, l4] st h Q = wp V (cdT Ev) mx d 179 36 [some .null, l1, l2, l3, l4] (.null :: st) h Q := x_aloadN (len := 1) rfl rfl
theorem s_179_36 {a : Nat} : wp V (cdT Ev) mx d 179 36 ls (.ref a :: st) h Q = gf [12] 0 h a (fun v => wp V (cdT Ev) mx d 179 39 ls (v :: st) h Q) := x_getf rfl
theorem s_179_39 : wp V (cdT Ev) mx d 179 39 ls st h Q = wp V (cdT Ev) mx d 179 41 ls ((.int (83)) :: st) h Q := x_push (v := (.int (83))) (len := 2) rfl
theorem s_179_41 : wp V (cdT Ev) mx d 179 41 ls st h Q = wp V (cdT Ev) mx d 179 42 ls ((.int (2)) :: st) h Q := x_push (v := (.int (2))) (len := 1) rfl
theorem s_179_42 {x : Int32} : wp V (cdT Ev) mx d 179 42 [l0, l1, some (.int x), l3, l4] st h Q = wp V (cdT Ev) mx d 179 43 [l0, l1, some (.int x), l3, l4] (.int x :: st) h Q := x_iload (len := 1) rfl rfl
theorem s_179_43 {x z : Int32} : wp V (cdT Ev) mx d 179 43 ls (.int z :: .int x :: st) h Q = wp V (cdT Ev) mx d 179 44 ls (.int (x * z) :: st) h Q := x_ib (f := fun x z => x * z) rfl
theorem s_179_44 {x z : Int32} : wp V (cdT Ev) mx d 179 44 ls (.int z :: .int x :: st) h Q = wp V (cdT Ev) mx d 179 45 ls (.int (x + z) :: st) h Q := x_ib (f := fun x z => x + z) rfl
theorem s_179_45 {i : Int32} {a : Nat} : wp V (cdT Ev) mx d 179 45 ls (.int i :: .ref a :: st) h Q = ai 2 i V h a (fun x => wp V (cdT Ev) mx d 179 46 ls (.int x :: st) h Q) := x_iald rfl
theorem s_179_46 {x : Int32} (hn : nl l2 = true) : wp V (cdT Ev) mx d 179 46 [l0, l1, l2, l3, l4] (.int x :: st) h Q = wp V (cdT Ev) mx d 179 47 [l0, l1, l2, some (.int x), l4] st h Q := x_istore (len := 1) rfl (Nat.le_of_ble_eq_true rfl) (okp_nl rfl hn) rfl
theorem s_179_47 {a : Nat} : wp V (cdT Ev) mx d 179 47 [some (.ref a), l1, l2, l3, l4] st h Q = wp V (cdT Ev) mx d 179 48 [some (.ref a), l1, l2, l3, l4] (.ref a :: st) h Q := x_aload (len := 1) rfl rfl
theorem s_179_47_n : wp V (cdT Ev) mx d 179 47 [some .null, l1, l2, l3, l4] st h Q = wp V (cdT Ev) mx d 179 48 [some .null, l1, l2, l3, l4] (.null :: st) h Q := x_aloadN (len := 1) rfl rfl
theorem s_179_48 {a : Nat} : wp V (cdT Ev) mx d 179 48 ls (.ref a :: st) h Q = gf [12] 0 h a (fun v => wp V (cdT Ev) mx d 179 51 ls (v :: st) h Q) := x_getf rfl
theorem s_179_51 : wp V (cdT Ev) mx d 179 51 ls st h Q = wp V (cdT Ev) mx d 179 53 ls ((.int (84)) :: st) h Q := x_push (v := (.int (84))) (len := 2) rfl
theorem s_179_53 : wp V (cdT Ev) mx d 179 53 ls st h Q = wp V (cdT Ev) mx d 179 54 ls ((.int (2)) :: st) h Q := x_push (v := (.int (2))) (len := 1) rfl
theorem s_179_54 {x : Int32} : wp V (cdT Ev) mx d 179 54 [l0, l1, some (.int x), l3, l4] st h Q = wp V (cdT Ev) mx d 179 55 [l0, l1, some (.int x), l3, l4] (.int x :: st) h Q := x_iload (len := 1) rfl rfl
theorem s_179_55 {x z : Int32} : wp V (cdT Ev) mx d 179 55 ls (.int z :: .int x :: st) h Q = wp V (cdT Ev) mx d 179 56 ls (.int (x * z) :: st) h Q := x_ib (f := fun x z => x * z) rfl
theorem s_179_56 {x z : Int32} : wp V (cdT Ev) mx d 179 56 ls (.int z :: .int x :: st) h Q = wp V (cdT Ev) mx d 179 57 ls (.int (x + z) :: st) h Q := x_ib (f := fun x z => x + z) rfl
theorem s_179_57 {i : Int32} {a : Nat} : wp V (cdT Ev) mx d 179 57 ls (.int i :: .ref a :: st) h Q = ai 2 i V h a (fun x => wp V (cdT Ev) mx d 179 58 ls (.int x :: st) h Q) := x_iald rfl
theorem s_179_58 {x : Int32} (hn : nl l3 = true) : wp V (cdT Ev) mx d 179 58 [l0, l1, l2, l3, l4] (.int x :: st) h Q = wp V (cdT Ev) mx d 179 60 [l0, l1, l2, l3, some (.int x)] st h Q := x_istore (len := 2) rfl (Nat.le_of_ble_eq_true rfl) (okp_nl rfl hn) rfl
theorem s_179_60 {x : Int32} : wp V (cdT Ev) mx d 179 60 [l0, l1, l2, some (.int x), l4] st h Q = wp V (cdT Ev) mx d 179 61 [l0, l1, l2, some (.int x), l4] (.int x :: st) h Q := x_iload (len := 1) rfl rfl
theorem s_179_61 {x : Int32} : wp V (cdT Ev) mx d 179 61 ls (.int x :: st) h Q = (if ¬ x = 0 then wp V (cdT Ev) mx d 179 71 ls st h Q else wp V (cdT Ev) mx d 179 64 ls st h Q) := x_if1 (c := fun x => ¬ x = 0) rfl
theorem s_179_64 {a : Nat} : wp V (cdT Ev) mx d 179 64 [some (.ref a), l1, l2, l3, l4] st h Q = wp V (cdT Ev) mx d 179 65 [some (.ref a), l1, l2, l3, l4] (.ref a :: st) h Q := x_aload (len := 1) rfl rfl
theorem s_179_64_n : wp V (cdT Ev) mx d 179 64 [some .null, l1, l2, l3, l4] st h Q = wp V (cdT Ev) mx d 179 65 [some .null, l1, l2, l3, l4] (.null :: st) h Q := x_aloadN (len := 1) rfl rfl
theorem s_179_65 {b : Nat} (hst : st.length ≤ 4) : wp V (cdT Ev) mx d 179 65 ls (.ref b :: st) h Q = cv [(12, 161)] h b (fun y' => WP V (cdT Ev) mx d y' [.ref b] h (fun r h' => wp V (cdT Ev) mx d 179 68 ls (rts r st) h' Q)) := x_cv (sg := []) rfl hst rfl rfl
theorem s_179_68 : wp V (cdT Ev) mx d 179 68 ls st h Q = wp V (cdT Ev) mx d 179 96 ls st h Q := x_goto rfl
theorem s_179_71 {x : Int32} : wp V (cdT Ev) mx d 179 71 [l0, l1, l2, some (.int x), l4] st h Q = wp V (cdT Ev) mx d 179 72 [l0, l1, l2, some (.int x), l4] (.int x :: st) h Q := x_iload (len := 1) rfl rfl
theorem s_179_72 : wp V (cdT Ev) mx d 179 72 ls st h Q = wp V (cdT Ev) mx d 179 73 ls ((.int (3)) :: st) h Q := x_push (v := (.int (3))) (len := 1) rfl
theorem s_179_73 {x z : Int32} : wp V (cdT Ev) mx d 179 73 ls (.int z :: .int x :: st) h Q = (if ¬ x = z then wp V (cdT Ev) mx d 179 85 ls st h Q else wp V (cdT Ev) mx d 179 76 ls st h Q) := x_if2 (c := fun x z => ¬ x = z) rfl
theorem s_179_76 {a : Nat} : wp V (cdT Ev) mx d 179 76 [some (.ref a), l1, l2, l3, l4] st h Q = wp V (cdT Ev) mx d 179 77 [some (.ref a), l1, l2, l3, l4] (.ref a :: st) h Q := x_aload (len := 1) rfl rfl
theorem s_179_76_n : wp V (cdT Ev) mx d 179 76 [some .null, l1, l2, l3, l4] st h Q = wp V (cdT Ev) mx d 179 77 [some .null, l1, l2, l3, l4] (.null :: st) h Q := x_aloadN (len := 1) rfl rfl
theorem s_179_77 {x : Int32} : wp V (cdT Ev) mx d 179 77 [l0, l1, l2, l3, some (.int x)] st h Q = wp V (cdT Ev) mx d 179 79 [l0, l1, l2, l3, some (.int x)] (.int x :: st) h Q := x_iload (len := 2) rfl rfl
theorem s_179_79 {b : Nat} {v0 : Value} (hst : st.length ≤ 4) : wp V (cdT Ev) mx d 179 79 ls (v0 :: .ref b :: st) h Q = cv [(12, 160)] h b (fun y' => WP V (cdT Ev) mx d y' [.ref b, v0] h (fun r h' => wp V (cdT Ev) mx d 179 82 ls (rts r st) h' Q)) := x_cv (sg := [v0]) rfl hst rfl rfl
theorem s_179_82 : wp V (cdT Ev) mx d 179 82 ls st h Q = wp V (cdT Ev) mx d 179 96 ls st h Q := x_goto rfl
theorem s_179_85 {a : Nat} : wp V (cdT Ev) mx d 179 85 [some (.ref a), l1, l2, l3, l4] st h Q = wp V (cdT Ev) mx d 179 86 [some (.ref a), l1, l2, l3, l4] (.ref a :: st) h Q := x_aload (len := 1) rfl rfl
theorem s_179_85_n : wp V (cdT Ev) mx d 179 85 [some .null, l1, l2, l3, l4] st h Q = wp V (cdT Ev) mx d 179 86 [some .null, l1, l2, l3, l4] (.null :: st) h Q := x_aloadN (len := 1) rfl rfl
theorem s_179_86 {x : Int32} : wp V (cdT Ev) mx d 179 86 [l0, l1, l2, l3, some (.int x)] st h Q = wp V (cdT Ev) mx d 179 88 [l0, l1, l2, l3, some (.int x)] (.int x :: st) h Q := x_iload (len := 2) rfl rfl
theorem s_179_88 : wp V (cdT Ev) mx d 179 88 ls st h Q = wp V (cdT Ev) mx d 179 89 ls ((.int (3)) :: st) h Q := x_push (v := (.int (3))) (len := 1) rfl
theorem s_179_89 : wp V (cdT Ev) mx d 179 89 ls st h Q = wp V (cdT Ev) mx d 179 90 ls ((.int (2)) :: st) h Q := x_push (v := (.int (2))) (len := 1) rfl
theorem s_179_90 {x : Int32} : wp V (cdT Ev) mx d 179 90 [l0, l1, l2, some (.int x), l4] st h Q = wp V (cdT Ev) mx d 179 91 [l0, l1, l2, some (.int x), l4] (.int x :: st) h Q := x_iload (len := 1) rfl rfl
theorem s_179_91 {x z : Int32} : wp V (cdT Ev) mx d 179 91 ls (.int z :: .int x :: st) h Q = wp V (cdT Ev) mx d 179 92 ls (.int (x - z) :: st) h Q := x_ib (f := fun x z => x - z) rfl
theorem s_179_92 {b : Nat} {v0 v1 v2 : Value} (hst : st.length ≤ 4) : wp V (cdT Ev) mx d 179 92 ls (v2 :: v1 :: v0 :: .ref b :: st) h Q = cv [(12, 133)] h b (fun y' => WP V (cdT Ev) mx d y' [.ref b, v0, v1, v2] h (fun r h' => wp V (cdT Ev) mx d 179 95 ls (rts r st) h' Q)) := x_cv (sg := [v2, v1, v0]) rfl hst rfl rfl
theorem s_179_95 {a : Nat} : wp V (cdT Ev) mx d 179 95 ls (.ref a :: st) h Q = wp V (cdT Ev) mx d 179 96 ls st h Q := x_pop rfl rfl
theorem s_179_95_i {x : Int32} : wp V (cdT Ev) mx d 179 95 ls (.int x :: st) h Q = wp V (cdT Ev) mx d 179 96 ls st h Q := x_pop rfl rfl
theorem s_179_96 {x : Int32} : wp V (cdT Ev) mx d 179 96 [l0, l1, some (.int x), l3, l4] st h Q = wp V (cdT Ev) mx d 179 99 [l0, l1, some (.int (x + (1))), l3, l4] st h Q := x_iinc rfl rfl rfl
theorem s_179_99 : wp V (cdT Ev) mx d 179 99 ls st h Q = wp V (cdT Ev) mx d 179 24 ls st h Q := x_goto rfl
theorem s_179_102 : wp V (cdT Ev) mx d 179 102 ls st h Q = wp V (cdT Ev) mx d 179 103 ls ((.int (0)) :: st) h Q := x_push (v := (.int (0))) (len := 1) rfl
theorem s_179_103 {x : Int32} (hn : nl l1 = true) : wp V (cdT Ev) mx d 179 103 [l0, l1, l2, l3, l4] (.int x :: st) h Q = wp V (cdT Ev) mx d 179 104 [l0, l1, some (.int x), l3, l4] st h Q := x_istore (len := 1) rfl (Nat.le_of_ble_eq_true rfl) (okp_nl rfl hn) rfl
theorem s_179_104 : wp V (cdT Ev) mx d 179 104 ls st h Q = wp V (cdT Ev) mx d 179 105 ls ((.int (0)) :: st) h Q := x_push (v := (.int (0))) (len := 1) rfl
theorem s_179_105 {x : Int32} (hn : nl l2 = true) : wp V (cdT Ev) mx d 179 105 [l0, l1, l2, l3, l4] (.int x :: st) h Q = wp V (cdT Ev) mx d 179 106 [l0, l1, l2, some (.int x), l4] st h Q := x_istore (len := 1) rfl (Nat.le_of_ble_eq_true rfl) (okp_nl rfl hn) rfl
theorem s_179_106 {x : Int32} : wp V (cdT Ev) mx d 179 106 [l0, l1, l2, some (.int x), l4] st h Q = wp V (cdT Ev) mx d 179 107 [l0, l1, l2, some (.int x), l4] (.int x :: st) h Q := x_iload (len := 1) rfl rfl
theorem s_179_107 {a : Nat} : wp V (cdT Ev) mx d 179 107 [some (.ref a), l1, l2, l3, l4] st h Q = wp V (cdT Ev) mx d 179 108 [some (.ref a), l1, l2, l3, l4] (.ref a :: st) h Q := x_aload (len := 1) rfl rfl
theorem s_179_107_n : wp V (cdT Ev) mx d 179 107 [some .null, l1, l2, l3, l4] st h Q = wp V (cdT Ev) mx d 179 108 [some .null, l1, l2, l3, l4] (.null :: st) h Q := x_aloadN (len := 1) rfl rfl
theorem s_179_108 {a : Nat} : wp V (cdT Ev) mx d 179 108 ls (.ref a :: st) h Q = gf [12] 0 h a (fun v => wp V (cdT Ev) mx d 179 111 ls (v :: st) h Q) := x_getf rfl
theorem s_179_111 : wp V (cdT Ev) mx d 179 111 ls st h Q = wp V (cdT Ev) mx d 179 113 ls ((.int (68)) :: st) h Q := x_push (v := (.int (68))) (len := 2) rfl
theorem s_179_113 {i : Int32} {a : Nat} : wp V (cdT Ev) mx d 179 113 ls (.int i :: .ref a :: st) h Q = ai 2 i V h a (fun x => wp V (cdT Ev) mx d 179 114 ls (.int x :: st) h Q) := x_iald rfl
theorem s_179_114 {x z : Int32} : wp V (cdT Ev) mx d 179 114 ls (.int z :: .int x :: st) h Q = (if z ≤ x then wp V (cdT Ev) mx d 179 132 ls st h Q else wp V (cdT Ev) mx d 179 117 ls st h Q) := x_if2 (c := fun x z => z ≤ x) rfl
theorem s_179_117 {x : Int32} : wp V (cdT Ev) mx d 179 117 [l0, l1, some (.int x), l3, l4] st h Q = wp V (cdT Ev) mx d 179 118 [l0, l1, some (.int x), l3, l4] (.int x :: st) h Q := x_iload (len := 1) rfl rfl
theorem s_179_118 {a : Nat} : wp V (cdT Ev) mx d 179 118 [some (.ref a), l1, l2, l3, l4] st h Q = wp V (cdT Ev) mx d 179 119 [some (.ref a), l1, l2, l3, l4] (.ref a :: st) h Q := x_aload (len := 1) rfl rfl
theorem s_179_118_n : wp V (cdT Ev) mx d 179 118 [some .null, l1, l2, l3, l4] st h Q = wp V (cdT Ev) mx d 179 119 [some .null, l1, l2, l3, l4] (.null :: st) h Q := x_aloadN (len := 1) rfl rfl
theorem s_179_119 {x : Int32} : wp V (cdT Ev) mx d 179 119 [l0, l1, l2, some (.int x), l4] st h Q = wp V (cdT Ev) mx d 179 120 [l0, l1, l2, some (.int x), l4] (.int x :: st) h Q := x_iload (len := 1) rfl rfl
theorem s_179_120 : wp V (cdT Ev) mx d 179 120 ls st h Q = wp V (cdT Ev) mx d 179 121 ls ((.int (4)) :: st) h Q := x_push (v := (.int (4))) (len := 1) rfl
theorem s_179_121 {b : Nat} {v0 v1 : Value} (hst : st.length ≤ 4) : wp V (cdT Ev) mx d 179 121 ls (v1 :: v0 :: .ref b :: st) h Q = cv [(12, 132)] h b (fun y' => WP V (cdT Ev) mx d y' [.ref b, v0, v1] h (fun r h' => wp V (cdT Ev) mx d 179 124 ls (rts r st) h' Q)) := x_cv (sg := [v1, v0]) rfl hst rfl rfl
theorem s_179_124 {x z : Int32} : wp V (cdT Ev) mx d 179 124 ls (.int z :: .int x :: st) h Q = wp V (cdT Ev) mx d 179 125 ls (.int (x + z) :: st) h Q := x_ib (f := fun x z => x + z) rfl
theorem s_179_125 {x : Int32} (hn : nl l1 = true) : wp V (cdT Ev) mx d 179 125 [l0, l1, l2, l3, l4] (.int x :: st) h Q = wp V (cdT Ev) mx d 179 126 [l0, l1, some (.int x), l3, l4] st h Q := x_istore (len := 1) rfl (Nat.le_of_ble_eq_true rfl) (okp_nl rfl hn) rfl
theorem s_179_126 {x : Int32} : wp V (cdT Ev) mx d 179 126 [l0, l1, l2, some (.int x), l4] st h Q = wp V (cdT Ev) mx d 179 129 [l0, l1, l2, some (.int (x + (1))), l4] st h Q := x_iinc rfl rfl rfl
theorem s_179_129 : wp V (cdT Ev) mx d 179 129 ls st h Q = wp V (cdT Ev) mx d 179 106 ls st h Q := x_goto rfl
theorem s_179_132 {x : Int32} : wp V (cdT Ev) mx d 179 132 [l0, some (.int x), l2, l3, l4] st h Q = wp V (cdT Ev) mx d 179 133 [l0, some (.int x), l2, l3, l4] (.int x :: st) h Q := x_iload (len := 1) rfl rfl
theorem s_179_133 {x : Int32} : wp V (cdT Ev) mx d 179 133 ls (.int x :: st) h Q = (if ¬ x = 0 then wp V (cdT Ev) mx d 179 146 ls st h Q else wp V (cdT Ev) mx d 179 136 ls st h Q) := x_if1 (c := fun x => ¬ x = 0) rfl
theorem s_179_136 {a : Nat} : wp V (cdT Ev) mx d 179 136 [some (.ref a), l1, l2, l3, l4] st h Q = wp V (cdT Ev) mx d 179 137 [some (.ref a), l1, l2, l3, l4] (.ref a :: st) h Q := x_aload (len := 1) rfl rfl
theorem s_179_136_n : wp V (cdT Ev) mx d 179 136 [some .null, l1, l2, l3, l4] st h Q = wp V (cdT Ev) mx d 179 137 [some .null, l1, l2, l3, l4] (.null :: st) h Q := x_aloadN (len := 1) rfl rfl
theorem s_179_137 {a : Nat} : wp V (cdT Ev) mx d 179 137 ls (.ref a :: st) h Q = gf [12] 0 h a (fun v => wp V (cdT Ev) mx d 179 140 ls (v :: st) h Q) := x_getf rfl
theorem s_179_140 : wp V (cdT Ev) mx d 179 140 ls st h Q = wp V (cdT Ev) mx d 179 142 ls ((.int (13)) :: st) h Q := x_push (v := (.int (13))) (len := 2) rfl
theorem s_179_142 {i : Int32} {a : Nat} : wp V (cdT Ev) mx d 179 142 ls (.int i :: .ref a :: st) h Q = ai 2 i V h a (fun x => wp V (cdT Ev) mx d 179 143 ls (.int x :: st) h Q) := x_iald rfl
theorem s_179_143 : wp V (cdT Ev) mx d 179 143 ls st h Q = wp V (cdT Ev) mx d 179 147 ls st h Q := x_goto rfl
theorem s_179_146 {x : Int32} : wp V (cdT Ev) mx d 179 146 [l0, l1, some (.int x), l3, l4] st h Q = wp V (cdT Ev) mx d 179 147 [l0, l1, some (.int x), l3, l4] (.int x :: st) h Q := x_iload (len := 1) rfl rfl
theorem s_179_147 {x : Int32} (hn : nl l2 = true) : wp V (cdT Ev) mx d 179 147 [l0, l1, l2, l3, l4] (.int x :: st) h Q = wp V (cdT Ev) mx d 179 148 [l0, l1, l2, some (.int x), l4] st h Q := x_istore (len := 1) rfl (Nat.le_of_ble_eq_true rfl) (okp_nl rfl hn) rfl
theorem s_179_148 {a : Nat} : wp V (cdT Ev) mx d 179 148 [some (.ref a), l1, l2, l3, l4] st h Q = wp V (cdT Ev) mx d 179 149 [some (.ref a), l1, l2, l3, l4] (.ref a :: st) h Q := x_aload (len := 1) rfl rfl
theorem s_179_148_n : wp V (cdT Ev) mx d 179 148 [some .null, l1, l2, l3, l4] st h Q = wp V (cdT Ev) mx d 179 149 [some .null, l1, l2, l3, l4] (.null :: st) h Q := x_aloadN (len := 1) rfl rfl
theorem s_179_149 {a : Nat} : wp V (cdT Ev) mx d 179 149 ls (.ref a :: st) h Q = gf [12] 1 h a (fun v => wp V (cdT Ev) mx d 179 152 ls (v :: st) h Q) := x_getf rfl
theorem s_179_152 {a : Nat} : wp V (cdT Ev) mx d 179 152 [some (.ref a), l1, l2, l3, l4] st h Q = wp V (cdT Ev) mx d 179 153 [some (.ref a), l1, l2, l3, l4] (.ref a :: st) h Q := x_aload (len := 1) rfl rfl
theorem s_179_152_n : wp V (cdT Ev) mx d 179 152 [some .null, l1, l2, l3, l4] st h Q = wp V (cdT Ev) mx d 179 153 [some .null, l1, l2, l3, l4] (.null :: st) h Q := x_aloadN (len := 1) rfl rfl
theorem s_179_153 {a : Nat} : wp V (cdT Ev) mx d 179 153 ls (.ref a :: st) h Q = gf [12] 0 h a (fun v => wp V (cdT Ev) mx d 179 156 ls (v :: st) h Q) := x_getf rfl
theorem s_179_156 {v0 v1 : Value} (hst : st.length ≤ 4) : wp V (cdT Ev) mx d 179 156 ls (v1 :: v0 :: st) h Q = WP V (cdT Ev) mx d 125 [v0, v1] h (fun r h' => wp V (cdT Ev) mx d 179 159 ls (rts r st) h' Q) := x_cs (sg := [v1, v0]) rfl hst rfl rfl
theorem s_179_159 {x : Int32} : wp V (cdT Ev) mx d 179 159 [l0, l1, l2, some (.int x), l4] st h Q = wp V (cdT Ev) mx d 179 160 [l0, l1, l2, some (.int x), l4] (.int x :: st) h Q := x_iload (len := 1) rfl rfl
theorem s_179_160 {x : Int32} : wp V (cdT Ev) mx d 179 160 ls [.int x] h Q = Q (some (.int x)) h := x_ret rfl rfl
theorem e_179 {a : Nat} {p0 : Int32} : WP V (cdT Ev) mx (d + 1) 179 [.ref a, .int p0] h Q = wp V (cdT Ev) mx d 179 0 [some (.ref a), some (.int p0), none, none, none] [] h Q := propext (WP_eq (Nat.le_of_ble_eq_true rfl))
theorem s_180_0 {x : Int32} : wp V (cdT Ev) mx d 180 0 [l0, some (.int x), l2] st h Q = wp V (cdT Ev) mx d 180 1 [l0, some (.int x), l2] (.int x :: st) h Q := x_iload (len := 1) rfl rfl
theorem s_180_1 : wp V (cdT Ev) mx d 180 1 ls st h Q = wp V (cdT Ev) mx d 180 2 ls ((.int (-1)) :: st) h Q := x_push (v := (.int (-1))) (len := 1) rfl
theorem s_180_2 {x z : Int32} : wp V (cdT Ev) mx d 180 2 ls (.int z :: .int x :: st) h Q = (if ¬ x = z then wp V (cdT Ev) mx d 180 15 ls st h Q else wp V (cdT Ev) mx d 180 5 ls st h Q) := x_if2 (c := fun x z => ¬ x = z) rfl
theorem s_180_5 {a : Nat} : wp V (cdT Ev) mx d 180 5 [some (.ref a), l1, l2] st h Q = wp V (cdT Ev) mx d 180 6 [some (.ref a), l1, l2] (.ref a :: st) h Q := x_aload (len := 1) rfl rfl
theorem s_180_5_n : wp V (cdT Ev) mx d 180 5 [some .null, l1, l2] st h Q = wp V (cdT Ev) mx d 180 6 [some .null, l1, l2] (.null :: st) h Q := x_aloadN (len := 1) rfl rfl
theorem s_180_6 {a : Nat} : wp V (cdT Ev) mx d 180 6 ls (.ref a :: st) h Q = gf [12] 0 h a (fun v => wp V (cdT Ev) mx d 180 9 ls (v :: st) h Q) := x_getf rfl
theorem s_180_9 : wp V (cdT Ev) mx d 180 9 ls st h Q = wp V (cdT Ev) mx d 180 11 ls ((.int (103)) :: st) h Q := x_push (v := (.int (103))) (len := 2) rfl
theorem s_180_11 : wp V (cdT Ev) mx d 180 11 ls st h Q = wp V (cdT Ev) mx d 180 12 ls ((.int (0)) :: st) h Q := x_push (v := (.int (0))) (len := 1) rfl
theorem s_180_12 {x i : Int32} {a : Nat} : wp V (cdT Ev) mx d 180 12 ls (.int x :: .int i :: .ref a :: st) h Q = si 2 i (x) h a (fun hh => wp V (cdT Ev) mx d 180 13 ls st hh Q) := x_iast (nw := fun x => x) rfl
theorem s_180_13 : wp V (cdT Ev) mx d 180 13 ls st h Q = wp V (cdT Ev) mx d 180 14 ls ((.int (0)) :: st) h Q := x_push (v := (.int (0))) (len := 1) rfl
theorem s_180_14 {x : Int32} : wp V (cdT Ev) mx d 180 14 ls [.int x] h Q = Q (some (.int x)) h := x_ret rfl rfl
theorem s_180_15 {x : Int32} : wp V (cdT Ev) mx d 180 15 [l0, some (.int x), l2] st h Q = wp V (cdT Ev) mx d 180 16 [l0, some (.int x), l2] (.int x :: st) h Q := x_iload (len := 1) rfl rfl
theorem s_180_16 {v0 : Value} (hst : st.length ≤ 4) : wp V (cdT Ev) mx d 180 16 ls (v0 :: st) h Q = WP V (cdT Ev) mx d 129 [v0] h (fun r h' => wp V (cdT Ev) mx d 180 19 ls (rts r st) h' Q) := x_cs (sg := [v0]) rfl hst rfl rfl
theorem s_180_19 {x : Int32} : wp V (cdT Ev) mx d 180 19 ls (.int x :: st) h Q = (if ¬ x = 0 then wp V (cdT Ev) mx d 180 24 ls st h Q else wp V (cdT Ev) mx d 180 22 ls st h Q) := x_if1 (c := fun x => ¬ x = 0) rfl
theorem s_180_22 : wp V (cdT Ev) mx d 180 22 ls st h Q = wp V (cdT Ev) mx d 180 23 ls ((.int (-1)) :: st) h Q := x_push (v := (.int (-1))) (len := 1) rfl
theorem s_180_23 {x : Int32} : wp V (cdT Ev) mx d 180 23 ls [.int x] h Q = Q (some (.int x)) h := x_ret rfl rfl
theorem s_180_24 {x : Int32} : wp V (cdT Ev) mx d 180 24 [l0, l1, some (.int x)] st h Q = wp V (cdT Ev) mx d 180 25 [l0, l1, some (.int x)] (.int x :: st) h Q := x_iload (len := 1) rfl rfl
theorem s_180_25 : wp V (cdT Ev) mx d 180 25 ls st h Q = wp V (cdT Ev) mx d 180 26 ls ((.int (0)) :: st) h Q := x_push (v := (.int (0))) (len := 1) rfl
theorem s_180_26 : wp V (cdT Ev) mx d 180 26 ls st h Q = wp V (cdT Ev) mx d 180 28 ls ((.int (20)) :: st) h Q := x_push (v := (.int (20))) (len := 2) rfl
theorem s_180_28 {v0 v1 v2 : Value} (hst : st.length ≤ 4) : wp V (cdT Ev) mx d 180 28 ls (v2 :: v1 :: v0 :: st) h Q = WP V (cdT Ev) mx d 123 [v0, v1, v2] h (fun r h' => wp V (cdT Ev) mx d 180 31 ls (rts r st) h' Q) := x_cs (sg := [v2, v1, v0]) rfl hst rfl rfl
theorem s_180_31 {x : Int32} : wp V (cdT Ev) mx d 180 31 ls (.int x :: st) h Q = (if ¬ x = 0 then wp V (cdT Ev) mx d 180 37 ls st h Q else wp V (cdT Ev) mx d 180 34 ls st h Q) := x_if1 (c := fun x => ¬ x = 0) rfl
theorem s_180_34 : wp V (cdT Ev) mx d 180 34 ls st h Q = wp V (cdT Ev) mx d 180 36 ls ((.int (-2)) :: st) h Q := x_push (v := (.int (-2))) (len := 2) rfl
theorem s_180_36 {x : Int32} : wp V (cdT Ev) mx d 180 36 ls [.int x] h Q = Q (some (.int x)) h := x_ret rfl rfl
theorem s_180_37 {a : Nat} : wp V (cdT Ev) mx d 180 37 [some (.ref a), l1, l2] st h Q = wp V (cdT Ev) mx d 180 38 [some (.ref a), l1, l2] (.ref a :: st) h Q := x_aload (len := 1) rfl rfl
theorem s_180_37_n : wp V (cdT Ev) mx d 180 37 [some .null, l1, l2] st h Q = wp V (cdT Ev) mx d 180 38 [some .null, l1, l2] (.null :: st) h Q := x_aloadN (len := 1) rfl rfl
theorem s_180_38 {a : Nat} : wp V (cdT Ev) mx d 180 38 ls (.ref a :: st) h Q = gf [12] 0 h a (fun v => wp V (cdT Ev) mx d 180 41 ls (v :: st) h Q) := x_getf rfl
theorem s_180_41 : wp V (cdT Ev) mx d 180 41 ls st h Q = wp V (cdT Ev) mx d 180 43 ls ((.int (103)) :: st) h Q := x_push (v := (.int (103))) (len := 2) rfl
theorem s_180_43 {i : Int32} {a : Nat} : wp V (cdT Ev) mx d 180 43 ls (.int i :: .ref a :: st) h Q = ai 2 i V h a (fun x => wp V (cdT Ev) mx d 180 44 ls (.int x :: st) h Q) := x_iald rfl
theorem s_180_44 : wp V (cdT Ev) mx d 180 44 ls st h Q = wp V (cdT Ev) mx d 180 46 ls ((.int (8)) :: st) h Q := x_push (v := (.int (8))) (len := 2) rfl
theorem s_180_46 {x z : Int32} : wp V (cdT Ev) mx d 180 46 ls (.int z :: .int x :: st) h Q = (if ¬ x = z then wp V (cdT Ev) mx d 180 52 ls st h Q else wp V (cdT Ev) mx d 180 49 ls st h Q) := x_if2 (c := fun x z => ¬ x = z) rfl
theorem s_180_49 : wp V (cdT Ev) mx d 180 49 ls st h Q = wp V (cdT Ev) mx d 180 51 ls ((.int (-4)) :: st) h Q := x_push (v := (.int (-4))) (len := 2) rfl
theorem s_180_51 {x : Int32} : wp V (cdT Ev) mx d 180 51 ls [.int x] h Q = Q (some (.int x)) h := x_ret rfl rfl
theorem s_180_52 {a : Nat} : wp V (cdT Ev) mx d 180 52 [some (.ref a), l1, l2] st h Q = wp V (cdT Ev) mx d 180 53 [some (.ref a), l1, l2] (.ref a :: st) h Q := x_aload (len := 1) rfl rfl
theorem s_180_52_n : wp V (cdT Ev) mx d 180 52 [some .null, l1, l2] st h Q = wp V (cdT Ev) mx d 180 53 [some .null, l1, l2] (.null :: st) h Q := x_aloadN (len := 1) rfl rfl
theorem s_180_53 {a : Nat} : wp V (cdT Ev) mx d 180 53 ls (.ref a :: st) h Q = gf [12] 0 h a (fun v => wp V (cdT Ev) mx d 180 56 ls (v :: st) h Q) := x_getf rfl
theorem s_180_56 : wp V (cdT Ev) mx d 180 56 ls st h Q = wp V (cdT Ev) mx d 180 58 ls ((.int (104)) :: st) h Q := x_push (v := (.int (104))) (len := 2) rfl
theorem s_180_58 : wp V (cdT Ev) mx d 180 58 ls st h Q = wp V (cdT Ev) mx d 180 59 ls ((.int (2)) :: st) h Q := x_push (v := (.int (2))) (len := 1) rfl
theorem s_180_59 {a : Nat} : wp V (cdT Ev) mx d 180 59 [some (.ref a), l1, l2] st h Q = wp V (cdT Ev) mx d 180 60 [some (.ref a), l1, l2] (.ref a :: st) h Q := x_aload (len := 1) rfl rfl
theorem s_180_59_n : wp V (cdT Ev) mx d 180 59 [some .null, l1, l2] st h Q = wp V (cdT Ev) mx d 180 60 [some .null, l1, l2] (.null :: st) h Q := x_aloadN (len := 1) rfl rfl
theorem s_180_60 {a : Nat} : wp V (cdT Ev) mx d 180 60 ls (.ref a :: st) h Q = gf [12] 0 h a (fun v => wp V (cdT Ev) mx d 180 63 ls (v :: st) h Q) := x_getf rfl
theorem s_180_63 : wp V (cdT Ev) mx d 180 63 ls st h Q = wp V (cdT Ev) mx d 180 65 ls ((.int (103)) :: st) h Q := x_push (v := (.int (103))) (len := 2) rfl
theorem s_180_65 {i : Int32} {a : Nat} : wp V (cdT Ev) mx d 180 65 ls (.int i :: .ref a :: st) h Q = ai 2 i V h a (fun x => wp V (cdT Ev) mx d 180 66 ls (.int x :: st) h Q) := x_iald rfl
theorem s_180_66 {x z : Int32} : wp V (cdT Ev) mx d 180 66 ls (.int z :: .int x :: st) h Q = wp V (cdT Ev) mx d 180 67 ls (.int (x * z) :: st) h Q := x_ib (f := fun x z => x * z) rfl
theorem s_180_67 {x z : Int32} : wp V (cdT Ev) mx d 180 67 ls (.int z :: .int x :: st) h Q = wp V (cdT Ev) mx d 180 68 ls (.int (x + z) :: st) h Q := x_ib (f := fun x z => x + z) rfl
theorem s_180_68 {x : Int32} : wp V (cdT Ev) mx d 180 68 [l0, some (.int x), l2] st h Q = wp V (cdT Ev) mx d 180 69 [l0, some (.int x), l2] (.int x :: st) h Q := x_iload (len := 1) rfl rfl
theorem s_180_69 {x i : Int32} {a : Nat} : wp V (cdT Ev) mx d 180 69 ls (.int x :: .int i :: .ref a :: st) h Q = si 2 i (x) h a (fun hh => wp V (cdT Ev) mx d 180 70 ls st hh Q) := x_iast (nw := fun x => x) rfl
theorem s_180_70 {a : Nat} : wp V (cdT Ev) mx d 180 70 [some (.ref a), l1, l2] st h Q = wp V (cdT Ev) mx d 180 71 [some (.ref a), l1, l2] (.ref a :: st) h Q := x_aload (len := 1) rfl rfl
theorem s_180_70_n : wp V (cdT Ev) mx d 180 70 [some .null, l1, l2] st h Q = wp V (cdT Ev) mx d 180 71 [some .null, l1, l2] (.null :: st) h Q := x_aloadN (len := 1) rfl rfl
theorem s_180_71 {a : Nat} : wp V (cdT Ev) mx d 180 71 ls (.ref a :: st) h Q = gf [12] 0 h a (fun v => wp V (cdT Ev) mx d 180 74 ls (v :: st) h Q) := x_getf rfl
theorem s_180_74 : wp V (cdT Ev) mx d 180 74 ls st h Q = wp V (cdT Ev) mx d 180 76 ls ((.int (105)) :: st) h Q := x_push (v := (.int (105))) (len := 2) rfl
theorem s_180_76 : wp V (cdT Ev) mx d 180 76 ls st h Q = wp V (cdT Ev) mx d 180 77 ls ((.int (2)) :: st) h Q := x_push (v := (.int (2))) (len := 1) rfl
theorem s_180_77 {a : Nat} : wp V (cdT Ev) mx d 180 77 [some (.ref a), l1, l2] st h Q = wp V (cdT Ev) mx d 180 78 [some (.ref a), l1, l2] (.ref a :: st) h Q := x_aload (len := 1) rfl rfl
theorem s_180_77_n : wp V (cdT Ev) mx d 180 77 [some .null, l1, l2] st h Q = wp V (cdT Ev) mx d 180 78 [some .null, l1, l2] (.null :: st) h Q := x_aloadN (len := 1) rfl rfl
theorem s_180_78 {a : Nat} : wp V (cdT Ev) mx d 180 78 ls (.ref a :: st) h Q = gf [12] 0 h a (fun v => wp V (cdT Ev) mx d 180 81 ls (v :: st) h Q) := x_getf rfl
theorem s_180_81 : wp V (cdT Ev) mx d 180 81 ls st h Q = wp V (cdT Ev) mx d 180 83 ls ((.int (103)) :: st) h Q := x_push (v := (.int (103))) (len := 2) rfl
theorem s_180_83 {i : Int32} {a : Nat} : wp V (cdT Ev) mx d 180 83 ls (.int i :: .ref a :: st) h Q = ai 2 i V h a (fun x => wp V (cdT Ev) mx d 180 84 ls (.int x :: st) h Q) := x_iald rfl
theorem s_180_84 {x z : Int32} : wp V (cdT Ev) mx d 180 84 ls (.int z :: .int x :: st) h Q = wp V (cdT Ev) mx d 180 85 ls (.int (x * z) :: st) h Q := x_ib (f := fun x z => x * z) rfl
theorem s_180_85 {x z : Int32} : wp V (cdT Ev) mx d 180 85 ls (.int z :: .int x :: st) h Q = wp V (cdT Ev) mx d 180 86 ls (.int (x + z) :: st) h Q := x_ib (f := fun x z => x + z) rfl
theorem s_180_86 {x : Int32} : wp V (cdT Ev) mx d 180 86 [l0, l1, some (.int x)] st h Q = wp V (cdT Ev) mx d 180 87 [l0, l1, some (.int x)] (.int x :: st) h Q := x_iload (len := 1) rfl rfl
theorem s_180_87 {x i : Int32} {a : Nat} : wp V (cdT Ev) mx d 180 87 ls (.int x :: .int i :: .ref a :: st) h Q = si 2 i (x) h a (fun hh => wp V (cdT Ev) mx d 180 88 ls st hh Q) := x_iast (nw := fun x => x) rfl
theorem s_180_88 {a : Nat} : wp V (cdT Ev) mx d 180 88 [some (.ref a), l1, l2] st h Q = wp V (cdT Ev) mx d 180 89 [some (.ref a), l1, l2] (.ref a :: st) h Q := x_aload (len := 1) rfl rfl
theorem s_180_88_n : wp V (cdT Ev) mx d 180 88 [some .null, l1, l2] st h Q = wp V (cdT Ev) mx d 180 89 [some .null, l1, l2] (.null :: st) h Q := x_aloadN (len := 1) rfl rfl
theorem s_180_89 {a : Nat} : wp V (cdT Ev) mx d 180 89 ls (.ref a :: st) h Q = gf [12] 0 h a (fun v => wp V (cdT Ev) mx d 180 92 ls (v :: st) h Q) := x_getf rfl
theorem s_180_92 : wp V (cdT Ev) mx d 180 92 ls st h Q = wp V (cdT Ev) mx d 180 94 ls ((.int (103)) :: st) h Q := x_push (v := (.int (103))) (len := 2) rfl
theorem s_180_94 {x : Int32} {a : Nat} : wp V (cdT Ev) mx d 180 94 ls (.int x :: .ref a :: st) h Q = wp V (cdT Ev) mx d 180 95 ls (.int x :: .ref a :: .int x :: .ref a :: st) h Q := x_dup2 rfl rfl rfl
theorem s_180_95 {i : Int32} {a : Nat} : wp V (cdT Ev) mx d 180 95 ls (.int i :: .ref a :: st) h Q = ai 2 i V h a (fun x => wp V (cdT Ev) mx d 180 96 ls (.int x :: st) h Q) := x_iald rfl
theorem s_180_96 : wp V (cdT Ev) mx d 180 96 ls st h Q = wp V (cdT Ev) mx d 180 97 ls ((.int (1)) :: st) h Q := x_push (v := (.int (1))) (len := 1) rfl
theorem s_180_97 {x z : Int32} : wp V (cdT Ev) mx d 180 97 ls (.int z :: .int x :: st) h Q = wp V (cdT Ev) mx d 180 98 ls (.int (x + z) :: st) h Q := x_ib (f := fun x z => x + z) rfl
theorem s_180_98 {x i : Int32} {a : Nat} : wp V (cdT Ev) mx d 180 98 ls (.int x :: .int i :: .ref a :: st) h Q = si 2 i (x) h a (fun hh => wp V (cdT Ev) mx d 180 99 ls st hh Q) := x_iast (nw := fun x => x) rfl
theorem s_180_99 {a : Nat} : wp V (cdT Ev) mx d 180 99 [some (.ref a), l1, l2] st h Q = wp V (cdT Ev) mx d 180 100 [some (.ref a), l1, l2] (.ref a :: st) h Q := x_aload (len := 1) rfl rfl
theorem s_180_99_n : wp V (cdT Ev) mx d 180 99 [some .null, l1, l2] st h Q = wp V (cdT Ev) mx d 180 100 [some .null, l1, l2] (.null :: st) h Q := x_aloadN (len := 1) rfl rfl
theorem s_180_100 {a : Nat} : wp V (cdT Ev) mx d 180 100 ls (.ref a :: st) h Q = gf [12] 0 h a (fun v => wp V (cdT Ev) mx d 180 103 ls (v :: st) h Q) := x_getf rfl
theorem s_180_103 : wp V (cdT Ev) mx d 180 103 ls st h Q = wp V (cdT Ev) mx d 180 105 ls ((.int (103)) :: st) h Q := x_push (v := (.int (103))) (len := 2) rfl
theorem s_180_105 {i : Int32} {a : Nat} : wp V (cdT Ev) mx d 180 105 ls (.int i :: .ref a :: st) h Q = ai 2 i V h a (fun x => wp V (cdT Ev) mx d 180 106 ls (.int x :: st) h Q) := x_iald rfl
theorem s_180_106 {x : Int32} : wp V (cdT Ev) mx d 180 106 ls [.int x] h Q = Q (some (.int x)) h := x_ret rfl rfl
theorem e_180 {a : Nat} {p0 : Int32} {p1 : Int32} : WP V (cdT Ev) mx (d + 1) 180 [.ref a, .int p0, .int p1] h Q = wp V (cdT Ev) mx d 180 0 [some (.ref a), some (.int p0), some (.int p1)] [] h Q := propext (WP_eq (Nat.le_of_ble_eq_true rfl))
theorem s_181_0 : wp V (cdT Ev) mx d 181 0 ls st h Q = wp V (cdT Ev) mx d 181 1 ls ((.int (0)) :: st) h Q := x_push (v := (.int (0))) (len := 1) rfl
theorem s_181_1 {x : Int32} (hn : nl l0 = true) : wp V (cdT Ev) mx d 181 1 [l0, l1] (.int x :: st) h Q = wp V (cdT Ev) mx d 181 2 [l0, some (.int x)] st h Q := x_istore (len := 1) rfl (Nat.le_of_ble_eq_true rfl) (okp_nl rfl hn) rfl
theorem s_181_2 {x : Int32} : wp V (cdT Ev) mx d 181 2 [l0, some (.int x)] st h Q = wp V (cdT Ev) mx d 181 3 [l0, some (.int x)] (.int x :: st) h Q := x_iload (len := 1) rfl rfl
theorem s_181_3 {a : Nat} : wp V (cdT Ev) mx d 181 3 [some (.ref a), l1] st h Q = wp V (cdT Ev) mx d 181 4 [some (.ref a), l1] (.ref a :: st) h Q := x_aload (len := 1) rfl rfl
theorem s_181_3_n : wp V (cdT Ev) mx d 181 3 [some .null, l1] st h Q = wp V (cdT Ev) mx d 181 4 [some .null, l1] (.null :: st) h Q := x_aloadN (len := 1) rfl rfl
theorem s_181_4 {a : Nat} : wp V (cdT Ev) mx d 181 4 ls (.ref a :: st) h Q = gf [12] 0 h a (fun v => wp V (cdT Ev) mx d 181 7 ls (v :: st) h Q) := x_getf rfl
theorem s_181_7 : wp V (cdT Ev) mx d 181 7 ls st h Q = wp V (cdT Ev) mx d 181 9 ls ((.int (103)) :: st) h Q := x_push (v := (.int (103))) (len := 2) rfl
theorem s_181_9 {i : Int32} {a : Nat} : wp V (cdT Ev) mx d 181 9 ls (.int i :: .ref a :: st) h Q = ai 2 i V h a (fun x => wp V (cdT Ev) mx d 181 10 ls (.int x :: st) h Q) := x_iald rfl
theorem s_181_10 {x z : Int32} : wp V (cdT Ev) mx d 181 10 ls (.int z :: .int x :: st) h Q = (if z ≤ x then wp V (cdT Ev) mx d 181 51 ls st h Q else wp V (cdT Ev) mx d 181 13 ls st h Q) := x_if2 (c := fun x z => z ≤ x) rfl
theorem s_181_13 {a : Nat} : wp V (cdT Ev) mx d 181 13 [some (.ref a), l1] st h Q = wp V (cdT Ev) mx d 181 14 [some (.ref a), l1] (.ref a :: st) h Q := x_aload (len := 1) rfl rfl
theorem s_181_13_n : wp V (cdT Ev) mx d 181 13 [some .null, l1] st h Q = wp V (cdT Ev) mx d 181 14 [some .null, l1] (.null :: st) h Q := x_aloadN (len := 1) rfl rfl
theorem s_181_14 {a : Nat} : wp V (cdT Ev) mx d 181 14 ls (.ref a :: st) h Q = gf [12] 0 h a (fun v => wp V (cdT Ev) mx d 181 17 ls (v :: st) h Q) := x_getf rfl
theorem s_181_17 {a : Nat} : wp V (cdT Ev) mx d 181 17 [some (.ref a), l1] st h Q = wp V (cdT Ev) mx d 181 18 [some (.ref a), l1] (.ref a :: st) h Q := x_aload (len := 1) rfl rfl
theorem s_181_17_n : wp V (cdT Ev) mx d 181 17 [some .null, l1] st h Q = wp V (cdT Ev) mx d 181 18 [some .null, l1] (.null :: st) h Q := x_aloadN (len := 1) rfl rfl
theorem s_181_18 {a : Nat} : wp V (cdT Ev) mx d 181 18 ls (.ref a :: st) h Q = gf [12] 0 h a (fun v => wp V (cdT Ev) mx d 181 21 ls (v :: st) h Q) := x_getf rfl
theorem s_181_21 : wp V (cdT Ev) mx d 181 21 ls st h Q = wp V (cdT Ev) mx d 181 23 ls ((.int (104)) :: st) h Q := x_push (v := (.int (104))) (len := 2) rfl
theorem s_181_23 : wp V (cdT Ev) mx d 181 23 ls st h Q = wp V (cdT Ev) mx d 181 24 ls ((.int (2)) :: st) h Q := x_push (v := (.int (2))) (len := 1) rfl
theorem s_181_24 {x : Int32} : wp V (cdT Ev) mx d 181 24 [l0, some (.int x)] st h Q = wp V (cdT Ev) mx d 181 25 [l0, some (.int x)] (.int x :: st) h Q := x_iload (len := 1) rfl rfl
theorem s_181_25 {x z : Int32} : wp V (cdT Ev) mx d 181 25 ls (.int z :: .int x :: st) h Q = wp V (cdT Ev) mx d 181 26 ls (.int (x * z) :: st) h Q := x_ib (f := fun x z => x * z) rfl
theorem s_181_26 {x z : Int32} : wp V (cdT Ev) mx d 181 26 ls (.int z :: .int x :: st) h Q = wp V (cdT Ev) mx d 181 27 ls (.int (x + z) :: st) h Q := x_ib (f := fun x z => x + z) rfl
theorem s_181_27 {i : Int32} {a : Nat} : wp V (cdT Ev) mx d 181 27 ls (.int i :: .ref a :: st) h Q = ai 2 i V h a (fun x => wp V (cdT Ev) mx d 181 28 ls (.int x :: st) h Q) := x_iald rfl
theorem s_181_28 {i : Int32} {a : Nat} : wp V (cdT Ev) mx d 181 28 ls (.int i :: .ref a :: st) h Q = ai 2 i V h a (fun x => wp V (cdT Ev) mx d 181 29 ls (.int x :: st) h Q) := x_iald rfl
theorem s_181_29 {a : Nat} : wp V (cdT Ev) mx d 181 29 [some (.ref a), l1] st h Q = wp V (cdT Ev) mx d 181 30 [some (.ref a), l1] (.ref a :: st) h Q := x_aload (len := 1) rfl rfl
theorem s_181_29_n : wp V (cdT Ev) mx d 181 29 [some .null, l1] st h Q = wp V (cdT Ev) mx d 181 30 [some .null, l1] (.null :: st) h Q := x_aloadN (len := 1) rfl rfl
theorem s_181_30 {a : Nat} : wp V (cdT Ev) mx d 181 30 ls (.ref a :: st) h Q = gf [12] 0 h a (fun v => wp V (cdT Ev) mx d 181 33 ls (v :: st) h Q) := x_getf rfl
theorem s_181_33 : wp V (cdT Ev) mx d 181 33 ls st h Q = wp V (cdT Ev) mx d 181 35 ls ((.int (105)) :: st) h Q := x_push (v := (.int (105))) (len := 2) rfl
theorem s_181_35 : wp V (cdT Ev) mx d 181 35 ls st h Q = wp V (cdT Ev) mx d 181 36 ls ((.int (2)) :: st) h Q := x_push (v := (.int (2))) (len := 1) rfl
theorem s_181_36 {x : Int32} : wp V (cdT Ev) mx d 181 36 [l0, some (.int x)] st h Q = wp V (cdT Ev) mx d 181 37 [l0, some (.int x)] (.int x :: st) h Q := x_iload (len := 1) rfl rfl
theorem s_181_37 {x z : Int32} : wp V (cdT Ev) mx d 181 37 ls (.int z :: .int x :: st) h Q = wp V (cdT Ev) mx d 181 38 ls (.int (x * z) :: st) h Q := x_ib (f := fun x z => x * z) rfl
theorem s_181_38 {x z : Int32} : wp V (cdT Ev) mx d 181 38 ls (.int z :: .int x :: st) h Q = wp V (cdT Ev) mx d 181 39 ls (.int (x + z) :: st) h Q := x_ib (f := fun x z => x + z) rfl
theorem s_181_39 {i : Int32} {a : Nat} : wp V (cdT Ev) mx d 181 39 ls (.int i :: .ref a :: st) h Q = ai 2 i V h a (fun x => wp V (cdT Ev) mx d 181 40 ls (.int x :: st) h Q) := x_iald rfl
theorem s_181_40 {x z : Int32} : wp V (cdT Ev) mx d 181 40 ls (.int z :: .int x :: st) h Q = (if x = z then wp V (cdT Ev) mx d 181 45 ls st h Q else wp V (cdT Ev) mx d 181 43 ls st h Q) := x_if2 (c := fun x z => x = z) rfl
theorem s_181_43 {x : Int32} : wp V (cdT Ev) mx d 181 43 [l0, some (.int x)] st h Q = wp V (cdT Ev) mx d 181 44 [l0, some (.int x)] (.int x :: st) h Q := x_iload (len := 1) rfl rfl
theorem s_181_44 {x : Int32} : wp V (cdT Ev) mx d 181 44 ls [.int x] h Q = Q (some (.int x)) h := x_ret rfl rfl
theorem s_181_45 {x : Int32} : wp V (cdT Ev) mx d 181 45 [l0, some (.int x)] st h Q = wp V (cdT Ev) mx d 181 48 [l0, some (.int (x + (1)))] st h Q := x_iinc rfl rfl rfl
theorem s_181_48 : wp V (cdT Ev) mx d 181 48 ls st h Q = wp V (cdT Ev) mx d 181 2 ls st h Q := x_goto rfl
theorem s_181_51 : wp V (cdT Ev) mx d 181 51 ls st h Q = wp V (cdT Ev) mx d 181 53 ls ((.int (-5)) :: st) h Q := x_push (v := (.int (-5))) (len := 2) rfl
theorem s_181_53 {x : Int32} : wp V (cdT Ev) mx d 181 53 ls [.int x] h Q = Q (some (.int x)) h := x_ret rfl rfl
theorem e_181 {a : Nat} : WP V (cdT Ev) mx (d + 1) 181 [.ref a] h Q = wp V (cdT Ev) mx d 181 0 [some (.ref a), none] [] h Q := propext (WP_eq (Nat.le_of_ble_eq_true rfl))
theorem s_182_0 {a : Nat} : wp V (cdT Ev) mx d 182 0 [some (.ref a), l1] st h Q = wp V (cdT Ev) mx d 182 1 [some (.ref a), l1] (.ref a :: st) h Q := x_aload (len := 1) rfl rfl
theorem s_182_0_n : wp V (cdT Ev) mx d 182 0 [some .null, l1] st h Q = wp V (cdT Ev) mx d 182 1 [some .null, l1] (.null :: st) h Q := x_aloadN (len := 1) rfl rfl
theorem s_182_1 {a : Nat} : wp V (cdT Ev) mx d 182 1 ls (.ref a :: st) h Q = gf [12] 24 h a (fun v => wp V (cdT Ev) mx d 182 4 ls (v :: st) h Q) := x_getf rfl
theorem s_182_4 : wp V (cdT Ev) mx d 182 4 ls st h Q = wp V (cdT Ev) mx d 182 6 ls ((.int (20)) :: st) h Q := x_push (v := (.int (20))) (len := 2) rfl
theorem s_182_6 {x z : Int32} : wp V (cdT Ev) mx d 182 6 ls (.int z :: .int x :: st) h Q = (if z ≤ x then wp V (cdT Ev) mx d 182 19 ls st h Q else wp V (cdT Ev) mx d 182 9 ls st h Q) := x_if2 (c := fun x z => z ≤ x) rfl
theorem s_182_9 {a : Nat} : wp V (cdT Ev) mx d 182 9 [some (.ref a), l1] st h Q = wp V (cdT Ev) mx d 182 10 [some (.ref a), l1] (.ref a :: st) h Q := x_aload (len := 1) rfl rfl
theorem s_182_9_n : wp V (cdT Ev) mx d 182 9 [some .null, l1] st h Q = wp V (cdT Ev) mx d 182 10 [some .null, l1] (.null :: st) h Q := x_aloadN (len := 1) rfl rfl
theorem s_182_10 {a : Nat} : wp V (cdT Ev) mx d 182 10 ls (.ref a :: st) h Q = gf [12] 23 h a (fun v => wp V (cdT Ev) mx d 182 13 ls (v :: st) h Q) := x_getf rfl
theorem s_182_13 {a : Nat} : wp V (cdT Ev) mx d 182 13 [some (.ref a), l1] st h Q = wp V (cdT Ev) mx d 182 14 [some (.ref a), l1] (.ref a :: st) h Q := x_aload (len := 1) rfl rfl
theorem s_182_13_n : wp V (cdT Ev) mx d 182 13 [some .null, l1] st h Q = wp V (cdT Ev) mx d 182 14 [some .null, l1] (.null :: st) h Q := x_aloadN (len := 1) rfl rfl
theorem s_182_14 {a : Nat} : wp V (cdT Ev) mx d 182 14 ls (.ref a :: st) h Q = gf [12] 24 h a (fun v => wp V (cdT Ev) mx d 182 17 ls (v :: st) h Q) := x_getf rfl
theorem s_182_17 {x : Int32} : wp V (cdT Ev) mx d 182 17 [l0, some (.int x)] st h Q = wp V (cdT Ev) mx d 182 18 [l0, some (.int x)] (.int x :: st) h Q := x_iload (len := 1) rfl rfl
theorem s_182_18 {x i : Int32} {a : Nat} : wp V (cdT Ev) mx d 182 18 ls (.int x :: .int i :: .ref a :: st) h Q = si 2 i (x) h a (fun hh => wp V (cdT Ev) mx d 182 19 ls st hh Q) := x_iast (nw := fun x => x) rfl
theorem s_182_19 {a : Nat} : wp V (cdT Ev) mx d 182 19 [some (.ref a), l1] st h Q = wp V (cdT Ev) mx d 182 20 [some (.ref a), l1] (.ref a :: st) h Q := x_aload (len := 1) rfl rfl
theorem s_182_19_n : wp V (cdT Ev) mx d 182 19 [some .null, l1] st h Q = wp V (cdT Ev) mx d 182 20 [some .null, l1] (.null :: st) h Q := x_aloadN (len := 1) rfl rfl
theorem s_182_20 {a : Nat} : wp V (cdT Ev) mx d 182 20 ls (.ref a :: st) h Q = wp V (cdT Ev) mx d 182 21 ls (.ref a :: .ref a :: st) h Q := x_dup rfl rfl
theorem s_182_20_i {x : Int32} : wp V (cdT Ev) mx d 182 20 ls (.int x :: st) h Q = wp V (cdT Ev) mx d 182 21 ls (.int x :: .int x :: st) h Q := x_dup rfl rfl
theorem s_182_21 {a : Nat} : wp V (cdT Ev) mx d 182 21 ls (.ref a :: st) h Q = gf [12] 24 h a (fun v => wp V (cdT Ev) mx d 182 24 ls (v :: st) h Q) := x_getf rfl
theorem s_182_24 : wp V (cdT Ev) mx d 182 24 ls st h Q = wp V (cdT Ev) mx d 182 25 ls ((.int (1)) :: st) h Q := x_push (v := (.int (1))) (len := 1) rfl
theorem s_182_25 {x z : Int32} : wp V (cdT Ev) mx d 182 25 ls (.int z :: .int x :: st) h Q = wp V (cdT Ev) mx d 182 26 ls (.int (x + z) :: st) h Q := x_ib (f := fun x z => x + z) rfl
theorem s_182_26 {w : Value} {a : Nat} : wp V (cdT Ev) mx d 182 26 ls (w :: .ref a :: st) h Q = pf [12] 24 0 w h a (fun hh => wp V (cdT Ev) mx d 182 29 ls st hh Q) := x_putf rfl
theorem s_182_29 {x : Int32} : wp V (cdT Ev) mx d 182 29 [l0, some (.int x)] st h Q = wp V (cdT Ev) mx d 182 30 [l0, some (.int x)] (.int x :: st) h Q := x_iload (len := 1) rfl rfl
theorem s_182_30 {x : Int32} : wp V (cdT Ev) mx d 182 30 ls [.int x] h Q = Q (some (.int x)) h := x_ret rfl rfl
theorem e_182 {a : Nat} {p0 : Int32} : WP V (cdT Ev) mx (d + 1) 182 [.ref a, .int p0] h Q = wp V (cdT Ev) mx d 182 0 [some (.ref a), some (.int p0)] [] h Q := propext (WP_eq (Nat.le_of_ble_eq_true rfl))
theorem s_183_0 {a : Nat} : wp V (cdT Ev) mx d 183 0 [some (.ref a), l1, l2, l3] st h Q = wp V (cdT Ev) mx d 183 1 [some (.ref a), l1, l2, l3] (.ref a :: st) h Q := x_aload (len := 1) rfl rfl
theorem s_183_0_n : wp V (cdT Ev) mx d 183 0 [some .null, l1, l2, l3] st h Q = wp V (cdT Ev) mx d 183 1 [some .null, l1, l2, l3] (.null :: st) h Q := x_aloadN (len := 1) rfl rfl
theorem s_183_1 {a : Nat} : wp V (cdT Ev) mx d 183 1 [some (.ref a), l1, l2, l3] st h Q = wp V (cdT Ev) mx d 183 2 [some (.ref a), l1, l2, l3] (.ref a :: st) h Q := x_aload (len := 1) rfl rfl
theorem s_183_1_n : wp V (cdT Ev) mx d 183 1 [some .null, l1, l2, l3] st h Q = wp V (cdT Ev) mx d 183 2 [some .null, l1, l2, l3] (.null :: st) h Q := x_aloadN (len := 1) rfl rfl
theorem s_183_2 {x : Int32} : wp V (cdT Ev) mx d 183 2 [l0, some (.int x), l2, l3] st h Q = wp V (cdT Ev) mx d 183 3 [l0, some (.int x), l2, l3] (.int x :: st) h Q := x_iload (len := 1) rfl rfl
theorem s_183_3 : wp V (cdT Ev) mx d 183 3 ls st h Q = wp V (cdT Ev) mx d 183 4 ls ((.int (0)) :: st) h Q := x_push (v := (.int (0))) (len := 1) rfl
theorem s_183_4 {b : Nat} {v0 v1 : Value} (hst : st.length ≤ 4) : wp V (cdT Ev) mx d 183 4 ls (v1 :: v0 :: .ref b :: st) h Q = cv [(12, 132)] h b (fun y' => WP V (cdT Ev) mx d y' [.ref b, v0, v1] h (fun r h' => wp V (cdT Ev) mx d 183 7 ls (rts r st) h' Q)) := x_cv (sg := [v1, v0]) rfl hst rfl rfl
theorem s_183_7 {x : Int32} : wp V (cdT Ev) mx d 183 7 [l0, some (.int x), l2, l3] st h Q = wp V (cdT Ev) mx d 183 8 [l0, some (.int x), l2, l3] (.int x :: st) h Q := x_iload (len := 1) rfl rfl
theorem s_183_8 {x : Int32} : wp V (cdT Ev) mx d 183 8 [l0, l1, some (.int x), l3] st h Q = wp V (cdT Ev) mx d 183 9 [l0, l1, some (.int x), l3] (.int x :: st) h Q := x_iload (len := 1) rfl rfl
theorem s_183_9 {x : Int32} : wp V (cdT Ev) mx d 183 9 [l0, l1, l2, some (.int x)] st h Q = wp V (cdT Ev) mx d 183 10 [l0, l1, l2, some (.int x)] (.int x :: st) h Q := x_iload (len := 1) rfl rfl
theorem s_183_10 {b : Nat} {v0 v1 v2 v3 : Value} (hst : st.length ≤ 4) : wp V (cdT Ev) mx d 183 10 ls (v3 :: v2 :: v1 :: v0 :: .ref b :: st) h Q = cv [(12, 184)] h b (fun y' => WP V (cdT Ev) mx d y' [.ref b, v0, v1, v2, v3] h (fun r h' => wp V (cdT Ev) mx d 183 13 ls (rts r st) h' Q)) := x_cv (sg := [v3, v2, v1, v0]) rfl hst rfl rfl
theorem s_183_13 {x : Int32} : wp V (cdT Ev) mx d 183 13 ls [.int x] h Q = Q (some (.int x)) h := x_ret rfl rfl
theorem e_183 {a : Nat} {p0 : Int32} {p1 : Int32} {p2 : Int32} : WP V (cdT Ev) mx (d + 1) 183 [.ref a, .int p0, .int p1, .int p2] h Q = wp V (cdT Ev) mx d 183 0 [some (.ref a), some (.int p0), some (.int p1), some (.int p2)] [] h Q := propext (WP_eq (Nat.le_of_ble_eq_true rfl))
theorem s_184_0 {x : Int32} : wp V (cdT Ev) mx d 184 0 [l0, some (.int x), l2, l3, l4, l5, l6] st h Q = wp V (cdT Ev) mx d 184 1 [l0, some (.int x), l2, l3, l4, l5, l6] (.int x :: st) h Q := x_iload (len := 1) rfl rfl
theorem s_184_1 {x : Int32} (hn : nl l4 = true) : wp V (cdT Ev) mx d 184 1 [l0, l1, l2, l3, l4, l5, l6] (.int x :: st) h Q = wp V (cdT Ev) mx d 184 3 [l0, l1, l2, l3, l4, some (.int x), l6] st h Q := x_istore (len := 2) rfl (Nat.le_of_ble_eq_true rfl) (okp_nl rfl hn) rfl
theorem s_184_3 {a : Nat} : wp V (cdT Ev) mx d 184 3 [some (.ref a), l1, l2, l3, l4, l5, l6] st h Q = wp V (cdT Ev) mx d 184 4 [some (.ref a), l1, l2, l3, l4, l5, l6] (.ref a :: st) h Q := x_aload (len := 1) rfl rfl
theorem s_184_3_n : wp V (cdT Ev) mx d 184 3 [some .null, l1, l2, l3, l4, l5, l6] st h Q = wp V (cdT Ev) mx d 184 4 [some .null, l1, l2, l3, l4, l5, l6] (.null :: st) h Q := x_aloadN (len := 1) rfl rfl
theorem s_184_4 {a : Nat} : wp V (cdT Ev) mx d 184 4 ls (.ref a :: st) h Q = gf [12] 22 h a (fun v => wp V (cdT Ev) mx d 184 7 ls (v :: st) h Q) := x_getf rfl
theorem s_184_7 : wp V (cdT Ev) mx d 184 7 ls st h Q = wp V (cdT Ev) mx d 184 8 ls ((.int (3)) :: st) h Q := x_push (v := (.int (3))) (len := 1) rfl
theorem s_184_8 {x : Int32} : wp V (cdT Ev) mx d 184 8 [l0, l1, l2, l3, l4, some (.int x), l6] st h Q = wp V (cdT Ev) mx d 184 10 [l0, l1, l2, l3, l4, some (.int x), l6] (.int x :: st) h Q := x_iload (len := 2) rfl rfl
theorem s_184_10 {x z : Int32} : wp V (cdT Ev) mx d 184 10 ls (.int z :: .int x :: st) h Q = wp V (cdT Ev) mx d 184 11 ls (.int (x * z) :: st) h Q := x_ib (f := fun x z => x * z) rfl
theorem s_184_11 {x : Int32} : wp V (cdT Ev) mx d 184 11 [l0, l1, l2, some (.int x), l4, l5, l6] st h Q = wp V (cdT Ev) mx d 184 12 [l0, l1, l2, some (.int x), l4, l5, l6] (.int x :: st) h Q := x_iload (len := 1) rfl rfl
theorem s_184_12 {x z : Int32} : wp V (cdT Ev) mx d 184 12 ls (.int z :: .int x :: st) h Q = wp V (cdT Ev) mx d 184 13 ls (.int (x + z) :: st) h Q := x_ib (f := fun x z => x + z) rfl
theorem s_184_13 {i : Int32} {a : Nat} : wp V (cdT Ev) mx d 184 13 ls (.int i :: .ref a :: st) h Q = ai 2 i V h a (fun x => wp V (cdT Ev) mx d 184 14 ls (.int x :: st) h Q) := x_iald rfl
theorem s_184_14 {x : Int32} : wp V (cdT Ev) mx d 184 14 ls (.int x :: st) h Q = (if ¬ x = 0 then wp V (cdT Ev) mx d 184 29 ls st h Q else wp V (cdT Ev) mx d 184 17 ls st h Q) := x_if1 (c := fun x => ¬ x = 0) rfl
theorem s_184_17 {a : Nat} : wp V (cdT Ev) mx d 184 17 [some (.ref a), l1, l2, l3, l4, l5, l6] st h Q = wp V (cdT Ev) mx d 184 18 [some (.ref a), l1, l2, l3, l4, l5, l6] (.ref a :: st) h Q := x_aload (len := 1) rfl rfl
theorem s_184_17_n : wp V (cdT Ev) mx d 184 17 [some .null, l1, l2, l3, l4, l5, l6] st h Q = wp V (cdT Ev) mx d 184 18 [some .null, l1, l2, l3, l4, l5, l6] (.null :: st) h Q := x_aloadN (len := 1) rfl rfl
theorem s_184_18 {a : Nat} : wp V (cdT Ev) mx d 184 18 ls (.ref a :: st) h Q = gf [12] 21 h a (fun v => wp V (cdT Ev) mx d 184 21 ls (v :: st) h Q) := x_getf rfl
theorem s_184_21 {x : Int32} : wp V (cdT Ev) mx d 184 21 [l0, l1, l2, l3, l4, some (.int x), l6] st h Q = wp V (cdT Ev) mx d 184 23 [l0, l1, l2, l3, l4, some (.int x), l6] (.int x :: st) h Q := x_iload (len := 2) rfl rfl
theorem s_184_23 {i : Int32} {a : Nat} : wp V (cdT Ev) mx d 184 23 ls (.int i :: .ref a :: st) h Q = ai 2 i V h a (fun x => wp V (cdT Ev) mx d 184 24 ls (.int x :: st) h Q) := x_iald rfl
theorem s_184_24 {x : Int32} (hn : nl l4 = true) : wp V (cdT Ev) mx d 184 24 [l0, l1, l2, l3, l4, l5, l6] (.int x :: st) h Q = wp V (cdT Ev) mx d 184 26 [l0, l1, l2, l3, l4, some (.int x), l6] st h Q := x_istore (len := 2) rfl (Nat.le_of_ble_eq_true rfl) (okp_nl rfl hn) rfl
theorem s_184_26 : wp V (cdT Ev) mx d 184 26 ls st h Q = wp V (cdT Ev) mx d 184 3 ls st h Q := x_goto rfl
theorem s_184_29 {a : Nat} : wp V (cdT Ev) mx d 184 29 [some (.ref a), l1, l2, l3, l4, l5, l6] st h Q = wp V (cdT Ev) mx d 184 30 [some (.ref a), l1, l2, l3, l4, l5, l6] (.ref a :: st) h Q := x_aload (len := 1) rfl rfl
theorem s_184_29_n : wp V (cdT Ev) mx d 184 29 [some .null, l1, l2, l3, l4, l5, l6] st h Q = wp V (cdT Ev) mx d 184 30 [some .null, l1, l2, l3, l4, l5, l6] (.null :: st) h Q := x_aloadN (len := 1) rfl rfl
theorem s_184_30 {a : Nat} : wp V (cdT Ev) mx d 184 30 ls (.ref a :: st) h Q = gf [12] 21 h a (fun v => wp V (cdT Ev) mx d 184 33 ls (v :: st) h Q) := x_getf rfl
theorem s_184_33 {x : Int32} : wp V (cdT Ev) mx d 184 33 [l0, l1, l2, l3, l4, some (.int x), l6] st h Q = wp V (cdT Ev) mx d 184 35 [l0, l1, l2, l3, l4, some (.int x), l6] (.int x :: st) h Q := x_iload (len := 2) rfl rfl
theorem s_184_35 {i : Int32} {a : Nat} : wp V (cdT Ev) mx d 184 35 ls (.int i :: .ref a :: st) h Q = ai 2 i V h a (fun x => wp V (cdT Ev) mx d 184 36 ls (.int x :: st) h Q) := x_iald rfl
theorem s_184_36 {x : Int32} (hn : nl l5 = true) : wp V (cdT Ev) mx d 184 36 [l0, l1, l2, l3, l4, l5, l6] (.int x :: st) h Q = wp V (cdT Ev) mx d 184 38 [l0, l1, l2, l3, l4, l5, some (.int x)] st h Q := x_istore (len := 2) rfl (Nat.le_of_ble_eq_true rfl) (okp_nl rfl hn) rfl
theorem s_184_38 {a : Nat} : wp V (cdT Ev) mx d 184 38 [some (.ref a), l1, l2, l3, l4, l5, l6] st h Q = wp V (cdT Ev) mx d 184 39 [some (.ref a), l1, l2, l3, l4, l5, l6] (.ref a :: st) h Q := x_aload (len := 1) rfl rfl
theorem s_184_38_n : wp V (cdT Ev) mx d 184 38 [some .null, l1, l2, l3, l4, l5, l6] st h Q = wp V (cdT Ev) mx d 184 39 [some .null, l1, l2, l3, l4, l5, l6] (.null :: st) h Q := x_aloadN (len := 1) rfl rfl
theorem s_184_39 {a : Nat} : wp V (cdT Ev) mx d 184 39 [some (.ref a), l1, l2, l3, l4, l5, l6] st h Q = wp V (cdT Ev) mx d 184 40 [some (.ref a), l1, l2, l3, l4, l5, l6] (.ref a :: st) h Q := x_aload (len := 1) rfl rfl
theorem s_184_39_n : wp V (cdT Ev) mx d 184 39 [some .null, l1, l2, l3, l4, l5, l6] st h Q = wp V (cdT Ev) mx d 184 40 [some .null, l1, l2, l3, l4, l5, l6] (.null :: st) h Q := x_aloadN (len := 1) rfl rfl
theorem s_184_40 {a : Nat} : wp V (cdT Ev) mx d 184 40 ls (.ref a :: st) h Q = gf [12] 22 h a (fun v => wp V (cdT Ev) mx d 184 43 ls (v :: st) h Q) := x_getf rfl
theorem s_184_43 : wp V (cdT Ev) mx d 184 43 ls st h Q = wp V (cdT Ev) mx d 184 44 ls ((.int (3)) :: st) h Q := x_push (v := (.int (3))) (len := 1) rfl
theorem s_184_44 {x : Int32} : wp V (cdT Ev) mx d 184 44 [l0, l1, l2, l3, l4, some (.int x), l6] st h Q = wp V (cdT Ev) mx d 184 46 [l0, l1, l2, l3, l4, some (.int x), l6] (.int x :: st) h Q := x_iload (len := 2) rfl rfl
theorem s_184_46 {x z : Int32} : wp V (cdT Ev) mx d 184 46 ls (.int z :: .int x :: st) h Q = wp V (cdT Ev) mx d 184 47 ls (.int (x * z) :: st) h Q := x_ib (f := fun x z => x * z) rfl
theorem s_184_47 {x : Int32} : wp V (cdT Ev) mx d 184 47 [l0, l1, l2, some (.int x), l4, l5, l6] st h Q = wp V (cdT Ev) mx d 184 48 [l0, l1, l2, some (.int x), l4, l5, l6] (.int x :: st) h Q := x_iload (len := 1) rfl rfl
theorem s_184_48 {x z : Int32} : wp V (cdT Ev) mx d 184 48 ls (.int z :: .int x :: st) h Q = wp V (cdT Ev) mx d 184 49 ls (.int (x + z) :: st) h Q := x_ib (f := fun x z => x + z) rfl
theorem s_184_49 {i : Int32} {a : Nat} : wp V (cdT Ev) mx d 184 49 ls (.int i :: .ref a :: st) h Q = ai 2 i V h a (fun x => wp V (cdT Ev) mx d 184 50 ls (.int x :: st) h Q) := x_iald rfl
theorem s_184_50 {b : Nat} {v0 : Value} (hst : st.length ≤ 4) : wp V (cdT Ev) mx d 184 50 ls (v0 :: .ref b :: st) h Q = cv [(12, 182)] h b (fun y' => WP V (cdT Ev) mx d y' [.ref b, v0] h (fun r h' => wp V (cdT Ev) mx d 184 53 ls (rts r st) h' Q)) := x_cv (sg := [v0]) rfl hst rfl rfl
theorem s_184_53 {x : Int32} : wp V (cdT Ev) mx d 184 53 ls (.int x :: st) h Q = (if x = 10 then wp V (cdT Ev) mx d 184 144 ls st h Q else (if x = 11 then wp V (cdT Ev) mx d 184 149 ls st h Q else (if x = 12 then wp V (cdT Ev) mx d 184 165 ls st h Q else (if x = 20 then wp V (cdT Ev) mx d 184 176 ls st h Q else (if x = 30 then wp V (cdT Ev) mx d 184 190 ls st h Q else (if x = 40 then wp V (cdT Ev) mx d 184 203 ls st h Q else (if x = 50 then wp V (cdT Ev) mx d 184 222 ls st h Q else (if x = 51 then wp V (cdT Ev) mx d 184 234 ls st h Q else (if x = 60 then wp V (cdT Ev) mx d 184 247 ls st h Q else (if x = 70 then wp V (cdT Ev) mx d 184 260 ls st h Q else wp V (cdT Ev) mx d 184 281 ls st h Q)))))))))) := x_sw (t := 281) (l := [(10, 144), (11, 149), (12, 165), (20, 176), (30, 190), (40, 203), (50, 222), (51, 234), (60, 247), (70, 260)]) rfl
theorem s_184_144 {x : Int32} : wp V (cdT Ev) mx d 184 144 [l0, l1, l2, l3, some (.int x), l5, l6] st h Q = wp V (cdT Ev) mx d 184 146 [l0, l1, l2, l3, some (.int x), l5, l6] (.int x :: st) h Q := x_iload (len := 2) rfl rfl
theorem s_184_146 {x : Int32} : wp V (cdT Ev) mx d 184 146 [l0, l1, some (.int x), l3, l4, l5, l6] st h Q = wp V (cdT Ev) mx d 184 147 [l0, l1, some (.int x), l3, l4, l5, l6] (.int x :: st) h Q := x_iload (len := 1) rfl rfl
theorem s_184_147 {x z : Int32} : wp V (cdT Ev) mx d 184 147 ls (.int z :: .int x :: st) h Q = wp V (cdT Ev) mx d 184 148 ls (.int (x + z) :: st) h Q := x_ib (f := fun x z => x + z) rfl
theorem s_184_148 {x : Int32} : wp V (cdT Ev) mx d 184 148 ls [.int x] h Q = Q (some (.int x)) h := x_ret rfl rfl
theorem s_184_149 {a : Nat} : wp V (cdT Ev) mx d 184 149 [some (.ref a), l1, l2, l3, l4, l5, l6] st h Q = wp V (cdT Ev) mx d 184 150 [some (.ref a), l1, l2, l3, l4, l5, l6] (.ref a :: st) h Q := x_aload (len := 1) rfl rfl
theorem s_184_149_n : wp V (cdT Ev) mx d 184 149 [some .null, l1, l2, l3, l4, l5, l6] st h Q = wp V (cdT Ev) mx d 184 150 [some .null, l1, l2, l3, l4, l5, l6] (.null :: st) h Q := x_aloadN (len := 1) rfl rfl
theorem s_184_150 {x : Int32} : wp V (cdT Ev) mx d 184 150 [l0, l1, some (.int x), l3, l4, l5, l6] st h Q = wp V (cdT Ev) mx d 184 151 [l0, l1, some (.int x), l3, l4, l5, l6] (.int x :: st) h Q := x_iload (len := 1) rfl rfl
theorem s_184_151 : wp V (cdT Ev) mx d 184 151 ls st h Q = wp V (cdT Ev) mx d 184 152 ls ((.int (0)) :: st) h Q := x_push (v := (.int (0))) (len := 1) rfl
theorem s_184_152 {x : Int32} : wp V (cdT Ev) mx d 184 152 [l0, l1, l2, l3, some (.int x), l5, l6] st h Q = wp V (cdT Ev) mx d 184 154 [l0, l1, l2, l3, some (.int x), l5, l6] (.int x :: st) h Q := x_iload (len := 2) rfl rfl
theorem s_184_154 {b : Nat} {v0 v1 v2 : Value} (hst : st.length ≤ 4) : wp V (cdT Ev) mx d 184 154 ls (v2 :: v1 :: v0 :: .ref b :: st) h Q = cv [(12, 183)] h b (fun y' => WP V (cdT Ev) mx d y' [.ref b, v0, v1, v2] h (fun r h' => wp V (cdT Ev) mx d 184 157 ls (rts r st) h' Q)) := x_cv (sg := [v2, v1, v0]) rfl hst rfl rfl
theorem s_184_157 {a : Nat} : wp V (cdT Ev) mx d 184 157 [some (.ref a), l1, l2, l3, l4, l5, l6] st h Q = wp V (cdT Ev) mx d 184 158 [some (.ref a), l1, l2, l3, l4, l5, l6] (.ref a :: st) h Q := x_aload (len := 1) rfl rfl
theorem s_184_157_n : wp V (cdT Ev) mx d 184 157 [some .null, l1, l2, l3, l4, l5, l6] st h Q = wp V (cdT Ev) mx d 184 158 [some .null, l1, l2, l3, l4, l5, l6] (.null :: st) h Q := x_aloadN (len := 1) rfl rfl
theorem s_184_158 {x : Int32} : wp V (cdT Ev) mx d 184 158 [l0, l1, some (.int x), l3, l4, l5, l6] st h Q = wp V (cdT Ev) mx d 184 159 [l0, l1, some (.int x), l3, l4, l5, l6] (.int x :: st) h Q := x_iload (len := 1) rfl rfl
theorem s_184_159 : wp V (cdT Ev) mx d 184 159 ls st h Q = wp V (cdT Ev) mx d 184 160 ls ((.int (1)) :: st) h Q := x_push (v := (.int (1))) (len := 1) rfl
theorem s_184_160 {b : Nat} {v0 v1 : Value} (hst : st.length ≤ 4) : wp V (cdT Ev) mx d 184 160 ls (v1 :: v0 :: .ref b :: st) h Q = cv [(12, 132)] h b (fun y' => WP V (cdT Ev) mx d y' [.ref b, v0, v1] h (fun r h' => wp V (cdT Ev) mx d 184 163 ls (rts r st) h' Q)) := x_cv (sg := [v1, v0]) rfl hst rfl rfl
theorem s_184_163 {x z : Int32} : wp V (cdT Ev) mx d 184 163 ls (.int z :: .int x :: st) h Q = wp V (cdT Ev) mx d 184 164 ls (.int (x - z) :: st) h Q := x_ib (f := fun x z => x - z) rfl
theorem s_184_164 {x : Int32} : wp V (cdT Ev) mx d 184 164 ls [.int x] h Q = Q (some (.int x)) h := x_ret rfl rfl
theorem s_184_165 {a : Nat} : wp V (cdT Ev) mx d 184 165 [some (.ref a), l1, l2, l3, l4, l5, l6] st h Q = wp V (cdT Ev) mx d 184 166 [some (.ref a), l1, l2, l3, l4, l5, l6] (.ref a :: st) h Q := x_aload (len := 1) rfl rfl
theorem s_184_165_n : wp V (cdT Ev) mx d 184 165 [some .null, l1, l2, l3, l4, l5, l6] st h Q = wp V (cdT Ev) mx d 184 166 [some .null, l1, l2, l3, l4, l5, l6] (.null :: st) h Q := x_aloadN (len := 1) rfl rfl
theorem s_184_166 {x : Int32} : wp V (cdT Ev) mx d 184 166 [l0, l1, some (.int x), l3, l4, l5, l6] st h Q = wp V (cdT Ev) mx d 184 167 [l0, l1, some (.int x), l3, l4, l5, l6] (.int x :: st) h Q := x_iload (len := 1) rfl rfl
theorem s_184_167 : wp V (cdT Ev) mx d 184 167 ls st h Q = wp V (cdT Ev) mx d 184 168 ls ((.int (1)) :: st) h Q := x_push (v := (.int (1))) (len := 1) rfl
theorem s_184_168 {x : Int32} : wp V (cdT Ev) mx d 184 168 [l0, l1, l2, l3, some (.int x), l5, l6] st h Q = wp V (cdT Ev) mx d 184 170 [l0, l1, l2, l3, some (.int x), l5, l6] (.int x :: st) h Q := x_iload (len := 2) rfl rfl
theorem s_184_170 {b : Nat} {v0 v1 v2 : Value} (hst : st.length ≤ 4) : wp V (cdT Ev) mx d 184 170 ls (v2 :: v1 :: v0 :: .ref b :: st) h Q = cv [(12, 183)] h b (fun y' => WP V (cdT Ev) mx d y' [.ref b, v0, v1, v2] h (fun r h' => wp V (cdT Ev) mx d 184 173 ls (rts r st) h' Q)) := x_cv (sg := [v2, v1, v0]) rfl hst rfl rfl
theorem s_184_173 : wp V (cdT Ev) mx d 184 173 ls st h Q = wp V (cdT Ev) mx d 184 174 ls ((.int (2)) :: st) h Q := x_push (v := (.int (2))) (len := 1) rfl
theorem s_184_174 {x z : Int32} : wp V (cdT Ev) mx d 184 174 ls (.int z :: .int x :: st) h Q = wp V (cdT Ev) mx d 184 175 ls (.int (x * z) :: st) h Q := x_ib (f := fun x z => x * z) rfl
theorem s_184_175 {x : Int32} : wp V (cdT Ev) mx d 184 175 ls [.int x] h Q = Q (some (.int x)) h := x_ret rfl rfl
theorem s_184_176 {a : Nat} : wp V (cdT Ev) mx d 184 176 [some (.ref a), l1, l2, l3, l4, l5, l6] st h Q = wp V (cdT Ev) mx d 184 177 [some (.ref a), l1, l2, l3, l4, l5, l6] (.ref a :: st) h Q := x_aload (len := 1) rfl rfl
theorem s_184_176_n : wp V (cdT Ev) mx d 184 176 [some .null, l1, l2, l3, l4, l5, l6] st h Q = wp V (cdT Ev) mx d 184 177 [some .null, l1, l2, l3, l4, l5, l6] (.null :: st) h Q := x_aloadN (len := 1) rfl rfl
theorem s_184_177 {x : Int32} : wp V (cdT Ev) mx d 184 177 [l0, l1, l2, l3, l4, l5, some (.int x)] st h Q = wp V (cdT Ev) mx d 184 179 [l0, l1, l2, l3, l4, l5, some (.int x)] (.int x :: st) h Q := x_iload (len := 2) rfl rfl
theorem s_184_179 {x : Int32} : wp V (cdT Ev) mx d 184 179 [l0, l1, some (.int x), l3, l4, l5, l6] st h Q = wp V (cdT Ev) mx d 184 180 [l0, l1, some (.int x), l3, l4, l5, l6] (.int x :: st) h Q := x_iload (len := 1) rfl rfl
theorem s_184_180 : wp V (cdT Ev) mx d 184 180 ls st h Q = wp V (cdT Ev) mx d 184 181 ls ((.int (1)) :: st) h Q := x_push (v := (.int (1))) (len := 1) rfl
theorem s_184_181 {x : Int32} : wp V (cdT Ev) mx d 184 181 [l0, l1, l2, l3, some (.int x), l5, l6] st h Q = wp V (cdT Ev) mx d 184 183 [l0, l1, l2, l3, some (.int x), l5, l6] (.int x :: st) h Q := x_iload (len := 2) rfl rfl
theorem s_184_183 {b : Nat} {v0 v1 v2 v3 : Value} (hst : st.length ≤ 4) : wp V (cdT Ev) mx d 184 183 ls (v3 :: v2 :: v1 :: v0 :: .ref b :: st) h Q = cv [(12, 184)] h b (fun y' => WP V (cdT Ev) mx d y' [.ref b, v0, v1, v2, v3] h (fun r h' => wp V (cdT Ev) mx d 184 186 ls (rts r st) h' Q)) := x_cv (sg := [v3, v2, v1, v0]) rfl hst rfl rfl
theorem s_184_186 : wp V (cdT Ev) mx d 184 186 ls st h Q = wp V (cdT Ev) mx d 184 188 ls ((.int (6)) :: st) h Q := x_push (v := (.int (6))) (len := 2) rfl
theorem s_184_188 {x z : Int32} : wp V (cdT Ev) mx d 184 188 ls (.int z :: .int x :: st) h Q = wp V (cdT Ev) mx d 184 189 ls (.int (x ^^^ z) :: st) h Q := x_ib (f := fun x z => x ^^^ z) rfl
theorem s_184_189 {x : Int32} : wp V (cdT Ev) mx d 184 189 ls [.int x] h Q = Q (some (.int x)) h := x_ret rfl rfl
theorem s_184_190 {a : Nat} : wp V (cdT Ev) mx d 184 190 [some (.ref a), l1, l2, l3, l4, l5, l6] st h Q = wp V (cdT Ev) mx d 184 191 [some (.ref a), l1, l2, l3, l4, l5, l6] (.ref a :: st) h Q := x_aload (len := 1) rfl rfl
theorem s_184_190_n : wp V (cdT Ev) mx d 184 190 [some .null, l1, l2, l3, l4, l5, l6] st h Q = wp V (cdT Ev) mx d 184 191 [some .null, l1, l2, l3, l4, l5, l6] (.null :: st) h Q := x_aloadN (len := 1) rfl rfl
theorem s_184_191 {x : Int32} : wp V (cdT Ev) mx d 184 191 [l0, l1, l2, l3, l4, l5, some (.int x)] st h Q = wp V (cdT Ev) mx d 184 193 [l0, l1, l2, l3, l4, l5, some (.int x)] (.int x :: st) h Q := x_iload (len := 2) rfl rfl
theorem s_184_193 {x : Int32} : wp V (cdT Ev) mx d 184 193 [l0, l1, some (.int x), l3, l4, l5, l6] st h Q = wp V (cdT Ev) mx d 184 194 [l0, l1, some (.int x), l3, l4, l5, l6] (.int x :: st) h Q := x_iload (len := 1) rfl rfl
theorem s_184_194 : wp V (cdT Ev) mx d 184 194 ls st h Q = wp V (cdT Ev) mx d 184 195 ls ((.int (0)) :: st) h Q := x_push (v := (.int (0))) (len := 1) rfl
theorem s_184_195 {x : Int32} : wp V (cdT Ev) mx d 184 195 [l0, l1, l2, l3, some (.int x), l5, l6] st h Q = wp V (cdT Ev) mx d 184 197 [l0, l1, l2, l3, some (.int x), l5, l6] (.int x :: st) h Q := x_iload (len := 2) rfl rfl
theorem s_184_197 : wp V (cdT Ev) mx d 184 197 ls st h Q = wp V (cdT Ev) mx d 184 198 ls ((.int (3)) :: st) h Q := x_push (v := (.int (3))) (len := 1) rfl
theorem s_184_198 {x z : Int32} : wp V (cdT Ev) mx d 184 198 ls (.int z :: .int x :: st) h Q = wp V (cdT Ev) mx d 184 199 ls (.int (x * z) :: st) h Q := x_ib (f := fun x z => x * z) rfl
theorem s_184_199 {b : Nat} {v0 v1 v2 v3 : Value} (hst : st.length ≤ 4) : wp V (cdT Ev) mx d 184 199 ls (v3 :: v2 :: v1 :: v0 :: .ref b :: st) h Q = cv [(12, 184)] h b (fun y' => WP V (cdT Ev) mx d y' [.ref b, v0, v1, v2, v3] h (fun r h' => wp V (cdT Ev) mx d 184 202 ls (rts r st) h' Q)) := x_cv (sg := [v3, v2, v1, v0]) rfl hst rfl rfl
theorem s_184_202 {x : Int32} : wp V (cdT Ev) mx d 184 202 ls [.int x] h Q = Q (some (.int x)) h := x_ret rfl rfl
theorem s_184_203 {a : Nat} : wp V (cdT Ev) mx d 184 203 [some (.ref a), l1, l2, l3, l4, l5, l6] st h Q = wp V (cdT Ev) mx d 184 204 [some (.ref a), l1, l2, l3, l4, l5, l6] (.ref a :: st) h Q := x_aload (len := 1) rfl rfl
theorem s_184_203_n : wp V (cdT Ev) mx d 184 203 [some .null, l1, l2, l3, l4, l5, l6] st h Q = wp V (cdT Ev) mx d 184 204 [some .null, l1, l2, l3, l4, l5, l6] (.null :: st) h Q := x_aloadN (len := 1) rfl rfl
theorem s_184_204 {x : Int32} : wp V (cdT Ev) mx d 184 204 [l0, l1, l2, l3, l4, l5, some (.int x)] st h Q = wp V (cdT Ev) mx d 184 206 [l0, l1, l2, l3, l4, l5, some (.int x)] (.int x :: st) h Q := x_iload (len := 2) rfl rfl
theorem s_184_206 {x : Int32} : wp V (cdT Ev) mx d 184 206 [l0, l1, some (.int x), l3, l4, l5, l6] st h Q = wp V (cdT Ev) mx d 184 207 [l0, l1, some (.int x), l3, l4, l5, l6] (.int x :: st) h Q := x_iload (len := 1) rfl rfl
theorem s_184_207 : wp V (cdT Ev) mx d 184 207 ls st h Q = wp V (cdT Ev) mx d 184 208 ls ((.int (2)) :: st) h Q := x_push (v := (.int (2))) (len := 1) rfl
theorem s_184_208 {x : Int32} : wp V (cdT Ev) mx d 184 208 [l0, l1, l2, l3, some (.int x), l5, l6] st h Q = wp V (cdT Ev) mx d 184 210 [l0, l1, l2, l3, some (.int x), l5, l6] (.int x :: st) h Q := x_iload (len := 2) rfl rfl
theorem s_184_210 {b : Nat} {v0 v1 v2 v3 : Value} (hst : st.length ≤ 4) : wp V (cdT Ev) mx d 184 210 ls (v3 :: v2 :: v1 :: v0 :: .ref b :: st) h Q = cv [(12, 184)] h b (fun y' => WP V (cdT Ev) mx d y' [.ref b, v0, v1, v2, v3] h (fun r h' => wp V (cdT Ev) mx d 184 213 ls (rts r st) h' Q)) := x_cv (sg := [v3, v2, v1, v0]) rfl hst rfl rfl
theorem s_184_213 {a : Nat} : wp V (cdT Ev) mx d 184 213 [some (.ref a), l1, l2, l3, l4, l5, l6] st h Q = wp V (cdT Ev) mx d 184 214 [some (.ref a), l1, l2, l3, l4, l5, l6] (.ref a :: st) h Q := x_aload (len := 1) rfl rfl
theorem s_184_213_n : wp V (cdT Ev) mx d 184 213 [some .null, l1, l2, l3, l4, l5, l6] st h Q = wp V (cdT Ev) mx d 184 214 [some .null, l1, l2, l3, l4, l5, l6] (.null :: st) h Q := x_aloadN (len := 1) rfl rfl
theorem s_184_214 {x : Int32} : wp V (cdT Ev) mx d 184 214 [l0, l1, some (.int x), l3, l4, l5, l6] st h Q = wp V (cdT Ev) mx d 184 215 [l0, l1, some (.int x), l3, l4, l5, l6] (.int x :: st) h Q := x_iload (len := 1) rfl rfl
theorem s_184_215 : wp V (cdT Ev) mx d 184 215 ls st h Q = wp V (cdT Ev) mx d 184 216 ls ((.int (1)) :: st) h Q := x_push (v := (.int (1))) (len := 1) rfl
theorem s_184_216 : wp V (cdT Ev) mx d 184 216 ls st h Q = wp V (cdT Ev) mx d 184 217 ls ((.int (1)) :: st) h Q := x_push (v := (.int (1))) (len := 1) rfl
theorem s_184_217 {b : Nat} {v0 v1 v2 : Value} (hst : st.length ≤ 4) : wp V (cdT Ev) mx d 184 217 ls (v2 :: v1 :: v0 :: .ref b :: st) h Q = cv [(12, 183)] h b (fun y' => WP V (cdT Ev) mx d y' [.ref b, v0, v1, v2] h (fun r h' => wp V (cdT Ev) mx d 184 220 ls (rts r st) h' Q)) := x_cv (sg := [v2, v1, v0]) rfl hst rfl rfl
theorem s_184_220 {x z : Int32} : wp V (cdT Ev) mx d 184 220 ls (.int z :: .int x :: st) h Q = wp V (cdT Ev) mx d 184 221 ls (.int (x + z) :: st) h Q := x_ib (f := fun x z => x + z) rfl
theorem s_184_221 {x : Int32} : wp V (cdT Ev) mx d 184 221 ls [.int x] h Q = Q (some (.int x)) h := x_ret rfl rfl
theorem s_184_222 {a : Nat} : wp V (cdT Ev) mx d 184 222 [some (.ref a), l1, l2, l3, l4, l5, l6] st h Q = wp V (cdT Ev) mx d 184 223 [some (.ref a), l1, l2, l3, l4, l5, l6] (.ref a :: st) h Q := x_aload (len := 1) rfl rfl
theorem s_184_222_n : wp V (cdT Ev) mx d 184 222 [some .null, l1, l2, l3, l4, l5, l6] st h Q = wp V (cdT Ev) mx d 184 223 [some .null, l1, l2, l3, l4, l5, l6] (.null :: st) h Q := x_aloadN (len := 1) rfl rfl
theorem s_184_223 {x : Int32} : wp V (cdT Ev) mx d 184 223 [l0, l1, l2, l3, l4, l5, some (.int x)] st h Q = wp V (cdT Ev) mx d 184 225 [l0, l1, l2, l3, l4, l5, some (.int x)] (.int x :: st) h Q := x_iload (len := 2) rfl rfl
theorem s_184_225 {x : Int32} : wp V (cdT Ev) mx d 184 225 [l0, l1, some (.int x), l3, l4, l5, l6] st h Q = wp V (cdT Ev) mx d 184 226 [l0, l1, some (.int x), l3, l4, l5, l6] (.int x :: st) h Q := x_iload (len := 1) rfl rfl
theorem s_184_226 : wp V (cdT Ev) mx d 184 226 ls st h Q = wp V (cdT Ev) mx d 184 227 ls ((.int (0)) :: st) h Q := x_push (v := (.int (0))) (len := 1) rfl
theorem s_184_227 {x : Int32} : wp V (cdT Ev) mx d 184 227 [l0, l1, l2, l3, some (.int x), l5, l6] st h Q = wp V (cdT Ev) mx d 184 229 [l0, l1, l2, l3, some (.int x), l5, l6] (.int x :: st) h Q := x_iload (len := 2) rfl rfl
theorem s_184_229 {b : Nat} {v0 v1 v2 v3 : Value} (hst : st.length ≤ 4) : wp V (cdT Ev) mx d 184 229 ls (v3 :: v2 :: v1 :: v0 :: .ref b :: st) h Q = cv [(12, 184)] h b (fun y' => WP V (cdT Ev) mx d y' [.ref b, v0, v1, v2, v3] h (fun r h' => wp V (cdT Ev) mx d 184 232 ls (rts r st) h' Q)) := x_cv (sg := [v3, v2, v1, v0]) rfl hst rfl rfl
theorem s_184_232 {x : Int32} : wp V (cdT Ev) mx d 184 232 ls (.int x :: st) h Q = wp V (cdT Ev) mx d 184 233 ls (.int (-x) :: st) h Q := x_iu (f := fun x => -x) rfl
theorem s_184_233 {x : Int32} : wp V (cdT Ev) mx d 184 233 ls [.int x] h Q = Q (some (.int x)) h := x_ret rfl rfl
theorem s_184_234 {a : Nat} : wp V (cdT Ev) mx d 184 234 [some (.ref a), l1, l2, l3, l4, l5, l6] st h Q = wp V (cdT Ev) mx d 184 235 [some (.ref a), l1, l2, l3, l4, l5, l6] (.ref a :: st) h Q := x_aload (len := 1) rfl rfl
theorem s_184_234_n : wp V (cdT Ev) mx d 184 234 [some .null, l1, l2, l3, l4, l5, l6] st h Q = wp V (cdT Ev) mx d 184 235 [some .null, l1, l2, l3, l4, l5, l6] (.null :: st) h Q := x_aloadN (len := 1) rfl rfl
theorem s_184_235 {x : Int32} : wp V (cdT Ev) mx d 184 235 [l0, l1, l2, l3, l4, l5, some (.int x)] st h Q = wp V (cdT Ev) mx d 184 237 [l0, l1, l2, l3, l4, l5, some (.int x)] (.int x :: st) h Q := x_iload (len := 2) rfl rfl
theorem s_184_237 {x : Int32} : wp V (cdT Ev) mx d 184 237 [l0, l1, some (.int x), l3, l4, l5, l6] st h Q = wp V (cdT Ev) mx d 184 238 [l0, l1, some (.int x), l3, l4, l5, l6] (.int x :: st) h Q := x_iload (len := 1) rfl rfl
theorem s_184_238 : wp V (cdT Ev) mx d 184 238 ls st h Q = wp V (cdT Ev) mx d 184 239 ls ((.int (1)) :: st) h Q := x_push (v := (.int (1))) (len := 1) rfl
theorem s_184_239 {x : Int32} : wp V (cdT Ev) mx d 184 239 [l0, l1, l2, l3, some (.int x), l5, l6] st h Q = wp V (cdT Ev) mx d 184 241 [l0, l1, l2, l3, some (.int x), l5, l6] (.int x :: st) h Q := x_iload (len := 2) rfl rfl
theorem s_184_241 : wp V (cdT Ev) mx d 184 241 ls st h Q = wp V (cdT Ev) mx d 184 242 ls ((.int (1)) :: st) h Q := x_push (v := (.int (1))) (len := 1) rfl
theorem s_184_242 {x z : Int32} : wp V (cdT Ev) mx d 184 242 ls (.int z :: .int x :: st) h Q = wp V (cdT Ev) mx d 184 243 ls (.int (x + z) :: st) h Q := x_ib (f := fun x z => x + z) rfl
theorem s_184_243 {b : Nat} {v0 v1 v2 v3 : Value} (hst : st.length ≤ 4) : wp V (cdT Ev) mx d 184 243 ls (v3 :: v2 :: v1 :: v0 :: .ref b :: st) h Q = cv [(12, 184)] h b (fun y' => WP V (cdT Ev) mx d y' [.ref b, v0, v1, v2, v3] h (fun r h' => wp V (cdT Ev) mx d 184 246 ls (rts r st) h' Q)) := x_cv (sg := [v3, v2, v1, v0]) rfl hst rfl rfl
theorem s_184_246 {x : Int32} : wp V (cdT Ev) mx d 184 246 ls [.int x] h Q = Q (some (.int x)) h := x_ret rfl rfl
theorem s_184_247 {a : Nat} : wp V (cdT Ev) mx d 184 247 [some (.ref a), l1, l2, l3, l4, l5, l6] st h Q = wp V (cdT Ev) mx d 184 248 [some (.ref a), l1, l2, l3, l4, l5, l6] (.ref a :: st) h Q := x_aload (len := 1) rfl rfl
theorem s_184_247_n : wp V (cdT Ev) mx d 184 247 [some .null, l1, l2, l3, l4, l5, l6] st h Q = wp V (cdT Ev) mx d 184 248 [some .null, l1, l2, l3, l4, l5, l6] (.null :: st) h Q := x_aloadN (len := 1) rfl rfl
theorem s_184_248 {x : Int32} : wp V (cdT Ev) mx d 184 248 [l0, l1, l2, l3, l4, l5, some (.int x)] st h Q = wp V (cdT Ev) mx d 184 250 [l0, l1, l2, l3, l4, l5, some (.int x)] (.int x :: st) h Q := x_iload (len := 2) rfl rfl
theorem s_184_250 {x : Int32} : wp V (cdT Ev) mx d 184 250 [l0, l1, some (.int x), l3, l4, l5, l6] st h Q = wp V (cdT Ev) mx d 184 251 [l0, l1, some (.int x), l3, l4, l5, l6] (.int x :: st) h Q := x_iload (len := 1) rfl rfl
theorem s_184_251 : wp V (cdT Ev) mx d 184 251 ls st h Q = wp V (cdT Ev) mx d 184 252 ls ((.int (2)) :: st) h Q := x_push (v := (.int (2))) (len := 1) rfl
theorem s_184_252 {x : Int32} : wp V (cdT Ev) mx d 184 252 [l0, l1, l2, l3, some (.int x), l5, l6] st h Q = wp V (cdT Ev) mx d 184 254 [l0, l1, l2, l3, some (.int x), l5, l6] (.int x :: st) h Q := x_iload (len := 2) rfl rfl
theorem s_184_254 {x : Int32} : wp V (cdT Ev) mx d 184 254 [l0, l1, some (.int x), l3, l4, l5, l6] st h Q = wp V (cdT Ev) mx d 184 255 [l0, l1, some (.int x), l3, l4, l5, l6] (.int x :: st) h Q := x_iload (len := 1) rfl rfl
theorem s_184_255 {x z : Int32} : wp V (cdT Ev) mx d 184 255 ls (.int z :: .int x :: st) h Q = wp V (cdT Ev) mx d 184 256 ls (.int (x - z) :: st) h Q := x_ib (f := fun x z => x - z) rfl
theorem s_184_256 {b : Nat} {v0 v1 v2 v3 : Value} (hst : st.length ≤ 4) : wp V (cdT Ev) mx d 184 256 ls (v3 :: v2 :: v1 :: v0 :: .ref b :: st) h Q = cv [(12, 184)] h b (fun y' => WP V (cdT Ev) mx d y' [.ref b, v0, v1, v2, v3] h (fun r h' => wp V (cdT Ev) mx d 184 259 ls (rts r st) h' Q)) := x_cv (sg := [v3, v2, v1, v0]) rfl hst rfl rfl
theorem s_184_259 {x : Int32} : wp V (cdT Ev) mx d 184 259 ls [.int x] h Q = Q (some (.int x)) h := x_ret rfl rfl
theorem s_184_260 {a : Nat} : wp V (cdT Ev) mx d 184 260 [some (.ref a), l1, l2, l3, l4, l5, l6] st h Q = wp V (cdT Ev) mx d 184 261 [some (.ref a), l1, l2, l3, l4, l5, l6] (.ref a :: st) h Q := x_aload (len := 1) rfl rfl
theorem s_184_260_n : wp V (cdT Ev) mx d 184 260 [some .null, l1, l2, l3, l4, l5, l6] st h Q = wp V (cdT Ev) mx d 184 261 [some .null, l1, l2, l3, l4, l5, l6] (.null :: st) h Q := x_aloadN (len := 1) rfl rfl
theorem s_184_261 {x : Int32} : wp V (cdT Ev) mx d 184 261 [l0, l1, l2, l3, l4, l5, some (.int x)] st h Q = wp V (cdT Ev) mx d 184 263 [l0, l1, l2, l3, l4, l5, some (.int x)] (.int x :: st) h Q := x_iload (len := 2) rfl rfl
theorem s_184_263 {x : Int32} : wp V (cdT Ev) mx d 184 263 [l0, l1, some (.int x), l3, l4, l5, l6] st h Q = wp V (cdT Ev) mx d 184 264 [l0, l1, some (.int x), l3, l4, l5, l6] (.int x :: st) h Q := x_iload (len := 1) rfl rfl
theorem s_184_264 : wp V (cdT Ev) mx d 184 264 ls st h Q = wp V (cdT Ev) mx d 184 265 ls ((.int (1)) :: st) h Q := x_push (v := (.int (1))) (len := 1) rfl
theorem s_184_265 {x : Int32} : wp V (cdT Ev) mx d 184 265 [l0, l1, l2, l3, some (.int x), l5, l6] st h Q = wp V (cdT Ev) mx d 184 267 [l0, l1, l2, l3, some (.int x), l5, l6] (.int x :: st) h Q := x_iload (len := 2) rfl rfl
theorem s_184_267 {b : Nat} {v0 v1 v2 v3 : Value} (hst : st.length ≤ 4) : wp V (cdT Ev) mx d 184 267 ls (v3 :: v2 :: v1 :: v0 :: .ref b :: st) h Q = cv [(12, 184)] h b (fun y' => WP V (cdT Ev) mx d y' [.ref b, v0, v1, v2, v3] h (fun r h' => wp V (cdT Ev) mx d 184 270 ls (rts r st) h' Q)) := x_cv (sg := [v3, v2, v1, v0]) rfl hst rfl rfl
theorem s_184_270 {a : Nat} : wp V (cdT Ev) mx d 184 270 [some (.ref a), l1, l2, l3, l4, l5, l6] st h Q = wp V (cdT Ev) mx d 184 271 [some (.ref a), l1, l2, l3, l4, l5, l6] (.ref a :: st) h Q := x_aload (len := 1) rfl rfl
theorem s_184_270_n : wp V (cdT Ev) mx d 184 270 [some .null, l1, l2, l3, l4, l5, l6] st h Q = wp V (cdT Ev) mx d 184 271 [some .null, l1, l2, l3, l4, l5, l6] (.null :: st) h Q := x_aloadN (len := 1) rfl rfl
theorem s_184_271 {x : Int32} : wp V (cdT Ev) mx d 184 271 [l0, l1, l2, l3, l4, l5, some (.int x)] st h Q = wp V (cdT Ev) mx d 184 273 [l0, l1, l2, l3, l4, l5, some (.int x)] (.int x :: st) h Q := x_iload (len := 2) rfl rfl
theorem s_184_273 {x : Int32} : wp V (cdT Ev) mx d 184 273 [l0, l1, some (.int x), l3, l4, l5, l6] st h Q = wp V (cdT Ev) mx d 184 274 [l0, l1, some (.int x), l3, l4, l5, l6] (.int x :: st) h Q := x_iload (len := 1) rfl rfl
theorem s_184_274 : wp V (cdT Ev) mx d 184 274 ls st h Q = wp V (cdT Ev) mx d 184 275 ls ((.int (0)) :: st) h Q := x_push (v := (.int (0))) (len := 1) rfl
theorem s_184_275 : wp V (cdT Ev) mx d 184 275 ls st h Q = wp V (cdT Ev) mx d 184 276 ls ((.int (2)) :: st) h Q := x_push (v := (.int (2))) (len := 1) rfl
theorem s_184_276 {b : Nat} {v0 v1 v2 v3 : Value} (hst : st.length ≤ 4) : wp V (cdT Ev) mx d 184 276 ls (v3 :: v2 :: v1 :: v0 :: .ref b :: st) h Q = cv [(12, 184)] h b (fun y' => WP V (cdT Ev) mx d y' [.ref b, v0, v1, v2, v3] h (fun r h' => wp V (cdT Ev) mx d 184 279 ls (rts r st) h' Q)) := x_cv (sg := [v3, v2, v1, v0]) rfl hst rfl rfl
theorem s_184_279 {x z : Int32} : wp V (cdT Ev) mx d 184 279 ls (.int z :: .int x :: st) h Q = wp V (cdT Ev) mx d 184 280 ls (.int (x + z) :: st) h Q := x_ib (f := fun x z => x + z) rfl
theorem s_184_280 {x : Int32} : wp V (cdT Ev) mx d 184 280 ls [.int x] h Q = Q (some (.int x)) h := x_ret rfl rfl
theorem s_184_281 {a : Nat} : wp V (cdT Ev) mx d 184 281 [some (.ref a), l1, l2, l3, l4, l5, l6] st h Q = wp V (cdT Ev) mx d 184 282 [some (.ref a), l1, l2, l3, l4, l5, l6] (.ref a :: st) h Q := x_aload (len := 1) rfl rfl
theorem s_184_281_n : wp V (cdT Ev) mx d 184 281 [some .null, l1, l2, l3, l4, l5, l6] st h Q = wp V (cdT Ev) mx d 184 282 [some .null, l1, l2, l3, l4, l5, l6] (.null :: st) h Q := x_aloadN (len := 1) rfl rfl
theorem s_184_282 {x : Int32} : wp V (cdT Ev) mx d 184 282 [l0, l1, l2, l3, l4, l5, some (.int x)] st h Q = wp V (cdT Ev) mx d 184 284 [l0, l1, l2, l3, l4, l5, some (.int x)] (.int x :: st) h Q := x_iload (len := 2) rfl rfl
theorem s_184_284 {x : Int32} : wp V (cdT Ev) mx d 184 284 [l0, l1, some (.int x), l3, l4, l5, l6] st h Q = wp V (cdT Ev) mx d 184 285 [l0, l1, some (.int x), l3, l4, l5, l6] (.int x :: st) h Q := x_iload (len := 1) rfl rfl
theorem s_184_285 : wp V (cdT Ev) mx d 184 285 ls st h Q = wp V (cdT Ev) mx d 184 286 ls ((.int (0)) :: st) h Q := x_push (v := (.int (0))) (len := 1) rfl
theorem s_184_286 {x : Int32} : wp V (cdT Ev) mx d 184 286 [l0, l1, l2, l3, some (.int x), l5, l6] st h Q = wp V (cdT Ev) mx d 184 288 [l0, l1, l2, l3, some (.int x), l5, l6] (.int x :: st) h Q := x_iload (len := 2) rfl rfl
theorem s_184_288 {b : Nat} {v0 v1 v2 v3 : Value} (hst : st.length ≤ 4) : wp V (cdT Ev) mx d 184 288 ls (v3 :: v2 :: v1 :: v0 :: .ref b :: st) h Q = cv [(12, 184)] h b (fun y' => WP V (cdT Ev) mx d y' [.ref b, v0, v1, v2, v3] h (fun r h' => wp V (cdT Ev) mx d 184 291 ls (rts r st) h' Q)) := x_cv (sg := [v3, v2, v1, v0]) rfl hst rfl rfl
theorem s_184_291 {a : Nat} : wp V (cdT Ev) mx d 184 291 [some (.ref a), l1, l2, l3, l4, l5, l6] st h Q = wp V (cdT Ev) mx d 184 292 [some (.ref a), l1, l2, l3, l4, l5, l6] (.ref a :: st) h Q := x_aload (len := 1) rfl rfl
theorem s_184_291_n : wp V (cdT Ev) mx d 184 291 [some .null, l1, l2, l3, l4, l5, l6] st h Q = wp V (cdT Ev) mx d 184 292 [some .null, l1, l2, l3, l4, l5, l6] (.null :: st) h Q := x_aloadN (len := 1) rfl rfl
theorem s_184_292 {x : Int32} : wp V (cdT Ev) mx d 184 292 [l0, l1, some (.int x), l3, l4, l5, l6] st h Q = wp V (cdT Ev) mx d 184 293 [l0, l1, some (.int x), l3, l4, l5, l6] (.int x :: st) h Q := x_iload (len := 1) rfl rfl
theorem s_184_293 : wp V (cdT Ev) mx d 184 293 ls st h Q = wp V (cdT Ev) mx d 184 294 ls ((.int (1)) :: st) h Q := x_push (v := (.int (1))) (len := 1) rfl
theorem s_184_294 {b : Nat} {v0 v1 : Value} (hst : st.length ≤ 4) : wp V (cdT Ev) mx d 184 294 ls (v1 :: v0 :: .ref b :: st) h Q = cv [(12, 132)] h b (fun y' => WP V (cdT Ev) mx d y' [.ref b, v0, v1] h (fun r h' => wp V (cdT Ev) mx d 184 297 ls (rts r st) h' Q)) := x_cv (sg := [v1, v0]) rfl hst rfl rfl
theorem s_184_297 {x z : Int32} : wp V (cdT Ev) mx d 184 297 ls (.int z :: .int x :: st) h Q = wp V (cdT Ev) mx d 184 298 ls (.int (x ^^^ z) :: st) h Q := x_ib (f := fun x z => x ^^^ z) rfl
theorem s_184_298 {x : Int32} : wp V (cdT Ev) mx d 184 298 ls [.int x] h Q = Q (some (.int x)) h := x_ret rfl rfl
theorem e_184 {a : Nat} {p0 : Int32} {p1 : Int32} {p2 : Int32} {p3 : Int32} : WP V (cdT Ev) mx (d + 1) 184 [.ref a, .int p0, .int p1, .int p2, .int p3] h Q = wp V (cdT Ev) mx d 184 0 [some (.ref a), some (.int p0), some (.int p1), some (.int p2), some (.int p3), none, none] [] h Q := propext (WP_eq (Nat.le_of_ble_eq_true rfl))
theorem s_185_0 {a : Nat} : wp V (cdT Ev) mx d 185 0 [some (.ref a), l1, l2, l3] st h Q = wp V (cdT Ev) mx d 185 1 [some (.ref a), l1, l2, l3] (.ref a :: st) h Q := x_aload (len := 1) rfl rfl
theorem s_185_0_n : wp V (cdT Ev) mx d 185 0 [some .null, l1, l2, l3] st h Q = wp V (cdT Ev) mx d 185 1 [some .null, l1, l2, l3] (.null :: st) h Q := x_aloadN (len := 1) rfl rfl
theorem s_185_1 : wp V (cdT Ev) mx d 185 1 ls st h Q = wp V (cdT Ev) mx d 185 2 ls ((.int (0)) :: st) h Q := x_push (v := (.int (0))) (len := 1) rfl
theorem s_185_2 {w : Value} {a : Nat} : wp V (cdT Ev) mx d 185 2 ls (w :: .ref a :: st) h Q = pf [12] 24 0 w h a (fun hh => wp V (cdT Ev) mx d 185 5 ls st hh Q) := x_putf rfl
theorem s_185_5 {a : Nat} : wp V (cdT Ev) mx d 185 5 [some (.ref a), l1, l2, l3] st h Q = wp V (cdT Ev) mx d 185 6 [some (.ref a), l1, l2, l3] (.ref a :: st) h Q := x_aload (len := 1) rfl rfl
theorem s_185_5_n : wp V (cdT Ev) mx d 185 5 [some .null, l1, l2, l3] st h Q = wp V (cdT Ev) mx d 185 6 [some .null, l1, l2, l3] (.null :: st) h Q := x_aloadN (len := 1) rfl rfl
theorem s_185_6 {x : Int32} : wp V (cdT Ev) mx d 185 6 [l0, some (.int x), l2, l3] st h Q = wp V (cdT Ev) mx d 185 7 [l0, some (.int x), l2, l3] (.int x :: st) h Q := x_iload (len := 1) rfl rfl
theorem s_185_7 {b : Nat} {v0 : Value} (hst : st.length ≤ 4) : wp V (cdT Ev) mx d 185 7 ls (v0 :: .ref b :: st) h Q = cv [(12, 128)] h b (fun y' => WP V (cdT Ev) mx d y' [.ref b, v0] h (fun r h' => wp V (cdT Ev) mx d 185 10 ls (rts r st) h' Q)) := x_cv (sg := [v0]) rfl hst rfl rfl
theorem s_185_10 {x : Int32} : wp V (cdT Ev) mx d 185 10 ls (.int x :: st) h Q = (if x = 0 then wp V (cdT Ev) mx d 185 32 ls st h Q else wp V (cdT Ev) mx d 185 13 ls st h Q) := x_if1 (c := fun x => x = 0) rfl
theorem s_185_13 {x : Int32} : wp V (cdT Ev) mx d 185 13 [l0, l1, some (.int x), l3] st h Q = wp V (cdT Ev) mx d 185 14 [l0, l1, some (.int x), l3] (.int x :: st) h Q := x_iload (len := 1) rfl rfl
theorem s_185_14 : wp V (cdT Ev) mx d 185 14 ls st h Q = wp V (cdT Ev) mx d 185 15 ls ((.int (0)) :: st) h Q := x_push (v := (.int (0))) (len := 1) rfl
theorem s_185_15 : wp V (cdT Ev) mx d 185 15 ls st h Q = wp V (cdT Ev) mx d 185 16 ls ((.int (2)) :: st) h Q := x_push (v := (.int (2))) (len := 1) rfl
theorem s_185_16 {v0 v1 v2 : Value} (hst : st.length ≤ 4) : wp V (cdT Ev) mx d 185 16 ls (v2 :: v1 :: v0 :: st) h Q = WP V (cdT Ev) mx d 123 [v0, v1, v2] h (fun r h' => wp V (cdT Ev) mx d 185 19 ls (rts r st) h' Q) := x_cs (sg := [v2, v1, v0]) rfl hst rfl rfl
theorem s_185_19 {x : Int32} : wp V (cdT Ev) mx d 185 19 ls (.int x :: st) h Q = (if x = 0 then wp V (cdT Ev) mx d 185 32 ls st h Q else wp V (cdT Ev) mx d 185 22 ls st h Q) := x_if1 (c := fun x => x = 0) rfl
theorem s_185_22 {a : Nat} : wp V (cdT Ev) mx d 185 22 [some (.ref a), l1, l2, l3] st h Q = wp V (cdT Ev) mx d 185 23 [some (.ref a), l1, l2, l3] (.ref a :: st) h Q := x_aload (len := 1) rfl rfl
theorem s_185_22_n : wp V (cdT Ev) mx d 185 22 [some .null, l1, l2, l3] st h Q = wp V (cdT Ev) mx d 185 23 [some .null, l1, l2, l3] (.null :: st) h Q := x_aloadN (len := 1) rfl rfl
theorem s_185_23 {x : Int32} : wp V (cdT Ev) mx d 185 23 [l0, some (.int x), l2, l3] st h Q = wp V (cdT Ev) mx d 185 24 [l0, some (.int x), l2, l3] (.int x :: st) h Q := x_iload (len := 1) rfl rfl
theorem s_185_24 {x : Int32} : wp V (cdT Ev) mx d 185 24 [l0, l1, some (.int x), l3] st h Q = wp V (cdT Ev) mx d 185 25 [l0, l1, some (.int x), l3] (.int x :: st) h Q := x_iload (len := 1) rfl rfl
theorem s_185_25 {x : Int32} : wp V (cdT Ev) mx d 185 25 [l0, l1, l2, some (.int x)] st h Q = wp V (cdT Ev) mx d 185 26 [l0, l1, l2, some (.int x)] (.int x :: st) h Q := x_iload (len := 1) rfl rfl
theorem s_185_26 {b : Nat} {v0 v1 v2 : Value} (hst : st.length ≤ 4) : wp V (cdT Ev) mx d 185 26 ls (v2 :: v1 :: v0 :: .ref b :: st) h Q = cv [(12, 183)] h b (fun y' => WP V (cdT Ev) mx d y' [.ref b, v0, v1, v2] h (fun r h' => wp V (cdT Ev) mx d 185 29 ls (rts r st) h' Q)) := x_cv (sg := [v2, v1, v0]) rfl hst rfl rfl
theorem s_185_29 : wp V (cdT Ev) mx d 185 29 ls st h Q = wp V (cdT Ev) mx d 185 33 ls st h Q := x_goto rfl
theorem s_185_32 : wp V (cdT Ev) mx d 185 32 ls st h Q = wp V (cdT Ev) mx d 185 33 ls ((.int (0)) :: st) h Q := x_push (v := (.int (0))) (len := 1) rfl
theorem s_185_33 {x : Int32} : wp V (cdT Ev) mx d 185 33 ls [.int x] h Q = Q (some (.int x)) h := x_ret rfl rfl
theorem e_185 {a : Nat} {p0 : Int32} {p1 : Int32} {p2 : Int32} : WP V (cdT Ev) mx (d + 1) 185 [.ref a, .int p0, .int p1, .int p2] h Q = wp V (cdT Ev) mx d 185 0 [some (.ref a), some (.int p0), some (.int p1), some (.int p2)] [] h Q := propext (WP_eq (Nat.le_of_ble_eq_true rfl))
theorem s_186_0 {x : Int32} : wp V (cdT Ev) mx d 186 0 [l0, some (.int x)] st h Q = wp V (cdT Ev) mx d 186 1 [l0, some (.int x)] (.int x :: st) h Q := x_iload (len := 1) rfl rfl
theorem s_186_1 : wp V (cdT Ev) mx d 186 1 ls st h Q = wp V (cdT Ev) mx d 186 2 ls ((.int (0)) :: st) h Q := x_push (v := (.int (0))) (len := 1) rfl
theorem s_186_2 : wp V (cdT Ev) mx d 186 2 ls st h Q = wp V (cdT Ev) mx d 186 4 ls ((.int (20)) :: st) h Q := x_push (v := (.int (20))) (len := 2) rfl
theorem s_186_4 {a : Nat} : wp V (cdT Ev) mx d 186 4 [some (.ref a), l1] st h Q = wp V (cdT Ev) mx d 186 5 [some (.ref a), l1] (.ref a :: st) h Q := x_aload (len := 1) rfl rfl
theorem s_186_4_n : wp V (cdT Ev) mx d 186 4 [some .null, l1] st h Q = wp V (cdT Ev) mx d 186 5 [some .null, l1] (.null :: st) h Q := x_aloadN (len := 1) rfl rfl
theorem s_186_5 {a : Nat} : wp V (cdT Ev) mx d 186 5 ls (.ref a :: st) h Q = gf [12] 24 h a (fun v => wp V (cdT Ev) mx d 186 8 ls (v :: st) h Q) := x_getf rfl
theorem s_186_8 {v0 v1 : Value} (hst : st.length ≤ 4) : wp V (cdT Ev) mx d 186 8 ls (v1 :: v0 :: st) h Q = WP V (cdT Ev) mx d 197 [v0, v1] h (fun r h' => wp V (cdT Ev) mx d 186 11 ls (rts r st) h' Q) := x_cs (sg := [v1, v0]) rfl hst rfl rfl
theorem s_186_11 : wp V (cdT Ev) mx d 186 11 ls st h Q = wp V (cdT Ev) mx d 186 12 ls ((.int (1)) :: st) h Q := x_push (v := (.int (1))) (len := 1) rfl
theorem s_186_12 {x z : Int32} : wp V (cdT Ev) mx d 186 12 ls (.int z :: .int x :: st) h Q = wp V (cdT Ev) mx d 186 13 ls (.int (x - z) :: st) h Q := x_ib (f := fun x z => x - z) rfl
theorem s_186_13 {v0 v1 v2 : Value} (hst : st.length ≤ 4) : wp V (cdT Ev) mx d 186 13 ls (v2 :: v1 :: v0 :: st) h Q = WP V (cdT Ev) mx d 123 [v0, v1, v2] h (fun r h' => wp V (cdT Ev) mx d 186 16 ls (rts r st) h' Q) := x_cs (sg := [v2, v1, v0]) rfl hst rfl rfl
theorem s_186_16 {x : Int32} : wp V (cdT Ev) mx d 186 16 ls (.int x :: st) h Q = (if x = 0 then wp V (cdT Ev) mx d 186 28 ls st h Q else wp V (cdT Ev) mx d 186 19 ls st h Q) := x_if1 (c := fun x => x = 0) rfl
theorem s_186_19 {a : Nat} : wp V (cdT Ev) mx d 186 19 [some (.ref a), l1] st h Q = wp V (cdT Ev) mx d 186 20 [some (.ref a), l1] (.ref a :: st) h Q := x_aload (len := 1) rfl rfl
theorem s_186_19_n : wp V (cdT Ev) mx d 186 19 [some .null, l1] st h Q = wp V (cdT Ev) mx d 186 20 [some .null, l1] (.null :: st) h Q := x_aloadN (len := 1) rfl rfl
theorem s_186_20 {a : Nat} : wp V (cdT Ev) mx d 186 20 ls (.ref a :: st) h Q = gf [12] 23 h a (fun v => wp V (cdT Ev) mx d 186 23 ls (v :: st) h Q) := x_getf rfl
theorem s_186_23 {x : Int32} : wp V (cdT Ev) mx d 186 23 [l0, some (.int x)] st h Q = wp V (cdT Ev) mx d 186 24 [l0, some (.int x)] (.int x :: st) h Q := x_iload (len := 1) rfl rfl
theorem s_186_24 {i : Int32} {a : Nat} : wp V (cdT Ev) mx d 186 24 ls (.int i :: .ref a :: st) h Q = ai 2 i V h a (fun x => wp V (cdT Ev) mx d 186 25 ls (.int x :: st) h Q) := x_iald rfl
theorem s_186_25 : wp V (cdT Ev) mx d 186 25 ls st h Q = wp V (cdT Ev) mx d 186 29 ls st h Q := x_goto rfl
theorem s_186_28 : wp V (cdT Ev) mx d 186 28 ls st h Q = wp V (cdT Ev) mx d 186 29 ls ((.int (-1)) :: st) h Q := x_push (v := (.int (-1))) (len := 1) rfl
theorem s_186_29 {x : Int32} : wp V (cdT Ev) mx d 186 29 ls [.int x] h Q = Q (some (.int x)) h := x_ret rfl rfl
theorem e_186 {a : Nat} {p0 : Int32} : WP V (cdT Ev) mx (d + 1) 186 [.ref a, .int p0] h Q = wp V (cdT Ev) mx d 186 0 [some (.ref a), some (.int p0)] [] h Q := propext (WP_eq (Nat.le_of_ble_eq_true rfl))
theorem s_187_0 {x : Int32} : wp V (cdT Ev) mx d 187 0 [l0, l1, some (.int x), l3] st h Q = wp V (cdT Ev) mx d 187 1 [l0, l1, some (.int x), l3] (.int x :: st) h Q := x_iload (len := 1) rfl rfl
theorem s_187_1 : wp V (cdT Ev) mx d 187 1 ls st h Q = wp V (cdT Ev) mx d 187 2 ls ((.int (0)) :: st) h Q := x_push (v := (.int (0))) (len := 1) rfl
theorem s_187_2 : wp V (cdT Ev) mx d 187 2 ls st h Q = wp V (cdT Ev) mx d 187 4 ls ((.int (6)) :: st) h Q := x_push (v := (.int (6))) (len := 2) rfl
theorem s_187_4 {v0 v1 v2 : Value} (hst : st.length ≤ 4) : wp V (cdT Ev) mx d 187 4 ls (v2 :: v1 :: v0 :: st) h Q = WP V (cdT Ev) mx d 123 [v0, v1, v2] h (fun r h' => wp V (cdT Ev) mx d 187 7 ls (rts r st) h' Q) := x_cs (sg := [v2, v1, v0]) rfl hst rfl rfl
theorem s_187_7 {x : Int32} : wp V (cdT Ev) mx d 187 7 ls (.int x :: st) h Q = (if ¬ x = 0 then wp V (cdT Ev) mx d 187 13 ls st h Q else wp V (cdT Ev) mx d 187 10 ls st h Q) := x_if1 (c := fun x => ¬ x = 0) rfl
theorem s_187_10 : wp V (cdT Ev) mx d 187 10 ls st h Q = wp V (cdT Ev) mx d 187 12 ls ((.int (-2)) :: st) h Q := x_push (v := (.int (-2))) (len := 2) rfl
theorem s_187_12 {x : Int32} : wp V (cdT Ev) mx d 187 12 ls [.int x] h Q = Q (some (.int x)) h := x_ret rfl rfl
theorem s_187_13 {a : Nat} : wp V (cdT Ev) mx d 187 13 [some (.ref a), l1, l2, l3] st h Q = wp V (cdT Ev) mx d 187 14 [some (.ref a), l1, l2, l3] (.ref a :: st) h Q := x_aload (len := 1) rfl rfl
theorem s_187_13_n : wp V (cdT Ev) mx d 187 13 [some .null, l1, l2, l3] st h Q = wp V (cdT Ev) mx d 187 14 [some .null, l1, l2, l3] (.null :: st) h Q := x_aloadN (len := 1) rfl rfl
theorem s_187_14 {x : Int32} : wp V (cdT Ev) mx d 187 14 [l0, some (.int x), l2, l3] st h Q = wp V (cdT Ev) mx d 187 15 [l0, some (.int x), l2, l3] (.int x :: st) h Q := x_iload (len := 1) rfl rfl
theorem s_187_15 {b : Nat} {v0 : Value} (hst : st.length ≤ 4) : wp V (cdT Ev) mx d 187 15 ls (v0 :: .ref b :: st) h Q = cv [(12, 128)] h b (fun y' => WP V (cdT Ev) mx d y' [.ref b, v0] h (fun r h' => wp V (cdT Ev) mx d 187 18 ls (rts r st) h' Q)) := x_cv (sg := [v0]) rfl hst rfl rfl
theorem s_187_18 {x : Int32} : wp V (cdT Ev) mx d 187 18 ls (.int x :: st) h Q = (if ¬ x = 0 then wp V (cdT Ev) mx d 187 24 ls st h Q else wp V (cdT Ev) mx d 187 21 ls st h Q) := x_if1 (c := fun x => ¬ x = 0) rfl
theorem s_187_21 : wp V (cdT Ev) mx d 187 21 ls st h Q = wp V (cdT Ev) mx d 187 23 ls ((.int (-11)) :: st) h Q := x_push (v := (.int (-11))) (len := 2) rfl
theorem s_187_23 {x : Int32} : wp V (cdT Ev) mx d 187 23 ls [.int x] h Q = Q (some (.int x)) h := x_ret rfl rfl
theorem s_187_24 {a : Nat} : wp V (cdT Ev) mx d 187 24 [some (.ref a), l1, l2, l3] st h Q = wp V (cdT Ev) mx d 187 25 [some (.ref a), l1, l2, l3] (.ref a :: st) h Q := x_aload (len := 1) rfl rfl
theorem s_187_24_n : wp V (cdT Ev) mx d 187 24 [some .null, l1, l2, l3] st h Q = wp V (cdT Ev) mx d 187 25 [some .null, l1, l2, l3] (.null :: st) h Q := x_aloadN (len := 1) rfl rfl
theorem s_187_25 {x : Int32} : wp V (cdT Ev) mx d 187 25 [l0, some (.int x), l2, l3] st h Q = wp V (cdT Ev) mx d 187 26 [l0, some (.int x), l2, l3] (.int x :: st) h Q := x_iload (len := 1) rfl rfl
theorem s_187_26 : wp V (cdT Ev) mx d 187 26 ls st h Q = wp V (cdT Ev) mx d 187 27 ls ((.int (0)) :: st) h Q := x_push (v := (.int (0))) (len := 1) rfl
theorem s_187_27 {b : Nat} {v0 v1 : Value} (hst : st.length ≤ 4) : wp V (cdT Ev) mx d 187 27 ls (v1 :: v0 :: .ref b :: st) h Q = cv [(12, 132)] h b (fun y' => WP V (cdT Ev) mx d y' [.ref b, v0, v1] h (fun r h' => wp V (cdT Ev) mx d 187 30 ls (rts r st) h' Q)) := x_cv (sg := [v1, v0]) rfl hst rfl rfl
theorem s_187_30 {x : Int32} (hn : nl l2 = true) : wp V (cdT Ev) mx d 187 30 [l0, l1, l2, l3] (.int x :: st) h Q = wp V (cdT Ev) mx d 187 31 [l0, l1, l2, some (.int x)] st h Q := x_istore (len := 1) rfl (Nat.le_of_ble_eq_true rfl) (okp_nl rfl hn) rfl
theorem s_187_31 {x : Int32} : wp V (cdT Ev) mx d 187 31 [l0, l1, l2, some (.int x)] st h Q = wp V (cdT Ev) mx d 187 32 [l0, l1, l2, some (.int x)] (.int x :: st) h Q := x_iload (len := 1) rfl rfl
theorem s_187_32 : wp V (cdT Ev) mx d 187 32 ls st h Q = wp V (cdT Ev) mx d 187 33 ls ((.int (-1)) :: st) h Q := x_push (v := (.int (-1))) (len := 1) rfl
theorem s_187_33 {x z : Int32} : wp V (cdT Ev) mx d 187 33 ls (.int z :: .int x :: st) h Q = (if x = z then wp V (cdT Ev) mx d 187 51 ls st h Q else wp V (cdT Ev) mx d 187 36 ls st h Q) := x_if2 (c := fun x z => x = z) rfl
theorem s_187_36 {x : Int32} : wp V (cdT Ev) mx d 187 36 [l0, l1, l2, some (.int x)] st h Q = wp V (cdT Ev) mx d 187 37 [l0, l1, l2, some (.int x)] (.int x :: st) h Q := x_iload (len := 1) rfl rfl
theorem s_187_37 {x : Int32} : wp V (cdT Ev) mx d 187 37 [l0, l1, some (.int x), l3] st h Q = wp V (cdT Ev) mx d 187 38 [l0, l1, some (.int x), l3] (.int x :: st) h Q := x_iload (len := 1) rfl rfl
theorem s_187_38 {x z : Int32} : wp V (cdT Ev) mx d 187 38 ls (.int z :: .int x :: st) h Q = (if x = z then wp V (cdT Ev) mx d 187 51 ls st h Q else wp V (cdT Ev) mx d 187 41 ls st h Q) := x_if2 (c := fun x z => x = z) rfl
theorem s_187_41 {a : Nat} : wp V (cdT Ev) mx d 187 41 [some (.ref a), l1, l2, l3] st h Q = wp V (cdT Ev) mx d 187 42 [some (.ref a), l1, l2, l3] (.ref a :: st) h Q := x_aload (len := 1) rfl rfl
theorem s_187_41_n : wp V (cdT Ev) mx d 187 41 [some .null, l1, l2, l3] st h Q = wp V (cdT Ev) mx d 187 42 [some .null, l1, l2, l3] (.null :: st) h Q := x_aloadN (len := 1) rfl rfl
theorem s_187_42 {a : Nat} : wp V (cdT Ev) mx d 187 42 ls (.ref a :: st) h Q = gf [12] 21 h a (fun v => wp V (cdT Ev) mx d 187 45 ls (v :: st) h Q) := x_getf rfl
theorem s_187_45 {x : Int32} : wp V (cdT Ev) mx d 187 45 [l0, l1, l2, some (.int x)] st h Q = wp V (cdT Ev) mx d 187 46 [l0, l1, l2, some (.int x)] (.int x :: st) h Q := x_iload (len := 1) rfl rfl
theorem s_187_46 {i : Int32} {a : Nat} : wp V (cdT Ev) mx d 187 46 ls (.int i :: .ref a :: st) h Q = ai 2 i V h a (fun x => wp V (cdT Ev) mx d 187 47 ls (.int x :: st) h Q) := x_iald rfl
theorem s_187_47 {x : Int32} (hn : nl l2 = true) : wp V (cdT Ev) mx d 187 47 [l0, l1, l2, l3] (.int x :: st) h Q = wp V (cdT Ev) mx d 187 48 [l0, l1, l2, some (.int x)] st h Q := x_istore (len := 1) rfl (Nat.le_of_ble_eq_true rfl) (okp_nl rfl hn) rfl
theorem s_187_48 : wp V (cdT Ev) mx d 187 48 ls st h Q = wp V (cdT Ev) mx d 187 31 ls st h Q := x_goto rfl
theorem s_187_51 {x : Int32} : wp V (cdT Ev) mx d 187 51 [l0, l1, l2, some (.int x)] st h Q = wp V (cdT Ev) mx d 187 52 [l0, l1, l2, some (.int x)] (.int x :: st) h Q := x_iload (len := 1) rfl rfl
theorem s_187_52 {x : Int32} : wp V (cdT Ev) mx d 187 52 [l0, l1, some (.int x), l3] st h Q = wp V (cdT Ev) mx d 187 53 [l0, l1, some (.int x), l3] (.int x :: st) h Q := x_iload (len := 1) rfl rfl
theorem s_187_53 {x z : Int32} : wp V (cdT Ev) mx d 187 53 ls (.int z :: .int x :: st) h Q = (if ¬ x = z then wp V (cdT Ev) mx d 187 65 ls st h Q else wp V (cdT Ev) mx d 187 56 ls st h Q) := x_if2 (c := fun x z => ¬ x = z) rfl
theorem s_187_56 {a : Nat} : wp V (cdT Ev) mx d 187 56 [some (.ref a), l1, l2, l3] st h Q = wp V (cdT Ev) mx d 187 57 [some (.ref a), l1, l2, l3] (.ref a :: st) h Q := x_aload (len := 1) rfl rfl
theorem s_187_56_n : wp V (cdT Ev) mx d 187 56 [some .null, l1, l2, l3] st h Q = wp V (cdT Ev) mx d 187 57 [some .null, l1, l2, l3] (.null :: st) h Q := x_aloadN (len := 1) rfl rfl
theorem s_187_57 {x : Int32} : wp V (cdT Ev) mx d 187 57 [l0, some (.int x), l2, l3] st h Q = wp V (cdT Ev) mx d 187 58 [l0, some (.int x), l2, l3] (.int x :: st) h Q := x_iload (len := 1) rfl rfl
theorem s_187_58 : wp V (cdT Ev) mx d 187 58 ls st h Q = wp V (cdT Ev) mx d 187 59 ls ((.int (0)) :: st) h Q := x_push (v := (.int (0))) (len := 1) rfl
theorem s_187_59 {b : Nat} {v0 v1 : Value} (hst : st.length ≤ 4) : wp V (cdT Ev) mx d 187 59 ls (v1 :: v0 :: .ref b :: st) h Q = cv [(12, 132)] h b (fun y' => WP V (cdT Ev) mx d y' [.ref b, v0, v1] h (fun r h' => wp V (cdT Ev) mx d 187 62 ls (rts r st) h' Q)) := x_cv (sg := [v1, v0]) rfl hst rfl rfl
theorem s_187_62 : wp V (cdT Ev) mx d 187 62 ls st h Q = wp V (cdT Ev) mx d 187 67 ls st h Q := x_goto rfl
theorem s_187_65 : wp V (cdT Ev) mx d 187 65 ls st h Q = wp V (cdT Ev) mx d 187 67 ls ((.int (-12)) :: st) h Q := x_push (v := (.int (-12))) (len := 2) rfl
theorem s_187_67 {x : Int32} : wp V (cdT Ev) mx d 187 67 ls [.int x] h Q = Q (some (.int x)) h := x_ret rfl rfl
theorem e_187 {a : Nat} {p0 : Int32} {p1 : Int32} : WP V (cdT Ev) mx (d + 1) 187 [.ref a, .int p0, .int p1] h Q = wp V (cdT Ev) mx d 187 0 [some (.ref a), some (.int p0), some (.int p1), none] [] h Q := propext (WP_eq (Nat.le_of_ble_eq_true rfl))
theorem s_188_0 {x : Int32} : wp V (cdT Ev) mx d 188 0 [l0, some (.int x)] st h Q = wp V (cdT Ev) mx d 188 1 [l0, some (.int x)] (.int x :: st) h Q := x_iload (len := 1) rfl rfl
theorem s_188_1 {x : Int32} : wp V (cdT Ev) mx d 188 1 ls (.int x :: st) h Q = (if x = 0 then wp V (cdT Ev) mx d 188 44 ls st h Q else (if x = 1 then wp V (cdT Ev) mx d 188 52 ls st h Q else (if x = 2 then wp V (cdT Ev) mx d 188 57 ls st h Q else (if x = 3 then wp V (cdT Ev) mx d 188 65 ls st h Q else (if x = 4 then wp V (cdT Ev) mx d 188 73 ls st h Q else (if x = 5 then wp V (cdT Ev) mx d 188 81 ls st h Q else (if x = 6 then wp V (cdT Ev) mx d 188 86 ls st h Q else wp V (cdT Ev) mx d 188 91 ls st h Q))))))) := x_sw (t := 91) (l := [(0, 44), (1, 52), (2, 57), (3, 65), (4, 73), (5, 81), (6, 86)]) rfl
theorem s_188_44 {a : Nat} : wp V (cdT Ev) mx d 188 44 [some (.ref a), l1] st h Q = wp V (cdT Ev) mx d 188 45 [some (.ref a), l1] (.ref a :: st) h Q := x_aload (len := 1) rfl rfl
theorem s_188_44_n : wp V (cdT Ev) mx d 188 44 [some .null, l1] st h Q = wp V (cdT Ev) mx d 188 45 [some .null, l1] (.null :: st) h Q := x_aloadN (len := 1) rfl rfl
theorem s_188_45 {a : Nat} : wp V (cdT Ev) mx d 188 45 ls (.ref a :: st) h Q = gf [12] 0 h a (fun v => wp V (cdT Ev) mx d 188 48 ls (v :: st) h Q) := x_getf rfl
theorem s_188_48 : wp V (cdT Ev) mx d 188 48 ls st h Q = wp V (cdT Ev) mx d 188 50 ls ((.int (68)) :: st) h Q := x_push (v := (.int (68))) (len := 2) rfl
theorem s_188_50 {i : Int32} {a : Nat} : wp V (cdT Ev) mx d 188 50 ls (.int i :: .ref a :: st) h Q = ai 2 i V h a (fun x => wp V (cdT Ev) mx d 188 51 ls (.int x :: st) h Q) := x_iald rfl
theorem s_188_51 {x : Int32} : wp V (cdT Ev) mx d 188 51 ls [.int x] h Q = Q (some (.int x)) h := x_ret rfl rfl
theorem s_188_52 {a : Nat} : wp V (cdT Ev) mx d 188 52 [some (.ref a), l1] st h Q = wp V (cdT Ev) mx d 188 53 [some (.ref a), l1] (.ref a :: st) h Q := x_aload (len := 1) rfl rfl
theorem s_188_52_n : wp V (cdT Ev) mx d 188 52 [some .null, l1] st h Q = wp V (cdT Ev) mx d 188 53 [some .null, l1] (.null :: st) h Q := x_aloadN (len := 1) rfl rfl
theorem s_188_53 {a : Nat} : wp V (cdT Ev) mx d 188 53 ls (.ref a :: st) h Q = gf [12] 8 h a (fun v => wp V (cdT Ev) mx d 188 56 ls (v :: st) h Q) := x_getf rfl
theorem s_188_56 {x : Int32} : wp V (cdT Ev) mx d 188 56 ls [.int x] h Q = Q (some (.int x)) h := x_ret rfl rfl
theorem s_188_57 {a : Nat} : wp V (cdT Ev) mx d 188 57 [some (.ref a), l1] st h Q = wp V (cdT Ev) mx d 188 58 [some (.ref a), l1] (.ref a :: st) h Q := x_aload (len := 1) rfl rfl
theorem s_188_57_n : wp V (cdT Ev) mx d 188 57 [some .null, l1] st h Q = wp V (cdT Ev) mx d 188 58 [some .null, l1] (.null :: st) h Q := x_aloadN (len := 1) rfl rfl
theorem s_188_58 {a : Nat} : wp V (cdT Ev) mx d 188 58 ls (.ref a :: st) h Q = gf [12] 0 h a (fun v => wp V (cdT Ev) mx d 188 61 ls (v :: st) h Q) := x_getf rfl
theorem s_188_61 : wp V (cdT Ev) mx d 188 61 ls st h Q = wp V (cdT Ev) mx d 188 63 ls ((.int (71)) :: st) h Q := x_push (v := (.int (71))) (len := 2) rfl
theorem s_188_63 {i : Int32} {a : Nat} : wp V (cdT Ev) mx d 188 63 ls (.int i :: .ref a :: st) h Q = ai 2 i V h a (fun x => wp V (cdT Ev) mx d 188 64 ls (.int x :: st) h Q) := x_iald rfl
theorem s_188_64 {x : Int32} : wp V (cdT Ev) mx d 188 64 ls [.int x] h Q = Q (some (.int x)) h := x_ret rfl rfl
theorem s_188_65 {a : Nat} : wp V (cdT Ev) mx d 188 65 [some (.ref a), l1] st h Q = wp V (cdT Ev) mx d 188 66 [some (.ref a), l1] (.ref a :: st) h Q := x_aload (len := 1) rfl rfl
theorem s_188_65_n : wp V (cdT Ev) mx d 188 65 [some .null, l1] st h Q = wp V (cdT Ev) mx d 188 66 [some .null, l1] (.null :: st) h Q := x_aloadN (len := 1) rfl rfl
theorem s_188_66 {a : Nat} : wp V (cdT Ev) mx d 188 66 ls (.ref a :: st) h Q = gf [12] 0 h a (fun v => wp V (cdT Ev) mx d 188 69 ls (v :: st) h Q) := x_getf rfl
theorem s_188_69 : wp V (cdT Ev) mx d 188 69 ls st h Q = wp V (cdT Ev) mx d 188 71 ls ((.int (82)) :: st) h Q := x_push (v := (.int (82))) (len := 2) rfl
theorem s_188_71 {i : Int32} {a : Nat} : wp V (cdT Ev) mx d 188 71 ls (.int i :: .ref a :: st) h Q = ai 2 i V h a (fun x => wp V (cdT Ev) mx d 188 72 ls (.int x :: st) h Q) := x_iald rfl
theorem s_188_72 {x : Int32} : wp V (cdT Ev) mx d 188 72 ls [.int x] h Q = Q (some (.int x)) h := x_ret rfl rfl
theorem s_188_73 {a : Nat} : wp V (cdT Ev) mx d 188 73 [some (.ref a), l1] st h Q = wp V (cdT Ev) mx d 188 74 [some (.ref a), l1] (.ref a :: st) h Q := x_aload (len := 1) rfl rfl
theorem s_188_73_n : wp V (cdT Ev) mx d 188 73 [some .null, l1] st h Q = wp V (cdT Ev) mx d 188 74 [some .null, l1] (.null :: st) h Q := x_aloadN (len := 1) rfl rfl
theorem s_188_74 {a : Nat} : wp V (cdT Ev) mx d 188 74 ls (.ref a :: st) h Q = gf [12] 0 h a (fun v => wp V (cdT Ev) mx d 188 77 ls (v :: st) h Q) := x_getf rfl
theorem s_188_77 : wp V (cdT Ev) mx d 188 77 ls st h Q = wp V (cdT Ev) mx d 188 79 ls ((.int (103)) :: st) h Q := x_push (v := (.int (103))) (len := 2) rfl
theorem s_188_79 {i : Int32} {a : Nat} : wp V (cdT Ev) mx d 188 79 ls (.int i :: .ref a :: st) h Q = ai 2 i V h a (fun x => wp V (cdT Ev) mx d 188 80 ls (.int x :: st) h Q) := x_iald rfl
theorem s_188_80 {x : Int32} : wp V (cdT Ev) mx d 188 80 ls [.int x] h Q = Q (some (.int x)) h := x_ret rfl rfl
theorem s_188_81 {a : Nat} : wp V (cdT Ev) mx d 188 81 [some (.ref a), l1] st h Q = wp V (cdT Ev) mx d 188 82 [some (.ref a), l1] (.ref a :: st) h Q := x_aload (len := 1) rfl rfl
theorem s_188_81_n : wp V (cdT Ev) mx d 188 81 [some .null, l1] st h Q = wp V (cdT Ev) mx d 188 82 [some .null, l1] (.null :: st) h Q := x_aloadN (len := 1) rfl rfl
theorem s_188_82 {a : Nat} : wp V (cdT Ev) mx d 188 82 ls (.ref a :: st) h Q = gf [12] 5 h a (fun v => wp V (cdT Ev) mx d 188 85 ls (v :: st) h Q) := x_getf rfl
theorem s_188_85 {x : Int32} : wp V (cdT Ev) mx d 188 85 ls [.int x] h Q = Q (some (.int x)) h := x_ret rfl rfl
theorem s_188_86 {a : Nat} : wp V (cdT Ev) mx d 188 86 [some (.ref a), l1] st h Q = wp V (cdT Ev) mx d 188 87 [some (.ref a), l1] (.ref a :: st) h Q := x_aload (len := 1) rfl rfl
theorem s_188_86_n : wp V (cdT Ev) mx d 188 86 [some .null, l1] st h Q = wp V (cdT Ev) mx d 188 87 [some .null, l1] (.null :: st) h Q := x_aloadN (len := 1) rfl rfl
theorem s_188_87 {a : Nat} : wp V (cdT Ev) mx d 188 87 ls (.ref a :: st) h Q = gf [12] 24 h a (fun v => wp V (cdT Ev) mx d 188 90 ls (v :: st) h Q) := x_getf rfl
theorem s_188_90 {x : Int32} : wp V (cdT Ev) mx d 188 90 ls [.int x] h Q = Q (some (.int x)) h := x_ret rfl rfl
theorem s_188_91 : wp V (cdT Ev) mx d 188 91 ls st h Q = wp V (cdT Ev) mx d 188 93 ls ((.int (-2)) :: st) h Q := x_push (v := (.int (-2))) (len := 2) rfl
theorem s_188_93 {x : Int32} : wp V (cdT Ev) mx d 188 93 ls [.int x] h Q = Q (some (.int x)) h := x_ret rfl rfl
theorem e_188 {a : Nat} {p0 : Int32} : WP V (cdT Ev) mx (d + 1) 188 [.ref a, .int p0] h Q = wp V (cdT Ev) mx d 188 0 [some (.ref a), some (.int p0)] [] h Q := propext (WP_eq (Nat.le_of_ble_eq_true rfl))
theorem s_189_0 {x : Int32} : wp V (cdT Ev) mx d 189 0 [some (.int x)] st h Q = wp V (cdT Ev) mx d 189 1 [some (.int x)] (.int x :: st) h Q := x_iload (len := 1) rfl rfl
theorem s_189_1 : wp V (cdT Ev) mx d 189 1 ls st h Q = wp V (cdT Ev) mx d 189 2 ls ((.int (0)) :: st) h Q := x_push (v := (.int (0))) (len := 1) rfl
theorem s_189_2 : wp V (cdT Ev) mx d 189 2 ls st h Q = wp V (cdT Ev) mx d 189 3 ls ((.int (5)) :: st) h Q := x_push (v := (.int (5))) (len := 1) rfl
theorem s_189_3 {v0 v1 v2 : Value} (hst : st.length ≤ 4) : wp V (cdT Ev) mx d 189 3 ls (v2 :: v1 :: v0 :: st) h Q = WP V (cdT Ev) mx d 123 [v0, v1, v2] h (fun r h' => wp V (cdT Ev) mx d 189 6 ls (rts r st) h' Q) := x_cs (sg := [v2, v1, v0]) rfl hst rfl rfl
theorem s_189_6 {x : Int32} (hx : okr 1 (.int x) = true) : wp V (cdT Ev) mx d 189 6 ls [.int x] h Q = Q (some (.int x)) h := x_ret rfl hx
theorem e_189 {p0 : Int32} : WP V (cdT Ev) mx (d + 1) 189 [.int p0] h Q = wp V (cdT Ev) mx d 189 0 [some (.int p0)] [] h Q := propext (WP_eq (Nat.le_of_ble_eq_true rfl))
theorem s_190_0 {x : Int32} : wp V (cdT Ev) mx d 190 0 [l0, some (.int x), l2, l3, l4] st h Q = wp V (cdT Ev) mx d 190 1 [l0, some (.int x), l2, l3, l4] (.int x :: st) h Q := x_iload (len := 1) rfl rfl
theorem s_190_1 {v0 : Value} (hst : st.length ≤ 4) : wp V (cdT Ev) mx d 190 1 ls (v0 :: st) h Q = WP V (cdT Ev) mx d 189 [v0] h (fun r h' => wp V (cdT Ev) mx d 190 4 ls (rts r st) h' Q) := x_cs (sg := [v0]) rfl hst rfl rfl
theorem s_190_4 {x : Int32} : wp V (cdT Ev) mx d 190 4 ls (.int x :: st) h Q = (if ¬ x = 0 then wp V (cdT Ev) mx d 190 9 ls st h Q else wp V (cdT Ev) mx d 190 7 ls st h Q) := x_if1 (c := fun x => ¬ x = 0) rfl
theorem s_190_7 : wp V (cdT Ev) mx d 190 7 ls st h Q = wp V (cdT Ev) mx d 190 8 ls ((.int (-1)) :: st) h Q := x_push (v := (.int (-1))) (len := 1) rfl
theorem s_190_8 {x : Int32} : wp V (cdT Ev) mx d 190 8 ls [.int x] h Q = Q (some (.int x)) h := x_ret rfl rfl
theorem s_190_9 {x : Int32} : wp V (cdT Ev) mx d 190 9 [l0, l1, some (.int x), l3, l4] st h Q = wp V (cdT Ev) mx d 190 10 [l0, l1, some (.int x), l3, l4] (.int x :: st) h Q := x_iload (len := 1) rfl rfl
theorem s_190_10 : wp V (cdT Ev) mx d 190 10 ls st h Q = wp V (cdT Ev) mx d 190 11 ls ((.int (-1)) :: st) h Q := x_push (v := (.int (-1))) (len := 1) rfl
theorem s_190_11 : wp V (cdT Ev) mx d 190 11 ls st h Q = wp V (cdT Ev) mx d 190 12 ls ((.int (4)) :: st) h Q := x_push (v := (.int (4))) (len := 1) rfl
theorem s_190_12 {v0 v1 v2 : Value} (hst : st.length ≤ 4) : wp V (cdT Ev) mx d 190 12 ls (v2 :: v1 :: v0 :: st) h Q = WP V (cdT Ev) mx d 123 [v0, v1, v2] h (fun r h' => wp V (cdT Ev) mx d 190 15 ls (rts r st) h' Q) := x_cs (sg := [v2, v1, v0]) rfl hst rfl rfl
theorem s_190_15 {x : Int32} : wp V (cdT Ev) mx d 190 15 ls (.int x :: st) h Q = (if x = 0 then wp V (cdT Ev) mx d 190 28 ls st h Q else wp V (cdT Ev) mx d 190 18 ls st h Q) := x_if1 (c := fun x => x = 0) rfl
theorem s_190_18 {x : Int32} : wp V (cdT Ev) mx d 190 18 [l0, l1, some (.int x), l3, l4] st h Q = wp V (cdT Ev) mx d 190 19 [l0, l1, some (.int x), l3, l4] (.int x :: st) h Q := x_iload (len := 1) rfl rfl
theorem s_190_19 {x : Int32} : wp V (cdT Ev) mx d 190 19 ls (.int x :: st) h Q = (if x < 0 then wp V (cdT Ev) mx d 190 31 ls st h Q else wp V (cdT Ev) mx d 190 22 ls st h Q) := x_if1 (c := fun x => x < 0) rfl
theorem s_190_22 {x : Int32} : wp V (cdT Ev) mx d 190 22 [l0, l1, l2, some (.int x), l4] st h Q = wp V (cdT Ev) mx d 190 23 [l0, l1, l2, some (.int x), l4] (.int x :: st) h Q := x_iload (len := 1) rfl rfl
theorem s_190_23 : wp V (cdT Ev) mx d 190 23 ls st h Q = wp V (cdT Ev) mx d 190 25 ls ((.int (60)) :: st) h Q := x_push (v := (.int (60))) (len := 2) rfl
theorem s_190_25 {x z : Int32} : wp V (cdT Ev) mx d 190 25 ls (.int z :: .int x :: st) h Q = (if x ≤ z then wp V (cdT Ev) mx d 190 31 ls st h Q else wp V (cdT Ev) mx d 190 28 ls st h Q) := x_if2 (c := fun x z => x ≤ z) rfl
theorem s_190_28 : wp V (cdT Ev) mx d 190 28 ls st h Q = wp V (cdT Ev) mx d 190 30 ls ((.int (-2)) :: st) h Q := x_push (v := (.int (-2))) (len := 2) rfl
theorem s_190_30 {x : Int32} : wp V (cdT Ev) mx d 190 30 ls [.int x] h Q = Q (some (.int x)) h := x_ret rfl rfl
theorem s_190_31 {x : Int32} : wp V (cdT Ev) mx d 190 31 [l0, l1, some (.int x), l3, l4] st h Q = wp V (cdT Ev) mx d 190 32 [l0, l1, some (.int x), l3, l4] (.int x :: st) h Q := x_iload (len := 1) rfl rfl
theorem s_190_32 {x : Int32} : wp V (cdT Ev) mx d 190 32 ls (.int x :: st) h Q = (if x < 0 then wp V (cdT Ev) mx d 190 42 ls st h Q else wp V (cdT Ev) mx d 190 35 ls st h Q) := x_if1 (c := fun x => x < 0) rfl
theorem s_190_35 {x : Int32} : wp V (cdT Ev) mx d 190 35 [l0, l1, l2, some (.int x), l4] st h Q = wp V (cdT Ev) mx d 190 36 [l0, l1, l2, some (.int x), l4] (.int x :: st) h Q := x_iload (len := 1) rfl rfl
theorem s_190_36 {x : Int32} : wp V (cdT Ev) mx d 190 36 ls (.int x :: st) h Q = (if 0 ≤ x then wp V (cdT Ev) mx d 190 42 ls st h Q else wp V (cdT Ev) mx d 190 39 ls st h Q) := x_if1 (c := fun x => 0 ≤ x) rfl
theorem s_190_39 : wp V (cdT Ev) mx d 190 39 ls st h Q = wp V (cdT Ev) mx d 190 41 ls ((.int (-14)) :: st) h Q := x_push (v := (.int (-14))) (len := 2) rfl
theorem s_190_41 {x : Int32} : wp V (cdT Ev) mx d 190 41 ls [.int x] h Q = Q (some (.int x)) h := x_ret rfl rfl
theorem s_190_42 {a : Nat} : wp V (cdT Ev) mx d 190 42 [some (.ref a), l1, l2, l3, l4] st h Q = wp V (cdT Ev) mx d 190 43 [some (.ref a), l1, l2, l3, l4] (.ref a :: st) h Q := x_aload (len := 1) rfl rfl
theorem s_190_42_n : wp V (cdT Ev) mx d 190 42 [some .null, l1, l2, l3, l4] st h Q = wp V (cdT Ev) mx d 190 43 [some .null, l1, l2, l3, l4] (.null :: st) h Q := x_aloadN (len := 1) rfl rfl
theorem s_190_43 {a : Nat} : wp V (cdT Ev) mx d 190 43 ls (.ref a :: st) h Q = gf [12] 25 h a (fun v => wp V (cdT Ev) mx d 190 46 ls (v :: st) h Q) := x_getf rfl
theorem s_190_46 {x : Int32} : wp V (cdT Ev) mx d 190 46 [l0, some (.int x), l2, l3, l4] st h Q = wp V (cdT Ev) mx d 190 47 [l0, some (.int x), l2, l3, l4] (.int x :: st) h Q := x_iload (len := 1) rfl rfl
theorem s_190_47 {x : Int32} : wp V (cdT Ev) mx d 190 47 [l0, l1, some (.int x), l3, l4] st h Q = wp V (cdT Ev) mx d 190 48 [l0, l1, some (.int x), l3, l4] (.int x :: st) h Q := x_iload (len := 1) rfl rfl
theorem s_190_48 {x i : Int32} {a : Nat} : wp V (cdT Ev) mx d 190 48 ls (.int x :: .int i :: .ref a :: st) h Q = si 2 i (x) h a (fun hh => wp V (cdT Ev) mx d 190 49 ls st hh Q) := x_iast (nw := fun x => x) rfl
theorem s_190_49 {a : Nat} : wp V (cdT Ev) mx d 190 49 [some (.ref a), l1, l2, l3, l4] st h Q = wp V (cdT Ev) mx d 190 50 [some (.ref a), l1, l2, l3, l4] (.ref a :: st) h Q := x_aload (len := 1) rfl rfl
theorem s_190_49_n : wp V (cdT Ev) mx d 190 49 [some .null, l1, l2, l3, l4] st h Q = wp V (cdT Ev) mx d 190 50 [some .null, l1, l2, l3, l4] (.null :: st) h Q := x_aloadN (len := 1) rfl rfl
theorem s_190_50 {a : Nat} : wp V (cdT Ev) mx d 190 50 ls (.ref a :: st) h Q = gf [12] 26 h a (fun v => wp V (cdT Ev) mx d 190 53 ls (v :: st) h Q) := x_getf rfl
theorem s_190_53 {x : Int32} : wp V (cdT Ev) mx d 190 53 [l0, some (.int x), l2, l3, l4] st h Q = wp V (cdT Ev) mx d 190 54 [l0, some (.int x), l2, l3, l4] (.int x :: st) h Q := x_iload (len := 1) rfl rfl
theorem s_190_54 {x : Int32} : wp V (cdT Ev) mx d 190 54 [l0, l1, some (.int x), l3, l4] st h Q = wp V (cdT Ev) mx d 190 55 [l0, l1, some (.int x), l3, l4] (.int x :: st) h Q := x_iload (len := 1) rfl rfl
theorem s_190_55 {x : Int32} : wp V (cdT Ev) mx d 190 55 ls (.int x :: st) h Q = (if 0 ≤ x then wp V (cdT Ev) mx d 190 62 ls st h Q else wp V (cdT Ev) mx d 190 58 ls st h Q) := x_if1 (c := fun x => 0 ≤ x) rfl
theorem s_190_58 : wp V (cdT Ev) mx d 190 58 ls st h Q = wp V (cdT Ev) mx d 190 59 ls ((.int (0)) :: st) h Q := x_push (v := (.int (0))) (len := 1) rfl
theorem s_190_59 : wp V (cdT Ev) mx d 190 59 ls st h Q = wp V (cdT Ev) mx d 190 63 ls st h Q := x_goto rfl
theorem s_190_62 {x : Int32} : wp V (cdT Ev) mx d 190 62 [l0, l1, l2, some (.int x), l4] st h Q = wp V (cdT Ev) mx d 190 63 [l0, l1, l2, some (.int x), l4] (.int x :: st) h Q := x_iload (len := 1) rfl rfl
theorem s_190_63 {x i : Int32} {a : Nat} : wp V (cdT Ev) mx d 190 63 ls (.int x :: .int i :: .ref a :: st) h Q = si 2 i (x) h a (fun hh => wp V (cdT Ev) mx d 190 64 ls st hh Q) := x_iast (nw := fun x => x) rfl
theorem s_190_64 : wp V (cdT Ev) mx d 190 64 ls st h Q = wp V (cdT Ev) mx d 190 65 ls ((.int (0)) :: st) h Q := x_push (v := (.int (0))) (len := 1) rfl
theorem s_190_65 {x : Int32} (hn : nl l3 = true) : wp V (cdT Ev) mx d 190 65 [l0, l1, l2, l3, l4] (.int x :: st) h Q = wp V (cdT Ev) mx d 190 67 [l0, l1, l2, l3, some (.int x)] st h Q := x_istore (len := 2) rfl (Nat.le_of_ble_eq_true rfl) (okp_nl rfl hn) rfl
theorem s_190_67 {x : Int32} : wp V (cdT Ev) mx d 190 67 [l0, l1, l2, l3, some (.int x)] st h Q = wp V (cdT Ev) mx d 190 69 [l0, l1, l2, l3, some (.int x)] (.int x :: st) h Q := x_iload (len := 2) rfl rfl
theorem s_190_69 : wp V (cdT Ev) mx d 190 69 ls st h Q = wp V (cdT Ev) mx d 190 71 ls ((.int (60)) :: st) h Q := x_push (v := (.int (60))) (len := 2) rfl
theorem s_190_71 {x z : Int32} : wp V (cdT Ev) mx d 190 71 ls (.int z :: .int x :: st) h Q = (if z ≤ x then wp V (cdT Ev) mx d 190 93 ls st h Q else wp V (cdT Ev) mx d 190 74 ls st h Q) := x_if2 (c := fun x z => z ≤ x) rfl
theorem s_190_74 {a : Nat} : wp V (cdT Ev) mx d 190 74 [some (.ref a), l1, l2, l3, l4] st h Q = wp V (cdT Ev) mx d 190 75 [some (.ref a), l1, l2, l3, l4] (.ref a :: st) h Q := x_aload (len := 1) rfl rfl
theorem s_190_74_n : wp V (cdT Ev) mx d 190 74 [some .null, l1, l2, l3, l4] st h Q = wp V (cdT Ev) mx d 190 75 [some .null, l1, l2, l3, l4] (.null :: st) h Q := x_aloadN (len := 1) rfl rfl
theorem s_190_75 {a : Nat} : wp V (cdT Ev) mx d 190 75 ls (.ref a :: st) h Q = gf [12] 27 h a (fun v => wp V (cdT Ev) mx d 190 78 ls (v :: st) h Q) := x_getf rfl
theorem s_190_78 : wp V (cdT Ev) mx d 190 78 ls st h Q = wp V (cdT Ev) mx d 190 80 ls ((.int (60)) :: st) h Q := x_push (v := (.int (60))) (len := 2) rfl
theorem s_190_80 {x : Int32} : wp V (cdT Ev) mx d 190 80 [l0, some (.int x), l2, l3, l4] st h Q = wp V (cdT Ev) mx d 190 81 [l0, some (.int x), l2, l3, l4] (.int x :: st) h Q := x_iload (len := 1) rfl rfl
theorem s_190_81 {x z : Int32} : wp V (cdT Ev) mx d 190 81 ls (.int z :: .int x :: st) h Q = wp V (cdT Ev) mx d 190 82 ls (.int (x * z) :: st) h Q := x_ib (f := fun x z => x * z) rfl
theorem s_190_82 {x : Int32} : wp V (cdT Ev) mx d 190 82 [l0, l1, l2, l3, some (.int x)] st h Q = wp V (cdT Ev) mx d 190 84 [l0, l1, l2, l3, some (.int x)] (.int x :: st) h Q := x_iload (len := 2) rfl rfl
theorem s_190_84 {x z : Int32} : wp V (cdT Ev) mx d 190 84 ls (.int z :: .int x :: st) h Q = wp V (cdT Ev) mx d 190 85 ls (.int (x + z) :: st) h Q := x_ib (f := fun x z => x + z) rfl
theorem s_190_85 : wp V (cdT Ev) mx d 190 85 ls st h Q = wp V (cdT Ev) mx d 190 86 ls ((.long (0)) :: st) h Q := x_push (v := (.long (0))) (len := 1) rfl
theorem s_190_86 {x : Int64} {i : Int32} {a : Nat} : wp V (cdT Ev) mx d 190 86 ls (.long x :: .int i :: .ref a :: st) h Q = sl i x h a (fun hh => wp V (cdT Ev) mx d 190 87 ls st hh Q) := x_last rfl
theorem s_190_87 {x : Int32} : wp V (cdT Ev) mx d 190 87 [l0, l1, l2, l3, some (.int x)] st h Q = wp V (cdT Ev) mx d 190 90 [l0, l1, l2, l3, some (.int (x + (1)))] st h Q := x_iinc rfl rfl rfl
theorem s_190_90 : wp V (cdT Ev) mx d 190 90 ls st h Q = wp V (cdT Ev) mx d 190 67 ls st h Q := x_goto rfl
theorem s_190_93 : wp V (cdT Ev) mx d 190 93 ls st h Q = wp V (cdT Ev) mx d 190 94 ls ((.int (1)) :: st) h Q := x_push (v := (.int (1))) (len := 1) rfl
theorem s_190_94 {x : Int32} : wp V (cdT Ev) mx d 190 94 ls [.int x] h Q = Q (some (.int x)) h := x_ret rfl rfl
theorem e_190 {a : Nat} {p0 : Int32} {p1 : Int32} {p2 : Int32} : WP V (cdT Ev) mx (d + 1) 190 [.ref a, .int p0, .int p1, .int p2] h Q = wp V (cdT Ev) mx d 190 0 [some (.ref a), some (.int p0), some (.int p1), some (.int p2), none] [] h Q := propext (WP_eq (Nat.le_of_ble_eq_true rfl))
theorem s_191_0 {x : Int32} : wp V (cdT Ev) mx d 191 0 [l0, some (.int x), l2, l3, l4, l5] st h Q = wp V (cdT Ev) mx d 191 1 [l0, some (.int x), l2, l3, l4, l5] (.int x :: st) h Q := x_iload (len := 1) rfl rfl
theorem s_191_1 {v0 : Value} (hst : st.length ≤ 4) : wp V (cdT Ev) mx d 191 1 ls (v0 :: st) h Q = WP V (cdT Ev) mx d 189 [v0] h (fun r h' => wp V (cdT Ev) mx d 191 4 ls (rts r st) h' Q) := x_cs (sg := [v0]) rfl hst rfl rfl
theorem s_191_4 {x : Int32} : wp V (cdT Ev) mx d 191 4 ls (.int x :: st) h Q = (if ¬ x = 0 then wp V (cdT Ev) mx d 191 9 ls st h Q else wp V (cdT Ev) mx d 191 7 ls st h Q) := x_if1 (c := fun x => ¬ x = 0) rfl
theorem s_191_7 : wp V (cdT Ev) mx d 191 7 ls st h Q = wp V (cdT Ev) mx d 191 8 ls ((.int (-1)) :: st) h Q := x_push (v := (.int (-1))) (len := 1) rfl
theorem s_191_8 {x : Int32} : wp V (cdT Ev) mx d 191 8 ls [.int x] h Q = Q (some (.int x)) h := x_ret rfl rfl
theorem s_191_9 {a : Nat} : wp V (cdT Ev) mx d 191 9 [some (.ref a), l1, l2, l3, l4, l5] st h Q = wp V (cdT Ev) mx d 191 10 [some (.ref a), l1, l2, l3, l4, l5] (.ref a :: st) h Q := x_aload (len := 1) rfl rfl
theorem s_191_9_n : wp V (cdT Ev) mx d 191 9 [some .null, l1, l2, l3, l4, l5] st h Q = wp V (cdT Ev) mx d 191 10 [some .null, l1, l2, l3, l4, l5] (.null :: st) h Q := x_aloadN (len := 1) rfl rfl
theorem s_191_10 {a : Nat} : wp V (cdT Ev) mx d 191 10 ls (.ref a :: st) h Q = gf [12] 25 h a (fun v => wp V (cdT Ev) mx d 191 13 ls (v :: st) h Q) := x_getf rfl
theorem s_191_13 {x : Int32} : wp V (cdT Ev) mx d 191 13 [l0, some (.int x), l2, l3, l4, l5] st h Q = wp V (cdT Ev) mx d 191 14 [l0, some (.int x), l2, l3, l4, l5] (.int x :: st) h Q := x_iload (len := 1) rfl rfl
theorem s_191_14 {i : Int32} {a : Nat} : wp V (cdT Ev) mx d 191 14 ls (.int i :: .ref a :: st) h Q = ai 2 i V h a (fun x => wp V (cdT Ev) mx d 191 15 ls (.int x :: st) h Q) := x_iald rfl
theorem s_191_15 {x : Int32} : wp V (cdT Ev) mx d 191 15 ls (.int x :: st) h Q = (if 0 ≤ x then wp V (cdT Ev) mx d 191 21 ls st h Q else wp V (cdT Ev) mx d 191 18 ls st h Q) := x_if1 (c := fun x => 0 ≤ x) rfl
theorem s_191_18 : wp V (cdT Ev) mx d 191 18 ls st h Q = wp V (cdT Ev) mx d 191 20 ls ((.int (-11)) :: st) h Q := x_push (v := (.int (-11))) (len := 2) rfl
theorem s_191_20 {x : Int32} : wp V (cdT Ev) mx d 191 20 ls [.int x] h Q = Q (some (.int x)) h := x_ret rfl rfl
theorem s_191_21 {x : Int32} : wp V (cdT Ev) mx d 191 21 [l0, l1, some (.int x), l3, l4, l5] st h Q = wp V (cdT Ev) mx d 191 22 [l0, l1, some (.int x), l3, l4, l5] (.int x :: st) h Q := x_iload (len := 1) rfl rfl
theorem s_191_22 : wp V (cdT Ev) mx d 191 22 ls st h Q = wp V (cdT Ev) mx d 191 23 ls ((.int (0)) :: st) h Q := x_push (v := (.int (0))) (len := 1) rfl
theorem s_191_23 {a : Nat} : wp V (cdT Ev) mx d 191 23 [some (.ref a), l1, l2, l3, l4, l5] st h Q = wp V (cdT Ev) mx d 191 24 [some (.ref a), l1, l2, l3, l4, l5] (.ref a :: st) h Q := x_aload (len := 1) rfl rfl
theorem s_191_23_n : wp V (cdT Ev) mx d 191 23 [some .null, l1, l2, l3, l4, l5] st h Q = wp V (cdT Ev) mx d 191 24 [some .null, l1, l2, l3, l4, l5] (.null :: st) h Q := x_aloadN (len := 1) rfl rfl
theorem s_191_24 {a : Nat} : wp V (cdT Ev) mx d 191 24 ls (.ref a :: st) h Q = gf [12] 26 h a (fun v => wp V (cdT Ev) mx d 191 27 ls (v :: st) h Q) := x_getf rfl
theorem s_191_27 {x : Int32} : wp V (cdT Ev) mx d 191 27 [l0, some (.int x), l2, l3, l4, l5] st h Q = wp V (cdT Ev) mx d 191 28 [l0, some (.int x), l2, l3, l4, l5] (.int x :: st) h Q := x_iload (len := 1) rfl rfl
theorem s_191_28 {i : Int32} {a : Nat} : wp V (cdT Ev) mx d 191 28 ls (.int i :: .ref a :: st) h Q = ai 2 i V h a (fun x => wp V (cdT Ev) mx d 191 29 ls (.int x :: st) h Q) := x_iald rfl
theorem s_191_29 : wp V (cdT Ev) mx d 191 29 ls st h Q = wp V (cdT Ev) mx d 191 30 ls ((.int (1)) :: st) h Q := x_push (v := (.int (1))) (len := 1) rfl
theorem s_191_30 {x z : Int32} : wp V (cdT Ev) mx d 191 30 ls (.int z :: .int x :: st) h Q = wp V (cdT Ev) mx d 191 31 ls (.int (x - z) :: st) h Q := x_ib (f := fun x z => x - z) rfl
theorem s_191_31 {v0 v1 v2 : Value} (hst : st.length ≤ 4) : wp V (cdT Ev) mx d 191 31 ls (v2 :: v1 :: v0 :: st) h Q = WP V (cdT Ev) mx d 123 [v0, v1, v2] h (fun r h' => wp V (cdT Ev) mx d 191 34 ls (rts r st) h' Q) := x_cs (sg := [v2, v1, v0]) rfl hst rfl rfl
theorem s_191_34 {x : Int32} : wp V (cdT Ev) mx d 191 34 ls (.int x :: st) h Q = (if ¬ x = 0 then wp V (cdT Ev) mx d 191 40 ls st h Q else wp V (cdT Ev) mx d 191 37 ls st h Q) := x_if1 (c := fun x => ¬ x = 0) rfl
theorem s_191_37 : wp V (cdT Ev) mx d 191 37 ls st h Q = wp V (cdT Ev) mx d 191 39 ls ((.int (-13)) :: st) h Q := x_push (v := (.int (-13))) (len := 2) rfl
theorem s_191_39 {x : Int32} : wp V (cdT Ev) mx d 191 39 ls [.int x] h Q = Q (some (.int x)) h := x_ret rfl rfl
theorem s_191_40 {a : Nat} : wp V (cdT Ev) mx d 191 40 [some (.ref a), l1, l2, l3, l4, l5] st h Q = wp V (cdT Ev) mx d 191 41 [some (.ref a), l1, l2, l3, l4, l5] (.ref a :: st) h Q := x_aload (len := 1) rfl rfl
theorem s_191_40_n : wp V (cdT Ev) mx d 191 40 [some .null, l1, l2, l3, l4, l5] st h Q = wp V (cdT Ev) mx d 191 41 [some .null, l1, l2, l3, l4, l5] (.null :: st) h Q := x_aloadN (len := 1) rfl rfl
theorem s_191_41 {a : Nat} : wp V (cdT Ev) mx d 191 41 ls (.ref a :: st) h Q = gf [12] 25 h a (fun v => wp V (cdT Ev) mx d 191 44 ls (v :: st) h Q) := x_getf rfl
theorem s_191_44 {x : Int32} : wp V (cdT Ev) mx d 191 44 [l0, some (.int x), l2, l3, l4, l5] st h Q = wp V (cdT Ev) mx d 191 45 [l0, some (.int x), l2, l3, l4, l5] (.int x :: st) h Q := x_iload (len := 1) rfl rfl
theorem s_191_45 {i : Int32} {a : Nat} : wp V (cdT Ev) mx d 191 45 ls (.int i :: .ref a :: st) h Q = ai 2 i V h a (fun x => wp V (cdT Ev) mx d 191 46 ls (.int x :: st) h Q) := x_iald rfl
theorem s_191_46 {x : Int32} (hn : nl l4 = true) : wp V (cdT Ev) mx d 191 46 [l0, l1, l2, l3, l4, l5] (.int x :: st) h Q = wp V (cdT Ev) mx d 191 48 [l0, l1, l2, l3, l4, some (.int x)] st h Q := x_istore (len := 2) rfl (Nat.le_of_ble_eq_true rfl) (okp_nl rfl hn) rfl
theorem s_191_48 {a : Nat} : wp V (cdT Ev) mx d 191 48 [some (.ref a), l1, l2, l3, l4, l5] st h Q = wp V (cdT Ev) mx d 191 49 [some (.ref a), l1, l2, l3, l4, l5] (.ref a :: st) h Q := x_aload (len := 1) rfl rfl
theorem s_191_48_n : wp V (cdT Ev) mx d 191 48 [some .null, l1, l2, l3, l4, l5] st h Q = wp V (cdT Ev) mx d 191 49 [some .null, l1, l2, l3, l4, l5] (.null :: st) h Q := x_aloadN (len := 1) rfl rfl
theorem s_191_49 {a : Nat} : wp V (cdT Ev) mx d 191 49 ls (.ref a :: st) h Q = gf [12] 27 h a (fun v => wp V (cdT Ev) mx d 191 52 ls (v :: st) h Q) := x_getf rfl
theorem s_191_52 : wp V (cdT Ev) mx d 191 52 ls st h Q = wp V (cdT Ev) mx d 191 54 ls ((.int (60)) :: st) h Q := x_push (v := (.int (60))) (len := 2) rfl
theorem s_191_54 {x : Int32} : wp V (cdT Ev) mx d 191 54 [l0, some (.int x), l2, l3, l4, l5] st h Q = wp V (cdT Ev) mx d 191 55 [l0, some (.int x), l2, l3, l4, l5] (.int x :: st) h Q := x_iload (len := 1) rfl rfl
theorem s_191_55 {x z : Int32} : wp V (cdT Ev) mx d 191 55 ls (.int z :: .int x :: st) h Q = wp V (cdT Ev) mx d 191 56 ls (.int (x * z) :: st) h Q := x_ib (f := fun x z => x * z) rfl
theorem s_191_56 {x : Int32} : wp V (cdT Ev) mx d 191 56 [l0, l1, some (.int x), l3, l4, l5] st h Q = wp V (cdT Ev) mx d 191 57 [l0, l1, some (.int x), l3, l4, l5] (.int x :: st) h Q := x_iload (len := 1) rfl rfl
theorem s_191_57 {x z : Int32} : wp V (cdT Ev) mx d 191 57 ls (.int z :: .int x :: st) h Q = wp V (cdT Ev) mx d 191 58 ls (.int (x + z) :: st) h Q := x_ib (f := fun x z => x + z) rfl
theorem s_191_58 {x : Int32} : wp V (cdT Ev) mx d 191 58 [l0, l1, l2, l3, l4, some (.int x)] st h Q = wp V (cdT Ev) mx d 191 60 [l0, l1, l2, l3, l4, some (.int x)] (.int x :: st) h Q := x_iload (len := 2) rfl rfl
theorem s_191_60 {x : Int32} : wp V (cdT Ev) mx d 191 60 ls (.int x :: st) h Q = (if ¬ x = 0 then wp V (cdT Ev) mx d 191 70 ls st h Q else wp V (cdT Ev) mx d 191 63 ls st h Q) := x_if1 (c := fun x => ¬ x = 0) rfl
theorem s_191_63 {x : Int64} : wp V (cdT Ev) mx d 191 63 [l0, l1, l2, some (.long x), l4, l5] st h Q = wp V (cdT Ev) mx d 191 64 [l0, l1, l2, some (.long x), l4, l5] (.long x :: st) h Q := x_lload (len := 1) rfl rfl
theorem s_191_64 {x : Int64} : wp V (cdT Ev) mx d 191 64 ls (.long x :: st) h Q = wp V (cdT Ev) mx d 191 65 ls (.int x.toInt32 :: st) h Q := x_l2i rfl
theorem s_191_65 {x : Int32} : wp V (cdT Ev) mx d 191 65 ls (.int x :: st) h Q = wp V (cdT Ev) mx d 191 66 ls (.int (x.toInt8.toInt32) :: st) h Q := x_iu (f := fun x => x.toInt8.toInt32) rfl
theorem s_191_66 {x : Int32} : wp V (cdT Ev) mx d 191 66 ls (.int x :: st) h Q = wp V (cdT Ev) mx d 191 67 ls (.long x.toInt64 :: st) h Q := x_i2l rfl
theorem s_191_67 : wp V (cdT Ev) mx d 191 67 ls st h Q = wp V (cdT Ev) mx d 191 116 ls st h Q := x_goto rfl
theorem s_191_70 {x : Int32} : wp V (cdT Ev) mx d 191 70 [l0, l1, l2, l3, l4, some (.int x)] st h Q = wp V (cdT Ev) mx d 191 72 [l0, l1, l2, l3, l4, some (.int x)] (.int x :: st) h Q := x_iload (len := 2) rfl rfl
theorem s_191_72 : wp V (cdT Ev) mx d 191 72 ls st h Q = wp V (cdT Ev) mx d 191 73 ls ((.int (1)) :: st) h Q := x_push (v := (.int (1))) (len := 1) rfl
theorem s_191_73 {x z : Int32} : wp V (cdT Ev) mx d 191 73 ls (.int z :: .int x :: st) h Q = (if ¬ x = z then wp V (cdT Ev) mx d 191 83 ls st h Q else wp V (cdT Ev) mx d 191 76 ls st h Q) := x_if2 (c := fun x z => ¬ x = z) rfl
theorem s_191_76 {x : Int64} : wp V (cdT Ev) mx d 191 76 [l0, l1, l2, some (.long x), l4, l5] st h Q = wp V (cdT Ev) mx d 191 77 [l0, l1, l2, some (.long x), l4, l5] (.long x :: st) h Q := x_lload (len := 1) rfl rfl
theorem s_191_77 {x : Int64} : wp V (cdT Ev) mx d 191 77 ls (.long x :: st) h Q = wp V (cdT Ev) mx d 191 78 ls (.int x.toInt32 :: st) h Q := x_l2i rfl
theorem s_191_78 {x : Int32} : wp V (cdT Ev) mx d 191 78 ls (.int x :: st) h Q = wp V (cdT Ev) mx d 191 79 ls (.int (x.toInt16.toInt32) :: st) h Q := x_iu (f := fun x => x.toInt16.toInt32) rfl
theorem s_191_79 {x : Int32} : wp V (cdT Ev) mx d 191 79 ls (.int x :: st) h Q = wp V (cdT Ev) mx d 191 80 ls (.long x.toInt64 :: st) h Q := x_i2l rfl
theorem s_191_80 : wp V (cdT Ev) mx d 191 80 ls st h Q = wp V (cdT Ev) mx d 191 116 ls st h Q := x_goto rfl
theorem s_191_83 {x : Int32} : wp V (cdT Ev) mx d 191 83 [l0, l1, l2, l3, l4, some (.int x)] st h Q = wp V (cdT Ev) mx d 191 85 [l0, l1, l2, l3, l4, some (.int x)] (.int x :: st) h Q := x_iload (len := 2) rfl rfl
theorem s_191_85 : wp V (cdT Ev) mx d 191 85 ls st h Q = wp V (cdT Ev) mx d 191 86 ls ((.int (2)) :: st) h Q := x_push (v := (.int (2))) (len := 1) rfl
theorem s_191_86 {x z : Int32} : wp V (cdT Ev) mx d 191 86 ls (.int z :: .int x :: st) h Q = (if ¬ x = z then wp V (cdT Ev) mx d 191 95 ls st h Q else wp V (cdT Ev) mx d 191 89 ls st h Q) := x_if2 (c := fun x z => ¬ x = z) rfl
theorem s_191_89 {x : Int64} : wp V (cdT Ev) mx d 191 89 [l0, l1, l2, some (.long x), l4, l5] st h Q = wp V (cdT Ev) mx d 191 90 [l0, l1, l2, some (.long x), l4, l5] (.long x :: st) h Q := x_lload (len := 1) rfl rfl
theorem s_191_90 {x : Int64} : wp V (cdT Ev) mx d 191 90 ls (.long x :: st) h Q = wp V (cdT Ev) mx d 191 91 ls (.int x.toInt32 :: st) h Q := x_l2i rfl
theorem s_191_91 {x : Int32} : wp V (cdT Ev) mx d 191 91 ls (.int x :: st) h Q = wp V (cdT Ev) mx d 191 92 ls (.long x.toInt64 :: st) h Q := x_i2l rfl
theorem s_191_92 : wp V (cdT Ev) mx d 191 92 ls st h Q = wp V (cdT Ev) mx d 191 116 ls st h Q := x_goto rfl
theorem s_191_95 {x : Int32} : wp V (cdT Ev) mx d 191 95 [l0, l1, l2, l3, l4, some (.int x)] st h Q = wp V (cdT Ev) mx d 191 97 [l0, l1, l2, l3, l4, some (.int x)] (.int x :: st) h Q := x_iload (len := 2) rfl rfl
theorem s_191_97 : wp V (cdT Ev) mx d 191 97 ls st h Q = wp V (cdT Ev) mx d 191 98 ls ((.int (3)) :: st) h Q := x_push (v := (.int (3))) (len := 1) rfl
theorem s_191_98 {x z : Int32} : wp V (cdT Ev) mx d 191 98 ls (.int z :: .int x :: st) h Q = (if ¬ x = z then wp V (cdT Ev) mx d 191 105 ls st h Q else wp V (cdT Ev) mx d 191 101 ls st h Q) := x_if2 (c := fun x z => ¬ x = z) rfl
theorem s_191_101 {x : Int64} : wp V (cdT Ev) mx d 191 101 [l0, l1, l2, some (.long x), l4, l5] st h Q = wp V (cdT Ev) mx d 191 102 [l0, l1, l2, some (.long x), l4, l5] (.long x :: st) h Q := x_lload (len := 1) rfl rfl
theorem s_191_102 : wp V (cdT Ev) mx d 191 102 ls st h Q = wp V (cdT Ev) mx d 191 116 ls st h Q := x_goto rfl
theorem s_191_105 {x : Int64} : wp V (cdT Ev) mx d 191 105 [l0, l1, l2, some (.long x), l4, l5] st h Q = wp V (cdT Ev) mx d 191 106 [l0, l1, l2, some (.long x), l4, l5] (.long x :: st) h Q := x_lload (len := 1) rfl rfl
theorem s_191_106 : wp V (cdT Ev) mx d 191 106 ls st h Q = wp V (cdT Ev) mx d 191 107 ls ((.long (0)) :: st) h Q := x_push (v := (.long (0))) (len := 1) rfl
theorem s_191_107 {x z : Int64} : wp V (cdT Ev) mx d 191 107 ls (.long z :: .long x :: st) h Q = wp V (cdT Ev) mx d 191 108 ls (.int (lg_cmp x z) :: st) h Q := x_lcmp rfl
theorem s_191_108 {x : Int32} : wp V (cdT Ev) mx d 191 108 ls (.int x :: st) h Q = (if x = 0 then wp V (cdT Ev) mx d 191 115 ls st h Q else wp V (cdT Ev) mx d 191 111 ls st h Q) := x_if1 (c := fun x => x = 0) rfl
theorem s_191_111 : wp V (cdT Ev) mx d 191 111 ls st h Q = wp V (cdT Ev) mx d 191 112 ls ((.long (1)) :: st) h Q := x_push (v := (.long (1))) (len := 1) rfl
theorem s_191_112 : wp V (cdT Ev) mx d 191 112 ls st h Q = wp V (cdT Ev) mx d 191 116 ls st h Q := x_goto rfl
theorem s_191_115 : wp V (cdT Ev) mx d 191 115 ls st h Q = wp V (cdT Ev) mx d 191 116 ls ((.long (0)) :: st) h Q := x_push (v := (.long (0))) (len := 1) rfl
theorem s_191_116 {x : Int64} {i : Int32} {a : Nat} : wp V (cdT Ev) mx d 191 116 ls (.long x :: .int i :: .ref a :: st) h Q = sl i x h a (fun hh => wp V (cdT Ev) mx d 191 117 ls st hh Q) := x_last rfl
theorem s_191_117 : wp V (cdT Ev) mx d 191 117 ls st h Q = wp V (cdT Ev) mx d 191 118 ls ((.int (1)) :: st) h Q := x_push (v := (.int (1))) (len := 1) rfl
theorem s_191_118 {x : Int32} : wp V (cdT Ev) mx d 191 118 ls [.int x] h Q = Q (some (.int x)) h := x_ret rfl rfl
theorem e_191 {a : Nat} {p0 : Int32} {p1 : Int32} {p2 : Int64} : WP V (cdT Ev) mx (d + 1) 191 [.ref a, .int p0, .int p1, .long p2] h Q = wp V (cdT Ev) mx d 191 0 [some (.ref a), some (.int p0), some (.int p1), some (.long p2), none, none] [] h Q := propext (WP_eq (Nat.le_of_ble_eq_true rfl))
theorem s_192_0 {x : Int32} : wp V (cdT Ev) mx d 192 0 [l0, some (.int x), l2] st h Q = wp V (cdT Ev) mx d 192 1 [l0, some (.int x), l2] (.int x :: st) h Q := x_iload (len := 1) rfl rfl
theorem s_192_1 {v0 : Value} (hst : st.length ≤ 4) : wp V (cdT Ev) mx d 192 1 ls (v0 :: st) h Q = WP V (cdT Ev) mx d 189 [v0] h (fun r h' => wp V (cdT Ev) mx d 192 4 ls (rts r st) h' Q) := x_cs (sg := [v0]) rfl hst rfl rfl
theorem s_192_4 {x : Int32} : wp V (cdT Ev) mx d 192 4 ls (.int x :: st) h Q = (if x = 0 then wp V (cdT Ev) mx d 192 37 ls st h Q else wp V (cdT Ev) mx d 192 7 ls st h Q) := x_if1 (c := fun x => x = 0) rfl
theorem s_192_7 {x : Int32} : wp V (cdT Ev) mx d 192 7 [l0, l1, some (.int x)] st h Q = wp V (cdT Ev) mx d 192 8 [l0, l1, some (.int x)] (.int x :: st) h Q := x_iload (len := 1) rfl rfl
theorem s_192_8 : wp V (cdT Ev) mx d 192 8 ls st h Q = wp V (cdT Ev) mx d 192 9 ls ((.int (0)) :: st) h Q := x_push (v := (.int (0))) (len := 1) rfl
theorem s_192_9 {a : Nat} : wp V (cdT Ev) mx d 192 9 [some (.ref a), l1, l2] st h Q = wp V (cdT Ev) mx d 192 10 [some (.ref a), l1, l2] (.ref a :: st) h Q := x_aload (len := 1) rfl rfl
theorem s_192_9_n : wp V (cdT Ev) mx d 192 9 [some .null, l1, l2] st h Q = wp V (cdT Ev) mx d 192 10 [some .null, l1, l2] (.null :: st) h Q := x_aloadN (len := 1) rfl rfl
theorem s_192_10 {a : Nat} : wp V (cdT Ev) mx d 192 10 ls (.ref a :: st) h Q = gf [12] 26 h a (fun v => wp V (cdT Ev) mx d 192 13 ls (v :: st) h Q) := x_getf rfl
theorem s_192_13 {x : Int32} : wp V (cdT Ev) mx d 192 13 [l0, some (.int x), l2] st h Q = wp V (cdT Ev) mx d 192 14 [l0, some (.int x), l2] (.int x :: st) h Q := x_iload (len := 1) rfl rfl
theorem s_192_14 {i : Int32} {a : Nat} : wp V (cdT Ev) mx d 192 14 ls (.int i :: .ref a :: st) h Q = ai 2 i V h a (fun x => wp V (cdT Ev) mx d 192 15 ls (.int x :: st) h Q) := x_iald rfl
theorem s_192_15 : wp V (cdT Ev) mx d 192 15 ls st h Q = wp V (cdT Ev) mx d 192 16 ls ((.int (1)) :: st) h Q := x_push (v := (.int (1))) (len := 1) rfl
theorem s_192_16 {x z : Int32} : wp V (cdT Ev) mx d 192 16 ls (.int z :: .int x :: st) h Q = wp V (cdT Ev) mx d 192 17 ls (.int (x - z) :: st) h Q := x_ib (f := fun x z => x - z) rfl
theorem s_192_17 {v0 v1 v2 : Value} (hst : st.length ≤ 4) : wp V (cdT Ev) mx d 192 17 ls (v2 :: v1 :: v0 :: st) h Q = WP V (cdT Ev) mx d 123 [v0, v1, v2] h (fun r h' => wp V (cdT Ev) mx d 192 20 ls (rts r st) h' Q) := x_cs (sg := [v2, v1, v0]) rfl hst rfl rfl
theorem s_192_20 {x : Int32} : wp V (cdT Ev) mx d 192 20 ls (.int x :: st) h Q = (if x = 0 then wp V (cdT Ev) mx d 192 37 ls st h Q else wp V (cdT Ev) mx d 192 23 ls st h Q) := x_if1 (c := fun x => x = 0) rfl
theorem s_192_23 {a : Nat} : wp V (cdT Ev) mx d 192 23 [some (.ref a), l1, l2] st h Q = wp V (cdT Ev) mx d 192 24 [some (.ref a), l1, l2] (.ref a :: st) h Q := x_aload (len := 1) rfl rfl
theorem s_192_23_n : wp V (cdT Ev) mx d 192 23 [some .null, l1, l2] st h Q = wp V (cdT Ev) mx d 192 24 [some .null, l1, l2] (.null :: st) h Q := x_aloadN (len := 1) rfl rfl
theorem s_192_24 {a : Nat} : wp V (cdT Ev) mx d 192 24 ls (.ref a :: st) h Q = gf [12] 27 h a (fun v => wp V (cdT Ev) mx d 192 27 ls (v :: st) h Q) := x_getf rfl
theorem s_192_27 : wp V (cdT Ev) mx d 192 27 ls st h Q = wp V (cdT Ev) mx d 192 29 ls ((.int (60)) :: st) h Q := x_push (v := (.int (60))) (len := 2) rfl
theorem s_192_29 {x : Int32} : wp V (cdT Ev) mx d 192 29 [l0, some (.int x), l2] st h Q = wp V (cdT Ev) mx d 192 30 [l0, some (.int x), l2] (.int x :: st) h Q := x_iload (len := 1) rfl rfl
theorem s_192_30 {x z : Int32} : wp V (cdT Ev) mx d 192 30 ls (.int z :: .int x :: st) h Q = wp V (cdT Ev) mx d 192 31 ls (.int (x * z) :: st) h Q := x_ib (f := fun x z => x * z) rfl
theorem s_192_31 {x : Int32} : wp V (cdT Ev) mx d 192 31 [l0, l1, some (.int x)] st h Q = wp V (cdT Ev) mx d 192 32 [l0, l1, some (.int x)] (.int x :: st) h Q := x_iload (len := 1) rfl rfl
theorem s_192_32 {x z : Int32} : wp V (cdT Ev) mx d 192 32 ls (.int z :: .int x :: st) h Q = wp V (cdT Ev) mx d 192 33 ls (.int (x + z) :: st) h Q := x_ib (f := fun x z => x + z) rfl
theorem s_192_33 {i : Int32} {a : Nat} : wp V (cdT Ev) mx d 192 33 ls (.int i :: .ref a :: st) h Q = al i h a (fun x => wp V (cdT Ev) mx d 192 34 ls (.long x :: st) h Q) := x_lald rfl
theorem s_192_34 : wp V (cdT Ev) mx d 192 34 ls st h Q = wp V (cdT Ev) mx d 192 40 ls st h Q := x_goto rfl
theorem s_192_37 : wp V (cdT Ev) mx d 192 37 ls st h Q = wp V (cdT Ev) mx d 192 40 ls ((.long (-9223372036854775808)) :: st) h Q := x_push (v := (.long (-9223372036854775808))) (len := 3) rfl
theorem s_192_40 {x : Int64} : wp V (cdT Ev) mx d 192 40 ls [.long x] h Q = Q (some (.long x)) h := x_ret rfl rfl
theorem e_192 {a : Nat} {p0 : Int32} {p1 : Int32} : WP V (cdT Ev) mx (d + 1) 192 [.ref a, .int p0, .int p1] h Q = wp V (cdT Ev) mx d 192 0 [some (.ref a), some (.int p0), some (.int p1)] [] h Q := propext (WP_eq (Nat.le_of_ble_eq_true rfl))
theorem s_193_0 {x : Int32} : wp V (cdT Ev) mx d 193 0 [l0, some (.int x), l2, l3, l4, l5, l6] st h Q = wp V (cdT Ev) mx d 193 1 [l0, some (.int x), l2, l3, l4, l5, l6] (.int x :: st) h Q := x_iload (len := 1) rfl rfl
theorem s_193_1 {v0 : Value} (hst : st.length ≤ 4) : wp V (cdT Ev) mx d 193 1 ls (v0 :: st) h Q = WP V (cdT Ev) mx d 189 [v0] h (fun r h' => wp V (cdT Ev) mx d 193 4 ls (rts r st) h' Q) := x_cs (sg := [v0]) rfl hst rfl rfl
theorem s_193_4 {x : Int32} : wp V (cdT Ev) mx d 193 4 ls (.int x :: st) h Q = (if x = 0 then wp V (cdT Ev) mx d 193 14 ls st h Q else wp V (cdT Ev) mx d 193 7 ls st h Q) := x_if1 (c := fun x => x = 0) rfl
theorem s_193_7 {x : Int32} : wp V (cdT Ev) mx d 193 7 [l0, l1, l2, some (.int x), l4, l5, l6] st h Q = wp V (cdT Ev) mx d 193 8 [l0, l1, l2, some (.int x), l4, l5, l6] (.int x :: st) h Q := x_iload (len := 1) rfl rfl
theorem s_193_8 {v0 : Value} (hst : st.length ≤ 4) : wp V (cdT Ev) mx d 193 8 ls (v0 :: st) h Q = WP V (cdT Ev) mx d 189 [v0] h (fun r h' => wp V (cdT Ev) mx d 193 11 ls (rts r st) h' Q) := x_cs (sg := [v0]) rfl hst rfl rfl
theorem s_193_11 {x : Int32} : wp V (cdT Ev) mx d 193 11 ls (.int x :: st) h Q = (if ¬ x = 0 then wp V (cdT Ev) mx d 193 16 ls st h Q else wp V (cdT Ev) mx d 193 14 ls st h Q) := x_if1 (c := fun x => ¬ x = 0) rfl
theorem s_193_14 : wp V (cdT Ev) mx d 193 14 ls st h Q = wp V (cdT Ev) mx d 193 15 ls ((.int (-1)) :: st) h Q := x_push (v := (.int (-1))) (len := 1) rfl
theorem s_193_15 {x : Int32} : wp V (cdT Ev) mx d 193 15 ls [.int x] h Q = Q (some (.int x)) h := x_ret rfl rfl
theorem s_193_16 {a : Nat} : wp V (cdT Ev) mx d 193 16 [some (.ref a), l1, l2, l3, l4, l5, l6] st h Q = wp V (cdT Ev) mx d 193 17 [some (.ref a), l1, l2, l3, l4, l5, l6] (.ref a :: st) h Q := x_aload (len := 1) rfl rfl
theorem s_193_16_n : wp V (cdT Ev) mx d 193 16 [some .null, l1, l2, l3, l4, l5, l6] st h Q = wp V (cdT Ev) mx d 193 17 [some .null, l1, l2, l3, l4, l5, l6] (.null :: st) h Q := x_aloadN (len := 1) rfl rfl
theorem s_193_17 {a : Nat} : wp V (cdT Ev) mx d 193 17 ls (.ref a :: st) h Q = gf [12] 25 h a (fun v => wp V (cdT Ev) mx d 193 20 ls (v :: st) h Q) := x_getf rfl
theorem s_193_20 {x : Int32} : wp V (cdT Ev) mx d 193 20 [l0, some (.int x), l2, l3, l4, l5, l6] st h Q = wp V (cdT Ev) mx d 193 21 [l0, some (.int x), l2, l3, l4, l5, l6] (.int x :: st) h Q := x_iload (len := 1) rfl rfl
theorem s_193_21 {i : Int32} {a : Nat} : wp V (cdT Ev) mx d 193 21 ls (.int i :: .ref a :: st) h Q = ai 2 i V h a (fun x => wp V (cdT Ev) mx d 193 22 ls (.int x :: st) h Q) := x_iald rfl
theorem s_193_22 {x : Int32} : wp V (cdT Ev) mx d 193 22 ls (.int x :: st) h Q = (if x < 0 then wp V (cdT Ev) mx d 193 34 ls st h Q else wp V (cdT Ev) mx d 193 25 ls st h Q) := x_if1 (c := fun x => x < 0) rfl
theorem s_193_25 {a : Nat} : wp V (cdT Ev) mx d 193 25 [some (.ref a), l1, l2, l3, l4, l5, l6] st h Q = wp V (cdT Ev) mx d 193 26 [some (.ref a), l1, l2, l3, l4, l5, l6] (.ref a :: st) h Q := x_aload (len := 1) rfl rfl
theorem s_193_25_n : wp V (cdT Ev) mx d 193 25 [some .null, l1, l2, l3, l4, l5, l6] st h Q = wp V (cdT Ev) mx d 193 26 [some .null, l1, l2, l3, l4, l5, l6] (.null :: st) h Q := x_aloadN (len := 1) rfl rfl
theorem s_193_26 {a : Nat} : wp V (cdT Ev) mx d 193 26 ls (.ref a :: st) h Q = gf [12] 25 h a (fun v => wp V (cdT Ev) mx d 193 29 ls (v :: st) h Q) := x_getf rfl
theorem s_193_29 {x : Int32} : wp V (cdT Ev) mx d 193 29 [l0, l1, l2, some (.int x), l4, l5, l6] st h Q = wp V (cdT Ev) mx d 193 30 [l0, l1, l2, some (.int x), l4, l5, l6] (.int x :: st) h Q := x_iload (len := 1) rfl rfl
theorem s_193_30 {i : Int32} {a : Nat} : wp V (cdT Ev) mx d 193 30 ls (.int i :: .ref a :: st) h Q = ai 2 i V h a (fun x => wp V (cdT Ev) mx d 193 31 ls (.int x :: st) h Q) := x_iald rfl
theorem s_193_31 {x : Int32} : wp V (cdT Ev) mx d 193 31 ls (.int x :: st) h Q = (if 0 ≤ x then wp V (cdT Ev) mx d 193 37 ls st h Q else wp V (cdT Ev) mx d 193 34 ls st h Q) := x_if1 (c := fun x => 0 ≤ x) rfl
theorem s_193_34 : wp V (cdT Ev) mx d 193 34 ls st h Q = wp V (cdT Ev) mx d 193 36 ls ((.int (-11)) :: st) h Q := x_push (v := (.int (-11))) (len := 2) rfl
theorem s_193_36 {x : Int32} : wp V (cdT Ev) mx d 193 36 ls [.int x] h Q = Q (some (.int x)) h := x_ret rfl rfl
theorem s_193_37 {a : Nat} : wp V (cdT Ev) mx d 193 37 [some (.ref a), l1, l2, l3, l4, l5, l6] st h Q = wp V (cdT Ev) mx d 193 38 [some (.ref a), l1, l2, l3, l4, l5, l6] (.ref a :: st) h Q := x_aload (len := 1) rfl rfl
theorem s_193_37_n : wp V (cdT Ev) mx d 193 37 [some .null, l1, l2, l3, l4, l5, l6] st h Q = wp V (cdT Ev) mx d 193 38 [some .null, l1, l2, l3, l4, l5, l6] (.null :: st) h Q := x_aloadN (len := 1) rfl rfl
theorem s_193_38 {a : Nat} : wp V (cdT Ev) mx d 193 38 ls (.ref a :: st) h Q = gf [12] 25 h a (fun v => wp V (cdT Ev) mx d 193 41 ls (v :: st) h Q) := x_getf rfl
theorem s_193_41 {x : Int32} : wp V (cdT Ev) mx d 193 41 [l0, some (.int x), l2, l3, l4, l5, l6] st h Q = wp V (cdT Ev) mx d 193 42 [l0, some (.int x), l2, l3, l4, l5, l6] (.int x :: st) h Q := x_iload (len := 1) rfl rfl
theorem s_193_42 {i : Int32} {a : Nat} : wp V (cdT Ev) mx d 193 42 ls (.int i :: .ref a :: st) h Q = ai 2 i V h a (fun x => wp V (cdT Ev) mx d 193 43 ls (.int x :: st) h Q) := x_iald rfl
theorem s_193_43 {a : Nat} : wp V (cdT Ev) mx d 193 43 [some (.ref a), l1, l2, l3, l4, l5, l6] st h Q = wp V (cdT Ev) mx d 193 44 [some (.ref a), l1, l2, l3, l4, l5, l6] (.ref a :: st) h Q := x_aload (len := 1) rfl rfl
theorem s_193_43_n : wp V (cdT Ev) mx d 193 43 [some .null, l1, l2, l3, l4, l5, l6] st h Q = wp V (cdT Ev) mx d 193 44 [some .null, l1, l2, l3, l4, l5, l6] (.null :: st) h Q := x_aloadN (len := 1) rfl rfl
theorem s_193_44 {a : Nat} : wp V (cdT Ev) mx d 193 44 ls (.ref a :: st) h Q = gf [12] 25 h a (fun v => wp V (cdT Ev) mx d 193 47 ls (v :: st) h Q) := x_getf rfl
theorem s_193_47 {x : Int32} : wp V (cdT Ev) mx d 193 47 [l0, l1, l2, some (.int x), l4, l5, l6] st h Q = wp V (cdT Ev) mx d 193 48 [l0, l1, l2, some (.int x), l4, l5, l6] (.int x :: st) h Q := x_iload (len := 1) rfl rfl
theorem s_193_48 {i : Int32} {a : Nat} : wp V (cdT Ev) mx d 193 48 ls (.int i :: .ref a :: st) h Q = ai 2 i V h a (fun x => wp V (cdT Ev) mx d 193 49 ls (.int x :: st) h Q) := x_iald rfl
theorem s_193_49 {x z : Int32} : wp V (cdT Ev) mx d 193 49 ls (.int z :: .int x :: st) h Q = (if x = z then wp V (cdT Ev) mx d 193 55 ls st h Q else wp V (cdT Ev) mx d 193 52 ls st h Q) := x_if2 (c := fun x z => x = z) rfl
theorem s_193_52 : wp V (cdT Ev) mx d 193 52 ls st h Q = wp V (cdT Ev) mx d 193 54 ls ((.int (-12)) :: st) h Q := x_push (v := (.int (-12))) (len := 2) rfl
theorem s_193_54 {x : Int32} : wp V (cdT Ev) mx d 193 54 ls [.int x] h Q = Q (some (.int x)) h := x_ret rfl rfl
theorem s_193_55 {x : Int32} : wp V (cdT Ev) mx d 193 55 [l0, l1, l2, l3, l4, some (.int x), l6] st h Q = wp V (cdT Ev) mx d 193 57 [l0, l1, l2, l3, l4, some (.int x), l6] (.int x :: st) h Q := x_iload (len := 2) rfl rfl
theorem s_193_57 {x : Int32} : wp V (cdT Ev) mx d 193 57 ls (.int x :: st) h Q = (if x < 0 then wp V (cdT Ev) mx d 193 96 ls st h Q else wp V (cdT Ev) mx d 193 60 ls st h Q) := x_if1 (c := fun x => x < 0) rfl
theorem s_193_60 {x : Int32} : wp V (cdT Ev) mx d 193 60 [l0, l1, some (.int x), l3, l4, l5, l6] st h Q = wp V (cdT Ev) mx d 193 61 [l0, l1, some (.int x), l3, l4, l5, l6] (.int x :: st) h Q := x_iload (len := 1) rfl rfl
theorem s_193_61 {x : Int32} : wp V (cdT Ev) mx d 193 61 ls (.int x :: st) h Q = (if x < 0 then wp V (cdT Ev) mx d 193 96 ls st h Q else wp V (cdT Ev) mx d 193 64 ls st h Q) := x_if1 (c := fun x => x < 0) rfl
theorem s_193_64 {x : Int32} : wp V (cdT Ev) mx d 193 64 [l0, l1, l2, l3, some (.int x), l5, l6] st h Q = wp V (cdT Ev) mx d 193 66 [l0, l1, l2, l3, some (.int x), l5, l6] (.int x :: st) h Q := x_iload (len := 2) rfl rfl
theorem s_193_66 {x : Int32} : wp V (cdT Ev) mx d 193 66 ls (.int x :: st) h Q = (if x < 0 then wp V (cdT Ev) mx d 193 96 ls st h Q else wp V (cdT Ev) mx d 193 69 ls st h Q) := x_if1 (c := fun x => x < 0) rfl
theorem s_193_69 {x : Int32} : wp V (cdT Ev) mx d 193 69 [l0, l1, l2, l3, l4, some (.int x), l6] st h Q = wp V (cdT Ev) mx d 193 71 [l0, l1, l2, l3, l4, some (.int x), l6] (.int x :: st) h Q := x_iload (len := 2) rfl rfl
theorem s_193_71 {a : Nat} : wp V (cdT Ev) mx d 193 71 [some (.ref a), l1, l2, l3, l4, l5, l6] st h Q = wp V (cdT Ev) mx d 193 72 [some (.ref a), l1, l2, l3, l4, l5, l6] (.ref a :: st) h Q := x_aload (len := 1) rfl rfl
theorem s_193_71_n : wp V (cdT Ev) mx d 193 71 [some .null, l1, l2, l3, l4, l5, l6] st h Q = wp V (cdT Ev) mx d 193 72 [some .null, l1, l2, l3, l4, l5, l6] (.null :: st) h Q := x_aloadN (len := 1) rfl rfl
theorem s_193_72 {a : Nat} : wp V (cdT Ev) mx d 193 72 ls (.ref a :: st) h Q = gf [12] 26 h a (fun v => wp V (cdT Ev) mx d 193 75 ls (v :: st) h Q) := x_getf rfl
theorem s_193_75 {x : Int32} : wp V (cdT Ev) mx d 193 75 [l0, some (.int x), l2, l3, l4, l5, l6] st h Q = wp V (cdT Ev) mx d 193 76 [l0, some (.int x), l2, l3, l4, l5, l6] (.int x :: st) h Q := x_iload (len := 1) rfl rfl
theorem s_193_76 {i : Int32} {a : Nat} : wp V (cdT Ev) mx d 193 76 ls (.int i :: .ref a :: st) h Q = ai 2 i V h a (fun x => wp V (cdT Ev) mx d 193 77 ls (.int x :: st) h Q) := x_iald rfl
theorem s_193_77 {x : Int32} : wp V (cdT Ev) mx d 193 77 [l0, l1, some (.int x), l3, l4, l5, l6] st h Q = wp V (cdT Ev) mx d 193 78 [l0, l1, some (.int x), l3, l4, l5, l6] (.int x :: st) h Q := x_iload (len := 1) rfl rfl
theorem s_193_78 {x z : Int32} : wp V (cdT Ev) mx d 193 78 ls (.int z :: .int x :: st) h Q = wp V (cdT Ev) mx d 193 79 ls (.int (x - z) :: st) h Q := x_ib (f := fun x z => x - z) rfl
theorem s_193_79 {x z : Int32} : wp V (cdT Ev) mx d 193 79 ls (.int z :: .int x :: st) h Q = (if z < x then wp V (cdT Ev) mx d 193 96 ls st h Q else wp V (cdT Ev) mx d 193 82 ls st h Q) := x_if2 (c := fun x z => z < x) rfl
theorem s_193_82 {x : Int32} : wp V (cdT Ev) mx d 193 82 [l0, l1, l2, l3, l4, some (.int x), l6] st h Q = wp V (cdT Ev) mx d 193 84 [l0, l1, l2, l3, l4, some (.int x), l6] (.int x :: st) h Q := x_iload (len := 2) rfl rfl
theorem s_193_84 {a : Nat} : wp V (cdT Ev) mx d 193 84 [some (.ref a), l1, l2, l3, l4, l5, l6] st h Q = wp V (cdT Ev) mx d 193 85 [some (.ref a), l1, l2, l3, l4, l5, l6] (.ref a :: st) h Q := x_aload (len := 1) rfl rfl
theorem s_193_84_n : wp V (cdT Ev) mx d 193 84 [some .null, l1, l2, l3, l4, l5, l6] st h Q = wp V (cdT Ev) mx d 193 85 [some .null, l1, l2, l3, l4, l5, l6] (.null :: st) h Q := x_aloadN (len := 1) rfl rfl
theorem s_193_85 {a : Nat} : wp V (cdT Ev) mx d 193 85 ls (.ref a :: st) h Q = gf [12] 26 h a (fun v => wp V (cdT Ev) mx d 193 88 ls (v :: st) h Q) := x_getf rfl
theorem s_193_88 {x : Int32} : wp V (cdT Ev) mx d 193 88 [l0, l1, l2, some (.int x), l4, l5, l6] st h Q = wp V (cdT Ev) mx d 193 89 [l0, l1, l2, some (.int x), l4, l5, l6] (.int x :: st) h Q := x_iload (len := 1) rfl rfl
theorem s_193_89 {i : Int32} {a : Nat} : wp V (cdT Ev) mx d 193 89 ls (.int i :: .ref a :: st) h Q = ai 2 i V h a (fun x => wp V (cdT Ev) mx d 193 90 ls (.int x :: st) h Q) := x_iald rfl
theorem s_193_90 {x : Int32} : wp V (cdT Ev) mx d 193 90 [l0, l1, l2, l3, some (.int x), l5, l6] st h Q = wp V (cdT Ev) mx d 193 92 [l0, l1, l2, l3, some (.int x), l5, l6] (.int x :: st) h Q := x_iload (len := 2) rfl rfl
theorem s_193_92 {x z : Int32} : wp V (cdT Ev) mx d 193 92 ls (.int z :: .int x :: st) h Q = wp V (cdT Ev) mx d 193 93 ls (.int (x - z) :: st) h Q := x_ib (f := fun x z => x - z) rfl
theorem s_193_93 {x z : Int32} : wp V (cdT Ev) mx d 193 93 ls (.int z :: .int x :: st) h Q = (if x ≤ z then wp V (cdT Ev) mx d 193 99 ls st h Q else wp V (cdT Ev) mx d 193 96 ls st h Q) := x_if2 (c := fun x z => x ≤ z) rfl
theorem s_193_96 : wp V (cdT Ev) mx d 193 96 ls st h Q = wp V (cdT Ev) mx d 193 98 ls ((.int (-13)) :: st) h Q := x_push (v := (.int (-13))) (len := 2) rfl
theorem s_193_98 {x : Int32} : wp V (cdT Ev) mx d 193 98 ls [.int x] h Q = Q (some (.int x)) h := x_ret rfl rfl
theorem s_193_99 : wp V (cdT Ev) mx d 193 99 ls st h Q = wp V (cdT Ev) mx d 193 100 ls ((.int (0)) :: st) h Q := x_push (v := (.int (0))) (len := 1) rfl
theorem s_193_100 {x : Int32} (hn : nl l5 = true) : wp V (cdT Ev) mx d 193 100 [l0, l1, l2, l3, l4, l5, l6] (.int x :: st) h Q = wp V (cdT Ev) mx d 193 102 [l0, l1, l2, l3, l4, l5, some (.int x)] st h Q := x_istore (len := 2) rfl (Nat.le_of_ble_eq_true rfl) (okp_nl rfl hn) rfl
theorem s_193_102 {x : Int32} : wp V (cdT Ev) mx d 193 102 [l0, l1, l2, l3, l4, l5, some (.int x)] st h Q = wp V (cdT Ev) mx d 193 104 [l0, l1, l2, l3, l4, l5, some (.int x)] (.int x :: st) h Q := x_iload (len := 2) rfl rfl
theorem s_193_104 {x : Int32} : wp V (cdT Ev) mx d 193 104 [l0, l1, l2, l3, l4, some (.int x), l6] st h Q = wp V (cdT Ev) mx d 193 106 [l0, l1, l2, l3, l4, some (.int x), l6] (.int x :: st) h Q := x_iload (len := 2) rfl rfl
theorem s_193_106 {x z : Int32} : wp V (cdT Ev) mx d 193 106 ls (.int z :: .int x :: st) h Q = (if z ≤ x then wp V (cdT Ev) mx d 193 136 ls st h Q else wp V (cdT Ev) mx d 193 109 ls st h Q) := x_if2 (c := fun x z => z ≤ x) rfl
theorem s_193_109 {a : Nat} : wp V (cdT Ev) mx d 193 109 [some (.ref a), l1, l2, l3, l4, l5, l6] st h Q = wp V (cdT Ev) mx d 193 110 [some (.ref a), l1, l2, l3, l4, l5, l6] (.ref a :: st) h Q := x_aload (len := 1) rfl rfl
theorem s_193_109_n : wp V (cdT Ev) mx d 193 109 [some .null, l1, l2, l3, l4, l5, l6] st h Q = wp V (cdT Ev) mx d 193 110 [some .null, l1, l2, l3, l4, l5, l6] (.null :: st) h Q := x_aloadN (len := 1) rfl rfl
theorem s_193_110 {a : Nat} : wp V (cdT Ev) mx d 193 110 ls (.ref a :: st) h Q = gf [12] 28 h a (fun v => wp V (cdT Ev) mx d 193 113 ls (v :: st) h Q) := x_getf rfl
theorem s_193_113 {x : Int32} : wp V (cdT Ev) mx d 193 113 [l0, l1, l2, l3, l4, l5, some (.int x)] st h Q = wp V (cdT Ev) mx d 193 115 [l0, l1, l2, l3, l4, l5, some (.int x)] (.int x :: st) h Q := x_iload (len := 2) rfl rfl
theorem s_193_115 {a : Nat} : wp V (cdT Ev) mx d 193 115 [some (.ref a), l1, l2, l3, l4, l5, l6] st h Q = wp V (cdT Ev) mx d 193 116 [some (.ref a), l1, l2, l3, l4, l5, l6] (.ref a :: st) h Q := x_aload (len := 1) rfl rfl
theorem s_193_115_n : wp V (cdT Ev) mx d 193 115 [some .null, l1, l2, l3, l4, l5, l6] st h Q = wp V (cdT Ev) mx d 193 116 [some .null, l1, l2, l3, l4, l5, l6] (.null :: st) h Q := x_aloadN (len := 1) rfl rfl
theorem s_193_116 {a : Nat} : wp V (cdT Ev) mx d 193 116 ls (.ref a :: st) h Q = gf [12] 27 h a (fun v => wp V (cdT Ev) mx d 193 119 ls (v :: st) h Q) := x_getf rfl
theorem s_193_119 : wp V (cdT Ev) mx d 193 119 ls st h Q = wp V (cdT Ev) mx d 193 121 ls ((.int (60)) :: st) h Q := x_push (v := (.int (60))) (len := 2) rfl
theorem s_193_121 {x : Int32} : wp V (cdT Ev) mx d 193 121 [l0, some (.int x), l2, l3, l4, l5, l6] st h Q = wp V (cdT Ev) mx d 193 122 [l0, some (.int x), l2, l3, l4, l5, l6] (.int x :: st) h Q := x_iload (len := 1) rfl rfl
theorem s_193_122 {x z : Int32} : wp V (cdT Ev) mx d 193 122 ls (.int z :: .int x :: st) h Q = wp V (cdT Ev) mx d 193 123 ls (.int (x * z) :: st) h Q := x_ib (f := fun x z => x * z) rfl
theorem s_193_123 {x : Int32} : wp V (cdT Ev) mx d 193 123 [l0, l1, some (.int x), l3, l4, l5, l6] st h Q = wp V (cdT Ev) mx d 193 124 [l0, l1, some (.int x), l3, l4, l5, l6] (.int x :: st) h Q := x_iload (len := 1) rfl rfl
theorem s_193_124 {x z : Int32} : wp V (cdT Ev) mx d 193 124 ls (.int z :: .int x :: st) h Q = wp V (cdT Ev) mx d 193 125 ls (.int (x + z) :: st) h Q := x_ib (f := fun x z => x + z) rfl
theorem s_193_125 {x : Int32} : wp V (cdT Ev) mx d 193 125 [l0, l1, l2, l3, l4, l5, some (.int x)] st h Q = wp V (cdT Ev) mx d 193 127 [l0, l1, l2, l3, l4, l5, some (.int x)] (.int x :: st) h Q := x_iload (len := 2) rfl rfl
theorem s_193_127 {x z : Int32} : wp V (cdT Ev) mx d 193 127 ls (.int z :: .int x :: st) h Q = wp V (cdT Ev) mx d 193 128 ls (.int (x + z) :: st) h Q := x_ib (f := fun x z => x + z) rfl
theorem s_193_128 {i : Int32} {a : Nat} : wp V (cdT Ev) mx d 193 128 ls (.int i :: .ref a :: st) h Q = al i h a (fun x => wp V (cdT Ev) mx d 193 129 ls (.long x :: st) h Q) := x_lald rfl
theorem s_193_129 {x : Int64} {i : Int32} {a : Nat} : wp V (cdT Ev) mx d 193 129 ls (.long x :: .int i :: .ref a :: st) h Q = sl i x h a (fun hh => wp V (cdT Ev) mx d 193 130 ls st hh Q) := x_last rfl
theorem s_193_130 {x : Int32} : wp V (cdT Ev) mx d 193 130 [l0, l1, l2, l3, l4, l5, some (.int x)] st h Q = wp V (cdT Ev) mx d 193 133 [l0, l1, l2, l3, l4, l5, some (.int (x + (1)))] st h Q := x_iinc rfl rfl rfl
theorem s_193_133 : wp V (cdT Ev) mx d 193 133 ls st h Q = wp V (cdT Ev) mx d 193 102 ls st h Q := x_goto rfl
theorem s_193_136 : wp V (cdT Ev) mx d 193 136 ls st h Q = wp V (cdT Ev) mx d 193 137 ls ((.int (0)) :: st) h Q := x_push (v := (.int (0))) (len := 1) rfl
theorem s_193_137 {x : Int32} (hn : nl l5 = true) : wp V (cdT Ev) mx d 193 137 [l0, l1, l2, l3, l4, l5, l6] (.int x :: st) h Q = wp V (cdT Ev) mx d 193 139 [l0, l1, l2, l3, l4, l5, some (.int x)] st h Q := x_istore (len := 2) rfl (Nat.le_of_ble_eq_true rfl) (okp_nl rfl hn) rfl
theorem s_193_139 {x : Int32} : wp V (cdT Ev) mx d 193 139 [l0, l1, l2, l3, l4, l5, some (.int x)] st h Q = wp V (cdT Ev) mx d 193 141 [l0, l1, l2, l3, l4, l5, some (.int x)] (.int x :: st) h Q := x_iload (len := 2) rfl rfl
theorem s_193_141 {x : Int32} : wp V (cdT Ev) mx d 193 141 [l0, l1, l2, l3, l4, some (.int x), l6] st h Q = wp V (cdT Ev) mx d 193 143 [l0, l1, l2, l3, l4, some (.int x), l6] (.int x :: st) h Q := x_iload (len := 2) rfl rfl
theorem s_193_143 {x z : Int32} : wp V (cdT Ev) mx d 193 143 ls (.int z :: .int x :: st) h Q = (if z ≤ x then wp V (cdT Ev) mx d 193 174 ls st h Q else wp V (cdT Ev) mx d 193 146 ls st h Q) := x_if2 (c := fun x z => z ≤ x) rfl
theorem s_193_146 {a : Nat} : wp V (cdT Ev) mx d 193 146 [some (.ref a), l1, l2, l3, l4, l5, l6] st h Q = wp V (cdT Ev) mx d 193 147 [some (.ref a), l1, l2, l3, l4, l5, l6] (.ref a :: st) h Q := x_aload (len := 1) rfl rfl
theorem s_193_146_n : wp V (cdT Ev) mx d 193 146 [some .null, l1, l2, l3, l4, l5, l6] st h Q = wp V (cdT Ev) mx d 193 147 [some .null, l1, l2, l3, l4, l5, l6] (.null :: st) h Q := x_aloadN (len := 1) rfl rfl
theorem s_193_147 {a : Nat} : wp V (cdT Ev) mx d 193 147 ls (.ref a :: st) h Q = gf [12] 27 h a (fun v => wp V (cdT Ev) mx d 193 150 ls (v :: st) h Q) := x_getf rfl
theorem s_193_150 : wp V (cdT Ev) mx d 193 150 ls st h Q = wp V (cdT Ev) mx d 193 152 ls ((.int (60)) :: st) h Q := x_push (v := (.int (60))) (len := 2) rfl
theorem s_193_152 {x : Int32} : wp V (cdT Ev) mx d 193 152 [l0, l1, l2, some (.int x), l4, l5, l6] st h Q = wp V (cdT Ev) mx d 193 153 [l0, l1, l2, some (.int x), l4, l5, l6] (.int x :: st) h Q := x_iload (len := 1) rfl rfl
theorem s_193_153 {x z : Int32} : wp V (cdT Ev) mx d 193 153 ls (.int z :: .int x :: st) h Q = wp V (cdT Ev) mx d 193 154 ls (.int (x * z) :: st) h Q := x_ib (f := fun x z => x * z) rfl
theorem s_193_154 {x : Int32} : wp V (cdT Ev) mx d 193 154 [l0, l1, l2, l3, some (.int x), l5, l6] st h Q = wp V (cdT Ev) mx d 193 156 [l0, l1, l2, l3, some (.int x), l5, l6] (.int x :: st) h Q := x_iload (len := 2) rfl rfl
theorem s_193_156 {x z : Int32} : wp V (cdT Ev) mx d 193 156 ls (.int z :: .int x :: st) h Q = wp V (cdT Ev) mx d 193 157 ls (.int (x + z) :: st) h Q := x_ib (f := fun x z => x + z) rfl
theorem s_193_157 {x : Int32} : wp V (cdT Ev) mx d 193 157 [l0, l1, l2, l3, l4, l5, some (.int x)] st h Q = wp V (cdT Ev) mx d 193 159 [l0, l1, l2, l3, l4, l5, some (.int x)] (.int x :: st) h Q := x_iload (len := 2) rfl rfl
theorem s_193_159 {x z : Int32} : wp V (cdT Ev) mx d 193 159 ls (.int z :: .int x :: st) h Q = wp V (cdT Ev) mx d 193 160 ls (.int (x + z) :: st) h Q := x_ib (f := fun x z => x + z) rfl
theorem s_193_160 {a : Nat} : wp V (cdT Ev) mx d 193 160 [some (.ref a), l1, l2, l3, l4, l5, l6] st h Q = wp V (cdT Ev) mx d 193 161 [some (.ref a), l1, l2, l3, l4, l5, l6] (.ref a :: st) h Q := x_aload (len := 1) rfl rfl
theorem s_193_160_n : wp V (cdT Ev) mx d 193 160 [some .null, l1, l2, l3, l4, l5, l6] st h Q = wp V (cdT Ev) mx d 193 161 [some .null, l1, l2, l3, l4, l5, l6] (.null :: st) h Q := x_aloadN (len := 1) rfl rfl
theorem s_193_161 {a : Nat} : wp V (cdT Ev) mx d 193 161 ls (.ref a :: st) h Q = gf [12] 28 h a (fun v => wp V (cdT Ev) mx d 193 164 ls (v :: st) h Q) := x_getf rfl
theorem s_193_164 {x : Int32} : wp V (cdT Ev) mx d 193 164 [l0, l1, l2, l3, l4, l5, some (.int x)] st h Q = wp V (cdT Ev) mx d 193 166 [l0, l1, l2, l3, l4, l5, some (.int x)] (.int x :: st) h Q := x_iload (len := 2) rfl rfl
theorem s_193_166 {i : Int32} {a : Nat} : wp V (cdT Ev) mx d 193 166 ls (.int i :: .ref a :: st) h Q = al i h a (fun x => wp V (cdT Ev) mx d 193 167 ls (.long x :: st) h Q) := x_lald rfl
theorem s_193_167 {x : Int64} {i : Int32} {a : Nat} : wp V (cdT Ev) mx d 193 167 ls (.long x :: .int i :: .ref a :: st) h Q = sl i x h a (fun hh => wp V (cdT Ev) mx d 193 168 ls st hh Q) := x_last rfl
theorem s_193_168 {x : Int32} : wp V (cdT Ev) mx d 193 168 [l0, l1, l2, l3, l4, l5, some (.int x)] st h Q = wp V (cdT Ev) mx d 193 171 [l0, l1, l2, l3, l4, l5, some (.int (x + (1)))] st h Q := x_iinc rfl rfl rfl
theorem s_193_171 : wp V (cdT Ev) mx d 193 171 ls st h Q = wp V (cdT Ev) mx d 193 139 ls st h Q := x_goto rfl
theorem s_193_174 {x : Int32} : wp V (cdT Ev) mx d 193 174 [l0, l1, l2, l3, l4, some (.int x), l6] st h Q = wp V (cdT Ev) mx d 193 176 [l0, l1, l2, l3, l4, some (.int x), l6] (.int x :: st) h Q := x_iload (len := 2) rfl rfl
theorem s_193_176 {x : Int32} : wp V (cdT Ev) mx d 193 176 ls [.int x] h Q = Q (some (.int x)) h := x_ret rfl rfl
theorem e_193 {a : Nat} {p0 : Int32} {p1 : Int32} {p2 : Int32} {p3 : Int32} {p4 : Int32} : WP V (cdT Ev) mx (d + 1) 193 [.ref a, .int p0, .int p1, .int p2, .int p3, .int p4] h Q = wp V (cdT Ev) mx d 193 0 [some (.ref a), some (.int p0), some (.int p1), some (.int p2), some (.int p3), some (.int p4), none] [] h Q := propext (WP_eq (Nat.le_of_ble_eq_true rfl))
theorem s_194_0 {x : Int32} : wp V (cdT Ev) mx d 194 0 [l0, some (.int x), l2, l3, l4, l5] st h Q = wp V (cdT Ev) mx d 194 1 [l0, some (.int x), l2, l3, l4, l5] (.int x :: st) h Q := x_iload (len := 1) rfl rfl
theorem s_194_1 {v0 : Value} (hst : st.length ≤ 4) : wp V (cdT Ev) mx d 194 1 ls (v0 :: st) h Q = WP V (cdT Ev) mx d 189 [v0] h (fun r h' => wp V (cdT Ev) mx d 194 4 ls (rts r st) h' Q) := x_cs (sg := [v0]) rfl hst rfl rfl
theorem s_194_4 {x : Int32} : wp V (cdT Ev) mx d 194 4 ls (.int x :: st) h Q = (if ¬ x = 0 then wp V (cdT Ev) mx d 194 9 ls st h Q else wp V (cdT Ev) mx d 194 7 ls st h Q) := x_if1 (c := fun x => ¬ x = 0) rfl
theorem s_194_7 : wp V (cdT Ev) mx d 194 7 ls st h Q = wp V (cdT Ev) mx d 194 8 ls ((.int (-1)) :: st) h Q := x_push (v := (.int (-1))) (len := 1) rfl
theorem s_194_8 {x : Int32} : wp V (cdT Ev) mx d 194 8 ls [.int x] h Q = Q (some (.int x)) h := x_ret rfl rfl
theorem s_194_9 {a : Nat} : wp V (cdT Ev) mx d 194 9 [some (.ref a), l1, l2, l3, l4, l5] st h Q = wp V (cdT Ev) mx d 194 10 [some (.ref a), l1, l2, l3, l4, l5] (.ref a :: st) h Q := x_aload (len := 1) rfl rfl
theorem s_194_9_n : wp V (cdT Ev) mx d 194 9 [some .null, l1, l2, l3, l4, l5] st h Q = wp V (cdT Ev) mx d 194 10 [some .null, l1, l2, l3, l4, l5] (.null :: st) h Q := x_aloadN (len := 1) rfl rfl
theorem s_194_10 {a : Nat} : wp V (cdT Ev) mx d 194 10 ls (.ref a :: st) h Q = gf [12] 25 h a (fun v => wp V (cdT Ev) mx d 194 13 ls (v :: st) h Q) := x_getf rfl
theorem s_194_13 {x : Int32} : wp V (cdT Ev) mx d 194 13 [l0, some (.int x), l2, l3, l4, l5] st h Q = wp V (cdT Ev) mx d 194 14 [l0, some (.int x), l2, l3, l4, l5] (.int x :: st) h Q := x_iload (len := 1) rfl rfl
theorem s_194_14 {i : Int32} {a : Nat} : wp V (cdT Ev) mx d 194 14 ls (.int i :: .ref a :: st) h Q = ai 2 i V h a (fun x => wp V (cdT Ev) mx d 194 15 ls (.int x :: st) h Q) := x_iald rfl
theorem s_194_15 : wp V (cdT Ev) mx d 194 15 ls st h Q = wp V (cdT Ev) mx d 194 16 ls ((.int (-1)) :: st) h Q := x_push (v := (.int (-1))) (len := 1) rfl
theorem s_194_16 {x z : Int32} : wp V (cdT Ev) mx d 194 16 ls (.int z :: .int x :: st) h Q = (if x = z then wp V (cdT Ev) mx d 194 32 ls st h Q else wp V (cdT Ev) mx d 194 19 ls st h Q) := x_if2 (c := fun x z => x = z) rfl
theorem s_194_19 {a : Nat} : wp V (cdT Ev) mx d 194 19 [some (.ref a), l1, l2, l3, l4, l5] st h Q = wp V (cdT Ev) mx d 194 20 [some (.ref a), l1, l2, l3, l4, l5] (.ref a :: st) h Q := x_aload (len := 1) rfl rfl
theorem s_194_19_n : wp V (cdT Ev) mx d 194 19 [some .null, l1, l2, l3, l4, l5] st h Q = wp V (cdT Ev) mx d 194 20 [some .null, l1, l2, l3, l4, l5] (.null :: st) h Q := x_aloadN (len := 1) rfl rfl
theorem s_194_20 {a : Nat} : wp V (cdT Ev) mx d 194 20 ls (.ref a :: st) h Q = gf [12] 25 h a (fun v => wp V (cdT Ev) mx d 194 23 ls (v :: st) h Q) := x_getf rfl
theorem s_194_23 {x : Int32} : wp V (cdT Ev) mx d 194 23 [l0, some (.int x), l2, l3, l4, l5] st h Q = wp V (cdT Ev) mx d 194 24 [l0, some (.int x), l2, l3, l4, l5] (.int x :: st) h Q := x_iload (len := 1) rfl rfl
theorem s_194_24 {i : Int32} {a : Nat} : wp V (cdT Ev) mx d 194 24 ls (.int i :: .ref a :: st) h Q = ai 2 i V h a (fun x => wp V (cdT Ev) mx d 194 25 ls (.int x :: st) h Q) := x_iald rfl
theorem s_194_25 : wp V (cdT Ev) mx d 194 25 ls st h Q = wp V (cdT Ev) mx d 194 26 ls ((.int (3)) :: st) h Q := x_push (v := (.int (3))) (len := 1) rfl
theorem s_194_26 {x z : Int32} : wp V (cdT Ev) mx d 194 26 ls (.int z :: .int x :: st) h Q = (if x = z then wp V (cdT Ev) mx d 194 32 ls st h Q else wp V (cdT Ev) mx d 194 29 ls st h Q) := x_if2 (c := fun x z => x = z) rfl
theorem s_194_29 : wp V (cdT Ev) mx d 194 29 ls st h Q = wp V (cdT Ev) mx d 194 31 ls ((.int (-12)) :: st) h Q := x_push (v := (.int (-12))) (len := 2) rfl
theorem s_194_31 {x : Int32} : wp V (cdT Ev) mx d 194 31 ls [.int x] h Q = Q (some (.int x)) h := x_ret rfl rfl
theorem s_194_32 : wp V (cdT Ev) mx d 194 32 ls st h Q = wp V (cdT Ev) mx d 194 33 ls ((.int (0)) :: st) h Q := x_push (v := (.int (0))) (len := 1) rfl
theorem s_194_33 {x : Int32} (hn : nl l2 = true) : wp V (cdT Ev) mx d 194 33 [l0, l1, l2, l3, l4, l5] (.int x :: st) h Q = wp V (cdT Ev) mx d 194 34 [l0, l1, l2, some (.int x), l4, l5] st h Q := x_istore (len := 1) rfl (Nat.le_of_ble_eq_true rfl) (okp_nl rfl hn) rfl
theorem s_194_34 {x : Int32} : wp V (cdT Ev) mx d 194 34 [l0, l1, l2, some (.int x), l4, l5] st h Q = wp V (cdT Ev) mx d 194 35 [l0, l1, l2, some (.int x), l4, l5] (.int x :: st) h Q := x_iload (len := 1) rfl rfl
theorem s_194_35 : wp V (cdT Ev) mx d 194 35 ls st h Q = wp V (cdT Ev) mx d 194 37 ls ((.int (12)) :: st) h Q := x_push (v := (.int (12))) (len := 2) rfl
theorem s_194_37 {x z : Int32} : wp V (cdT Ev) mx d 194 37 ls (.int z :: .int x :: st) h Q = (if z ≤ x then wp V (cdT Ev) mx d 194 101 ls st h Q else wp V (cdT Ev) mx d 194 40 ls st h Q) := x_if2 (c := fun x z => z ≤ x) rfl
theorem s_194_40 {x : Int32} : wp V (cdT Ev) mx d 194 40 [l0, l1, some (.int x), l3, l4, l5] st h Q = wp V (cdT Ev) mx d 194 41 [l0, l1, some (.int x), l3, l4, l5] (.int x :: st) h Q := x_iload (len := 1) rfl rfl
theorem s_194_41 {x : Int32} : wp V (cdT Ev) mx d 194 41 ls (.int x :: st) h Q = wp V (cdT Ev) mx d 194 42 ls (.long x.toInt64 :: st) h Q := x_i2l rfl
theorem s_194_42 {x : Int32} : wp V (cdT Ev) mx d 194 42 [l0, l1, l2, some (.int x), l4, l5] st h Q = wp V (cdT Ev) mx d 194 43 [l0, l1, l2, some (.int x), l4, l5] (.int x :: st) h Q := x_iload (len := 1) rfl rfl
theorem s_194_43 {x : Int32} : wp V (cdT Ev) mx d 194 43 ls (.int x :: st) h Q = wp V (cdT Ev) mx d 194 44 ls (.long x.toInt64 :: st) h Q := x_i2l rfl
theorem s_194_44 {x z : Int64} : wp V (cdT Ev) mx d 194 44 ls (.long z :: .long x :: st) h Q = wp V (cdT Ev) mx d 194 45 ls (.long (x + z) :: st) h Q := x_lb (f := fun x z => x + z) rfl
theorem s_194_45 {x : Int64} (hn : nl l3 = true) : wp V (cdT Ev) mx d 194 45 [l0, l1, l2, l3, l4, l5] (.long x :: st) h Q = wp V (cdT Ev) mx d 194 47 [l0, l1, l2, l3, some (.long x), none] st h Q := x_lstore (len := 2) rfl (Nat.le_of_ble_eq_true rfl) (okp_nl rfl hn) rfl
theorem s_194_47 {x : Int32} : wp V (cdT Ev) mx d 194 47 [l0, l1, some (.int x), l3, l4, l5] st h Q = wp V (cdT Ev) mx d 194 48 [l0, l1, some (.int x), l3, l4, l5] (.int x :: st) h Q := x_iload (len := 1) rfl rfl
theorem s_194_48 {x : Int32} : wp V (cdT Ev) mx d 194 48 ls (.int x :: st) h Q = (if x < 0 then wp V (cdT Ev) mx d 194 64 ls st h Q else wp V (cdT Ev) mx d 194 51 ls st h Q) := x_if1 (c := fun x => x < 0) rfl
theorem s_194_51 {x : Int64} : wp V (cdT Ev) mx d 194 51 [l0, l1, l2, l3, some (.long x), l5] st h Q = wp V (cdT Ev) mx d 194 53 [l0, l1, l2, l3, some (.long x), l5] (.long x :: st) h Q := x_lload (len := 2) rfl rfl
theorem s_194_53 {a : Nat} : wp V (cdT Ev) mx d 194 53 [some (.ref a), l1, l2, l3, l4, l5] st h Q = wp V (cdT Ev) mx d 194 54 [some (.ref a), l1, l2, l3, l4, l5] (.ref a :: st) h Q := x_aload (len := 1) rfl rfl
theorem s_194_53_n : wp V (cdT Ev) mx d 194 53 [some .null, l1, l2, l3, l4, l5] st h Q = wp V (cdT Ev) mx d 194 54 [some .null, l1, l2, l3, l4, l5] (.null :: st) h Q := x_aloadN (len := 1) rfl rfl
theorem s_194_54 {a : Nat} : wp V (cdT Ev) mx d 194 54 ls (.ref a :: st) h Q = gf [12] 26 h a (fun v => wp V (cdT Ev) mx d 194 57 ls (v :: st) h Q) := x_getf rfl
theorem s_194_57 {x : Int32} : wp V (cdT Ev) mx d 194 57 [l0, some (.int x), l2, l3, l4, l5] st h Q = wp V (cdT Ev) mx d 194 58 [l0, some (.int x), l2, l3, l4, l5] (.int x :: st) h Q := x_iload (len := 1) rfl rfl
theorem s_194_58 {i : Int32} {a : Nat} : wp V (cdT Ev) mx d 194 58 ls (.int i :: .ref a :: st) h Q = ai 2 i V h a (fun x => wp V (cdT Ev) mx d 194 59 ls (.int x :: st) h Q) := x_iald rfl
theorem s_194_59 {x : Int32} : wp V (cdT Ev) mx d 194 59 ls (.int x :: st) h Q = wp V (cdT Ev) mx d 194 60 ls (.long x.toInt64 :: st) h Q := x_i2l rfl
theorem s_194_60 {x z : Int64} : wp V (cdT Ev) mx d 194 60 ls (.long z :: .long x :: st) h Q = wp V (cdT Ev) mx d 194 61 ls (.int (lg_cmp x z) :: st) h Q := x_lcmp rfl
theorem s_194_61 {x : Int32} : wp V (cdT Ev) mx d 194 61 ls (.int x :: st) h Q = (if x < 0 then wp V (cdT Ev) mx d 194 69 ls st h Q else wp V (cdT Ev) mx d 194 64 ls st h Q) := x_if1 (c := fun x => x < 0) rfl
theorem s_194_64 : wp V (cdT Ev) mx d 194 64 ls st h Q = wp V (cdT Ev) mx d 194 66 ls ((.int (100)) :: st) h Q := x_push (v := (.int (100))) (len := 2) rfl
theorem s_194_66 {x : Int32} : wp V (cdT Ev) mx d 194 66 [l0, l1, l2, some (.int x), l4, l5] st h Q = wp V (cdT Ev) mx d 194 67 [l0, l1, l2, some (.int x), l4, l5] (.int x :: st) h Q := x_iload (len := 1) rfl rfl
theorem s_194_67 {x z : Int32} : wp V (cdT Ev) mx d 194 67 ls (.int z :: .int x :: st) h Q = wp V (cdT Ev) mx d 194 68 ls (.int (x + z) :: st) h Q := x_ib (f := fun x z => x + z) rfl
theorem s_194_68 {x : Int32} : wp V (cdT Ev) mx d 194 68 ls [.int x] h Q = Q (some (.int x)) h := x_ret rfl rfl
theorem s_194_69 {a : Nat} : wp V (cdT Ev) mx d 194 69 [some (.ref a), l1, l2, l3, l4, l5] st h Q = wp V (cdT Ev) mx d 194 70 [some (.ref a), l1, l2, l3, l4, l5] (.ref a :: st) h Q := x_aload (len := 1) rfl rfl
theorem s_194_69_n : wp V (cdT Ev) mx d 194 69 [some .null, l1, l2, l3, l4, l5] st h Q = wp V (cdT Ev) mx d 194 70 [some .null, l1, l2, l3, l4, l5] (.null :: st) h Q := x_aloadN (len := 1) rfl rfl
theorem s_194_70 {a : Nat} : wp V (cdT Ev) mx d 194 70 ls (.ref a :: st) h Q = gf [12] 27 h a (fun v => wp V (cdT Ev) mx d 194 73 ls (v :: st) h Q) := x_getf rfl
theorem s_194_73 : wp V (cdT Ev) mx d 194 73 ls st h Q = wp V (cdT Ev) mx d 194 75 ls ((.int (60)) :: st) h Q := x_push (v := (.int (60))) (len := 2) rfl
theorem s_194_75 {x : Int32} : wp V (cdT Ev) mx d 194 75 [l0, some (.int x), l2, l3, l4, l5] st h Q = wp V (cdT Ev) mx d 194 76 [l0, some (.int x), l2, l3, l4, l5] (.int x :: st) h Q := x_iload (len := 1) rfl rfl
theorem s_194_76 {x z : Int32} : wp V (cdT Ev) mx d 194 76 ls (.int z :: .int x :: st) h Q = wp V (cdT Ev) mx d 194 77 ls (.int (x * z) :: st) h Q := x_ib (f := fun x z => x * z) rfl
theorem s_194_77 {x : Int64} : wp V (cdT Ev) mx d 194 77 [l0, l1, l2, l3, some (.long x), l5] st h Q = wp V (cdT Ev) mx d 194 79 [l0, l1, l2, l3, some (.long x), l5] (.long x :: st) h Q := x_lload (len := 2) rfl rfl
theorem s_194_79 {x : Int64} : wp V (cdT Ev) mx d 194 79 ls (.long x :: st) h Q = wp V (cdT Ev) mx d 194 80 ls (.int x.toInt32 :: st) h Q := x_l2i rfl
theorem s_194_80 {x z : Int32} : wp V (cdT Ev) mx d 194 80 ls (.int z :: .int x :: st) h Q = wp V (cdT Ev) mx d 194 81 ls (.int (x + z) :: st) h Q := x_ib (f := fun x z => x + z) rfl
theorem s_194_81 {i : Int32} {a : Nat} : wp V (cdT Ev) mx d 194 81 ls (.int i :: .ref a :: st) h Q = al i h a (fun x => wp V (cdT Ev) mx d 194 82 ls (.long x :: st) h Q) := x_lald rfl
theorem s_194_82 {a : Nat} : wp V (cdT Ev) mx d 194 82 [some (.ref a), l1, l2, l3, l4, l5] st h Q = wp V (cdT Ev) mx d 194 83 [some (.ref a), l1, l2, l3, l4, l5] (.ref a :: st) h Q := x_aload (len := 1) rfl rfl
theorem s_194_82_n : wp V (cdT Ev) mx d 194 82 [some .null, l1, l2, l3, l4, l5] st h Q = wp V (cdT Ev) mx d 194 83 [some .null, l1, l2, l3, l4, l5] (.null :: st) h Q := x_aloadN (len := 1) rfl rfl
theorem s_194_83 {a : Nat} : wp V (cdT Ev) mx d 194 83 ls (.ref a :: st) h Q = gf [12] 0 h a (fun v => wp V (cdT Ev) mx d 194 86 ls (v :: st) h Q) := x_getf rfl
theorem s_194_86 {x : Int32} : wp V (cdT Ev) mx d 194 86 [l0, l1, l2, some (.int x), l4, l5] st h Q = wp V (cdT Ev) mx d 194 87 [l0, l1, l2, some (.int x), l4, l5] (.int x :: st) h Q := x_iload (len := 1) rfl rfl
theorem s_194_87 {i : Int32} {a : Nat} : wp V (cdT Ev) mx d 194 87 ls (.int i :: .ref a :: st) h Q = ai 2 i V h a (fun x => wp V (cdT Ev) mx d 194 88 ls (.int x :: st) h Q) := x_iald rfl
theorem s_194_88 {x : Int32} : wp V (cdT Ev) mx d 194 88 ls (.int x :: st) h Q = wp V (cdT Ev) mx d 194 89 ls (.long x.toInt64 :: st) h Q := x_i2l rfl
theorem s_194_89 {x z : Int64} : wp V (cdT Ev) mx d 194 89 ls (.long z :: .long x :: st) h Q = wp V (cdT Ev) mx d 194 90 ls (.int (lg_cmp x z) :: st) h Q := x_lcmp rfl
theorem s_194_90 {x : Int32} : wp V (cdT Ev) mx d 194 90 ls (.int x :: st) h Q = (if x = 0 then wp V (cdT Ev) mx d 194 95 ls st h Q else wp V (cdT Ev) mx d 194 93 ls st h Q) := x_if1 (c := fun x => x = 0) rfl
theorem s_194_93 {x : Int32} : wp V (cdT Ev) mx d 194 93 [l0, l1, l2, some (.int x), l4, l5] st h Q = wp V (cdT Ev) mx d 194 94 [l0, l1, l2, some (.int x), l4, l5] (.int x :: st) h Q := x_iload (len := 1) rfl rfl
theorem s_194_94 {x : Int32} : wp V (cdT Ev) mx d 194 94 ls [.int x] h Q = Q (some (.int x)) h := x_ret rfl rfl
theorem s_194_95 {x : Int32} : wp V (cdT Ev) mx d 194 95 [l0, l1, l2, some (.int x), l4, l5] st h Q = wp V (cdT Ev) mx d 194 98 [l0, l1, l2, some (.int (x + (1))), l4, l5] st h Q := x_iinc rfl rfl rfl
theorem s_194_98 : wp V (cdT Ev) mx d 194 98 ls st h Q = wp V (cdT Ev) mx d 194 34 ls st h Q := x_goto rfl
theorem s_194_101 : wp V (cdT Ev) mx d 194 101 ls st h Q = wp V (cdT Ev) mx d 194 103 ls ((.int (-5)) :: st) h Q := x_push (v := (.int (-5))) (len := 2) rfl
theorem s_194_103 {x : Int32} : wp V (cdT Ev) mx d 194 103 ls [.int x] h Q = Q (some (.int x)) h := x_ret rfl rfl
theorem e_194 {a : Nat} {p0 : Int32} {p1 : Int32} : WP V (cdT Ev) mx (d + 1) 194 [.ref a, .int p0, .int p1] h Q = wp V (cdT Ev) mx d 194 0 [some (.ref a), some (.int p0), some (.int p1), none, none, none] [] h Q := propext (WP_eq (Nat.le_of_ble_eq_true rfl))
end
