/-! Steps, by program. -/
section
variable {V : Nat → Option AE} {Ev : Nat → Value} {d : Nat} {ls : Lc} {st : List Value} {h : HS} {Q : Option Value → HS → Prop}
variable {l0 l1 l2 l3 l4 l5 l6 l7 l8 l9 l10 l11 l12 l13 l14 l15 : Option Value}
theorem s_98_0 {x : Int32} : wp V (cdT Ev) mx d 98 0 [l0, some (.int x), l2, l3, l4] st h Q = wp V (cdT Ev) mx d 98 1 [l0, some (.int x), l2, l3, l4] (.int x :: st) h Q := x_iload (len := 1) rfl rfl
theorem s_98_1 {v0 : Value} (hst : st.length ≤ 4) : wp V (cdT Ev) mx d 98 1 ls (v0 :: st) h Q = WP V (cdT Ev) mx d 106 [v0] h (fun r h' => wp V (cdT Ev) mx d 98 4 ls (rts r st) h' Q) := x_cs (sg := [v0]) rfl hst rfl rfl
theorem s_98_4 {x : Int32} : wp V (cdT Ev) mx d 98 4 ls (.int x :: st) h Q = (if ¬ x = 0 then wp V (cdT Ev) mx d 98 9 ls st h Q else wp V (cdT Ev) mx d 98 7 ls st h Q) := x_if1 (c := fun x => ¬ x = 0) rfl
theorem s_98_7 : wp V (cdT Ev) mx d 98 7 ls st h Q = wp V (cdT Ev) mx d 98 8 ls ((.int (-1)) :: st) h Q := x_push (v := (.int (-1))) (len := 1) rfl
theorem s_98_8 {x : Int32} : wp V (cdT Ev) mx d 98 8 ls [.int x] h Q = Q (some (.int x)) h := x_ret rfl rfl
theorem s_98_9 {a : Nat} : wp V (cdT Ev) mx d 98 9 [some (.ref a), l1, l2, l3, l4] st h Q = wp V (cdT Ev) mx d 98 10 [some (.ref a), l1, l2, l3, l4] (.ref a :: st) h Q := x_aload (len := 1) rfl rfl
theorem s_98_9_n : wp V (cdT Ev) mx d 98 9 [some .null, l1, l2, l3, l4] st h Q = wp V (cdT Ev) mx d 98 10 [some .null, l1, l2, l3, l4] (.null :: st) h Q := x_aloadN (len := 1) rfl rfl
theorem s_98_10 {a : Nat} : wp V (cdT Ev) mx d 98 10 ls (.ref a :: st) h Q = gf [11] 7 h a (fun v => wp V (cdT Ev) mx d 98 13 ls (v :: st) h Q) := x_getf rfl
theorem s_98_13 {x : Int32} : wp V (cdT Ev) mx d 98 13 [l0, some (.int x), l2, l3, l4] st h Q = wp V (cdT Ev) mx d 98 14 [l0, some (.int x), l2, l3, l4] (.int x :: st) h Q := x_iload (len := 1) rfl rfl
theorem s_98_14 {i : Int32} {a : Nat} : wp V (cdT Ev) mx d 98 14 ls (.int i :: .ref a :: st) h Q = ai 2 i V h a (fun x => wp V (cdT Ev) mx d 98 15 ls (.int x :: st) h Q) := x_iald rfl
theorem s_98_15 : wp V (cdT Ev) mx d 98 15 ls st h Q = wp V (cdT Ev) mx d 98 16 ls ((.int (-1)) :: st) h Q := x_push (v := (.int (-1))) (len := 1) rfl
theorem s_98_16 {x z : Int32} : wp V (cdT Ev) mx d 98 16 ls (.int z :: .int x :: st) h Q = (if ¬ x = z then wp V (cdT Ev) mx d 98 22 ls st h Q else wp V (cdT Ev) mx d 98 19 ls st h Q) := x_if2 (c := fun x z => ¬ x = z) rfl
theorem s_98_19 : wp V (cdT Ev) mx d 98 19 ls st h Q = wp V (cdT Ev) mx d 98 21 ls ((.int (-11)) :: st) h Q := x_push (v := (.int (-11))) (len := 2) rfl
theorem s_98_21 {x : Int32} : wp V (cdT Ev) mx d 98 21 ls [.int x] h Q = Q (some (.int x)) h := x_ret rfl rfl
theorem s_98_22 {x : Int32} : wp V (cdT Ev) mx d 98 22 [l0, l1, some (.int x), l3, l4] st h Q = wp V (cdT Ev) mx d 98 23 [l0, l1, some (.int x), l3, l4] (.int x :: st) h Q := x_iload (len := 1) rfl rfl
theorem s_98_23 {x : Int32} : wp V (cdT Ev) mx d 98 23 ls (.int x :: st) h Q = (if x < 0 then wp V (cdT Ev) mx d 98 36 ls st h Q else wp V (cdT Ev) mx d 98 26 ls st h Q) := x_if1 (c := fun x => x < 0) rfl
theorem s_98_26 {x : Int32} : wp V (cdT Ev) mx d 98 26 [l0, l1, some (.int x), l3, l4] st h Q = wp V (cdT Ev) mx d 98 27 [l0, l1, some (.int x), l3, l4] (.int x :: st) h Q := x_iload (len := 1) rfl rfl
theorem s_98_27 {a : Nat} : wp V (cdT Ev) mx d 98 27 [some (.ref a), l1, l2, l3, l4] st h Q = wp V (cdT Ev) mx d 98 28 [some (.ref a), l1, l2, l3, l4] (.ref a :: st) h Q := x_aload (len := 1) rfl rfl
theorem s_98_27_n : wp V (cdT Ev) mx d 98 27 [some .null, l1, l2, l3, l4] st h Q = wp V (cdT Ev) mx d 98 28 [some .null, l1, l2, l3, l4] (.null :: st) h Q := x_aloadN (len := 1) rfl rfl
theorem s_98_28 {a : Nat} : wp V (cdT Ev) mx d 98 28 ls (.ref a :: st) h Q = gf [11] 8 h a (fun v => wp V (cdT Ev) mx d 98 31 ls (v :: st) h Q) := x_getf rfl
theorem s_98_31 {x : Int32} : wp V (cdT Ev) mx d 98 31 [l0, some (.int x), l2, l3, l4] st h Q = wp V (cdT Ev) mx d 98 32 [l0, some (.int x), l2, l3, l4] (.int x :: st) h Q := x_iload (len := 1) rfl rfl
theorem s_98_32 {i : Int32} {a : Nat} : wp V (cdT Ev) mx d 98 32 ls (.int i :: .ref a :: st) h Q = ai 2 i V h a (fun x => wp V (cdT Ev) mx d 98 33 ls (.int x :: st) h Q) := x_iald rfl
theorem s_98_33 {x z : Int32} : wp V (cdT Ev) mx d 98 33 ls (.int z :: .int x :: st) h Q = (if x < z then wp V (cdT Ev) mx d 98 39 ls st h Q else wp V (cdT Ev) mx d 98 36 ls st h Q) := x_if2 (c := fun x z => x < z) rfl
theorem s_98_36 : wp V (cdT Ev) mx d 98 36 ls st h Q = wp V (cdT Ev) mx d 98 38 ls ((.int (-13)) :: st) h Q := x_push (v := (.int (-13))) (len := 2) rfl
theorem s_98_38 {x : Int32} : wp V (cdT Ev) mx d 98 38 ls [.int x] h Q = Q (some (.int x)) h := x_ret rfl rfl
theorem s_98_39 {a : Nat} : wp V (cdT Ev) mx d 98 39 [some (.ref a), l1, l2, l3, l4] st h Q = wp V (cdT Ev) mx d 98 40 [some (.ref a), l1, l2, l3, l4] (.ref a :: st) h Q := x_aload (len := 1) rfl rfl
theorem s_98_39_n : wp V (cdT Ev) mx d 98 39 [some .null, l1, l2, l3, l4] st h Q = wp V (cdT Ev) mx d 98 40 [some .null, l1, l2, l3, l4] (.null :: st) h Q := x_aloadN (len := 1) rfl rfl
theorem s_98_40 {a : Nat} : wp V (cdT Ev) mx d 98 40 ls (.ref a :: st) h Q = gf [11] 9 h a (fun v => wp V (cdT Ev) mx d 98 43 ls (v :: st) h Q) := x_getf rfl
theorem s_98_43 {x : Int32} : wp V (cdT Ev) mx d 98 43 [l0, some (.int x), l2, l3, l4] st h Q = wp V (cdT Ev) mx d 98 44 [l0, some (.int x), l2, l3, l4] (.int x :: st) h Q := x_iload (len := 1) rfl rfl
theorem s_98_44 {i : Int32} {a : Nat} : wp V (cdT Ev) mx d 98 44 ls (.int i :: .ref a :: st) h Q = aa i h a (fun v => wp V (cdT Ev) mx d 98 45 ls (v :: st) h Q) := x_aald rfl
theorem s_98_45 {x : Int32} : wp V (cdT Ev) mx d 98 45 [l0, l1, some (.int x), l3, l4] st h Q = wp V (cdT Ev) mx d 98 46 [l0, l1, some (.int x), l3, l4] (.int x :: st) h Q := x_iload (len := 1) rfl rfl
theorem s_98_46 {a : Nat} : wp V (cdT Ev) mx d 98 46 [some (.ref a), l1, l2, l3, l4] st h Q = wp V (cdT Ev) mx d 98 47 [some (.ref a), l1, l2, l3, l4] (.ref a :: st) h Q := x_aload (len := 1) rfl rfl
theorem s_98_46_n : wp V (cdT Ev) mx d 98 46 [some .null, l1, l2, l3, l4] st h Q = wp V (cdT Ev) mx d 98 47 [some .null, l1, l2, l3, l4] (.null :: st) h Q := x_aloadN (len := 1) rfl rfl
theorem s_98_47 {a : Nat} : wp V (cdT Ev) mx d 98 47 ls (.ref a :: st) h Q = gf [11] 7 h a (fun v => wp V (cdT Ev) mx d 98 50 ls (v :: st) h Q) := x_getf rfl
theorem s_98_50 {x : Int32} : wp V (cdT Ev) mx d 98 50 [l0, some (.int x), l2, l3, l4] st h Q = wp V (cdT Ev) mx d 98 51 [l0, some (.int x), l2, l3, l4] (.int x :: st) h Q := x_iload (len := 1) rfl rfl
theorem s_98_51 {i : Int32} {a : Nat} : wp V (cdT Ev) mx d 98 51 ls (.int i :: .ref a :: st) h Q = ai 2 i V h a (fun x => wp V (cdT Ev) mx d 98 52 ls (.int x :: st) h Q) := x_iald rfl
theorem s_98_52 {x : Int64} : wp V (cdT Ev) mx d 98 52 [l0, l1, l2, some (.long x), l4] st h Q = wp V (cdT Ev) mx d 98 53 [l0, l1, l2, some (.long x), l4] (.long x :: st) h Q := x_lload (len := 1) rfl rfl
theorem s_98_53 {v0 v1 : Value} (hst : st.length ≤ 4) : wp V (cdT Ev) mx d 98 53 ls (v1 :: v0 :: st) h Q = WP V (cdT Ev) mx d 109 [v0, v1] h (fun r h' => wp V (cdT Ev) mx d 98 56 ls (rts r st) h' Q) := x_cs (sg := [v1, v0]) rfl hst rfl rfl
theorem s_98_56 {x : Int64} {i : Int32} {a : Nat} : wp V (cdT Ev) mx d 98 56 ls (.long x :: .int i :: .ref a :: st) h Q = sl i x h a (fun hh => wp V (cdT Ev) mx d 98 57 ls st hh Q) := x_last rfl
theorem s_98_57 : wp V (cdT Ev) mx d 98 57 ls st h Q = wp V (cdT Ev) mx d 98 58 ls ((.int (1)) :: st) h Q := x_push (v := (.int (1))) (len := 1) rfl
theorem s_98_58 {x : Int32} : wp V (cdT Ev) mx d 98 58 ls [.int x] h Q = Q (some (.int x)) h := x_ret rfl rfl
theorem e_98 {a : Nat} {p0 : Int32} {p1 : Int32} {p2 : Int64} : WP V (cdT Ev) mx (d + 1) 98 [.ref a, .int p0, .int p1, .long p2] h Q = wp V (cdT Ev) mx d 98 0 [some (.ref a), some (.int p0), some (.int p1), some (.long p2), none] [] h Q := propext (WP_eq (Nat.le_of_ble_eq_true rfl))
theorem s_99_0 {x : Int32} : wp V (cdT Ev) mx d 99 0 [l0, some (.int x), l2] st h Q = wp V (cdT Ev) mx d 99 1 [l0, some (.int x), l2] (.int x :: st) h Q := x_iload (len := 1) rfl rfl
theorem s_99_1 {v0 : Value} (hst : st.length ≤ 4) : wp V (cdT Ev) mx d 99 1 ls (v0 :: st) h Q = WP V (cdT Ev) mx d 106 [v0] h (fun r h' => wp V (cdT Ev) mx d 99 4 ls (rts r st) h' Q) := x_cs (sg := [v0]) rfl hst rfl rfl
theorem s_99_4 {x : Int32} : wp V (cdT Ev) mx d 99 4 ls (.int x :: st) h Q = (if x = 0 then wp V (cdT Ev) mx d 99 21 ls st h Q else wp V (cdT Ev) mx d 99 7 ls st h Q) := x_if1 (c := fun x => x = 0) rfl
theorem s_99_7 {x : Int32} : wp V (cdT Ev) mx d 99 7 [l0, l1, some (.int x)] st h Q = wp V (cdT Ev) mx d 99 8 [l0, l1, some (.int x)] (.int x :: st) h Q := x_iload (len := 1) rfl rfl
theorem s_99_8 {x : Int32} : wp V (cdT Ev) mx d 99 8 ls (.int x :: st) h Q = (if x < 0 then wp V (cdT Ev) mx d 99 21 ls st h Q else wp V (cdT Ev) mx d 99 11 ls st h Q) := x_if1 (c := fun x => x < 0) rfl
theorem s_99_11 {x : Int32} : wp V (cdT Ev) mx d 99 11 [l0, l1, some (.int x)] st h Q = wp V (cdT Ev) mx d 99 12 [l0, l1, some (.int x)] (.int x :: st) h Q := x_iload (len := 1) rfl rfl
theorem s_99_12 {a : Nat} : wp V (cdT Ev) mx d 99 12 [some (.ref a), l1, l2] st h Q = wp V (cdT Ev) mx d 99 13 [some (.ref a), l1, l2] (.ref a :: st) h Q := x_aload (len := 1) rfl rfl
theorem s_99_12_n : wp V (cdT Ev) mx d 99 12 [some .null, l1, l2] st h Q = wp V (cdT Ev) mx d 99 13 [some .null, l1, l2] (.null :: st) h Q := x_aloadN (len := 1) rfl rfl
theorem s_99_13 {a : Nat} : wp V (cdT Ev) mx d 99 13 ls (.ref a :: st) h Q = gf [11] 8 h a (fun v => wp V (cdT Ev) mx d 99 16 ls (v :: st) h Q) := x_getf rfl
theorem s_99_16 {x : Int32} : wp V (cdT Ev) mx d 99 16 [l0, some (.int x), l2] st h Q = wp V (cdT Ev) mx d 99 17 [l0, some (.int x), l2] (.int x :: st) h Q := x_iload (len := 1) rfl rfl
theorem s_99_17 {i : Int32} {a : Nat} : wp V (cdT Ev) mx d 99 17 ls (.int i :: .ref a :: st) h Q = ai 2 i V h a (fun x => wp V (cdT Ev) mx d 99 18 ls (.int x :: st) h Q) := x_iald rfl
theorem s_99_18 {x z : Int32} : wp V (cdT Ev) mx d 99 18 ls (.int z :: .int x :: st) h Q = (if x < z then wp V (cdT Ev) mx d 99 25 ls st h Q else wp V (cdT Ev) mx d 99 21 ls st h Q) := x_if2 (c := fun x z => x < z) rfl
theorem s_99_21 : wp V (cdT Ev) mx d 99 21 ls st h Q = wp V (cdT Ev) mx d 99 24 ls ((.long (-9223372036854775808)) :: st) h Q := x_push (v := (.long (-9223372036854775808))) (len := 3) rfl
theorem s_99_24 {x : Int64} : wp V (cdT Ev) mx d 99 24 ls [.long x] h Q = Q (some (.long x)) h := x_ret rfl rfl
theorem s_99_25 {a : Nat} : wp V (cdT Ev) mx d 99 25 [some (.ref a), l1, l2] st h Q = wp V (cdT Ev) mx d 99 26 [some (.ref a), l1, l2] (.ref a :: st) h Q := x_aload (len := 1) rfl rfl
theorem s_99_25_n : wp V (cdT Ev) mx d 99 25 [some .null, l1, l2] st h Q = wp V (cdT Ev) mx d 99 26 [some .null, l1, l2] (.null :: st) h Q := x_aloadN (len := 1) rfl rfl
theorem s_99_26 {a : Nat} : wp V (cdT Ev) mx d 99 26 ls (.ref a :: st) h Q = gf [11] 9 h a (fun v => wp V (cdT Ev) mx d 99 29 ls (v :: st) h Q) := x_getf rfl
theorem s_99_29 {x : Int32} : wp V (cdT Ev) mx d 99 29 [l0, some (.int x), l2] st h Q = wp V (cdT Ev) mx d 99 30 [l0, some (.int x), l2] (.int x :: st) h Q := x_iload (len := 1) rfl rfl
theorem s_99_30 {i : Int32} {a : Nat} : wp V (cdT Ev) mx d 99 30 ls (.int i :: .ref a :: st) h Q = aa i h a (fun v => wp V (cdT Ev) mx d 99 31 ls (v :: st) h Q) := x_aald rfl
theorem s_99_31 {x : Int32} : wp V (cdT Ev) mx d 99 31 [l0, l1, some (.int x)] st h Q = wp V (cdT Ev) mx d 99 32 [l0, l1, some (.int x)] (.int x :: st) h Q := x_iload (len := 1) rfl rfl
theorem s_99_32 {i : Int32} {a : Nat} : wp V (cdT Ev) mx d 99 32 ls (.int i :: .ref a :: st) h Q = al i h a (fun x => wp V (cdT Ev) mx d 99 33 ls (.long x :: st) h Q) := x_lald rfl
theorem s_99_33 {x : Int64} : wp V (cdT Ev) mx d 99 33 ls [.long x] h Q = Q (some (.long x)) h := x_ret rfl rfl
theorem e_99 {a : Nat} {p0 : Int32} {p1 : Int32} : WP V (cdT Ev) mx (d + 1) 99 [.ref a, .int p0, .int p1] h Q = wp V (cdT Ev) mx d 99 0 [some (.ref a), some (.int p0), some (.int p1)] [] h Q := propext (WP_eq (Nat.le_of_ble_eq_true rfl))
theorem s_100_0 {x : Int32} : wp V (cdT Ev) mx d 100 0 [l0, some (.int x), l2, l3, l4, l5] st h Q = wp V (cdT Ev) mx d 100 1 [l0, some (.int x), l2, l3, l4, l5] (.int x :: st) h Q := x_iload (len := 1) rfl rfl
theorem s_100_1 {v0 : Value} (hst : st.length ≤ 4) : wp V (cdT Ev) mx d 100 1 ls (v0 :: st) h Q = WP V (cdT Ev) mx d 106 [v0] h (fun r h' => wp V (cdT Ev) mx d 100 4 ls (rts r st) h' Q) := x_cs (sg := [v0]) rfl hst rfl rfl
theorem s_100_4 {x : Int32} : wp V (cdT Ev) mx d 100 4 ls (.int x :: st) h Q = (if x = 0 then wp V (cdT Ev) mx d 100 14 ls st h Q else wp V (cdT Ev) mx d 100 7 ls st h Q) := x_if1 (c := fun x => x = 0) rfl
theorem s_100_7 {x : Int32} : wp V (cdT Ev) mx d 100 7 [l0, l1, l2, some (.int x), l4, l5] st h Q = wp V (cdT Ev) mx d 100 8 [l0, l1, l2, some (.int x), l4, l5] (.int x :: st) h Q := x_iload (len := 1) rfl rfl
theorem s_100_8 {v0 : Value} (hst : st.length ≤ 4) : wp V (cdT Ev) mx d 100 8 ls (v0 :: st) h Q = WP V (cdT Ev) mx d 106 [v0] h (fun r h' => wp V (cdT Ev) mx d 100 11 ls (rts r st) h' Q) := x_cs (sg := [v0]) rfl hst rfl rfl
theorem s_100_11 {x : Int32} : wp V (cdT Ev) mx d 100 11 ls (.int x :: st) h Q = (if ¬ x = 0 then wp V (cdT Ev) mx d 100 16 ls st h Q else wp V (cdT Ev) mx d 100 14 ls st h Q) := x_if1 (c := fun x => ¬ x = 0) rfl
theorem s_100_14 : wp V (cdT Ev) mx d 100 14 ls st h Q = wp V (cdT Ev) mx d 100 15 ls ((.int (-1)) :: st) h Q := x_push (v := (.int (-1))) (len := 1) rfl
theorem s_100_15 {x : Int32} : wp V (cdT Ev) mx d 100 15 ls [.int x] h Q = Q (some (.int x)) h := x_ret rfl rfl
theorem s_100_16 {a : Nat} : wp V (cdT Ev) mx d 100 16 [some (.ref a), l1, l2, l3, l4, l5] st h Q = wp V (cdT Ev) mx d 100 17 [some (.ref a), l1, l2, l3, l4, l5] (.ref a :: st) h Q := x_aload (len := 1) rfl rfl
theorem s_100_16_n : wp V (cdT Ev) mx d 100 16 [some .null, l1, l2, l3, l4, l5] st h Q = wp V (cdT Ev) mx d 100 17 [some .null, l1, l2, l3, l4, l5] (.null :: st) h Q := x_aloadN (len := 1) rfl rfl
theorem s_100_17 {a : Nat} : wp V (cdT Ev) mx d 100 17 ls (.ref a :: st) h Q = gf [11] 7 h a (fun v => wp V (cdT Ev) mx d 100 20 ls (v :: st) h Q) := x_getf rfl
theorem s_100_20 {x : Int32} : wp V (cdT Ev) mx d 100 20 [l0, some (.int x), l2, l3, l4, l5] st h Q = wp V (cdT Ev) mx d 100 21 [l0, some (.int x), l2, l3, l4, l5] (.int x :: st) h Q := x_iload (len := 1) rfl rfl
theorem s_100_21 {i : Int32} {a : Nat} : wp V (cdT Ev) mx d 100 21 ls (.int i :: .ref a :: st) h Q = ai 2 i V h a (fun x => wp V (cdT Ev) mx d 100 22 ls (.int x :: st) h Q) := x_iald rfl
theorem s_100_22 : wp V (cdT Ev) mx d 100 22 ls st h Q = wp V (cdT Ev) mx d 100 23 ls ((.int (-1)) :: st) h Q := x_push (v := (.int (-1))) (len := 1) rfl
theorem s_100_23 {x z : Int32} : wp V (cdT Ev) mx d 100 23 ls (.int z :: .int x :: st) h Q = (if x = z then wp V (cdT Ev) mx d 100 36 ls st h Q else wp V (cdT Ev) mx d 100 26 ls st h Q) := x_if2 (c := fun x z => x = z) rfl
theorem s_100_26 {a : Nat} : wp V (cdT Ev) mx d 100 26 [some (.ref a), l1, l2, l3, l4, l5] st h Q = wp V (cdT Ev) mx d 100 27 [some (.ref a), l1, l2, l3, l4, l5] (.ref a :: st) h Q := x_aload (len := 1) rfl rfl
theorem s_100_26_n : wp V (cdT Ev) mx d 100 26 [some .null, l1, l2, l3, l4, l5] st h Q = wp V (cdT Ev) mx d 100 27 [some .null, l1, l2, l3, l4, l5] (.null :: st) h Q := x_aloadN (len := 1) rfl rfl
theorem s_100_27 {a : Nat} : wp V (cdT Ev) mx d 100 27 ls (.ref a :: st) h Q = gf [11] 7 h a (fun v => wp V (cdT Ev) mx d 100 30 ls (v :: st) h Q) := x_getf rfl
theorem s_100_30 {x : Int32} : wp V (cdT Ev) mx d 100 30 [l0, l1, l2, some (.int x), l4, l5] st h Q = wp V (cdT Ev) mx d 100 31 [l0, l1, l2, some (.int x), l4, l5] (.int x :: st) h Q := x_iload (len := 1) rfl rfl
theorem s_100_31 {i : Int32} {a : Nat} : wp V (cdT Ev) mx d 100 31 ls (.int i :: .ref a :: st) h Q = ai 2 i V h a (fun x => wp V (cdT Ev) mx d 100 32 ls (.int x :: st) h Q) := x_iald rfl
theorem s_100_32 : wp V (cdT Ev) mx d 100 32 ls st h Q = wp V (cdT Ev) mx d 100 33 ls ((.int (-1)) :: st) h Q := x_push (v := (.int (-1))) (len := 1) rfl
theorem s_100_33 {x z : Int32} : wp V (cdT Ev) mx d 100 33 ls (.int z :: .int x :: st) h Q = (if ¬ x = z then wp V (cdT Ev) mx d 100 39 ls st h Q else wp V (cdT Ev) mx d 100 36 ls st h Q) := x_if2 (c := fun x z => ¬ x = z) rfl
theorem s_100_36 : wp V (cdT Ev) mx d 100 36 ls st h Q = wp V (cdT Ev) mx d 100 38 ls ((.int (-11)) :: st) h Q := x_push (v := (.int (-11))) (len := 2) rfl
theorem s_100_38 {x : Int32} : wp V (cdT Ev) mx d 100 38 ls [.int x] h Q = Q (some (.int x)) h := x_ret rfl rfl
theorem s_100_39 {a : Nat} : wp V (cdT Ev) mx d 100 39 [some (.ref a), l1, l2, l3, l4, l5] st h Q = wp V (cdT Ev) mx d 100 40 [some (.ref a), l1, l2, l3, l4, l5] (.ref a :: st) h Q := x_aload (len := 1) rfl rfl
theorem s_100_39_n : wp V (cdT Ev) mx d 100 39 [some .null, l1, l2, l3, l4, l5] st h Q = wp V (cdT Ev) mx d 100 40 [some .null, l1, l2, l3, l4, l5] (.null :: st) h Q := x_aloadN (len := 1) rfl rfl
theorem s_100_40 {a : Nat} : wp V (cdT Ev) mx d 100 40 ls (.ref a :: st) h Q = gf [11] 7 h a (fun v => wp V (cdT Ev) mx d 100 43 ls (v :: st) h Q) := x_getf rfl
theorem s_100_43 {x : Int32} : wp V (cdT Ev) mx d 100 43 [l0, some (.int x), l2, l3, l4, l5] st h Q = wp V (cdT Ev) mx d 100 44 [l0, some (.int x), l2, l3, l4, l5] (.int x :: st) h Q := x_iload (len := 1) rfl rfl
theorem s_100_44 {i : Int32} {a : Nat} : wp V (cdT Ev) mx d 100 44 ls (.int i :: .ref a :: st) h Q = ai 2 i V h a (fun x => wp V (cdT Ev) mx d 100 45 ls (.int x :: st) h Q) := x_iald rfl
theorem s_100_45 {a : Nat} : wp V (cdT Ev) mx d 100 45 [some (.ref a), l1, l2, l3, l4, l5] st h Q = wp V (cdT Ev) mx d 100 46 [some (.ref a), l1, l2, l3, l4, l5] (.ref a :: st) h Q := x_aload (len := 1) rfl rfl
theorem s_100_45_n : wp V (cdT Ev) mx d 100 45 [some .null, l1, l2, l3, l4, l5] st h Q = wp V (cdT Ev) mx d 100 46 [some .null, l1, l2, l3, l4, l5] (.null :: st) h Q := x_aloadN (len := 1) rfl rfl
theorem s_100_46 {a : Nat} : wp V (cdT Ev) mx d 100 46 ls (.ref a :: st) h Q = gf [11] 7 h a (fun v => wp V (cdT Ev) mx d 100 49 ls (v :: st) h Q) := x_getf rfl
theorem s_100_49 {x : Int32} : wp V (cdT Ev) mx d 100 49 [l0, l1, l2, some (.int x), l4, l5] st h Q = wp V (cdT Ev) mx d 100 50 [l0, l1, l2, some (.int x), l4, l5] (.int x :: st) h Q := x_iload (len := 1) rfl rfl
theorem s_100_50 {i : Int32} {a : Nat} : wp V (cdT Ev) mx d 100 50 ls (.int i :: .ref a :: st) h Q = ai 2 i V h a (fun x => wp V (cdT Ev) mx d 100 51 ls (.int x :: st) h Q) := x_iald rfl
theorem s_100_51 {x z : Int32} : wp V (cdT Ev) mx d 100 51 ls (.int z :: .int x :: st) h Q = (if x = z then wp V (cdT Ev) mx d 100 57 ls st h Q else wp V (cdT Ev) mx d 100 54 ls st h Q) := x_if2 (c := fun x z => x = z) rfl
theorem s_100_54 : wp V (cdT Ev) mx d 100 54 ls st h Q = wp V (cdT Ev) mx d 100 56 ls ((.int (-12)) :: st) h Q := x_push (v := (.int (-12))) (len := 2) rfl
theorem s_100_56 {x : Int32} : wp V (cdT Ev) mx d 100 56 ls [.int x] h Q = Q (some (.int x)) h := x_ret rfl rfl
theorem s_100_57 {x : Int32} : wp V (cdT Ev) mx d 100 57 [l0, l1, l2, l3, l4, some (.int x)] st h Q = wp V (cdT Ev) mx d 100 59 [l0, l1, l2, l3, l4, some (.int x)] (.int x :: st) h Q := x_iload (len := 2) rfl rfl
theorem s_100_59 {x : Int32} : wp V (cdT Ev) mx d 100 59 ls (.int x :: st) h Q = (if x < 0 then wp V (cdT Ev) mx d 100 98 ls st h Q else wp V (cdT Ev) mx d 100 62 ls st h Q) := x_if1 (c := fun x => x < 0) rfl
theorem s_100_62 {x : Int32} : wp V (cdT Ev) mx d 100 62 [l0, l1, some (.int x), l3, l4, l5] st h Q = wp V (cdT Ev) mx d 100 63 [l0, l1, some (.int x), l3, l4, l5] (.int x :: st) h Q := x_iload (len := 1) rfl rfl
theorem s_100_63 {x : Int32} : wp V (cdT Ev) mx d 100 63 ls (.int x :: st) h Q = (if x < 0 then wp V (cdT Ev) mx d 100 98 ls st h Q else wp V (cdT Ev) mx d 100 66 ls st h Q) := x_if1 (c := fun x => x < 0) rfl
theorem s_100_66 {x : Int32} : wp V (cdT Ev) mx d 100 66 [l0, l1, l2, l3, some (.int x), l5] st h Q = wp V (cdT Ev) mx d 100 68 [l0, l1, l2, l3, some (.int x), l5] (.int x :: st) h Q := x_iload (len := 2) rfl rfl
theorem s_100_68 {x : Int32} : wp V (cdT Ev) mx d 100 68 ls (.int x :: st) h Q = (if x < 0 then wp V (cdT Ev) mx d 100 98 ls st h Q else wp V (cdT Ev) mx d 100 71 ls st h Q) := x_if1 (c := fun x => x < 0) rfl
theorem s_100_71 {x : Int32} : wp V (cdT Ev) mx d 100 71 [l0, l1, l2, l3, l4, some (.int x)] st h Q = wp V (cdT Ev) mx d 100 73 [l0, l1, l2, l3, l4, some (.int x)] (.int x :: st) h Q := x_iload (len := 2) rfl rfl
theorem s_100_73 {a : Nat} : wp V (cdT Ev) mx d 100 73 [some (.ref a), l1, l2, l3, l4, l5] st h Q = wp V (cdT Ev) mx d 100 74 [some (.ref a), l1, l2, l3, l4, l5] (.ref a :: st) h Q := x_aload (len := 1) rfl rfl
theorem s_100_73_n : wp V (cdT Ev) mx d 100 73 [some .null, l1, l2, l3, l4, l5] st h Q = wp V (cdT Ev) mx d 100 74 [some .null, l1, l2, l3, l4, l5] (.null :: st) h Q := x_aloadN (len := 1) rfl rfl
theorem s_100_74 {a : Nat} : wp V (cdT Ev) mx d 100 74 ls (.ref a :: st) h Q = gf [11] 8 h a (fun v => wp V (cdT Ev) mx d 100 77 ls (v :: st) h Q) := x_getf rfl
theorem s_100_77 {x : Int32} : wp V (cdT Ev) mx d 100 77 [l0, some (.int x), l2, l3, l4, l5] st h Q = wp V (cdT Ev) mx d 100 78 [l0, some (.int x), l2, l3, l4, l5] (.int x :: st) h Q := x_iload (len := 1) rfl rfl
theorem s_100_78 {i : Int32} {a : Nat} : wp V (cdT Ev) mx d 100 78 ls (.int i :: .ref a :: st) h Q = ai 2 i V h a (fun x => wp V (cdT Ev) mx d 100 79 ls (.int x :: st) h Q) := x_iald rfl
theorem s_100_79 {x : Int32} : wp V (cdT Ev) mx d 100 79 [l0, l1, some (.int x), l3, l4, l5] st h Q = wp V (cdT Ev) mx d 100 80 [l0, l1, some (.int x), l3, l4, l5] (.int x :: st) h Q := x_iload (len := 1) rfl rfl
theorem s_100_80 {x z : Int32} : wp V (cdT Ev) mx d 100 80 ls (.int z :: .int x :: st) h Q = wp V (cdT Ev) mx d 100 81 ls (.int (x - z) :: st) h Q := x_ib (f := fun x z => x - z) rfl
theorem s_100_81 {x z : Int32} : wp V (cdT Ev) mx d 100 81 ls (.int z :: .int x :: st) h Q = (if z < x then wp V (cdT Ev) mx d 100 98 ls st h Q else wp V (cdT Ev) mx d 100 84 ls st h Q) := x_if2 (c := fun x z => z < x) rfl
theorem s_100_84 {x : Int32} : wp V (cdT Ev) mx d 100 84 [l0, l1, l2, l3, l4, some (.int x)] st h Q = wp V (cdT Ev) mx d 100 86 [l0, l1, l2, l3, l4, some (.int x)] (.int x :: st) h Q := x_iload (len := 2) rfl rfl
theorem s_100_86 {a : Nat} : wp V (cdT Ev) mx d 100 86 [some (.ref a), l1, l2, l3, l4, l5] st h Q = wp V (cdT Ev) mx d 100 87 [some (.ref a), l1, l2, l3, l4, l5] (.ref a :: st) h Q := x_aload (len := 1) rfl rfl
theorem s_100_86_n : wp V (cdT Ev) mx d 100 86 [some .null, l1, l2, l3, l4, l5] st h Q = wp V (cdT Ev) mx d 100 87 [some .null, l1, l2, l3, l4, l5] (.null :: st) h Q := x_aloadN (len := 1) rfl rfl
theorem s_100_87 {a : Nat} : wp V (cdT Ev) mx d 100 87 ls (.ref a :: st) h Q = gf [11] 8 h a (fun v => wp V (cdT Ev) mx d 100 90 ls (v :: st) h Q) := x_getf rfl
theorem s_100_90 {x : Int32} : wp V (cdT Ev) mx d 100 90 [l0, l1, l2, some (.int x), l4, l5] st h Q = wp V (cdT Ev) mx d 100 91 [l0, l1, l2, some (.int x), l4, l5] (.int x :: st) h Q := x_iload (len := 1) rfl rfl
theorem s_100_91 {i : Int32} {a : Nat} : wp V (cdT Ev) mx d 100 91 ls (.int i :: .ref a :: st) h Q = ai 2 i V h a (fun x => wp V (cdT Ev) mx d 100 92 ls (.int x :: st) h Q) := x_iald rfl
theorem s_100_92 {x : Int32} : wp V (cdT Ev) mx d 100 92 [l0, l1, l2, l3, some (.int x), l5] st h Q = wp V (cdT Ev) mx d 100 94 [l0, l1, l2, l3, some (.int x), l5] (.int x :: st) h Q := x_iload (len := 2) rfl rfl
theorem s_100_94 {x z : Int32} : wp V (cdT Ev) mx d 100 94 ls (.int z :: .int x :: st) h Q = wp V (cdT Ev) mx d 100 95 ls (.int (x - z) :: st) h Q := x_ib (f := fun x z => x - z) rfl
theorem s_100_95 {x z : Int32} : wp V (cdT Ev) mx d 100 95 ls (.int z :: .int x :: st) h Q = (if x ≤ z then wp V (cdT Ev) mx d 100 101 ls st h Q else wp V (cdT Ev) mx d 100 98 ls st h Q) := x_if2 (c := fun x z => x ≤ z) rfl
theorem s_100_98 : wp V (cdT Ev) mx d 100 98 ls st h Q = wp V (cdT Ev) mx d 100 100 ls ((.int (-13)) :: st) h Q := x_push (v := (.int (-13))) (len := 2) rfl
theorem s_100_100 {x : Int32} : wp V (cdT Ev) mx d 100 100 ls [.int x] h Q = Q (some (.int x)) h := x_ret rfl rfl
theorem s_100_101 {a : Nat} : wp V (cdT Ev) mx d 100 101 [some (.ref a), l1, l2, l3, l4, l5] st h Q = wp V (cdT Ev) mx d 100 102 [some (.ref a), l1, l2, l3, l4, l5] (.ref a :: st) h Q := x_aload (len := 1) rfl rfl
theorem s_100_101_n : wp V (cdT Ev) mx d 100 101 [some .null, l1, l2, l3, l4, l5] st h Q = wp V (cdT Ev) mx d 100 102 [some .null, l1, l2, l3, l4, l5] (.null :: st) h Q := x_aloadN (len := 1) rfl rfl
theorem s_100_102 {a : Nat} : wp V (cdT Ev) mx d 100 102 ls (.ref a :: st) h Q = gf [11] 9 h a (fun v => wp V (cdT Ev) mx d 100 105 ls (v :: st) h Q) := x_getf rfl
theorem s_100_105 {x : Int32} : wp V (cdT Ev) mx d 100 105 [l0, some (.int x), l2, l3, l4, l5] st h Q = wp V (cdT Ev) mx d 100 106 [l0, some (.int x), l2, l3, l4, l5] (.int x :: st) h Q := x_iload (len := 1) rfl rfl
theorem s_100_106 {i : Int32} {a : Nat} : wp V (cdT Ev) mx d 100 106 ls (.int i :: .ref a :: st) h Q = aa i h a (fun v => wp V (cdT Ev) mx d 100 107 ls (v :: st) h Q) := x_aald rfl
theorem s_100_107 {x : Int32} : wp V (cdT Ev) mx d 100 107 [l0, l1, some (.int x), l3, l4, l5] st h Q = wp V (cdT Ev) mx d 100 108 [l0, l1, some (.int x), l3, l4, l5] (.int x :: st) h Q := x_iload (len := 1) rfl rfl
theorem s_100_108 {a : Nat} : wp V (cdT Ev) mx d 100 108 [some (.ref a), l1, l2, l3, l4, l5] st h Q = wp V (cdT Ev) mx d 100 109 [some (.ref a), l1, l2, l3, l4, l5] (.ref a :: st) h Q := x_aload (len := 1) rfl rfl
theorem s_100_108_n : wp V (cdT Ev) mx d 100 108 [some .null, l1, l2, l3, l4, l5] st h Q = wp V (cdT Ev) mx d 100 109 [some .null, l1, l2, l3, l4, l5] (.null :: st) h Q := x_aloadN (len := 1) rfl rfl
theorem s_100_109 {a : Nat} : wp V (cdT Ev) mx d 100 109 ls (.ref a :: st) h Q = gf [11] 9 h a (fun v => wp V (cdT Ev) mx d 100 112 ls (v :: st) h Q) := x_getf rfl
theorem s_100_112 {x : Int32} : wp V (cdT Ev) mx d 100 112 [l0, l1, l2, some (.int x), l4, l5] st h Q = wp V (cdT Ev) mx d 100 113 [l0, l1, l2, some (.int x), l4, l5] (.int x :: st) h Q := x_iload (len := 1) rfl rfl
theorem s_100_113 {i : Int32} {a : Nat} : wp V (cdT Ev) mx d 100 113 ls (.int i :: .ref a :: st) h Q = aa i h a (fun v => wp V (cdT Ev) mx d 100 114 ls (v :: st) h Q) := x_aald rfl
theorem s_100_114 {x : Int32} : wp V (cdT Ev) mx d 100 114 [l0, l1, l2, l3, some (.int x), l5] st h Q = wp V (cdT Ev) mx d 100 116 [l0, l1, l2, l3, some (.int x), l5] (.int x :: st) h Q := x_iload (len := 2) rfl rfl
theorem s_100_116 {x : Int32} : wp V (cdT Ev) mx d 100 116 [l0, l1, l2, l3, l4, some (.int x)] st h Q = wp V (cdT Ev) mx d 100 118 [l0, l1, l2, l3, l4, some (.int x)] (.int x :: st) h Q := x_iload (len := 2) rfl rfl
theorem s_100_118 {n dp sp : Int32} {a b : Nat} (hst : st.length ≤ 4) : wp V (cdT Ev) mx d 100 118 ls (.int n :: .int dp :: .ref b :: .int sp :: .ref a :: st) h Q = cl2 h a b n dp sp (fun hh => wp V (cdT Ev) mx d 100 121 ls st hh Q) := x_cpyl rfl hst
theorem s_100_121 {x : Int32} : wp V (cdT Ev) mx d 100 121 [l0, l1, l2, l3, l4, some (.int x)] st h Q = wp V (cdT Ev) mx d 100 123 [l0, l1, l2, l3, l4, some (.int x)] (.int x :: st) h Q := x_iload (len := 2) rfl rfl
theorem s_100_123 {x : Int32} : wp V (cdT Ev) mx d 100 123 ls [.int x] h Q = Q (some (.int x)) h := x_ret rfl rfl
theorem e_100 {a : Nat} {p0 : Int32} {p1 : Int32} {p2 : Int32} {p3 : Int32} {p4 : Int32} : WP V (cdT Ev) mx (d + 1) 100 [.ref a, .int p0, .int p1, .int p2, .int p3, .int p4] h Q = wp V (cdT Ev) mx d 100 0 [some (.ref a), some (.int p0), some (.int p1), some (.int p2), some (.int p3), some (.int p4)] [] h Q := propext (WP_eq (Nat.le_of_ble_eq_true rfl))
theorem s_101_0 {x : Int32} : wp V (cdT Ev) mx d 101 0 [some (.int x)] st h Q = wp V (cdT Ev) mx d 101 1 [some (.int x)] (.int x :: st) h Q := x_iload (len := 1) rfl rfl
theorem s_101_1 {x : Int32} : wp V (cdT Ev) mx d 101 1 ls (.int x :: st) h Q = (if x < 0 then wp V (cdT Ev) mx d 101 14 ls st h Q else wp V (cdT Ev) mx d 101 4 ls st h Q) := x_if1 (c := fun x => x < 0) rfl
theorem s_101_4 {x : Int32} : wp V (cdT Ev) mx d 101 4 [some (.int x)] st h Q = wp V (cdT Ev) mx d 101 5 [some (.int x)] (.int x :: st) h Q := x_iload (len := 1) rfl rfl
theorem s_101_5 : wp V (cdT Ev) mx d 101 5 ls st h Q = wp V (cdT Ev) mx d 101 7 ls ((.int (12)) :: st) h Q := x_push (v := (.int (12))) (len := 2) rfl
theorem s_101_7 {x z : Int32} : wp V (cdT Ev) mx d 101 7 ls (.int z :: .int x :: st) h Q = (if z ≤ x then wp V (cdT Ev) mx d 101 14 ls st h Q else wp V (cdT Ev) mx d 101 10 ls st h Q) := x_if2 (c := fun x z => z ≤ x) rfl
theorem s_101_10 : wp V (cdT Ev) mx d 101 10 ls st h Q = wp V (cdT Ev) mx d 101 11 ls ((.int (1)) :: st) h Q := x_push (v := (.int (1))) (len := 1) rfl
theorem s_101_11 : wp V (cdT Ev) mx d 101 11 ls st h Q = wp V (cdT Ev) mx d 101 15 ls st h Q := x_goto rfl
theorem s_101_14 : wp V (cdT Ev) mx d 101 14 ls st h Q = wp V (cdT Ev) mx d 101 15 ls ((.int (0)) :: st) h Q := x_push (v := (.int (0))) (len := 1) rfl
theorem s_101_15 {x : Int32} (hx : okr 1 (.int x) = true) : wp V (cdT Ev) mx d 101 15 ls [.int x] h Q = Q (some (.int x)) h := x_ret rfl hx
theorem e_101 {p0 : Int32} : WP V (cdT Ev) mx (d + 1) 101 [.int p0] h Q = wp V (cdT Ev) mx d 101 0 [some (.int p0)] [] h Q := propext (WP_eq (Nat.le_of_ble_eq_true rfl))
theorem s_102_0 {x : Int32} : wp V (cdT Ev) mx d 102 0 [some (.int x)] st h Q = wp V (cdT Ev) mx d 102 1 [some (.int x)] (.int x :: st) h Q := x_iload (len := 1) rfl rfl
theorem s_102_1 {x : Int32} : wp V (cdT Ev) mx d 102 1 ls (.int x :: st) h Q = (if x < 0 then wp V (cdT Ev) mx d 102 15 ls st h Q else wp V (cdT Ev) mx d 102 4 ls st h Q) := x_if1 (c := fun x => x < 0) rfl
theorem s_102_4 {x : Int32} : wp V (cdT Ev) mx d 102 4 [some (.int x)] st h Q = wp V (cdT Ev) mx d 102 5 [some (.int x)] (.int x :: st) h Q := x_iload (len := 1) rfl rfl
theorem s_102_5 : wp V (cdT Ev) mx d 102 5 ls st h Q = wp V (cdT Ev) mx d 102 8 ls ((.int (4096)) :: st) h Q := x_push (v := (.int (4096))) (len := 3) rfl
theorem s_102_8 {x z : Int32} : wp V (cdT Ev) mx d 102 8 ls (.int z :: .int x :: st) h Q = (if z ≤ x then wp V (cdT Ev) mx d 102 15 ls st h Q else wp V (cdT Ev) mx d 102 11 ls st h Q) := x_if2 (c := fun x z => z ≤ x) rfl
theorem s_102_11 : wp V (cdT Ev) mx d 102 11 ls st h Q = wp V (cdT Ev) mx d 102 12 ls ((.int (1)) :: st) h Q := x_push (v := (.int (1))) (len := 1) rfl
theorem s_102_12 : wp V (cdT Ev) mx d 102 12 ls st h Q = wp V (cdT Ev) mx d 102 16 ls st h Q := x_goto rfl
theorem s_102_15 : wp V (cdT Ev) mx d 102 15 ls st h Q = wp V (cdT Ev) mx d 102 16 ls ((.int (0)) :: st) h Q := x_push (v := (.int (0))) (len := 1) rfl
theorem s_102_16 {x : Int32} (hx : okr 1 (.int x) = true) : wp V (cdT Ev) mx d 102 16 ls [.int x] h Q = Q (some (.int x)) h := x_ret rfl hx
theorem e_102 {p0 : Int32} : WP V (cdT Ev) mx (d + 1) 102 [.int p0] h Q = wp V (cdT Ev) mx d 102 0 [some (.int p0)] [] h Q := propext (WP_eq (Nat.le_of_ble_eq_true rfl))
theorem s_103_0 {x : Int32} : wp V (cdT Ev) mx d 103 0 [some (.int x)] st h Q = wp V (cdT Ev) mx d 103 1 [some (.int x)] (.int x :: st) h Q := x_iload (len := 1) rfl rfl
theorem s_103_1 {x : Int32} : wp V (cdT Ev) mx d 103 1 ls (.int x :: st) h Q = (if x < 0 then wp V (cdT Ev) mx d 103 14 ls st h Q else wp V (cdT Ev) mx d 103 4 ls st h Q) := x_if1 (c := fun x => x < 0) rfl
theorem s_103_4 {x : Int32} : wp V (cdT Ev) mx d 103 4 [some (.int x)] st h Q = wp V (cdT Ev) mx d 103 5 [some (.int x)] (.int x :: st) h Q := x_iload (len := 1) rfl rfl
theorem s_103_5 : wp V (cdT Ev) mx d 103 5 ls st h Q = wp V (cdT Ev) mx d 103 7 ls ((.int (20)) :: st) h Q := x_push (v := (.int (20))) (len := 2) rfl
theorem s_103_7 {x z : Int32} : wp V (cdT Ev) mx d 103 7 ls (.int z :: .int x :: st) h Q = (if z < x then wp V (cdT Ev) mx d 103 14 ls st h Q else wp V (cdT Ev) mx d 103 10 ls st h Q) := x_if2 (c := fun x z => z < x) rfl
theorem s_103_10 : wp V (cdT Ev) mx d 103 10 ls st h Q = wp V (cdT Ev) mx d 103 11 ls ((.int (1)) :: st) h Q := x_push (v := (.int (1))) (len := 1) rfl
theorem s_103_11 : wp V (cdT Ev) mx d 103 11 ls st h Q = wp V (cdT Ev) mx d 103 15 ls st h Q := x_goto rfl
theorem s_103_14 : wp V (cdT Ev) mx d 103 14 ls st h Q = wp V (cdT Ev) mx d 103 15 ls ((.int (0)) :: st) h Q := x_push (v := (.int (0))) (len := 1) rfl
theorem s_103_15 {x : Int32} (hx : okr 1 (.int x) = true) : wp V (cdT Ev) mx d 103 15 ls [.int x] h Q = Q (some (.int x)) h := x_ret rfl hx
theorem e_103 {p0 : Int32} : WP V (cdT Ev) mx (d + 1) 103 [.int p0] h Q = wp V (cdT Ev) mx d 103 0 [some (.int p0)] [] h Q := propext (WP_eq (Nat.le_of_ble_eq_true rfl))
theorem s_104_0 {x : Int32} : wp V (cdT Ev) mx d 104 0 [some (.int x)] st h Q = wp V (cdT Ev) mx d 104 1 [some (.int x)] (.int x :: st) h Q := x_iload (len := 1) rfl rfl
theorem s_104_1 {x : Int32} : wp V (cdT Ev) mx d 104 1 ls (.int x :: st) h Q = (if x < 0 then wp V (cdT Ev) mx d 104 14 ls st h Q else wp V (cdT Ev) mx d 104 4 ls st h Q) := x_if1 (c := fun x => x < 0) rfl
theorem s_104_4 {x : Int32} : wp V (cdT Ev) mx d 104 4 [some (.int x)] st h Q = wp V (cdT Ev) mx d 104 5 [some (.int x)] (.int x :: st) h Q := x_iload (len := 1) rfl rfl
theorem s_104_5 : wp V (cdT Ev) mx d 104 5 ls st h Q = wp V (cdT Ev) mx d 104 7 ls ((.int (60)) :: st) h Q := x_push (v := (.int (60))) (len := 2) rfl
theorem s_104_7 {x z : Int32} : wp V (cdT Ev) mx d 104 7 ls (.int z :: .int x :: st) h Q = (if z < x then wp V (cdT Ev) mx d 104 14 ls st h Q else wp V (cdT Ev) mx d 104 10 ls st h Q) := x_if2 (c := fun x z => z < x) rfl
theorem s_104_10 : wp V (cdT Ev) mx d 104 10 ls st h Q = wp V (cdT Ev) mx d 104 11 ls ((.int (1)) :: st) h Q := x_push (v := (.int (1))) (len := 1) rfl
theorem s_104_11 : wp V (cdT Ev) mx d 104 11 ls st h Q = wp V (cdT Ev) mx d 104 15 ls st h Q := x_goto rfl
theorem s_104_14 : wp V (cdT Ev) mx d 104 14 ls st h Q = wp V (cdT Ev) mx d 104 15 ls ((.int (0)) :: st) h Q := x_push (v := (.int (0))) (len := 1) rfl
theorem s_104_15 {x : Int32} (hx : okr 1 (.int x) = true) : wp V (cdT Ev) mx d 104 15 ls [.int x] h Q = Q (some (.int x)) h := x_ret rfl hx
theorem e_104 {p0 : Int32} : WP V (cdT Ev) mx (d + 1) 104 [.int p0] h Q = wp V (cdT Ev) mx d 104 0 [some (.int p0)] [] h Q := propext (WP_eq (Nat.le_of_ble_eq_true rfl))
theorem s_105_0 {x : Int32} : wp V (cdT Ev) mx d 105 0 [some (.int x)] st h Q = wp V (cdT Ev) mx d 105 1 [some (.int x)] (.int x :: st) h Q := x_iload (len := 1) rfl rfl
theorem s_105_1 {x : Int32} : wp V (cdT Ev) mx d 105 1 ls (.int x :: st) h Q = (if x = 0 then wp V (cdT Ev) mx d 105 9 ls st h Q else wp V (cdT Ev) mx d 105 4 ls st h Q) := x_if1 (c := fun x => x = 0) rfl
theorem s_105_4 {x : Int32} : wp V (cdT Ev) mx d 105 4 [some (.int x)] st h Q = wp V (cdT Ev) mx d 105 5 [some (.int x)] (.int x :: st) h Q := x_iload (len := 1) rfl rfl
theorem s_105_5 : wp V (cdT Ev) mx d 105 5 ls st h Q = wp V (cdT Ev) mx d 105 6 ls ((.int (1)) :: st) h Q := x_push (v := (.int (1))) (len := 1) rfl
theorem s_105_6 {x z : Int32} : wp V (cdT Ev) mx d 105 6 ls (.int z :: .int x :: st) h Q = (if ¬ x = z then wp V (cdT Ev) mx d 105 13 ls st h Q else wp V (cdT Ev) mx d 105 9 ls st h Q) := x_if2 (c := fun x z => ¬ x = z) rfl
theorem s_105_9 : wp V (cdT Ev) mx d 105 9 ls st h Q = wp V (cdT Ev) mx d 105 10 ls ((.int (1)) :: st) h Q := x_push (v := (.int (1))) (len := 1) rfl
theorem s_105_10 : wp V (cdT Ev) mx d 105 10 ls st h Q = wp V (cdT Ev) mx d 105 14 ls st h Q := x_goto rfl
theorem s_105_13 : wp V (cdT Ev) mx d 105 13 ls st h Q = wp V (cdT Ev) mx d 105 14 ls ((.int (0)) :: st) h Q := x_push (v := (.int (0))) (len := 1) rfl
theorem s_105_14 {x : Int32} (hx : okr 1 (.int x) = true) : wp V (cdT Ev) mx d 105 14 ls [.int x] h Q = Q (some (.int x)) h := x_ret rfl hx
theorem e_105 {p0 : Int32} : WP V (cdT Ev) mx (d + 1) 105 [.int p0] h Q = wp V (cdT Ev) mx d 105 0 [some (.int p0)] [] h Q := propext (WP_eq (Nat.le_of_ble_eq_true rfl))
theorem s_106_0 {x : Int32} : wp V (cdT Ev) mx d 106 0 [some (.int x)] st h Q = wp V (cdT Ev) mx d 106 1 [some (.int x)] (.int x :: st) h Q := x_iload (len := 1) rfl rfl
theorem s_106_1 {x : Int32} : wp V (cdT Ev) mx d 106 1 ls (.int x :: st) h Q = (if x < 0 then wp V (cdT Ev) mx d 106 14 ls st h Q else wp V (cdT Ev) mx d 106 4 ls st h Q) := x_if1 (c := fun x => x < 0) rfl
theorem s_106_4 {x : Int32} : wp V (cdT Ev) mx d 106 4 [some (.int x)] st h Q = wp V (cdT Ev) mx d 106 5 [some (.int x)] (.int x :: st) h Q := x_iload (len := 1) rfl rfl
theorem s_106_5 : wp V (cdT Ev) mx d 106 5 ls st h Q = wp V (cdT Ev) mx d 106 7 ls ((.int (6)) :: st) h Q := x_push (v := (.int (6))) (len := 2) rfl
theorem s_106_7 {x z : Int32} : wp V (cdT Ev) mx d 106 7 ls (.int z :: .int x :: st) h Q = (if z ≤ x then wp V (cdT Ev) mx d 106 14 ls st h Q else wp V (cdT Ev) mx d 106 10 ls st h Q) := x_if2 (c := fun x z => z ≤ x) rfl
theorem s_106_10 : wp V (cdT Ev) mx d 106 10 ls st h Q = wp V (cdT Ev) mx d 106 11 ls ((.int (1)) :: st) h Q := x_push (v := (.int (1))) (len := 1) rfl
theorem s_106_11 : wp V (cdT Ev) mx d 106 11 ls st h Q = wp V (cdT Ev) mx d 106 15 ls st h Q := x_goto rfl
theorem s_106_14 : wp V (cdT Ev) mx d 106 14 ls st h Q = wp V (cdT Ev) mx d 106 15 ls ((.int (0)) :: st) h Q := x_push (v := (.int (0))) (len := 1) rfl
theorem s_106_15 {x : Int32} (hx : okr 1 (.int x) = true) : wp V (cdT Ev) mx d 106 15 ls [.int x] h Q = Q (some (.int x)) h := x_ret rfl hx
theorem e_106 {p0 : Int32} : WP V (cdT Ev) mx (d + 1) 106 [.int p0] h Q = wp V (cdT Ev) mx d 106 0 [some (.int p0)] [] h Q := propext (WP_eq (Nat.le_of_ble_eq_true rfl))
theorem s_107_0 {x : Int32} : wp V (cdT Ev) mx d 107 0 [some (.int x)] st h Q = wp V (cdT Ev) mx d 107 1 [some (.int x)] (.int x :: st) h Q := x_iload (len := 1) rfl rfl
theorem s_107_1 {x : Int32} : wp V (cdT Ev) mx d 107 1 ls (.int x :: st) h Q = (if 0 ≤ x then wp V (cdT Ev) mx d 107 9 ls st h Q else wp V (cdT Ev) mx d 107 4 ls st h Q) := x_if1 (c := fun x => 0 ≤ x) rfl
theorem s_107_4 : wp V (cdT Ev) mx d 107 4 ls st h Q = wp V (cdT Ev) mx d 107 6 ls ((.int (-5)) :: st) h Q := x_push (v := (.int (-5))) (len := 2) rfl
theorem s_107_6 : wp V (cdT Ev) mx d 107 6 ls st h Q = wp V (cdT Ev) mx d 107 10 ls st h Q := x_goto rfl
theorem s_107_9 {x : Int32} : wp V (cdT Ev) mx d 107 9 [some (.int x)] st h Q = wp V (cdT Ev) mx d 107 10 [some (.int x)] (.int x :: st) h Q := x_iload (len := 1) rfl rfl
theorem s_107_10 {x : Int32} : wp V (cdT Ev) mx d 107 10 ls [.int x] h Q = Q (some (.int x)) h := x_ret rfl rfl
theorem e_107 {p0 : Int32} : WP V (cdT Ev) mx (d + 1) 107 [.int p0] h Q = wp V (cdT Ev) mx d 107 0 [some (.int p0)] [] h Q := propext (WP_eq (Nat.le_of_ble_eq_true rfl))
theorem s_108_0 {x : Int32} : wp V (cdT Ev) mx d 108 0 [some (.int x), l1, l2, l3] st h Q = wp V (cdT Ev) mx d 108 1 [some (.int x), l1, l2, l3] (.int x :: st) h Q := x_iload (len := 1) rfl rfl
theorem s_108_1 {x : Int32} (hn : nl l1 = true) : wp V (cdT Ev) mx d 108 1 [l0, l1, l2, l3] (.int x :: st) h Q = wp V (cdT Ev) mx d 108 2 [l0, l1, some (.int x), l3] st h Q := x_istore (len := 1) rfl (Nat.le_of_ble_eq_true rfl) (okp_nl rfl hn) rfl
theorem s_108_2 : wp V (cdT Ev) mx d 108 2 ls st h Q = wp V (cdT Ev) mx d 108 3 ls ((.int (0)) :: st) h Q := x_push (v := (.int (0))) (len := 1) rfl
theorem s_108_3 {x : Int32} (hn : nl l2 = true) : wp V (cdT Ev) mx d 108 3 [l0, l1, l2, l3] (.int x :: st) h Q = wp V (cdT Ev) mx d 108 4 [l0, l1, l2, some (.int x)] st h Q := x_istore (len := 1) rfl (Nat.le_of_ble_eq_true rfl) (okp_nl rfl hn) rfl
theorem s_108_4 {x : Int32} : wp V (cdT Ev) mx d 108 4 [l0, l1, l2, some (.int x)] st h Q = wp V (cdT Ev) mx d 108 5 [l0, l1, l2, some (.int x)] (.int x :: st) h Q := x_iload (len := 1) rfl rfl
theorem s_108_5 : wp V (cdT Ev) mx d 108 5 ls st h Q = wp V (cdT Ev) mx d 108 8 ls ((Ev 0) :: st) h Q := x_push (v := (Ev 0)) (len := 3) rfl
theorem s_108_8 {a : Nat} : wp V (cdT Ev) mx d 108 8 ls (.ref a :: st) h Q = ln V h a (fun x => wp V (cdT Ev) mx d 108 9 ls (.int x :: st) h Q) := x_alen rfl
theorem s_108_9 {x z : Int32} : wp V (cdT Ev) mx d 108 9 ls (.int z :: .int x :: st) h Q = (if z ≤ x then wp V (cdT Ev) mx d 108 35 ls st h Q else wp V (cdT Ev) mx d 108 12 ls st h Q) := x_if2 (c := fun x z => z ≤ x) rfl
theorem s_108_12 {x : Int32} : wp V (cdT Ev) mx d 108 12 [l0, l1, some (.int x), l3] st h Q = wp V (cdT Ev) mx d 108 13 [l0, l1, some (.int x), l3] (.int x :: st) h Q := x_iload (len := 1) rfl rfl
theorem s_108_13 {x : Int32} : wp V (cdT Ev) mx d 108 13 ls (.int x :: st) h Q = (if x < 0 then wp V (cdT Ev) mx d 108 35 ls st h Q else wp V (cdT Ev) mx d 108 16 ls st h Q) := x_if1 (c := fun x => x < 0) rfl
theorem s_108_16 {x : Int32} : wp V (cdT Ev) mx d 108 16 [l0, l1, some (.int x), l3] st h Q = wp V (cdT Ev) mx d 108 17 [l0, l1, some (.int x), l3] (.int x :: st) h Q := x_iload (len := 1) rfl rfl
theorem s_108_17 {x : Int32} : wp V (cdT Ev) mx d 108 17 [l0, some (.int x), l2, l3] st h Q = wp V (cdT Ev) mx d 108 18 [l0, some (.int x), l2, l3] (.int x :: st) h Q := x_iload (len := 1) rfl rfl
theorem s_108_18 {x z : Int32} : wp V (cdT Ev) mx d 108 18 ls (.int z :: .int x :: st) h Q = (if ¬ x = z then wp V (cdT Ev) mx d 108 23 ls st h Q else wp V (cdT Ev) mx d 108 21 ls st h Q) := x_if2 (c := fun x z => ¬ x = z) rfl
theorem s_108_21 : wp V (cdT Ev) mx d 108 21 ls st h Q = wp V (cdT Ev) mx d 108 22 ls ((.int (1)) :: st) h Q := x_push (v := (.int (1))) (len := 1) rfl
theorem s_108_22 {x : Int32} (hx : okr 1 (.int x) = true) : wp V (cdT Ev) mx d 108 22 ls [.int x] h Q = Q (some (.int x)) h := x_ret rfl hx
theorem s_108_23 : wp V (cdT Ev) mx d 108 23 ls st h Q = wp V (cdT Ev) mx d 108 26 ls ((Ev 0) :: st) h Q := x_push (v := (Ev 0)) (len := 3) rfl
theorem s_108_26 {x : Int32} : wp V (cdT Ev) mx d 108 26 [l0, l1, some (.int x), l3] st h Q = wp V (cdT Ev) mx d 108 27 [l0, l1, some (.int x), l3] (.int x :: st) h Q := x_iload (len := 1) rfl rfl
theorem s_108_27 {i : Int32} {a : Nat} : wp V (cdT Ev) mx d 108 27 ls (.int i :: .ref a :: st) h Q = ai 2 i V h a (fun x => wp V (cdT Ev) mx d 108 28 ls (.int x :: st) h Q) := x_iald rfl
theorem s_108_28 {x : Int32} (hn : nl l1 = true) : wp V (cdT Ev) mx d 108 28 [l0, l1, l2, l3] (.int x :: st) h Q = wp V (cdT Ev) mx d 108 29 [l0, l1, some (.int x), l3] st h Q := x_istore (len := 1) rfl (Nat.le_of_ble_eq_true rfl) (okp_nl rfl hn) rfl
theorem s_108_29 {x : Int32} : wp V (cdT Ev) mx d 108 29 [l0, l1, l2, some (.int x)] st h Q = wp V (cdT Ev) mx d 108 32 [l0, l1, l2, some (.int (x + (1)))] st h Q := x_iinc rfl rfl rfl
theorem s_108_32 : wp V (cdT Ev) mx d 108 32 ls st h Q = wp V (cdT Ev) mx d 108 4 ls st h Q := x_goto rfl
theorem s_108_35 : wp V (cdT Ev) mx d 108 35 ls st h Q = wp V (cdT Ev) mx d 108 36 ls ((.int (0)) :: st) h Q := x_push (v := (.int (0))) (len := 1) rfl
theorem s_108_36 {x : Int32} (hx : okr 1 (.int x) = true) : wp V (cdT Ev) mx d 108 36 ls [.int x] h Q = Q (some (.int x)) h := x_ret rfl hx
theorem e_108 {p0 : Int32} {p1 : Int32} : WP V (cdT Ev) mx (d + 1) 108 [.int p0, .int p1] h Q = wp V (cdT Ev) mx d 108 0 [some (.int p0), some (.int p1), none, none] [] h Q := propext (WP_eq (Nat.le_of_ble_eq_true rfl))
theorem s_109_0 {x : Int32} : wp V (cdT Ev) mx d 109 0 [some (.int x), l1, l2] st h Q = wp V (cdT Ev) mx d 109 1 [some (.int x), l1, l2] (.int x :: st) h Q := x_iload (len := 1) rfl rfl
theorem s_109_1 {x : Int32} : wp V (cdT Ev) mx d 109 1 ls (.int x :: st) h Q = (if x = 0 then wp V (cdT Ev) mx d 109 36 ls st h Q else (if x = 1 then wp V (cdT Ev) mx d 109 41 ls st h Q else (if x = 2 then wp V (cdT Ev) mx d 109 46 ls st h Q else (if x = 3 then wp V (cdT Ev) mx d 109 62 ls st h Q else (if x = 4 then wp V (cdT Ev) mx d 109 50 ls st h Q else wp V (cdT Ev) mx d 109 62 ls st h Q))))) := x_sw (t := 62) (l := [(0, 36), (1, 41), (2, 46), (3, 62), (4, 50)]) rfl
theorem s_109_36 {x : Int64} : wp V (cdT Ev) mx d 109 36 [l0, some (.long x), l2] st h Q = wp V (cdT Ev) mx d 109 37 [l0, some (.long x), l2] (.long x :: st) h Q := x_lload (len := 1) rfl rfl
theorem s_109_37 {x : Int64} : wp V (cdT Ev) mx d 109 37 ls (.long x :: st) h Q = wp V (cdT Ev) mx d 109 38 ls (.int x.toInt32 :: st) h Q := x_l2i rfl
theorem s_109_38 {x : Int32} : wp V (cdT Ev) mx d 109 38 ls (.int x :: st) h Q = wp V (cdT Ev) mx d 109 39 ls (.int (x.toInt8.toInt32) :: st) h Q := x_iu (f := fun x => x.toInt8.toInt32) rfl
theorem s_109_39 {x : Int32} : wp V (cdT Ev) mx d 109 39 ls (.int x :: st) h Q = wp V (cdT Ev) mx d 109 40 ls (.long x.toInt64 :: st) h Q := x_i2l rfl
theorem s_109_40 {x : Int64} : wp V (cdT Ev) mx d 109 40 ls [.long x] h Q = Q (some (.long x)) h := x_ret rfl rfl
theorem s_109_41 {x : Int64} : wp V (cdT Ev) mx d 109 41 [l0, some (.long x), l2] st h Q = wp V (cdT Ev) mx d 109 42 [l0, some (.long x), l2] (.long x :: st) h Q := x_lload (len := 1) rfl rfl
theorem s_109_42 {x : Int64} : wp V (cdT Ev) mx d 109 42 ls (.long x :: st) h Q = wp V (cdT Ev) mx d 109 43 ls (.int x.toInt32 :: st) h Q := x_l2i rfl
theorem s_109_43 {x : Int32} : wp V (cdT Ev) mx d 109 43 ls (.int x :: st) h Q = wp V (cdT Ev) mx d 109 44 ls (.int (x.toInt16.toInt32) :: st) h Q := x_iu (f := fun x => x.toInt16.toInt32) rfl
theorem s_109_44 {x : Int32} : wp V (cdT Ev) mx d 109 44 ls (.int x :: st) h Q = wp V (cdT Ev) mx d 109 45 ls (.long x.toInt64 :: st) h Q := x_i2l rfl
theorem s_109_45 {x : Int64} : wp V (cdT Ev) mx d 109 45 ls [.long x] h Q = Q (some (.long x)) h := x_ret rfl rfl
theorem s_109_46 {x : Int64} : wp V (cdT Ev) mx d 109 46 [l0, some (.long x), l2] st h Q = wp V (cdT Ev) mx d 109 47 [l0, some (.long x), l2] (.long x :: st) h Q := x_lload (len := 1) rfl rfl
theorem s_109_47 {x : Int64} : wp V (cdT Ev) mx d 109 47 ls (.long x :: st) h Q = wp V (cdT Ev) mx d 109 48 ls (.int x.toInt32 :: st) h Q := x_l2i rfl
theorem s_109_48 {x : Int32} : wp V (cdT Ev) mx d 109 48 ls (.int x :: st) h Q = wp V (cdT Ev) mx d 109 49 ls (.long x.toInt64 :: st) h Q := x_i2l rfl
theorem s_109_49 {x : Int64} : wp V (cdT Ev) mx d 109 49 ls [.long x] h Q = Q (some (.long x)) h := x_ret rfl rfl
theorem s_109_50 {x : Int64} : wp V (cdT Ev) mx d 109 50 [l0, some (.long x), l2] st h Q = wp V (cdT Ev) mx d 109 51 [l0, some (.long x), l2] (.long x :: st) h Q := x_lload (len := 1) rfl rfl
theorem s_109_51 : wp V (cdT Ev) mx d 109 51 ls st h Q = wp V (cdT Ev) mx d 109 52 ls ((.long (0)) :: st) h Q := x_push (v := (.long (0))) (len := 1) rfl
theorem s_109_52 {x z : Int64} : wp V (cdT Ev) mx d 109 52 ls (.long z :: .long x :: st) h Q = wp V (cdT Ev) mx d 109 53 ls (.int (lg_cmp x z) :: st) h Q := x_lcmp rfl
theorem s_109_53 {x : Int32} : wp V (cdT Ev) mx d 109 53 ls (.int x :: st) h Q = (if x = 0 then wp V (cdT Ev) mx d 109 60 ls st h Q else wp V (cdT Ev) mx d 109 56 ls st h Q) := x_if1 (c := fun x => x = 0) rfl
theorem s_109_56 : wp V (cdT Ev) mx d 109 56 ls st h Q = wp V (cdT Ev) mx d 109 57 ls ((.long (1)) :: st) h Q := x_push (v := (.long (1))) (len := 1) rfl
theorem s_109_57 : wp V (cdT Ev) mx d 109 57 ls st h Q = wp V (cdT Ev) mx d 109 61 ls st h Q := x_goto rfl
theorem s_109_60 : wp V (cdT Ev) mx d 109 60 ls st h Q = wp V (cdT Ev) mx d 109 61 ls ((.long (0)) :: st) h Q := x_push (v := (.long (0))) (len := 1) rfl
theorem s_109_61 {x : Int64} : wp V (cdT Ev) mx d 109 61 ls [.long x] h Q = Q (some (.long x)) h := x_ret rfl rfl
theorem s_109_62 {x : Int64} : wp V (cdT Ev) mx d 109 62 [l0, some (.long x), l2] st h Q = wp V (cdT Ev) mx d 109 63 [l0, some (.long x), l2] (.long x :: st) h Q := x_lload (len := 1) rfl rfl
theorem s_109_63 {x : Int64} : wp V (cdT Ev) mx d 109 63 ls [.long x] h Q = Q (some (.long x)) h := x_ret rfl rfl
theorem e_109 {p0 : Int32} {p1 : Int64} : WP V (cdT Ev) mx (d + 1) 109 [.int p0, .long p1] h Q = wp V (cdT Ev) mx d 109 0 [some (.int p0), some (.long p1), none] [] h Q := propext (WP_eq (Nat.le_of_ble_eq_true rfl))
theorem s_110_0 {x : Int32} : wp V (cdT Ev) mx d 110 0 [l0, some (.int x), l2, l3, l4] st h Q = wp V (cdT Ev) mx d 110 1 [l0, some (.int x), l2, l3, l4] (.int x :: st) h Q := x_iload (len := 1) rfl rfl
theorem s_110_1 : wp V (cdT Ev) mx d 110 1 ls st h Q = wp V (cdT Ev) mx d 110 2 ls ((.int (1)) :: st) h Q := x_push (v := (.int (1))) (len := 1) rfl
theorem s_110_2 {x z : Int32} : wp V (cdT Ev) mx d 110 2 ls (.int z :: .int x :: st) h Q = (if z ≤ x then wp V (cdT Ev) mx d 110 9 ls st h Q else wp V (cdT Ev) mx d 110 5 ls st h Q) := x_if2 (c := fun x z => z ≤ x) rfl
theorem s_110_5 : wp V (cdT Ev) mx d 110 5 ls st h Q = wp V (cdT Ev) mx d 110 8 ls ((.long (-9223372036854775808)) :: st) h Q := x_push (v := (.long (-9223372036854775808))) (len := 3) rfl
theorem s_110_8 {x : Int64} : wp V (cdT Ev) mx d 110 8 ls [.long x] h Q = Q (some (.long x)) h := x_ret rfl rfl
theorem s_110_9 : wp V (cdT Ev) mx d 110 9 ls st h Q = wp V (cdT Ev) mx d 110 10 ls ((.int (1)) :: st) h Q := x_push (v := (.int (1))) (len := 1) rfl
theorem s_110_10 {x : Int32} (hn : nl l2 = true) : wp V (cdT Ev) mx d 110 10 [l0, l1, l2, l3, l4] (.int x :: st) h Q = wp V (cdT Ev) mx d 110 11 [l0, l1, l2, some (.int x), l4] st h Q := x_istore (len := 1) rfl (Nat.le_of_ble_eq_true rfl) (okp_nl rfl hn) rfl
theorem s_110_11 : wp V (cdT Ev) mx d 110 11 ls st h Q = wp V (cdT Ev) mx d 110 12 ls ((.int (2)) :: st) h Q := x_push (v := (.int (2))) (len := 1) rfl
theorem s_110_12 {x : Int32} (hn : nl l3 = true) : wp V (cdT Ev) mx d 110 12 [l0, l1, l2, l3, l4] (.int x :: st) h Q = wp V (cdT Ev) mx d 110 14 [l0, l1, l2, l3, some (.int x)] st h Q := x_istore (len := 2) rfl (Nat.le_of_ble_eq_true rfl) (okp_nl rfl hn) rfl
theorem s_110_14 {x : Int32} : wp V (cdT Ev) mx d 110 14 [l0, l1, l2, l3, some (.int x)] st h Q = wp V (cdT Ev) mx d 110 16 [l0, l1, l2, l3, some (.int x)] (.int x :: st) h Q := x_iload (len := 2) rfl rfl
theorem s_110_16 {x : Int32} : wp V (cdT Ev) mx d 110 16 [l0, some (.int x), l2, l3, l4] st h Q = wp V (cdT Ev) mx d 110 17 [l0, some (.int x), l2, l3, l4] (.int x :: st) h Q := x_iload (len := 1) rfl rfl
theorem s_110_17 {x z : Int32} : wp V (cdT Ev) mx d 110 17 ls (.int z :: .int x :: st) h Q = (if z < x then wp V (cdT Ev) mx d 110 43 ls st h Q else wp V (cdT Ev) mx d 110 20 ls st h Q) := x_if2 (c := fun x z => z < x) rfl
theorem s_110_20 {x : Int32} : wp V (cdT Ev) mx d 110 20 [some (.int x), l1, l2, l3, l4] st h Q = wp V (cdT Ev) mx d 110 21 [some (.int x), l1, l2, l3, l4] (.int x :: st) h Q := x_iload (len := 1) rfl rfl
theorem s_110_21 {x : Int32} : wp V (cdT Ev) mx d 110 21 [l0, l1, l2, l3, some (.int x)] st h Q = wp V (cdT Ev) mx d 110 23 [l0, l1, l2, l3, some (.int x)] (.int x :: st) h Q := x_iload (len := 2) rfl rfl
theorem s_110_23 {x z : Int32} : wp V (cdT Ev) mx d 110 23 ls (.int z :: .int x :: st) h Q = (¬ z = 0 ∧ wp V (cdT Ev) mx d 110 24 ls (.int (x - x / z * z) :: st) h Q) := x_ibz (f := fun x z => x - x / z * z) rfl
theorem s_110_24 {x : Int32} : wp V (cdT Ev) mx d 110 24 ls (.int x :: st) h Q = (if ¬ x = 0 then wp V (cdT Ev) mx d 110 37 ls st h Q else wp V (cdT Ev) mx d 110 27 ls st h Q) := x_if1 (c := fun x => ¬ x = 0) rfl
theorem s_110_27 {x : Int32} : wp V (cdT Ev) mx d 110 27 [l0, some (.int x), l2, l3, l4] st h Q = wp V (cdT Ev) mx d 110 28 [l0, some (.int x), l2, l3, l4] (.int x :: st) h Q := x_iload (len := 1) rfl rfl
theorem s_110_28 {x : Int32} : wp V (cdT Ev) mx d 110 28 [l0, l1, l2, l3, some (.int x)] st h Q = wp V (cdT Ev) mx d 110 30 [l0, l1, l2, l3, some (.int x)] (.int x :: st) h Q := x_iload (len := 2) rfl rfl
theorem s_110_30 {x z : Int32} : wp V (cdT Ev) mx d 110 30 ls (.int z :: .int x :: st) h Q = (¬ z = 0 ∧ wp V (cdT Ev) mx d 110 31 ls (.int (x - x / z * z) :: st) h Q) := x_ibz (f := fun x z => x - x / z * z) rfl
theorem s_110_31 {x : Int32} : wp V (cdT Ev) mx d 110 31 ls (.int x :: st) h Q = (if ¬ x = 0 then wp V (cdT Ev) mx d 110 37 ls st h Q else wp V (cdT Ev) mx d 110 34 ls st h Q) := x_if1 (c := fun x => ¬ x = 0) rfl
theorem s_110_34 {x : Int32} : wp V (cdT Ev) mx d 110 34 [l0, l1, l2, l3, some (.int x)] st h Q = wp V (cdT Ev) mx d 110 36 [l0, l1, l2, l3, some (.int x)] (.int x :: st) h Q := x_iload (len := 2) rfl rfl
theorem s_110_36 {x : Int32} (hn : nl l2 = true) : wp V (cdT Ev) mx d 110 36 [l0, l1, l2, l3, l4] (.int x :: st) h Q = wp V (cdT Ev) mx d 110 37 [l0, l1, l2, some (.int x), l4] st h Q := x_istore (len := 1) rfl (Nat.le_of_ble_eq_true rfl) (okp_nl rfl hn) rfl
theorem s_110_37 {x : Int32} : wp V (cdT Ev) mx d 110 37 [l0, l1, l2, l3, some (.int x)] st h Q = wp V (cdT Ev) mx d 110 40 [l0, l1, l2, l3, some (.int (x + (1)))] st h Q := x_iinc rfl rfl rfl
theorem s_110_40 : wp V (cdT Ev) mx d 110 40 ls st h Q = wp V (cdT Ev) mx d 110 14 ls st h Q := x_goto rfl
theorem s_110_43 {x : Int32} : wp V (cdT Ev) mx d 110 43 [l0, l1, some (.int x), l3, l4] st h Q = wp V (cdT Ev) mx d 110 44 [l0, l1, some (.int x), l3, l4] (.int x :: st) h Q := x_iload (len := 1) rfl rfl
theorem s_110_44 {x : Int32} : wp V (cdT Ev) mx d 110 44 ls (.int x :: st) h Q = (if ¬ x = 0 then wp V (cdT Ev) mx d 110 54 ls st h Q else wp V (cdT Ev) mx d 110 47 ls st h Q) := x_if1 (c := fun x => ¬ x = 0) rfl
theorem s_110_47 {x : Int32} : wp V (cdT Ev) mx d 110 47 [some (.int x), l1, l2, l3, l4] st h Q = wp V (cdT Ev) mx d 110 48 [some (.int x), l1, l2, l3, l4] (.int x :: st) h Q := x_iload (len := 1) rfl rfl
theorem s_110_48 {x : Int32} : wp V (cdT Ev) mx d 110 48 [l0, l1, l2, some (.int x), l4] st h Q = wp V (cdT Ev) mx d 110 49 [l0, l1, l2, some (.int x), l4] (.int x :: st) h Q := x_iload (len := 1) rfl rfl
theorem s_110_49 {x z : Int32} : wp V (cdT Ev) mx d 110 49 ls (.int z :: .int x :: st) h Q = (¬ z = 0 ∧ wp V (cdT Ev) mx d 110 50 ls (.int (x / z) :: st) h Q) := x_ibz (f := fun x z => x / z) rfl
theorem s_110_50 {x : Int32} : wp V (cdT Ev) mx d 110 50 ls (.int x :: st) h Q = wp V (cdT Ev) mx d 110 51 ls (.long x.toInt64 :: st) h Q := x_i2l rfl
theorem s_110_51 : wp V (cdT Ev) mx d 110 51 ls st h Q = wp V (cdT Ev) mx d 110 58 ls st h Q := x_goto rfl
theorem s_110_54 {x : Int32} : wp V (cdT Ev) mx d 110 54 [l0, some (.int x), l2, l3, l4] st h Q = wp V (cdT Ev) mx d 110 55 [l0, some (.int x), l2, l3, l4] (.int x :: st) h Q := x_iload (len := 1) rfl rfl
theorem s_110_55 {x : Int32} : wp V (cdT Ev) mx d 110 55 [l0, l1, l2, some (.int x), l4] st h Q = wp V (cdT Ev) mx d 110 56 [l0, l1, l2, some (.int x), l4] (.int x :: st) h Q := x_iload (len := 1) rfl rfl
theorem s_110_56 {x z : Int32} : wp V (cdT Ev) mx d 110 56 ls (.int z :: .int x :: st) h Q = (¬ z = 0 ∧ wp V (cdT Ev) mx d 110 57 ls (.int (x / z) :: st) h Q) := x_ibz (f := fun x z => x / z) rfl
theorem s_110_57 {x : Int32} : wp V (cdT Ev) mx d 110 57 ls (.int x :: st) h Q = wp V (cdT Ev) mx d 110 58 ls (.long x.toInt64 :: st) h Q := x_i2l rfl
theorem s_110_58 {x : Int64} : wp V (cdT Ev) mx d 110 58 ls [.long x] h Q = Q (some (.long x)) h := x_ret rfl rfl
theorem e_110 {p0 : Int32} {p1 : Int32} {p2 : Int32} : WP V (cdT Ev) mx (d + 1) 110 [.int p0, .int p1, .int p2] h Q = wp V (cdT Ev) mx d 110 0 [some (.int p0), some (.int p1), some (.int p2), none, none] [] h Q := propext (WP_eq (Nat.le_of_ble_eq_true rfl))
theorem s_111_0 {x : Int32} : wp V (cdT Ev) mx d 111 0 [l0, some (.int x), l2, l3] st h Q = wp V (cdT Ev) mx d 111 1 [l0, some (.int x), l2, l3] (.int x :: st) h Q := x_iload (len := 1) rfl rfl
theorem s_111_1 {x : Int32} : wp V (cdT Ev) mx d 111 1 ls (.int x :: st) h Q = (if x < 0 then wp V (cdT Ev) mx d 111 9 ls st h Q else wp V (cdT Ev) mx d 111 4 ls st h Q) := x_if1 (c := fun x => x < 0) rfl
theorem s_111_4 {x : Int32} : wp V (cdT Ev) mx d 111 4 [l0, some (.int x), l2, l3] st h Q = wp V (cdT Ev) mx d 111 5 [l0, some (.int x), l2, l3] (.int x :: st) h Q := x_iload (len := 1) rfl rfl
theorem s_111_5 {x : Int32} : wp V (cdT Ev) mx d 111 5 [some (.int x), l1, l2, l3] st h Q = wp V (cdT Ev) mx d 111 6 [some (.int x), l1, l2, l3] (.int x :: st) h Q := x_iload (len := 1) rfl rfl
theorem s_111_6 {x z : Int32} : wp V (cdT Ev) mx d 111 6 ls (.int z :: .int x :: st) h Q = (if x ≤ z then wp V (cdT Ev) mx d 111 11 ls st h Q else wp V (cdT Ev) mx d 111 9 ls st h Q) := x_if2 (c := fun x z => x ≤ z) rfl
theorem s_111_9 : wp V (cdT Ev) mx d 111 9 ls st h Q = wp V (cdT Ev) mx d 111 10 ls ((.int (0)) :: st) h Q := x_push (v := (.int (0))) (len := 1) rfl
theorem s_111_10 {x : Int32} : wp V (cdT Ev) mx d 111 10 ls [.int x] h Q = Q (some (.int x)) h := x_ret rfl rfl
theorem s_111_11 : wp V (cdT Ev) mx d 111 11 ls st h Q = wp V (cdT Ev) mx d 111 12 ls ((.int (1)) :: st) h Q := x_push (v := (.int (1))) (len := 1) rfl
theorem s_111_12 {x : Int32} (hn : nl l1 = true) : wp V (cdT Ev) mx d 111 12 [l0, l1, l2, l3] (.int x :: st) h Q = wp V (cdT Ev) mx d 111 13 [l0, l1, some (.int x), l3] st h Q := x_istore (len := 1) rfl (Nat.le_of_ble_eq_true rfl) (okp_nl rfl hn) rfl
theorem s_111_13 : wp V (cdT Ev) mx d 111 13 ls st h Q = wp V (cdT Ev) mx d 111 14 ls ((.int (0)) :: st) h Q := x_push (v := (.int (0))) (len := 1) rfl
theorem s_111_14 {x : Int32} (hn : nl l2 = true) : wp V (cdT Ev) mx d 111 14 [l0, l1, l2, l3] (.int x :: st) h Q = wp V (cdT Ev) mx d 111 15 [l0, l1, l2, some (.int x)] st h Q := x_istore (len := 1) rfl (Nat.le_of_ble_eq_true rfl) (okp_nl rfl hn) rfl
theorem s_111_15 {x : Int32} : wp V (cdT Ev) mx d 111 15 [l0, l1, l2, some (.int x)] st h Q = wp V (cdT Ev) mx d 111 16 [l0, l1, l2, some (.int x)] (.int x :: st) h Q := x_iload (len := 1) rfl rfl
theorem s_111_16 {x : Int32} : wp V (cdT Ev) mx d 111 16 [l0, some (.int x), l2, l3] st h Q = wp V (cdT Ev) mx d 111 17 [l0, some (.int x), l2, l3] (.int x :: st) h Q := x_iload (len := 1) rfl rfl
theorem s_111_17 {x z : Int32} : wp V (cdT Ev) mx d 111 17 ls (.int z :: .int x :: st) h Q = (if z ≤ x then wp V (cdT Ev) mx d 111 36 ls st h Q else wp V (cdT Ev) mx d 111 20 ls st h Q) := x_if2 (c := fun x z => z ≤ x) rfl
theorem s_111_20 {x : Int32} : wp V (cdT Ev) mx d 111 20 [l0, l1, some (.int x), l3] st h Q = wp V (cdT Ev) mx d 111 21 [l0, l1, some (.int x), l3] (.int x :: st) h Q := x_iload (len := 1) rfl rfl
theorem s_111_21 {x : Int32} : wp V (cdT Ev) mx d 111 21 [some (.int x), l1, l2, l3] st h Q = wp V (cdT Ev) mx d 111 22 [some (.int x), l1, l2, l3] (.int x :: st) h Q := x_iload (len := 1) rfl rfl
theorem s_111_22 {x : Int32} : wp V (cdT Ev) mx d 111 22 [l0, l1, l2, some (.int x)] st h Q = wp V (cdT Ev) mx d 111 23 [l0, l1, l2, some (.int x)] (.int x :: st) h Q := x_iload (len := 1) rfl rfl
theorem s_111_23 {x z : Int32} : wp V (cdT Ev) mx d 111 23 ls (.int z :: .int x :: st) h Q = wp V (cdT Ev) mx d 111 24 ls (.int (x - z) :: st) h Q := x_ib (f := fun x z => x - z) rfl
theorem s_111_24 {x z : Int32} : wp V (cdT Ev) mx d 111 24 ls (.int z :: .int x :: st) h Q = wp V (cdT Ev) mx d 111 25 ls (.int (x * z) :: st) h Q := x_ib (f := fun x z => x * z) rfl
theorem s_111_25 {x : Int32} : wp V (cdT Ev) mx d 111 25 [l0, l1, l2, some (.int x)] st h Q = wp V (cdT Ev) mx d 111 26 [l0, l1, l2, some (.int x)] (.int x :: st) h Q := x_iload (len := 1) rfl rfl
theorem s_111_26 : wp V (cdT Ev) mx d 111 26 ls st h Q = wp V (cdT Ev) mx d 111 27 ls ((.int (1)) :: st) h Q := x_push (v := (.int (1))) (len := 1) rfl
theorem s_111_27 {x z : Int32} : wp V (cdT Ev) mx d 111 27 ls (.int z :: .int x :: st) h Q = wp V (cdT Ev) mx d 111 28 ls (.int (x + z) :: st) h Q := x_ib (f := fun x z => x + z) rfl
theorem s_111_28 {x z : Int32} : wp V (cdT Ev) mx d 111 28 ls (.int z :: .int x :: st) h Q = (¬ z = 0 ∧ wp V (cdT Ev) mx d 111 29 ls (.int (x / z) :: st) h Q) := x_ibz (f := fun x z => x / z) rfl
theorem s_111_29 {x : Int32} (hn : nl l1 = true) : wp V (cdT Ev) mx d 111 29 [l0, l1, l2, l3] (.int x :: st) h Q = wp V (cdT Ev) mx d 111 30 [l0, l1, some (.int x), l3] st h Q := x_istore (len := 1) rfl (Nat.le_of_ble_eq_true rfl) (okp_nl rfl hn) rfl
theorem s_111_30 {x : Int32} : wp V (cdT Ev) mx d 111 30 [l0, l1, l2, some (.int x)] st h Q = wp V (cdT Ev) mx d 111 33 [l0, l1, l2, some (.int (x + (1)))] st h Q := x_iinc rfl rfl rfl
theorem s_111_33 : wp V (cdT Ev) mx d 111 33 ls st h Q = wp V (cdT Ev) mx d 111 15 ls st h Q := x_goto rfl
theorem s_111_36 {x : Int32} : wp V (cdT Ev) mx d 111 36 [l0, l1, some (.int x), l3] st h Q = wp V (cdT Ev) mx d 111 37 [l0, l1, some (.int x), l3] (.int x :: st) h Q := x_iload (len := 1) rfl rfl
theorem s_111_37 {x : Int32} : wp V (cdT Ev) mx d 111 37 ls [.int x] h Q = Q (some (.int x)) h := x_ret rfl rfl
theorem e_111 {p0 : Int32} {p1 : Int32} : WP V (cdT Ev) mx (d + 1) 111 [.int p0, .int p1] h Q = wp V (cdT Ev) mx d 111 0 [some (.int p0), some (.int p1), none, none] [] h Q := propext (WP_eq (Nat.le_of_ble_eq_true rfl))
theorem s_112_0 {x : Int32} : wp V (cdT Ev) mx d 112 0 [some (.int x), l1] st h Q = wp V (cdT Ev) mx d 112 1 [some (.int x), l1] (.int x :: st) h Q := x_iload (len := 1) rfl rfl
theorem s_112_1 {x : Int32} : wp V (cdT Ev) mx d 112 1 ls (.int x :: st) h Q = (if x = 1 then wp V (cdT Ev) mx d 112 40 ls st h Q else (if x = 2 then wp V (cdT Ev) mx d 112 50 ls st h Q else (if x = 3 then wp V (cdT Ev) mx d 112 60 ls st h Q else (if x = 4 then wp V (cdT Ev) mx d 112 70 ls st h Q else (if x = 5 then wp V (cdT Ev) mx d 112 80 ls st h Q else (if x = 6 then wp V (cdT Ev) mx d 112 90 ls st h Q else wp V (cdT Ev) mx d 112 101 ls st h Q)))))) := x_sw (t := 101) (l := [(1, 40), (2, 50), (3, 60), (4, 70), (5, 80), (6, 90)]) rfl
theorem s_112_40 : wp V (cdT Ev) mx d 112 40 ls st h Q = wp V (cdT Ev) mx d 112 43 ls (.ref h.2.1 :: st) (hnew h (.inr (6, [.int 0, .int 0, .int 0, .int 0, .int 0, .int 0])) 6) Q := x_new rfl
theorem s_112_43 {a : Nat} : wp V (cdT Ev) mx d 112 43 ls (.ref a :: st) h Q = wp V (cdT Ev) mx d 112 44 ls (.ref a :: .ref a :: st) h Q := x_dup rfl rfl
theorem s_112_43_i {x : Int32} : wp V (cdT Ev) mx d 112 43 ls (.int x :: st) h Q = wp V (cdT Ev) mx d 112 44 ls (.int x :: .int x :: st) h Q := x_dup rfl rfl
theorem s_112_44 : wp V (cdT Ev) mx d 112 44 ls st h Q = wp V (cdT Ev) mx d 112 45 ls ((.int (1)) :: st) h Q := x_push (v := (.int (1))) (len := 1) rfl
theorem s_112_45 {x : Int32} : wp V (cdT Ev) mx d 112 45 [l0, some (.int x)] st h Q = wp V (cdT Ev) mx d 112 46 [l0, some (.int x)] (.int x :: st) h Q := x_iload (len := 1) rfl rfl
theorem s_112_46 {b : Nat} {v0 v1 : Value} (hst : st.length ≤ 4) : wp V (cdT Ev) mx d 112 46 ls (v1 :: v0 :: .ref b :: st) h Q = WP V (cdT Ev) mx d 34 [.ref b, v0, v1] h (fun r h' => wp V (cdT Ev) mx d 112 49 ls (rts r st) h' Q) := x_ci (sg := [v1, v0]) rfl hst rfl rfl
theorem s_112_49 {a : Nat} : wp V (cdT Ev) mx d 112 49 ls [.ref a] h Q = Q (some (.ref a)) h := x_ret rfl rfl
theorem s_112_49_n : wp V (cdT Ev) mx d 112 49 ls [.null] h Q = Q (some .null) h := x_ret rfl rfl
theorem s_112_50 : wp V (cdT Ev) mx d 112 50 ls st h Q = wp V (cdT Ev) mx d 112 53 ls (.ref h.2.1 :: st) (hnew h (.inr (2, [.int 0, .int 0, .int 0, .int 0, .int 0, .int 0])) 6) Q := x_new rfl
theorem s_112_53 {a : Nat} : wp V (cdT Ev) mx d 112 53 ls (.ref a :: st) h Q = wp V (cdT Ev) mx d 112 54 ls (.ref a :: .ref a :: st) h Q := x_dup rfl rfl
theorem s_112_53_i {x : Int32} : wp V (cdT Ev) mx d 112 53 ls (.int x :: st) h Q = wp V (cdT Ev) mx d 112 54 ls (.int x :: .int x :: st) h Q := x_dup rfl rfl
theorem s_112_54 : wp V (cdT Ev) mx d 112 54 ls st h Q = wp V (cdT Ev) mx d 112 55 ls ((.int (2)) :: st) h Q := x_push (v := (.int (2))) (len := 1) rfl
theorem s_112_55 {x : Int32} : wp V (cdT Ev) mx d 112 55 [l0, some (.int x)] st h Q = wp V (cdT Ev) mx d 112 56 [l0, some (.int x)] (.int x :: st) h Q := x_iload (len := 1) rfl rfl
theorem s_112_56 {b : Nat} {v0 v1 : Value} (hst : st.length ≤ 4) : wp V (cdT Ev) mx d 112 56 ls (v1 :: v0 :: .ref b :: st) h Q = WP V (cdT Ev) mx d 18 [.ref b, v0, v1] h (fun r h' => wp V (cdT Ev) mx d 112 59 ls (rts r st) h' Q) := x_ci (sg := [v1, v0]) rfl hst rfl rfl
theorem s_112_59 {a : Nat} : wp V (cdT Ev) mx d 112 59 ls [.ref a] h Q = Q (some (.ref a)) h := x_ret rfl rfl
theorem s_112_59_n : wp V (cdT Ev) mx d 112 59 ls [.null] h Q = Q (some .null) h := x_ret rfl rfl
theorem s_112_60 : wp V (cdT Ev) mx d 112 60 ls st h Q = wp V (cdT Ev) mx d 112 63 ls (.ref h.2.1 :: st) (hnew h (.inr (3, [.int 0, .int 0, .int 0, .int 0, .int 0, .int 0])) 6) Q := x_new rfl
theorem s_112_63 {a : Nat} : wp V (cdT Ev) mx d 112 63 ls (.ref a :: st) h Q = wp V (cdT Ev) mx d 112 64 ls (.ref a :: .ref a :: st) h Q := x_dup rfl rfl
theorem s_112_63_i {x : Int32} : wp V (cdT Ev) mx d 112 63 ls (.int x :: st) h Q = wp V (cdT Ev) mx d 112 64 ls (.int x :: .int x :: st) h Q := x_dup rfl rfl
theorem s_112_64 : wp V (cdT Ev) mx d 112 64 ls st h Q = wp V (cdT Ev) mx d 112 65 ls ((.int (3)) :: st) h Q := x_push (v := (.int (3))) (len := 1) rfl
theorem s_112_65 {x : Int32} : wp V (cdT Ev) mx d 112 65 [l0, some (.int x)] st h Q = wp V (cdT Ev) mx d 112 66 [l0, some (.int x)] (.int x :: st) h Q := x_iload (len := 1) rfl rfl
theorem s_112_66 {b : Nat} {v0 v1 : Value} (hst : st.length ≤ 4) : wp V (cdT Ev) mx d 112 66 ls (v1 :: v0 :: .ref b :: st) h Q = WP V (cdT Ev) mx d 21 [.ref b, v0, v1] h (fun r h' => wp V (cdT Ev) mx d 112 69 ls (rts r st) h' Q) := x_ci (sg := [v1, v0]) rfl hst rfl rfl
theorem s_112_69 {a : Nat} : wp V (cdT Ev) mx d 112 69 ls [.ref a] h Q = Q (some (.ref a)) h := x_ret rfl rfl
theorem s_112_69_n : wp V (cdT Ev) mx d 112 69 ls [.null] h Q = Q (some .null) h := x_ret rfl rfl
theorem s_112_70 : wp V (cdT Ev) mx d 112 70 ls st h Q = wp V (cdT Ev) mx d 112 73 ls (.ref h.2.1 :: st) (hnew h (.inr (5, [.int 0, .int 0, .int 0, .int 0, .int 0, .int 0])) 6) Q := x_new rfl
theorem s_112_73 {a : Nat} : wp V (cdT Ev) mx d 112 73 ls (.ref a :: st) h Q = wp V (cdT Ev) mx d 112 74 ls (.ref a :: .ref a :: st) h Q := x_dup rfl rfl
theorem s_112_73_i {x : Int32} : wp V (cdT Ev) mx d 112 73 ls (.int x :: st) h Q = wp V (cdT Ev) mx d 112 74 ls (.int x :: .int x :: st) h Q := x_dup rfl rfl
theorem s_112_74 : wp V (cdT Ev) mx d 112 74 ls st h Q = wp V (cdT Ev) mx d 112 75 ls ((.int (4)) :: st) h Q := x_push (v := (.int (4))) (len := 1) rfl
theorem s_112_75 {x : Int32} : wp V (cdT Ev) mx d 112 75 [l0, some (.int x)] st h Q = wp V (cdT Ev) mx d 112 76 [l0, some (.int x)] (.int x :: st) h Q := x_iload (len := 1) rfl rfl
theorem s_112_76 {b : Nat} {v0 v1 : Value} (hst : st.length ≤ 4) : wp V (cdT Ev) mx d 112 76 ls (v1 :: v0 :: .ref b :: st) h Q = WP V (cdT Ev) mx d 30 [.ref b, v0, v1] h (fun r h' => wp V (cdT Ev) mx d 112 79 ls (rts r st) h' Q) := x_ci (sg := [v1, v0]) rfl hst rfl rfl
theorem s_112_79 {a : Nat} : wp V (cdT Ev) mx d 112 79 ls [.ref a] h Q = Q (some (.ref a)) h := x_ret rfl rfl
theorem s_112_79_n : wp V (cdT Ev) mx d 112 79 ls [.null] h Q = Q (some .null) h := x_ret rfl rfl
theorem s_112_80 : wp V (cdT Ev) mx d 112 80 ls st h Q = wp V (cdT Ev) mx d 112 83 ls (.ref h.2.1 :: st) (hnew h (.inr (1, [.int 0, .int 0, .int 0, .int 0, .int 0, .int 0])) 6) Q := x_new rfl
theorem s_112_83 {a : Nat} : wp V (cdT Ev) mx d 112 83 ls (.ref a :: st) h Q = wp V (cdT Ev) mx d 112 84 ls (.ref a :: .ref a :: st) h Q := x_dup rfl rfl
theorem s_112_83_i {x : Int32} : wp V (cdT Ev) mx d 112 83 ls (.int x :: st) h Q = wp V (cdT Ev) mx d 112 84 ls (.int x :: .int x :: st) h Q := x_dup rfl rfl
theorem s_112_84 : wp V (cdT Ev) mx d 112 84 ls st h Q = wp V (cdT Ev) mx d 112 85 ls ((.int (5)) :: st) h Q := x_push (v := (.int (5))) (len := 1) rfl
theorem s_112_85 {x : Int32} : wp V (cdT Ev) mx d 112 85 [l0, some (.int x)] st h Q = wp V (cdT Ev) mx d 112 86 [l0, some (.int x)] (.int x :: st) h Q := x_iload (len := 1) rfl rfl
theorem s_112_86 {b : Nat} {v0 v1 : Value} (hst : st.length ≤ 4) : wp V (cdT Ev) mx d 112 86 ls (v1 :: v0 :: .ref b :: st) h Q = WP V (cdT Ev) mx d 15 [.ref b, v0, v1] h (fun r h' => wp V (cdT Ev) mx d 112 89 ls (rts r st) h' Q) := x_ci (sg := [v1, v0]) rfl hst rfl rfl
theorem s_112_89 {a : Nat} : wp V (cdT Ev) mx d 112 89 ls [.ref a] h Q = Q (some (.ref a)) h := x_ret rfl rfl
theorem s_112_89_n : wp V (cdT Ev) mx d 112 89 ls [.null] h Q = Q (some .null) h := x_ret rfl rfl
theorem s_112_90 : wp V (cdT Ev) mx d 112 90 ls st h Q = wp V (cdT Ev) mx d 112 93 ls (.ref h.2.1 :: st) (hnew h (.inr (8, [.int 0, .int 0, .int 0, .int 0, .int 0, .int 0, .null])) 7) Q := x_new rfl
theorem s_112_93 {a : Nat} : wp V (cdT Ev) mx d 112 93 ls (.ref a :: st) h Q = wp V (cdT Ev) mx d 112 94 ls (.ref a :: .ref a :: st) h Q := x_dup rfl rfl
theorem s_112_93_i {x : Int32} : wp V (cdT Ev) mx d 112 93 ls (.int x :: st) h Q = wp V (cdT Ev) mx d 112 94 ls (.int x :: .int x :: st) h Q := x_dup rfl rfl
theorem s_112_94 : wp V (cdT Ev) mx d 112 94 ls st h Q = wp V (cdT Ev) mx d 112 96 ls ((.int (6)) :: st) h Q := x_push (v := (.int (6))) (len := 2) rfl
theorem s_112_96 {x : Int32} : wp V (cdT Ev) mx d 112 96 [l0, some (.int x)] st h Q = wp V (cdT Ev) mx d 112 97 [l0, some (.int x)] (.int x :: st) h Q := x_iload (len := 1) rfl rfl
theorem s_112_97 {b : Nat} {v0 v1 : Value} (hst : st.length ≤ 4) : wp V (cdT Ev) mx d 112 97 ls (v1 :: v0 :: .ref b :: st) h Q = WP V (cdT Ev) mx d 41 [.ref b, v0, v1] h (fun r h' => wp V (cdT Ev) mx d 112 100 ls (rts r st) h' Q) := x_ci (sg := [v1, v0]) rfl hst rfl rfl
theorem s_112_100 {a : Nat} : wp V (cdT Ev) mx d 112 100 ls [.ref a] h Q = Q (some (.ref a)) h := x_ret rfl rfl
theorem s_112_100_n : wp V (cdT Ev) mx d 112 100 ls [.null] h Q = Q (some .null) h := x_ret rfl rfl
theorem s_112_101 : wp V (cdT Ev) mx d 112 101 ls st h Q = wp V (cdT Ev) mx d 112 104 ls (.ref h.2.1 :: st) (hnew h (.inr (4, [.int 0, .int 0, .int 0, .int 0, .int 0, .int 0])) 6) Q := x_new rfl
theorem s_112_104 {a : Nat} : wp V (cdT Ev) mx d 112 104 ls (.ref a :: st) h Q = wp V (cdT Ev) mx d 112 105 ls (.ref a :: .ref a :: st) h Q := x_dup rfl rfl
theorem s_112_104_i {x : Int32} : wp V (cdT Ev) mx d 112 104 ls (.int x :: st) h Q = wp V (cdT Ev) mx d 112 105 ls (.int x :: .int x :: st) h Q := x_dup rfl rfl
theorem s_112_105 : wp V (cdT Ev) mx d 112 105 ls st h Q = wp V (cdT Ev) mx d 112 106 ls ((.int (0)) :: st) h Q := x_push (v := (.int (0))) (len := 1) rfl
theorem s_112_106 {x : Int32} : wp V (cdT Ev) mx d 112 106 [l0, some (.int x)] st h Q = wp V (cdT Ev) mx d 112 107 [l0, some (.int x)] (.int x :: st) h Q := x_iload (len := 1) rfl rfl
theorem s_112_107 {b : Nat} {v0 v1 : Value} (hst : st.length ≤ 4) : wp V (cdT Ev) mx d 112 107 ls (v1 :: v0 :: .ref b :: st) h Q = WP V (cdT Ev) mx d 24 [.ref b, v0, v1] h (fun r h' => wp V (cdT Ev) mx d 112 110 ls (rts r st) h' Q) := x_ci (sg := [v1, v0]) rfl hst rfl rfl
theorem s_112_110 {a : Nat} : wp V (cdT Ev) mx d 112 110 ls [.ref a] h Q = Q (some (.ref a)) h := x_ret rfl rfl
theorem s_112_110_n : wp V (cdT Ev) mx d 112 110 ls [.null] h Q = Q (some .null) h := x_ret rfl rfl
theorem e_112 {p0 : Int32} {p1 : Int32} : WP V (cdT Ev) mx (d + 1) 112 [.int p0, .int p1] h Q = wp V (cdT Ev) mx d 112 0 [some (.int p0), some (.int p1)] [] h Q := propext (WP_eq (Nat.le_of_ble_eq_true rfl))
theorem s_113_0 {a : Nat} : wp V (cdT Ev) mx d 113 0 [some (.ref a), l1, l2, l3] st h Q = wp V (cdT Ev) mx d 113 1 [some (.ref a), l1, l2, l3] (.ref a :: st) h Q := x_aload (len := 1) rfl rfl
theorem s_113_0_n : wp V (cdT Ev) mx d 113 0 [some .null, l1, l2, l3] st h Q = wp V (cdT Ev) mx d 113 1 [some .null, l1, l2, l3] (.null :: st) h Q := x_aloadN (len := 1) rfl rfl
theorem s_113_1 {a : Nat} : wp V (cdT Ev) mx d 113 1 ls (.ref a :: st) h Q = gf [11] 0 h a (fun v => wp V (cdT Ev) mx d 113 4 ls (v :: st) h Q) := x_getf rfl
theorem s_113_4 {a : Nat} : wp V (cdT Ev) mx d 113 4 [l0, some (.ref a), l2, l3] st h Q = wp V (cdT Ev) mx d 113 5 [l0, some (.ref a), l2, l3] (.ref a :: st) h Q := x_aload (len := 1) rfl rfl
theorem s_113_4_n : wp V (cdT Ev) mx d 113 4 [l0, some .null, l2, l3] st h Q = wp V (cdT Ev) mx d 113 5 [l0, some .null, l2, l3] (.null :: st) h Q := x_aloadN (len := 1) rfl rfl
theorem s_113_5 {a : Nat} : wp V (cdT Ev) mx d 113 5 [l0, some (.ref a), l2, l3] st h Q = wp V (cdT Ev) mx d 113 6 [l0, some (.ref a), l2, l3] (.ref a :: st) h Q := x_aload (len := 1) rfl rfl
theorem s_113_5_n : wp V (cdT Ev) mx d 113 5 [l0, some .null, l2, l3] st h Q = wp V (cdT Ev) mx d 113 6 [l0, some .null, l2, l3] (.null :: st) h Q := x_aloadN (len := 1) rfl rfl
theorem s_113_6 {a : Nat} : wp V (cdT Ev) mx d 113 6 ls (.ref a :: st) h Q = gf [1, 2, 3, 4, 5, 6, 8] 3 h a (fun v => wp V (cdT Ev) mx d 113 9 ls (v :: st) h Q) := x_getf rfl
theorem s_113_9 {b : Nat} {v0 v1 : Value} (hst : st.length ≤ 4) : wp V (cdT Ev) mx d 113 9 ls (v1 :: v0 :: .ref b :: st) h Q = cv [(10, 58)] h b (fun y' => WP V (cdT Ev) mx d y' [.ref b, v0, v1] h (fun r h' => wp V (cdT Ev) mx d 113 12 ls (rts r st) h' Q)) := x_cv (sg := [v1, v0]) rfl hst rfl rfl
theorem s_113_12 {x : Int32} (hn : nl l1 = true) : wp V (cdT Ev) mx d 113 12 [l0, l1, l2, l3] (.int x :: st) h Q = wp V (cdT Ev) mx d 113 13 [l0, l1, some (.int x), l3] st h Q := x_istore (len := 1) rfl (Nat.le_of_ble_eq_true rfl) (okp_nl rfl hn) rfl
theorem s_113_13 {x : Int32} : wp V (cdT Ev) mx d 113 13 [l0, l1, some (.int x), l3] st h Q = wp V (cdT Ev) mx d 113 14 [l0, l1, some (.int x), l3] (.int x :: st) h Q := x_iload (len := 1) rfl rfl
theorem s_113_14 {x : Int32} : wp V (cdT Ev) mx d 113 14 ls (.int x :: st) h Q = (if 0 ≤ x then wp V (cdT Ev) mx d 113 20 ls st h Q else wp V (cdT Ev) mx d 113 17 ls st h Q) := x_if1 (c := fun x => 0 ≤ x) rfl
theorem s_113_17 : wp V (cdT Ev) mx d 113 17 ls st h Q = wp V (cdT Ev) mx d 113 19 ls ((.int (-5)) :: st) h Q := x_push (v := (.int (-5))) (len := 2) rfl
theorem s_113_19 {x : Int32} : wp V (cdT Ev) mx d 113 19 ls [.int x] h Q = Q (some (.int x)) h := x_ret rfl rfl
theorem s_113_20 {a : Nat} : wp V (cdT Ev) mx d 113 20 [some (.ref a), l1, l2, l3] st h Q = wp V (cdT Ev) mx d 113 21 [some (.ref a), l1, l2, l3] (.ref a :: st) h Q := x_aload (len := 1) rfl rfl
theorem s_113_20_n : wp V (cdT Ev) mx d 113 20 [some .null, l1, l2, l3] st h Q = wp V (cdT Ev) mx d 113 21 [some .null, l1, l2, l3] (.null :: st) h Q := x_aloadN (len := 1) rfl rfl
theorem s_113_21 {a : Nat} : wp V (cdT Ev) mx d 113 21 ls (.ref a :: st) h Q = gf [11] 1 h a (fun v => wp V (cdT Ev) mx d 113 24 ls (v :: st) h Q) := x_getf rfl
theorem s_113_24 {a : Nat} : wp V (cdT Ev) mx d 113 24 [some (.ref a), l1, l2, l3] st h Q = wp V (cdT Ev) mx d 113 25 [some (.ref a), l1, l2, l3] (.ref a :: st) h Q := x_aload (len := 1) rfl rfl
theorem s_113_24_n : wp V (cdT Ev) mx d 113 24 [some .null, l1, l2, l3] st h Q = wp V (cdT Ev) mx d 113 25 [some .null, l1, l2, l3] (.null :: st) h Q := x_aloadN (len := 1) rfl rfl
theorem s_113_25 {a : Nat} : wp V (cdT Ev) mx d 113 25 ls (.ref a :: st) h Q = gf [11] 0 h a (fun v => wp V (cdT Ev) mx d 113 28 ls (v :: st) h Q) := x_getf rfl
theorem s_113_28 {b : Nat} {v0 : Value} (hst : st.length ≤ 4) : wp V (cdT Ev) mx d 113 28 ls (v0 :: .ref b :: st) h Q = cv [(10, 49)] h b (fun y' => WP V (cdT Ev) mx d y' [.ref b, v0] h (fun r h' => wp V (cdT Ev) mx d 113 31 ls (rts r st) h' Q)) := x_cv (sg := [v0]) rfl hst rfl rfl
theorem s_113_31 : wp V (cdT Ev) mx d 113 31 ls st h Q = wp V (cdT Ev) mx d 113 33 ls ((.int (20)) :: st) h Q := x_push (v := (.int (20))) (len := 2) rfl
theorem s_113_33 {x : Int32} (hn : nl l2 = true) : wp V (cdT Ev) mx d 113 33 [l0, l1, l2, l3] (.int x :: st) h Q = wp V (cdT Ev) mx d 113 34 [l0, l1, l2, some (.int x)] st h Q := x_istore (len := 1) rfl (Nat.le_of_ble_eq_true rfl) (okp_nl rfl hn) rfl
theorem s_113_34 {x : Int32} : wp V (cdT Ev) mx d 113 34 [l0, l1, l2, some (.int x)] st h Q = wp V (cdT Ev) mx d 113 35 [l0, l1, l2, some (.int x)] (.int x :: st) h Q := x_iload (len := 1) rfl rfl
theorem s_113_35 {x : Int32} : wp V (cdT Ev) mx d 113 35 ls (.int x :: st) h Q = (if x ≤ 0 then wp V (cdT Ev) mx d 113 86 ls st h Q else wp V (cdT Ev) mx d 113 38 ls st h Q) := x_if1 (c := fun x => x ≤ 0) rfl
theorem s_113_38 {a : Nat} : wp V (cdT Ev) mx d 113 38 [some (.ref a), l1, l2, l3] st h Q = wp V (cdT Ev) mx d 113 39 [some (.ref a), l1, l2, l3] (.ref a :: st) h Q := x_aload (len := 1) rfl rfl
theorem s_113_38_n : wp V (cdT Ev) mx d 113 38 [some .null, l1, l2, l3] st h Q = wp V (cdT Ev) mx d 113 39 [some .null, l1, l2, l3] (.null :: st) h Q := x_aloadN (len := 1) rfl rfl
theorem s_113_39 {a : Nat} : wp V (cdT Ev) mx d 113 39 ls (.ref a :: st) h Q = gf [11] 1 h a (fun v => wp V (cdT Ev) mx d 113 42 ls (v :: st) h Q) := x_getf rfl
theorem s_113_42 {a : Nat} : wp V (cdT Ev) mx d 113 42 ls (.ref a :: st) h Q = gf [10] 0 h a (fun v => wp V (cdT Ev) mx d 113 45 ls (v :: st) h Q) := x_getf rfl
theorem s_113_45 {x : Int32} : wp V (cdT Ev) mx d 113 45 [l0, l1, some (.int x), l3] st h Q = wp V (cdT Ev) mx d 113 46 [l0, l1, some (.int x), l3] (.int x :: st) h Q := x_iload (len := 1) rfl rfl
theorem s_113_46 {a : Nat} : wp V (cdT Ev) mx d 113 46 [some (.ref a), l1, l2, l3] st h Q = wp V (cdT Ev) mx d 113 47 [some (.ref a), l1, l2, l3] (.ref a :: st) h Q := x_aload (len := 1) rfl rfl
theorem s_113_46_n : wp V (cdT Ev) mx d 113 46 [some .null, l1, l2, l3] st h Q = wp V (cdT Ev) mx d 113 47 [some .null, l1, l2, l3] (.null :: st) h Q := x_aloadN (len := 1) rfl rfl
theorem s_113_47 {a : Nat} : wp V (cdT Ev) mx d 113 47 ls (.ref a :: st) h Q = gf [11] 0 h a (fun v => wp V (cdT Ev) mx d 113 50 ls (v :: st) h Q) := x_getf rfl
theorem s_113_50 {a : Nat} : wp V (cdT Ev) mx d 113 50 ls (.ref a :: st) h Q = gf [10] 0 h a (fun v => wp V (cdT Ev) mx d 113 53 ls (v :: st) h Q) := x_getf rfl
theorem s_113_53 {x : Int32} : wp V (cdT Ev) mx d 113 53 [l0, l1, some (.int x), l3] st h Q = wp V (cdT Ev) mx d 113 54 [l0, l1, some (.int x), l3] (.int x :: st) h Q := x_iload (len := 1) rfl rfl
theorem s_113_54 {i : Int32} {a : Nat} : wp V (cdT Ev) mx d 113 54 ls (.int i :: .ref a :: st) h Q = ai 2 i V h a (fun x => wp V (cdT Ev) mx d 113 55 ls (.int x :: st) h Q) := x_iald rfl
theorem s_113_55 {x : Int32} : wp V (cdT Ev) mx d 113 55 [l0, l1, l2, some (.int x)] st h Q = wp V (cdT Ev) mx d 113 56 [l0, l1, l2, some (.int x)] (.int x :: st) h Q := x_iload (len := 1) rfl rfl
theorem s_113_56 {x z : Int32} : wp V (cdT Ev) mx d 113 56 ls (.int z :: .int x :: st) h Q = wp V (cdT Ev) mx d 113 57 ls (.int (x - z) :: st) h Q := x_ib (f := fun x z => x - z) rfl
theorem s_113_57 : wp V (cdT Ev) mx d 113 57 ls st h Q = wp V (cdT Ev) mx d 113 58 ls ((.int (0)) :: st) h Q := x_push (v := (.int (0))) (len := 1) rfl
theorem s_113_58 {v0 v1 : Value} (hst : st.length ≤ 4) : wp V (cdT Ev) mx d 113 58 ls (v1 :: v0 :: st) h Q = WP V (cdT Ev) mx d 196 [v0, v1] h (fun r h' => wp V (cdT Ev) mx d 113 61 ls (rts r st) h' Q) := x_cs (sg := [v1, v0]) rfl hst rfl rfl
theorem s_113_61 {x i : Int32} {a : Nat} : wp V (cdT Ev) mx d 113 61 ls (.int x :: .int i :: .ref a :: st) h Q = si 2 i (x) h a (fun hh => wp V (cdT Ev) mx d 113 62 ls st hh Q) := x_iast (nw := fun x => x) rfl
theorem s_113_62 {a : Nat} : wp V (cdT Ev) mx d 113 62 [some (.ref a), l1, l2, l3] st h Q = wp V (cdT Ev) mx d 113 63 [some (.ref a), l1, l2, l3] (.ref a :: st) h Q := x_aload (len := 1) rfl rfl
theorem s_113_62_n : wp V (cdT Ev) mx d 113 62 [some .null, l1, l2, l3] st h Q = wp V (cdT Ev) mx d 113 63 [some .null, l1, l2, l3] (.null :: st) h Q := x_aloadN (len := 1) rfl rfl
theorem s_113_63 {a : Nat} : wp V (cdT Ev) mx d 113 63 ls (.ref a :: st) h Q = gf [11] 1 h a (fun v => wp V (cdT Ev) mx d 113 66 ls (v :: st) h Q) := x_getf rfl
theorem s_113_66 {a : Nat} : wp V (cdT Ev) mx d 113 66 [l0, some (.ref a), l2, l3] st h Q = wp V (cdT Ev) mx d 113 67 [l0, some (.ref a), l2, l3] (.ref a :: st) h Q := x_aload (len := 1) rfl rfl
theorem s_113_66_n : wp V (cdT Ev) mx d 113 66 [l0, some .null, l2, l3] st h Q = wp V (cdT Ev) mx d 113 67 [l0, some .null, l2, l3] (.null :: st) h Q := x_aloadN (len := 1) rfl rfl
theorem s_113_67 {a : Nat} : wp V (cdT Ev) mx d 113 67 [l0, some (.ref a), l2, l3] st h Q = wp V (cdT Ev) mx d 113 68 [l0, some (.ref a), l2, l3] (.ref a :: st) h Q := x_aload (len := 1) rfl rfl
theorem s_113_67_n : wp V (cdT Ev) mx d 113 67 [l0, some .null, l2, l3] st h Q = wp V (cdT Ev) mx d 113 68 [l0, some .null, l2, l3] (.null :: st) h Q := x_aloadN (len := 1) rfl rfl
theorem s_113_68 {a : Nat} : wp V (cdT Ev) mx d 113 68 ls (.ref a :: st) h Q = gf [1, 2, 3, 4, 5, 6, 8] 3 h a (fun v => wp V (cdT Ev) mx d 113 71 ls (v :: st) h Q) := x_getf rfl
theorem s_113_71 {b : Nat} {v0 v1 : Value} (hst : st.length ≤ 4) : wp V (cdT Ev) mx d 113 71 ls (v1 :: v0 :: .ref b :: st) h Q = cv [(10, 58)] h b (fun y' => WP V (cdT Ev) mx d y' [.ref b, v0, v1] h (fun r h' => wp V (cdT Ev) mx d 113 74 ls (rts r st) h' Q)) := x_cv (sg := [v1, v0]) rfl hst rfl rfl
theorem s_113_74 {x : Int32} : wp V (cdT Ev) mx d 113 74 [l0, l1, some (.int x), l3] st h Q = wp V (cdT Ev) mx d 113 75 [l0, l1, some (.int x), l3] (.int x :: st) h Q := x_iload (len := 1) rfl rfl
theorem s_113_75 {x z : Int32} : wp V (cdT Ev) mx d 113 75 ls (.int z :: .int x :: st) h Q = (if ¬ x = z then wp V (cdT Ev) mx d 113 80 ls st h Q else wp V (cdT Ev) mx d 113 78 ls st h Q) := x_if2 (c := fun x z => ¬ x = z) rfl
theorem s_113_78 {x : Int32} : wp V (cdT Ev) mx d 113 78 [l0, l1, l2, some (.int x)] st h Q = wp V (cdT Ev) mx d 113 79 [l0, l1, l2, some (.int x)] (.int x :: st) h Q := x_iload (len := 1) rfl rfl
theorem s_113_79 {x : Int32} : wp V (cdT Ev) mx d 113 79 ls [.int x] h Q = Q (some (.int x)) h := x_ret rfl rfl
theorem s_113_80 {x : Int32} : wp V (cdT Ev) mx d 113 80 [l0, l1, l2, some (.int x)] st h Q = wp V (cdT Ev) mx d 113 83 [l0, l1, l2, some (.int (x + (-1)))] st h Q := x_iinc rfl rfl rfl
theorem s_113_83 : wp V (cdT Ev) mx d 113 83 ls st h Q = wp V (cdT Ev) mx d 113 34 ls st h Q := x_goto rfl
theorem s_113_86 : wp V (cdT Ev) mx d 113 86 ls st h Q = wp V (cdT Ev) mx d 113 87 ls ((.int (0)) :: st) h Q := x_push (v := (.int (0))) (len := 1) rfl
theorem s_113_87 {x : Int32} : wp V (cdT Ev) mx d 113 87 ls [.int x] h Q = Q (some (.int x)) h := x_ret rfl rfl
theorem e_113 {a : Nat} {p0 : Nat} : WP V (cdT Ev) mx (d + 1) 113 [.ref a, .ref p0] h Q = wp V (cdT Ev) mx d 113 0 [some (.ref a), some (.ref p0), none, none] [] h Q := propext (WP_eq (Nat.le_of_ble_eq_true rfl))
theorem s_114_0 {a : Nat} : wp V (cdT Ev) mx d 114 0 [some (.ref a), l1, l2] st h Q = wp V (cdT Ev) mx d 114 1 [some (.ref a), l1, l2] (.ref a :: st) h Q := x_aload (len := 1) rfl rfl
theorem s_114_0_n : wp V (cdT Ev) mx d 114 0 [some .null, l1, l2] st h Q = wp V (cdT Ev) mx d 114 1 [some .null, l1, l2] (.null :: st) h Q := x_aloadN (len := 1) rfl rfl
theorem s_114_1 {a : Nat} : wp V (cdT Ev) mx d 114 1 ls (.ref a :: st) h Q = gf [11] 0 h a (fun v => wp V (cdT Ev) mx d 114 4 ls (v :: st) h Q) := x_getf rfl
theorem s_114_4 {a : Nat} : wp V (cdT Ev) mx d 114 4 [l0, some (.ref a), l2] st h Q = wp V (cdT Ev) mx d 114 5 [l0, some (.ref a), l2] (.ref a :: st) h Q := x_aload (len := 1) rfl rfl
theorem s_114_4_n : wp V (cdT Ev) mx d 114 4 [l0, some .null, l2] st h Q = wp V (cdT Ev) mx d 114 5 [l0, some .null, l2] (.null :: st) h Q := x_aloadN (len := 1) rfl rfl
theorem s_114_5 {a : Nat} : wp V (cdT Ev) mx d 114 5 ls (.ref a :: st) h Q = gf [1, 2, 3, 4, 5, 6, 8] 1 h a (fun v => wp V (cdT Ev) mx d 114 8 ls (v :: st) h Q) := x_getf rfl
theorem s_114_8 {b : Nat} {v0 : Value} (hst : st.length ≤ 4) : wp V (cdT Ev) mx d 114 8 ls (v0 :: .ref b :: st) h Q = cv [(10, 63)] h b (fun y' => WP V (cdT Ev) mx d y' [.ref b, v0] h (fun r h' => wp V (cdT Ev) mx d 114 11 ls (rts r st) h' Q)) := x_cv (sg := [v0]) rfl hst rfl rfl
theorem s_114_11 {x : Int32} (hn : nl l1 = true) : wp V (cdT Ev) mx d 114 11 [l0, l1, l2] (.int x :: st) h Q = wp V (cdT Ev) mx d 114 12 [l0, l1, some (.int x)] st h Q := x_istore (len := 1) rfl (Nat.le_of_ble_eq_true rfl) (okp_nl rfl hn) rfl
theorem s_114_12 {x : Int32} : wp V (cdT Ev) mx d 114 12 [l0, l1, some (.int x)] st h Q = wp V (cdT Ev) mx d 114 13 [l0, l1, some (.int x)] (.int x :: st) h Q := x_iload (len := 1) rfl rfl
theorem s_114_13 : wp V (cdT Ev) mx d 114 13 ls st h Q = wp V (cdT Ev) mx d 114 15 ls ((.int (-2)) :: st) h Q := x_push (v := (.int (-2))) (len := 2) rfl
theorem s_114_15 {x z : Int32} : wp V (cdT Ev) mx d 114 15 ls (.int z :: .int x :: st) h Q = (if ¬ x = z then wp V (cdT Ev) mx d 114 22 ls st h Q else wp V (cdT Ev) mx d 114 18 ls st h Q) := x_if2 (c := fun x z => ¬ x = z) rfl
theorem s_114_18 : wp V (cdT Ev) mx d 114 18 ls st h Q = wp V (cdT Ev) mx d 114 21 ls ((.int (4096)) :: st) h Q := x_push (v := (.int (4096))) (len := 3) rfl
theorem s_114_21 {x : Int32} : wp V (cdT Ev) mx d 114 21 ls [.int x] h Q = Q (some (.int x)) h := x_ret rfl rfl
theorem s_114_22 {x : Int32} : wp V (cdT Ev) mx d 114 22 [l0, l1, some (.int x)] st h Q = wp V (cdT Ev) mx d 114 23 [l0, l1, some (.int x)] (.int x :: st) h Q := x_iload (len := 1) rfl rfl
theorem s_114_23 : wp V (cdT Ev) mx d 114 23 ls st h Q = wp V (cdT Ev) mx d 114 25 ls ((.int (-3)) :: st) h Q := x_push (v := (.int (-3))) (len := 2) rfl
theorem s_114_25 {x z : Int32} : wp V (cdT Ev) mx d 114 25 ls (.int z :: .int x :: st) h Q = (if ¬ x = z then wp V (cdT Ev) mx d 114 30 ls st h Q else wp V (cdT Ev) mx d 114 28 ls st h Q) := x_if2 (c := fun x z => ¬ x = z) rfl
theorem s_114_28 : wp V (cdT Ev) mx d 114 28 ls st h Q = wp V (cdT Ev) mx d 114 29 ls ((.int (0)) :: st) h Q := x_push (v := (.int (0))) (len := 1) rfl
theorem s_114_29 {x : Int32} : wp V (cdT Ev) mx d 114 29 ls [.int x] h Q = Q (some (.int x)) h := x_ret rfl rfl
theorem s_114_30 {x : Int32} : wp V (cdT Ev) mx d 114 30 [l0, l1, some (.int x)] st h Q = wp V (cdT Ev) mx d 114 31 [l0, l1, some (.int x)] (.int x :: st) h Q := x_iload (len := 1) rfl rfl
theorem s_114_31 {x : Int32} : wp V (cdT Ev) mx d 114 31 ls (.int x :: st) h Q = (if 0 ≤ x then wp V (cdT Ev) mx d 114 45 ls st h Q else wp V (cdT Ev) mx d 114 34 ls st h Q) := x_if1 (c := fun x => 0 ≤ x) rfl
theorem s_114_34 {a : Nat} : wp V (cdT Ev) mx d 114 34 [some (.ref a), l1, l2] st h Q = wp V (cdT Ev) mx d 114 35 [some (.ref a), l1, l2] (.ref a :: st) h Q := x_aload (len := 1) rfl rfl
theorem s_114_34_n : wp V (cdT Ev) mx d 114 34 [some .null, l1, l2] st h Q = wp V (cdT Ev) mx d 114 35 [some .null, l1, l2] (.null :: st) h Q := x_aloadN (len := 1) rfl rfl
theorem s_114_35 {a : Nat} : wp V (cdT Ev) mx d 114 35 ls (.ref a :: st) h Q = gf [11] 0 h a (fun v => wp V (cdT Ev) mx d 114 38 ls (v :: st) h Q) := x_getf rfl
theorem s_114_38 {a : Nat} : wp V (cdT Ev) mx d 114 38 [l0, some (.ref a), l2] st h Q = wp V (cdT Ev) mx d 114 39 [l0, some (.ref a), l2] (.ref a :: st) h Q := x_aload (len := 1) rfl rfl
theorem s_114_38_n : wp V (cdT Ev) mx d 114 38 [l0, some .null, l2] st h Q = wp V (cdT Ev) mx d 114 39 [l0, some .null, l2] (.null :: st) h Q := x_aloadN (len := 1) rfl rfl
theorem s_114_39 {b : Nat} {v0 : Value} (hst : st.length ≤ 4) : wp V (cdT Ev) mx d 114 39 ls (v0 :: .ref b :: st) h Q = cv [(10, 66)] h b (fun y' => WP V (cdT Ev) mx d y' [.ref b, v0] h (fun r h' => wp V (cdT Ev) mx d 114 42 ls (rts r st) h' Q)) := x_cv (sg := [v0]) rfl hst rfl rfl
theorem s_114_42 : wp V (cdT Ev) mx d 114 42 ls st h Q = wp V (cdT Ev) mx d 114 54 ls st h Q := x_goto rfl
theorem s_114_45 {a : Nat} : wp V (cdT Ev) mx d 114 45 [some (.ref a), l1, l2] st h Q = wp V (cdT Ev) mx d 114 46 [some (.ref a), l1, l2] (.ref a :: st) h Q := x_aload (len := 1) rfl rfl
theorem s_114_45_n : wp V (cdT Ev) mx d 114 45 [some .null, l1, l2] st h Q = wp V (cdT Ev) mx d 114 46 [some .null, l1, l2] (.null :: st) h Q := x_aloadN (len := 1) rfl rfl
theorem s_114_46 {a : Nat} : wp V (cdT Ev) mx d 114 46 ls (.ref a :: st) h Q = gf [11] 0 h a (fun v => wp V (cdT Ev) mx d 114 49 ls (v :: st) h Q) := x_getf rfl
theorem s_114_49 {a : Nat} : wp V (cdT Ev) mx d 114 49 [l0, some (.ref a), l2] st h Q = wp V (cdT Ev) mx d 114 50 [l0, some (.ref a), l2] (.ref a :: st) h Q := x_aload (len := 1) rfl rfl
theorem s_114_49_n : wp V (cdT Ev) mx d 114 49 [l0, some .null, l2] st h Q = wp V (cdT Ev) mx d 114 50 [l0, some .null, l2] (.null :: st) h Q := x_aloadN (len := 1) rfl rfl
theorem s_114_50 {x : Int32} : wp V (cdT Ev) mx d 114 50 [l0, l1, some (.int x)] st h Q = wp V (cdT Ev) mx d 114 51 [l0, l1, some (.int x)] (.int x :: st) h Q := x_iload (len := 1) rfl rfl
theorem s_114_51 {b : Nat} {v0 v1 : Value} (hst : st.length ≤ 4) : wp V (cdT Ev) mx d 114 51 ls (v1 :: v0 :: .ref b :: st) h Q = cv [(10, 65)] h b (fun y' => WP V (cdT Ev) mx d y' [.ref b, v0, v1] h (fun r h' => wp V (cdT Ev) mx d 114 54 ls (rts r st) h' Q)) := x_cv (sg := [v1, v0]) rfl hst rfl rfl
theorem s_114_54 {x : Int32} : wp V (cdT Ev) mx d 114 54 ls [.int x] h Q = Q (some (.int x)) h := x_ret rfl rfl
theorem e_114 {a : Nat} {p0 : Nat} : WP V (cdT Ev) mx (d + 1) 114 [.ref a, .ref p0] h Q = wp V (cdT Ev) mx d 114 0 [some (.ref a), some (.ref p0), none] [] h Q := propext (WP_eq (Nat.le_of_ble_eq_true rfl))
theorem s_115_0 {a : Nat} : wp V (cdT Ev) mx d 115 0 [some (.ref a), l1, l2] st h Q = wp V (cdT Ev) mx d 115 1 [some (.ref a), l1, l2] (.ref a :: st) h Q := x_aload (len := 1) rfl rfl
theorem s_115_0_n : wp V (cdT Ev) mx d 115 0 [some .null, l1, l2] st h Q = wp V (cdT Ev) mx d 115 1 [some .null, l1, l2] (.null :: st) h Q := x_aloadN (len := 1) rfl rfl
theorem s_115_1 {a : Nat} : wp V (cdT Ev) mx d 115 1 ls (.ref a :: st) h Q = gf [11] 0 h a (fun v => wp V (cdT Ev) mx d 115 4 ls (v :: st) h Q) := x_getf rfl
theorem s_115_4 {a : Nat} : wp V (cdT Ev) mx d 115 4 [l0, some (.ref a), l2] st h Q = wp V (cdT Ev) mx d 115 5 [l0, some (.ref a), l2] (.ref a :: st) h Q := x_aload (len := 1) rfl rfl
theorem s_115_4_n : wp V (cdT Ev) mx d 115 4 [l0, some .null, l2] st h Q = wp V (cdT Ev) mx d 115 5 [l0, some .null, l2] (.null :: st) h Q := x_aloadN (len := 1) rfl rfl
theorem s_115_5 {a : Nat} : wp V (cdT Ev) mx d 115 5 ls (.ref a :: st) h Q = gf [1, 2, 3, 4, 5, 6, 8] 1 h a (fun v => wp V (cdT Ev) mx d 115 8 ls (v :: st) h Q) := x_getf rfl
theorem s_115_8 {b : Nat} {v0 : Value} (hst : st.length ≤ 4) : wp V (cdT Ev) mx d 115 8 ls (v0 :: .ref b :: st) h Q = cv [(10, 63)] h b (fun y' => WP V (cdT Ev) mx d y' [.ref b, v0] h (fun r h' => wp V (cdT Ev) mx d 115 11 ls (rts r st) h' Q)) := x_cv (sg := [v0]) rfl hst rfl rfl
theorem s_115_11 {x : Int32} (hn : nl l1 = true) : wp V (cdT Ev) mx d 115 11 [l0, l1, l2] (.int x :: st) h Q = wp V (cdT Ev) mx d 115 12 [l0, l1, some (.int x)] st h Q := x_istore (len := 1) rfl (Nat.le_of_ble_eq_true rfl) (okp_nl rfl hn) rfl
theorem s_115_12 {x : Int32} : wp V (cdT Ev) mx d 115 12 [l0, l1, some (.int x)] st h Q = wp V (cdT Ev) mx d 115 13 [l0, l1, some (.int x)] (.int x :: st) h Q := x_iload (len := 1) rfl rfl
theorem s_115_13 {x : Int32} : wp V (cdT Ev) mx d 115 13 ls (.int x :: st) h Q = (if 0 ≤ x then wp V (cdT Ev) mx d 115 20 ls st h Q else wp V (cdT Ev) mx d 115 16 ls st h Q) := x_if1 (c := fun x => 0 ≤ x) rfl
theorem s_115_16 : wp V (cdT Ev) mx d 115 16 ls st h Q = wp V (cdT Ev) mx d 115 17 ls ((.int (0)) :: st) h Q := x_push (v := (.int (0))) (len := 1) rfl
theorem s_115_17 : wp V (cdT Ev) mx d 115 17 ls st h Q = wp V (cdT Ev) mx d 115 23 ls st h Q := x_goto rfl
theorem s_115_20 : wp V (cdT Ev) mx d 115 20 ls st h Q = wp V (cdT Ev) mx d 115 21 ls ((.int (1)) :: st) h Q := x_push (v := (.int (1))) (len := 1) rfl
theorem s_115_21 {x : Int32} : wp V (cdT Ev) mx d 115 21 [l0, l1, some (.int x)] st h Q = wp V (cdT Ev) mx d 115 22 [l0, l1, some (.int x)] (.int x :: st) h Q := x_iload (len := 1) rfl rfl
theorem s_115_22 {x z : Int32} : wp V (cdT Ev) mx d 115 22 ls (.int z :: .int x :: st) h Q = wp V (cdT Ev) mx d 115 23 ls (.int (x <<< (z &&& 31)) :: st) h Q := x_ib (f := fun x z => x <<< (z &&& 31)) rfl
theorem s_115_23 {x : Int32} : wp V (cdT Ev) mx d 115 23 ls [.int x] h Q = Q (some (.int x)) h := x_ret rfl rfl
theorem e_115 {a : Nat} {p0 : Nat} : WP V (cdT Ev) mx (d + 1) 115 [.ref a, .ref p0] h Q = wp V (cdT Ev) mx d 115 0 [some (.ref a), some (.ref p0), none] [] h Q := propext (WP_eq (Nat.le_of_ble_eq_true rfl))
theorem s_116_0 {a : Nat} : wp V (cdT Ev) mx d 116 0 [some (.ref a), l1, l2, l3] st h Q = wp V (cdT Ev) mx d 116 1 [some (.ref a), l1, l2, l3] (.ref a :: st) h Q := x_aload (len := 1) rfl rfl
theorem s_116_0_n : wp V (cdT Ev) mx d 116 0 [some .null, l1, l2, l3] st h Q = wp V (cdT Ev) mx d 116 1 [some .null, l1, l2, l3] (.null :: st) h Q := x_aloadN (len := 1) rfl rfl
theorem s_116_1 {a : Nat} : wp V (cdT Ev) mx d 116 1 ls (.ref a :: st) h Q = gf [11] 0 h a (fun v => wp V (cdT Ev) mx d 116 4 ls (v :: st) h Q) := x_getf rfl
theorem s_116_4 {a : Nat} : wp V (cdT Ev) mx d 116 4 [l0, some (.ref a), l2, l3] st h Q = wp V (cdT Ev) mx d 116 5 [l0, some (.ref a), l2, l3] (.ref a :: st) h Q := x_aload (len := 1) rfl rfl
theorem s_116_4_n : wp V (cdT Ev) mx d 116 4 [l0, some .null, l2, l3] st h Q = wp V (cdT Ev) mx d 116 5 [l0, some .null, l2, l3] (.null :: st) h Q := x_aloadN (len := 1) rfl rfl
theorem s_116_5 {a : Nat} : wp V (cdT Ev) mx d 116 5 [l0, some (.ref a), l2, l3] st h Q = wp V (cdT Ev) mx d 116 6 [l0, some (.ref a), l2, l3] (.ref a :: st) h Q := x_aload (len := 1) rfl rfl
theorem s_116_5_n : wp V (cdT Ev) mx d 116 5 [l0, some .null, l2, l3] st h Q = wp V (cdT Ev) mx d 116 6 [l0, some .null, l2, l3] (.null :: st) h Q := x_aloadN (len := 1) rfl rfl
theorem s_116_6 {a : Nat} : wp V (cdT Ev) mx d 116 6 ls (.ref a :: st) h Q = gf [1, 2, 3, 4, 5, 6, 8] 3 h a (fun v => wp V (cdT Ev) mx d 116 9 ls (v :: st) h Q) := x_getf rfl
theorem s_116_9 {b : Nat} {v0 v1 : Value} (hst : st.length ≤ 4) : wp V (cdT Ev) mx d 116 9 ls (v1 :: v0 :: .ref b :: st) h Q = cv [(10, 58)] h b (fun y' => WP V (cdT Ev) mx d y' [.ref b, v0, v1] h (fun r h' => wp V (cdT Ev) mx d 116 12 ls (rts r st) h' Q)) := x_cv (sg := [v1, v0]) rfl hst rfl rfl
theorem s_116_12 {x : Int32} : wp V (cdT Ev) mx d 116 12 [l0, l1, some (.int x), l3] st h Q = wp V (cdT Ev) mx d 116 13 [l0, l1, some (.int x), l3] (.int x :: st) h Q := x_iload (len := 1) rfl rfl
theorem s_116_13 {v0 v1 : Value} (hst : st.length ≤ 4) : wp V (cdT Ev) mx d 116 13 ls (v1 :: v0 :: st) h Q = WP V (cdT Ev) mx d 117 [v0, v1] h (fun r h' => wp V (cdT Ev) mx d 116 16 ls (rts r st) h' Q) := x_cs (sg := [v1, v0]) rfl hst rfl rfl
theorem s_116_16 {x : Int32} : wp V (cdT Ev) mx d 116 16 ls (.int x :: st) h Q = (if x = 0 then wp V (cdT Ev) mx d 116 21 ls st h Q else wp V (cdT Ev) mx d 116 19 ls st h Q) := x_if1 (c := fun x => x = 0) rfl
theorem s_116_19 : wp V (cdT Ev) mx d 116 19 ls st h Q = wp V (cdT Ev) mx d 116 20 ls ((.int (0)) :: st) h Q := x_push (v := (.int (0))) (len := 1) rfl
theorem s_116_20 {x : Int32} : wp V (cdT Ev) mx d 116 20 ls [.int x] h Q = Q (some (.int x)) h := x_ret rfl rfl
theorem s_116_21 : wp V (cdT Ev) mx d 116 21 ls st h Q = wp V (cdT Ev) mx d 116 22 ls ((.int (0)) :: st) h Q := x_push (v := (.int (0))) (len := 1) rfl
theorem s_116_22 {x : Int32} (hn : nl l2 = true) : wp V (cdT Ev) mx d 116 22 [l0, l1, l2, l3] (.int x :: st) h Q = wp V (cdT Ev) mx d 116 23 [l0, l1, l2, some (.int x)] st h Q := x_istore (len := 1) rfl (Nat.le_of_ble_eq_true rfl) (okp_nl rfl hn) rfl
theorem s_116_23 {x : Int32} : wp V (cdT Ev) mx d 116 23 [l0, l1, l2, some (.int x)] st h Q = wp V (cdT Ev) mx d 116 24 [l0, l1, l2, some (.int x)] (.int x :: st) h Q := x_iload (len := 1) rfl rfl
theorem s_116_24 : wp V (cdT Ev) mx d 116 24 ls st h Q = wp V (cdT Ev) mx d 116 26 ls ((.int (12)) :: st) h Q := x_push (v := (.int (12))) (len := 2) rfl
theorem s_116_26 {x z : Int32} : wp V (cdT Ev) mx d 116 26 ls (.int z :: .int x :: st) h Q = (if z ≤ x then wp V (cdT Ev) mx d 116 73 ls st h Q else wp V (cdT Ev) mx d 116 29 ls st h Q) := x_if2 (c := fun x z => z ≤ x) rfl
theorem s_116_29 {a : Nat} : wp V (cdT Ev) mx d 116 29 [l0, some (.ref a), l2, l3] st h Q = wp V (cdT Ev) mx d 116 30 [l0, some (.ref a), l2, l3] (.ref a :: st) h Q := x_aload (len := 1) rfl rfl
theorem s_116_29_n : wp V (cdT Ev) mx d 116 29 [l0, some .null, l2, l3] st h Q = wp V (cdT Ev) mx d 116 30 [l0, some .null, l2, l3] (.null :: st) h Q := x_aloadN (len := 1) rfl rfl
theorem s_116_30 {a : Nat} : wp V (cdT Ev) mx d 116 30 ls (.ref a :: st) h Q = gf [1, 2, 3, 4, 5, 6, 8] 3 h a (fun v => wp V (cdT Ev) mx d 116 33 ls (v :: st) h Q) := x_getf rfl
theorem s_116_33 {x : Int32} : wp V (cdT Ev) mx d 116 33 [l0, l1, l2, some (.int x)] st h Q = wp V (cdT Ev) mx d 116 34 [l0, l1, l2, some (.int x)] (.int x :: st) h Q := x_iload (len := 1) rfl rfl
theorem s_116_34 {x z : Int32} : wp V (cdT Ev) mx d 116 34 ls (.int z :: .int x :: st) h Q = wp V (cdT Ev) mx d 116 35 ls (.int (x >>> (z &&& 31)) :: st) h Q := x_ib (f := fun x z => x >>> (z &&& 31)) rfl
theorem s_116_35 : wp V (cdT Ev) mx d 116 35 ls st h Q = wp V (cdT Ev) mx d 116 36 ls ((.int (1)) :: st) h Q := x_push (v := (.int (1))) (len := 1) rfl
theorem s_116_36 {x z : Int32} : wp V (cdT Ev) mx d 116 36 ls (.int z :: .int x :: st) h Q = wp V (cdT Ev) mx d 116 37 ls (.int (x &&& z) :: st) h Q := x_ib (f := fun x z => x &&& z) rfl
theorem s_116_37 {x : Int32} : wp V (cdT Ev) mx d 116 37 ls (.int x :: st) h Q = (if ¬ x = 0 then wp V (cdT Ev) mx d 116 67 ls st h Q else wp V (cdT Ev) mx d 116 40 ls st h Q) := x_if1 (c := fun x => ¬ x = 0) rfl
theorem s_116_40 {a : Nat} : wp V (cdT Ev) mx d 116 40 [some (.ref a), l1, l2, l3] st h Q = wp V (cdT Ev) mx d 116 41 [some (.ref a), l1, l2, l3] (.ref a :: st) h Q := x_aload (len := 1) rfl rfl
theorem s_116_40_n : wp V (cdT Ev) mx d 116 40 [some .null, l1, l2, l3] st h Q = wp V (cdT Ev) mx d 116 41 [some .null, l1, l2, l3] (.null :: st) h Q := x_aloadN (len := 1) rfl rfl
theorem s_116_41 {a : Nat} : wp V (cdT Ev) mx d 116 41 ls (.ref a :: st) h Q = gf [11] 0 h a (fun v => wp V (cdT Ev) mx d 116 44 ls (v :: st) h Q) := x_getf rfl
theorem s_116_44 {a : Nat} : wp V (cdT Ev) mx d 116 44 [l0, some (.ref a), l2, l3] st h Q = wp V (cdT Ev) mx d 116 45 [l0, some (.ref a), l2, l3] (.ref a :: st) h Q := x_aload (len := 1) rfl rfl
theorem s_116_44_n : wp V (cdT Ev) mx d 116 44 [l0, some .null, l2, l3] st h Q = wp V (cdT Ev) mx d 116 45 [l0, some .null, l2, l3] (.null :: st) h Q := x_aloadN (len := 1) rfl rfl
theorem s_116_45 {a : Nat} : wp V (cdT Ev) mx d 116 45 [l0, some (.ref a), l2, l3] st h Q = wp V (cdT Ev) mx d 116 46 [l0, some (.ref a), l2, l3] (.ref a :: st) h Q := x_aload (len := 1) rfl rfl
theorem s_116_45_n : wp V (cdT Ev) mx d 116 45 [l0, some .null, l2, l3] st h Q = wp V (cdT Ev) mx d 116 46 [l0, some .null, l2, l3] (.null :: st) h Q := x_aloadN (len := 1) rfl rfl
theorem s_116_46 {a : Nat} : wp V (cdT Ev) mx d 116 46 ls (.ref a :: st) h Q = gf [1, 2, 3, 4, 5, 6, 8] 3 h a (fun v => wp V (cdT Ev) mx d 116 49 ls (v :: st) h Q) := x_getf rfl
theorem s_116_49 : wp V (cdT Ev) mx d 116 49 ls st h Q = wp V (cdT Ev) mx d 116 50 ls ((.int (1)) :: st) h Q := x_push (v := (.int (1))) (len := 1) rfl
theorem s_116_50 {x : Int32} : wp V (cdT Ev) mx d 116 50 [l0, l1, l2, some (.int x)] st h Q = wp V (cdT Ev) mx d 116 51 [l0, l1, l2, some (.int x)] (.int x :: st) h Q := x_iload (len := 1) rfl rfl
theorem s_116_51 {x z : Int32} : wp V (cdT Ev) mx d 116 51 ls (.int z :: .int x :: st) h Q = wp V (cdT Ev) mx d 116 52 ls (.int (x <<< (z &&& 31)) :: st) h Q := x_ib (f := fun x z => x <<< (z &&& 31)) rfl
theorem s_116_52 {x z : Int32} : wp V (cdT Ev) mx d 116 52 ls (.int z :: .int x :: st) h Q = wp V (cdT Ev) mx d 116 53 ls (.int (x ||| z) :: st) h Q := x_ib (f := fun x z => x ||| z) rfl
theorem s_116_53 {b : Nat} {v0 v1 : Value} (hst : st.length ≤ 4) : wp V (cdT Ev) mx d 116 53 ls (v1 :: v0 :: .ref b :: st) h Q = cv [(10, 58)] h b (fun y' => WP V (cdT Ev) mx d y' [.ref b, v0, v1] h (fun r h' => wp V (cdT Ev) mx d 116 56 ls (rts r st) h' Q)) := x_cv (sg := [v1, v0]) rfl hst rfl rfl
theorem s_116_56 {x : Int32} : wp V (cdT Ev) mx d 116 56 [l0, l1, some (.int x), l3] st h Q = wp V (cdT Ev) mx d 116 57 [l0, l1, some (.int x), l3] (.int x :: st) h Q := x_iload (len := 1) rfl rfl
theorem s_116_57 {v0 v1 : Value} (hst : st.length ≤ 4) : wp V (cdT Ev) mx d 116 57 ls (v1 :: v0 :: st) h Q = WP V (cdT Ev) mx d 117 [v0, v1] h (fun r h' => wp V (cdT Ev) mx d 116 60 ls (rts r st) h' Q) := x_cs (sg := [v1, v0]) rfl hst rfl rfl
theorem s_116_60 {x : Int32} : wp V (cdT Ev) mx d 116 60 ls (.int x :: st) h Q = (if x = 0 then wp V (cdT Ev) mx d 116 67 ls st h Q else wp V (cdT Ev) mx d 116 63 ls st h Q) := x_if1 (c := fun x => x = 0) rfl
theorem s_116_63 : wp V (cdT Ev) mx d 116 63 ls st h Q = wp V (cdT Ev) mx d 116 64 ls ((.int (1)) :: st) h Q := x_push (v := (.int (1))) (len := 1) rfl
theorem s_116_64 {x : Int32} : wp V (cdT Ev) mx d 116 64 [l0, l1, l2, some (.int x)] st h Q = wp V (cdT Ev) mx d 116 65 [l0, l1, l2, some (.int x)] (.int x :: st) h Q := x_iload (len := 1) rfl rfl
theorem s_116_65 {x z : Int32} : wp V (cdT Ev) mx d 116 65 ls (.int z :: .int x :: st) h Q = wp V (cdT Ev) mx d 116 66 ls (.int (x <<< (z &&& 31)) :: st) h Q := x_ib (f := fun x z => x <<< (z &&& 31)) rfl
theorem s_116_66 {x : Int32} : wp V (cdT Ev) mx d 116 66 ls [.int x] h Q = Q (some (.int x)) h := x_ret rfl rfl
theorem s_116_67 {x : Int32} : wp V (cdT Ev) mx d 116 67 [l0, l1, l2, some (.int x)] st h Q = wp V (cdT Ev) mx d 116 70 [l0, l1, l2, some (.int (x + (1)))] st h Q := x_iinc rfl rfl rfl
theorem s_116_70 : wp V (cdT Ev) mx d 116 70 ls st h Q = wp V (cdT Ev) mx d 116 23 ls st h Q := x_goto rfl
theorem s_116_73 : wp V (cdT Ev) mx d 116 73 ls st h Q = wp V (cdT Ev) mx d 116 75 ls ((.int (-5)) :: st) h Q := x_push (v := (.int (-5))) (len := 2) rfl
theorem s_116_75 {x : Int32} : wp V (cdT Ev) mx d 116 75 ls [.int x] h Q = Q (some (.int x)) h := x_ret rfl rfl
theorem e_116 {a : Nat} {p0 : Nat} {p1 : Int32} : WP V (cdT Ev) mx (d + 1) 116 [.ref a, .ref p0, .int p1] h Q = wp V (cdT Ev) mx d 116 0 [some (.ref a), some (.ref p0), some (.int p1), none] [] h Q := propext (WP_eq (Nat.le_of_ble_eq_true rfl))
theorem s_117_0 {x : Int32} : wp V (cdT Ev) mx d 117 0 [some (.int x), l1] st h Q = wp V (cdT Ev) mx d 117 1 [some (.int x), l1] (.int x :: st) h Q := x_iload (len := 1) rfl rfl
theorem s_117_1 {x : Int32} : wp V (cdT Ev) mx d 117 1 ls (.int x :: st) h Q = (if x < 0 then wp V (cdT Ev) mx d 117 13 ls st h Q else wp V (cdT Ev) mx d 117 4 ls st h Q) := x_if1 (c := fun x => x < 0) rfl
theorem s_117_4 {x : Int32} : wp V (cdT Ev) mx d 117 4 [some (.int x), l1] st h Q = wp V (cdT Ev) mx d 117 5 [some (.int x), l1] (.int x :: st) h Q := x_iload (len := 1) rfl rfl
theorem s_117_5 {x : Int32} : wp V (cdT Ev) mx d 117 5 [l0, some (.int x)] st h Q = wp V (cdT Ev) mx d 117 6 [l0, some (.int x)] (.int x :: st) h Q := x_iload (len := 1) rfl rfl
theorem s_117_6 {x z : Int32} : wp V (cdT Ev) mx d 117 6 ls (.int z :: .int x :: st) h Q = (if x = z then wp V (cdT Ev) mx d 117 13 ls st h Q else wp V (cdT Ev) mx d 117 9 ls st h Q) := x_if2 (c := fun x z => x = z) rfl
theorem s_117_9 : wp V (cdT Ev) mx d 117 9 ls st h Q = wp V (cdT Ev) mx d 117 10 ls ((.int (1)) :: st) h Q := x_push (v := (.int (1))) (len := 1) rfl
theorem s_117_10 : wp V (cdT Ev) mx d 117 10 ls st h Q = wp V (cdT Ev) mx d 117 14 ls st h Q := x_goto rfl
theorem s_117_13 : wp V (cdT Ev) mx d 117 13 ls st h Q = wp V (cdT Ev) mx d 117 14 ls ((.int (0)) :: st) h Q := x_push (v := (.int (0))) (len := 1) rfl
theorem s_117_14 {x : Int32} (hx : okr 1 (.int x) = true) : wp V (cdT Ev) mx d 117 14 ls [.int x] h Q = Q (some (.int x)) h := x_ret rfl hx
theorem e_117 {p0 : Int32} {p1 : Int32} : WP V (cdT Ev) mx (d + 1) 117 [.int p0, .int p1] h Q = wp V (cdT Ev) mx d 117 0 [some (.int p0), some (.int p1)] [] h Q := propext (WP_eq (Nat.le_of_ble_eq_true rfl))
theorem s_118_0 {a : Nat} : wp V (cdT Ev) mx d 118 0 [some (.ref a), l1, l2] st h Q = wp V (cdT Ev) mx d 118 1 [some (.ref a), l1, l2] (.ref a :: st) h Q := x_aload (len := 1) rfl rfl
theorem s_118_0_n : wp V (cdT Ev) mx d 118 0 [some .null, l1, l2] st h Q = wp V (cdT Ev) mx d 118 1 [some .null, l1, l2] (.null :: st) h Q := x_aloadN (len := 1) rfl rfl
theorem s_118_1 {a : Nat} : wp V (cdT Ev) mx d 118 1 ls (.ref a :: st) h Q = gf [11] 1 h a (fun v => wp V (cdT Ev) mx d 118 4 ls (v :: st) h Q) := x_getf rfl
theorem s_118_4 {a : Nat} : wp V (cdT Ev) mx d 118 4 [some (.ref a), l1, l2] st h Q = wp V (cdT Ev) mx d 118 5 [some (.ref a), l1, l2] (.ref a :: st) h Q := x_aload (len := 1) rfl rfl
theorem s_118_4_n : wp V (cdT Ev) mx d 118 4 [some .null, l1, l2] st h Q = wp V (cdT Ev) mx d 118 5 [some .null, l1, l2] (.null :: st) h Q := x_aloadN (len := 1) rfl rfl
theorem s_118_5 {a : Nat} : wp V (cdT Ev) mx d 118 5 ls (.ref a :: st) h Q = gf [11] 0 h a (fun v => wp V (cdT Ev) mx d 118 8 ls (v :: st) h Q) := x_getf rfl
theorem s_118_8 {b : Nat} {v0 : Value} (hst : st.length ≤ 4) : wp V (cdT Ev) mx d 118 8 ls (v0 :: .ref b :: st) h Q = cv [(10, 49)] h b (fun y' => WP V (cdT Ev) mx d y' [.ref b, v0] h (fun r h' => wp V (cdT Ev) mx d 118 11 ls (rts r st) h' Q)) := x_cv (sg := [v0]) rfl hst rfl rfl
theorem s_118_11 : wp V (cdT Ev) mx d 118 11 ls st h Q = wp V (cdT Ev) mx d 118 12 ls ((.int (0)) :: st) h Q := x_push (v := (.int (0))) (len := 1) rfl
theorem s_118_12 {x : Int32} (hn : nl l1 = true) : wp V (cdT Ev) mx d 118 12 [l0, l1, l2] (.int x :: st) h Q = wp V (cdT Ev) mx d 118 13 [l0, l1, some (.int x)] st h Q := x_istore (len := 1) rfl (Nat.le_of_ble_eq_true rfl) (okp_nl rfl hn) rfl
theorem s_118_13 {x : Int32} : wp V (cdT Ev) mx d 118 13 [l0, l1, some (.int x)] st h Q = wp V (cdT Ev) mx d 118 14 [l0, l1, some (.int x)] (.int x :: st) h Q := x_iload (len := 1) rfl rfl
theorem s_118_14 : wp V (cdT Ev) mx d 118 14 ls st h Q = wp V (cdT Ev) mx d 118 16 ls ((.int (60)) :: st) h Q := x_push (v := (.int (60))) (len := 2) rfl
theorem s_118_16 {x z : Int32} : wp V (cdT Ev) mx d 118 16 ls (.int z :: .int x :: st) h Q = (if z < x then wp V (cdT Ev) mx d 118 51 ls st h Q else wp V (cdT Ev) mx d 118 19 ls st h Q) := x_if2 (c := fun x z => z < x) rfl
theorem s_118_19 {a : Nat} : wp V (cdT Ev) mx d 118 19 [some (.ref a), l1, l2] st h Q = wp V (cdT Ev) mx d 118 20 [some (.ref a), l1, l2] (.ref a :: st) h Q := x_aload (len := 1) rfl rfl
theorem s_118_19_n : wp V (cdT Ev) mx d 118 19 [some .null, l1, l2] st h Q = wp V (cdT Ev) mx d 118 20 [some .null, l1, l2] (.null :: st) h Q := x_aloadN (len := 1) rfl rfl
theorem s_118_20 {a : Nat} : wp V (cdT Ev) mx d 118 20 ls (.ref a :: st) h Q = gf [11] 1 h a (fun v => wp V (cdT Ev) mx d 118 23 ls (v :: st) h Q) := x_getf rfl
theorem s_118_23 {a : Nat} : wp V (cdT Ev) mx d 118 23 ls (.ref a :: st) h Q = gf [10] 4 h a (fun v => wp V (cdT Ev) mx d 118 26 ls (v :: st) h Q) := x_getf rfl
theorem s_118_26 {x : Int32} : wp V (cdT Ev) mx d 118 26 [l0, some (.int x), l2] st h Q = wp V (cdT Ev) mx d 118 27 [l0, some (.int x), l2] (.int x :: st) h Q := x_iload (len := 1) rfl rfl
theorem s_118_27 {x z : Int32} : wp V (cdT Ev) mx d 118 27 ls (.int z :: .int x :: st) h Q = wp V (cdT Ev) mx d 118 28 ls (.int (x >>> (z &&& 31)) :: st) h Q := x_ib (f := fun x z => x >>> (z &&& 31)) rfl
theorem s_118_28 : wp V (cdT Ev) mx d 118 28 ls st h Q = wp V (cdT Ev) mx d 118 29 ls ((.int (1)) :: st) h Q := x_push (v := (.int (1))) (len := 1) rfl
theorem s_118_29 {x z : Int32} : wp V (cdT Ev) mx d 118 29 ls (.int z :: .int x :: st) h Q = wp V (cdT Ev) mx d 118 30 ls (.int (x &&& z) :: st) h Q := x_ib (f := fun x z => x &&& z) rfl
theorem s_118_30 : wp V (cdT Ev) mx d 118 30 ls st h Q = wp V (cdT Ev) mx d 118 31 ls ((.int (1)) :: st) h Q := x_push (v := (.int (1))) (len := 1) rfl
theorem s_118_31 {x z : Int32} : wp V (cdT Ev) mx d 118 31 ls (.int z :: .int x :: st) h Q = (if ¬ x = z then wp V (cdT Ev) mx d 118 36 ls st h Q else wp V (cdT Ev) mx d 118 34 ls st h Q) := x_if2 (c := fun x z => ¬ x = z) rfl
theorem s_118_34 {x : Int32} : wp V (cdT Ev) mx d 118 34 [l0, l1, some (.int x)] st h Q = wp V (cdT Ev) mx d 118 35 [l0, l1, some (.int x)] (.int x :: st) h Q := x_iload (len := 1) rfl rfl
theorem s_118_35 {x : Int32} : wp V (cdT Ev) mx d 118 35 ls [.int x] h Q = Q (some (.int x)) h := x_ret rfl rfl
theorem s_118_36 {a : Nat} : wp V (cdT Ev) mx d 118 36 [some (.ref a), l1, l2] st h Q = wp V (cdT Ev) mx d 118 37 [some (.ref a), l1, l2] (.ref a :: st) h Q := x_aload (len := 1) rfl rfl
theorem s_118_36_n : wp V (cdT Ev) mx d 118 36 [some .null, l1, l2] st h Q = wp V (cdT Ev) mx d 118 37 [some .null, l1, l2] (.null :: st) h Q := x_aloadN (len := 1) rfl rfl
theorem s_118_37 {a : Nat} : wp V (cdT Ev) mx d 118 37 ls (.ref a :: st) h Q = gf [11] 1 h a (fun v => wp V (cdT Ev) mx d 118 40 ls (v :: st) h Q) := x_getf rfl
theorem s_118_40 : wp V (cdT Ev) mx d 118 40 ls st h Q = wp V (cdT Ev) mx d 118 42 ls ((.int (2147483647)) :: st) h Q := x_push (v := (.int (2147483647))) (len := 2) rfl
theorem s_118_42 {b : Nat} {v0 : Value} (hst : st.length ≤ 4) : wp V (cdT Ev) mx d 118 42 ls (v0 :: .ref b :: st) h Q = cv [(10, 60)] h b (fun y' => WP V (cdT Ev) mx d y' [.ref b, v0] h (fun r h' => wp V (cdT Ev) mx d 118 45 ls (rts r st) h' Q)) := x_cv (sg := [v0]) rfl hst rfl rfl
theorem s_118_45 {x : Int32} : wp V (cdT Ev) mx d 118 45 [l0, l1, some (.int x)] st h Q = wp V (cdT Ev) mx d 118 48 [l0, l1, some (.int (x + (1)))] st h Q := x_iinc rfl rfl rfl
theorem s_118_48 : wp V (cdT Ev) mx d 118 48 ls st h Q = wp V (cdT Ev) mx d 118 13 ls st h Q := x_goto rfl
theorem s_118_51 : wp V (cdT Ev) mx d 118 51 ls st h Q = wp V (cdT Ev) mx d 118 53 ls ((.int (-5)) :: st) h Q := x_push (v := (.int (-5))) (len := 2) rfl
theorem s_118_53 {x : Int32} : wp V (cdT Ev) mx d 118 53 ls [.int x] h Q = Q (some (.int x)) h := x_ret rfl rfl
theorem e_118 {a : Nat} {p0 : Int32} : WP V (cdT Ev) mx (d + 1) 118 [.ref a, .int p0] h Q = wp V (cdT Ev) mx d 118 0 [some (.ref a), some (.int p0), none] [] h Q := propext (WP_eq (Nat.le_of_ble_eq_true rfl))
theorem s_119_0 : wp V (cdT Ev) mx d 119 0 ls st h Q = wp V (cdT Ev) mx d 119 1 ls ((.int (0)) :: st) h Q := x_push (v := (.int (0))) (len := 1) rfl
theorem s_119_1 {x : Int32} (hn : nl l1 = true) : wp V (cdT Ev) mx d 119 1 [l0, l1, l2, l3] (.int x :: st) h Q = wp V (cdT Ev) mx d 119 2 [l0, l1, some (.int x), l3] st h Q := x_istore (len := 1) rfl (Nat.le_of_ble_eq_true rfl) (okp_nl rfl hn) rfl
theorem s_119_2 {a : Nat} : wp V (cdT Ev) mx d 119 2 [some (.ref a), l1, l2, l3] st h Q = wp V (cdT Ev) mx d 119 3 [some (.ref a), l1, l2, l3] (.ref a :: st) h Q := x_aload (len := 1) rfl rfl
theorem s_119_2_n : wp V (cdT Ev) mx d 119 2 [some .null, l1, l2, l3] st h Q = wp V (cdT Ev) mx d 119 3 [some .null, l1, l2, l3] (.null :: st) h Q := x_aloadN (len := 1) rfl rfl
theorem s_119_3 {a : Nat} : wp V (cdT Ev) mx d 119 3 ls (.ref a :: st) h Q = gf [11] 1 h a (fun v => wp V (cdT Ev) mx d 119 6 ls (v :: st) h Q) := x_getf rfl
theorem s_119_6 {a : Nat} : wp V (cdT Ev) mx d 119 6 [some (.ref a), l1, l2, l3] st h Q = wp V (cdT Ev) mx d 119 7 [some (.ref a), l1, l2, l3] (.ref a :: st) h Q := x_aload (len := 1) rfl rfl
theorem s_119_6_n : wp V (cdT Ev) mx d 119 6 [some .null, l1, l2, l3] st h Q = wp V (cdT Ev) mx d 119 7 [some .null, l1, l2, l3] (.null :: st) h Q := x_aloadN (len := 1) rfl rfl
theorem s_119_7 {a : Nat} : wp V (cdT Ev) mx d 119 7 ls (.ref a :: st) h Q = gf [11] 0 h a (fun v => wp V (cdT Ev) mx d 119 10 ls (v :: st) h Q) := x_getf rfl
theorem s_119_10 {b : Nat} {v0 : Value} (hst : st.length ≤ 4) : wp V (cdT Ev) mx d 119 10 ls (v0 :: .ref b :: st) h Q = cv [(10, 49)] h b (fun y' => WP V (cdT Ev) mx d y' [.ref b, v0] h (fun r h' => wp V (cdT Ev) mx d 119 13 ls (rts r st) h' Q)) := x_cv (sg := [v0]) rfl hst rfl rfl
theorem s_119_13 : wp V (cdT Ev) mx d 119 13 ls st h Q = wp V (cdT Ev) mx d 119 14 ls ((.int (0)) :: st) h Q := x_push (v := (.int (0))) (len := 1) rfl
theorem s_119_14 {x : Int32} (hn : nl l2 = true) : wp V (cdT Ev) mx d 119 14 [l0, l1, l2, l3] (.int x :: st) h Q = wp V (cdT Ev) mx d 119 15 [l0, l1, l2, some (.int x)] st h Q := x_istore (len := 1) rfl (Nat.le_of_ble_eq_true rfl) (okp_nl rfl hn) rfl
theorem s_119_15 {x : Int32} : wp V (cdT Ev) mx d 119 15 [l0, l1, l2, some (.int x)] st h Q = wp V (cdT Ev) mx d 119 16 [l0, l1, l2, some (.int x)] (.int x :: st) h Q := x_iload (len := 1) rfl rfl
theorem s_119_16 : wp V (cdT Ev) mx d 119 16 ls st h Q = wp V (cdT Ev) mx d 119 18 ls ((.int (20)) :: st) h Q := x_push (v := (.int (20))) (len := 2) rfl
theorem s_119_18 {x z : Int32} : wp V (cdT Ev) mx d 119 18 ls (.int z :: .int x :: st) h Q = (if z < x then wp V (cdT Ev) mx d 119 53 ls st h Q else wp V (cdT Ev) mx d 119 21 ls st h Q) := x_if2 (c := fun x z => z < x) rfl
theorem s_119_21 {a : Nat} : wp V (cdT Ev) mx d 119 21 [some (.ref a), l1, l2, l3] st h Q = wp V (cdT Ev) mx d 119 22 [some (.ref a), l1, l2, l3] (.ref a :: st) h Q := x_aload (len := 1) rfl rfl
theorem s_119_21_n : wp V (cdT Ev) mx d 119 21 [some .null, l1, l2, l3] st h Q = wp V (cdT Ev) mx d 119 22 [some .null, l1, l2, l3] (.null :: st) h Q := x_aloadN (len := 1) rfl rfl
theorem s_119_22 {a : Nat} : wp V (cdT Ev) mx d 119 22 ls (.ref a :: st) h Q = gf [11] 1 h a (fun v => wp V (cdT Ev) mx d 119 25 ls (v :: st) h Q) := x_getf rfl
theorem s_119_25 {a : Nat} : wp V (cdT Ev) mx d 119 25 ls (.ref a :: st) h Q = gf [10] 0 h a (fun v => wp V (cdT Ev) mx d 119 28 ls (v :: st) h Q) := x_getf rfl
theorem s_119_28 {x : Int32} : wp V (cdT Ev) mx d 119 28 [l0, some (.int x), l2, l3] st h Q = wp V (cdT Ev) mx d 119 29 [l0, some (.int x), l2, l3] (.int x :: st) h Q := x_iload (len := 1) rfl rfl
theorem s_119_29 {x : Int32} : wp V (cdT Ev) mx d 119 29 [l0, l1, l2, some (.int x)] st h Q = wp V (cdT Ev) mx d 119 30 [l0, l1, l2, some (.int x)] (.int x :: st) h Q := x_iload (len := 1) rfl rfl
theorem s_119_30 {x i : Int32} {a : Nat} : wp V (cdT Ev) mx d 119 30 ls (.int x :: .int i :: .ref a :: st) h Q = si 2 i (x) h a (fun hh => wp V (cdT Ev) mx d 119 31 ls st hh Q) := x_iast (nw := fun x => x) rfl
theorem s_119_31 {a : Nat} : wp V (cdT Ev) mx d 119 31 [some (.ref a), l1, l2, l3] st h Q = wp V (cdT Ev) mx d 119 32 [some (.ref a), l1, l2, l3] (.ref a :: st) h Q := x_aload (len := 1) rfl rfl
theorem s_119_31_n : wp V (cdT Ev) mx d 119 31 [some .null, l1, l2, l3] st h Q = wp V (cdT Ev) mx d 119 32 [some .null, l1, l2, l3] (.null :: st) h Q := x_aloadN (len := 1) rfl rfl
theorem s_119_32 {a : Nat} : wp V (cdT Ev) mx d 119 32 ls (.ref a :: st) h Q = gf [11] 1 h a (fun v => wp V (cdT Ev) mx d 119 35 ls (v :: st) h Q) := x_getf rfl
theorem s_119_35 {b : Nat} (hst : st.length ≤ 4) : wp V (cdT Ev) mx d 119 35 ls (.ref b :: st) h Q = cv [(10, 64)] h b (fun y' => WP V (cdT Ev) mx d y' [.ref b] h (fun r h' => wp V (cdT Ev) mx d 119 38 ls (rts r st) h' Q)) := x_cv (sg := []) rfl hst rfl rfl
theorem s_119_38 {x : Int32} : wp V (cdT Ev) mx d 119 38 ls (.int x :: st) h Q = (if x = 0 then wp V (cdT Ev) mx d 119 47 ls st h Q else wp V (cdT Ev) mx d 119 41 ls st h Q) := x_if1 (c := fun x => x = 0) rfl
theorem s_119_41 {x : Int32} : wp V (cdT Ev) mx d 119 41 [l0, l1, some (.int x), l3] st h Q = wp V (cdT Ev) mx d 119 42 [l0, l1, some (.int x), l3] (.int x :: st) h Q := x_iload (len := 1) rfl rfl
theorem s_119_42 : wp V (cdT Ev) mx d 119 42 ls st h Q = wp V (cdT Ev) mx d 119 43 ls ((.int (1)) :: st) h Q := x_push (v := (.int (1))) (len := 1) rfl
theorem s_119_43 {x : Int32} : wp V (cdT Ev) mx d 119 43 [l0, l1, l2, some (.int x)] st h Q = wp V (cdT Ev) mx d 119 44 [l0, l1, l2, some (.int x)] (.int x :: st) h Q := x_iload (len := 1) rfl rfl
theorem s_119_44 {x z : Int32} : wp V (cdT Ev) mx d 119 44 ls (.int z :: .int x :: st) h Q = wp V (cdT Ev) mx d 119 45 ls (.int (x <<< (z &&& 31)) :: st) h Q := x_ib (f := fun x z => x <<< (z &&& 31)) rfl
theorem s_119_45 {x z : Int32} : wp V (cdT Ev) mx d 119 45 ls (.int z :: .int x :: st) h Q = wp V (cdT Ev) mx d 119 46 ls (.int (x ||| z) :: st) h Q := x_ib (f := fun x z => x ||| z) rfl
theorem s_119_46 {x : Int32} (hn : nl l1 = true) : wp V (cdT Ev) mx d 119 46 [l0, l1, l2, l3] (.int x :: st) h Q = wp V (cdT Ev) mx d 119 47 [l0, l1, some (.int x), l3] st h Q := x_istore (len := 1) rfl (Nat.le_of_ble_eq_true rfl) (okp_nl rfl hn) rfl
theorem s_119_47 {x : Int32} : wp V (cdT Ev) mx d 119 47 [l0, l1, l2, some (.int x)] st h Q = wp V (cdT Ev) mx d 119 50 [l0, l1, l2, some (.int (x + (1)))] st h Q := x_iinc rfl rfl rfl
theorem s_119_50 : wp V (cdT Ev) mx d 119 50 ls st h Q = wp V (cdT Ev) mx d 119 15 ls st h Q := x_goto rfl
theorem s_119_53 {x : Int32} : wp V (cdT Ev) mx d 119 53 [l0, l1, some (.int x), l3] st h Q = wp V (cdT Ev) mx d 119 54 [l0, l1, some (.int x), l3] (.int x :: st) h Q := x_iload (len := 1) rfl rfl
theorem s_119_54 {x : Int32} : wp V (cdT Ev) mx d 119 54 ls [.int x] h Q = Q (some (.int x)) h := x_ret rfl rfl
theorem e_119 {a : Nat} {p0 : Int32} : WP V (cdT Ev) mx (d + 1) 119 [.ref a, .int p0] h Q = wp V (cdT Ev) mx d 119 0 [some (.ref a), some (.int p0), none, none] [] h Q := propext (WP_eq (Nat.le_of_ble_eq_true rfl))
theorem s_120_0 {a : Nat} : wp V (cdT Ev) mx d 120 0 [some (.ref a), l1, l2, l3, l4] st h Q = wp V (cdT Ev) mx d 120 1 [some (.ref a), l1, l2, l3, l4] (.ref a :: st) h Q := x_aload (len := 1) rfl rfl
theorem s_120_0_n : wp V (cdT Ev) mx d 120 0 [some .null, l1, l2, l3, l4] st h Q = wp V (cdT Ev) mx d 120 1 [some .null, l1, l2, l3, l4] (.null :: st) h Q := x_aloadN (len := 1) rfl rfl
theorem s_120_1 {a : Nat} : wp V (cdT Ev) mx d 120 1 ls (.ref a :: st) h Q = gf [11] 1 h a (fun v => wp V (cdT Ev) mx d 120 4 ls (v :: st) h Q) := x_getf rfl
theorem s_120_4 {x : Int32} : wp V (cdT Ev) mx d 120 4 [l0, some (.int x), l2, l3, l4] st h Q = wp V (cdT Ev) mx d 120 5 [l0, some (.int x), l2, l3, l4] (.int x :: st) h Q := x_iload (len := 1) rfl rfl
theorem s_120_5 {b : Nat} {v0 : Value} (hst : st.length ≤ 4) : wp V (cdT Ev) mx d 120 5 ls (v0 :: .ref b :: st) h Q = cv [(10, 51)] h b (fun y' => WP V (cdT Ev) mx d y' [.ref b, v0] h (fun r h' => wp V (cdT Ev) mx d 120 8 ls (rts r st) h' Q)) := x_cv (sg := [v0]) rfl hst rfl rfl
theorem s_120_8 {a : Nat} (hn : nl l2 = true) : wp V (cdT Ev) mx d 120 8 [l0, l1, l2, l3, l4] (.ref a :: st) h Q = wp V (cdT Ev) mx d 120 9 [l0, l1, l2, some (.ref a), l4] st h Q := x_astore (len := 1) rfl (Nat.le_of_ble_eq_true rfl) (okp_nl rfl hn) rfl
theorem s_120_8_n (hn : nl l2 = true) : wp V (cdT Ev) mx d 120 8 [l0, l1, l2, l3, l4] (.null :: st) h Q = wp V (cdT Ev) mx d 120 9 [l0, l1, l2, some .null, l4] st h Q := x_astoreN (len := 1) rfl (Nat.le_of_ble_eq_true rfl) (okp_nl rfl hn) rfl
theorem s_120_9 {a : Nat} : wp V (cdT Ev) mx d 120 9 [l0, l1, l2, some (.ref a), l4] st h Q = wp V (cdT Ev) mx d 120 10 [l0, l1, l2, some (.ref a), l4] (.ref a :: st) h Q := x_aload (len := 1) rfl rfl
theorem s_120_9_n : wp V (cdT Ev) mx d 120 9 [l0, l1, l2, some .null, l4] st h Q = wp V (cdT Ev) mx d 120 10 [l0, l1, l2, some .null, l4] (.null :: st) h Q := x_aloadN (len := 1) rfl rfl
theorem s_120_10 {a : Nat} : wp V (cdT Ev) mx d 120 10 ls (.ref a :: st) h Q = wp V (cdT Ev) mx d 120 15 ls st h Q := x_ifnonnull rfl
theorem s_120_10_n : wp V (cdT Ev) mx d 120 10 ls (.null :: st) h Q = wp V (cdT Ev) mx d 120 13 ls st h Q := x_ifnonnullN rfl
theorem s_120_13 : wp V (cdT Ev) mx d 120 13 ls st h Q = wp V (cdT Ev) mx d 120 14 ls ((.int (0)) :: st) h Q := x_push (v := (.int (0))) (len := 1) rfl
theorem s_120_14 {x : Int32} (hx : okr 1 (.int x) = true) : wp V (cdT Ev) mx d 120 14 ls [.int x] h Q = Q (some (.int x)) h := x_ret rfl hx
theorem s_120_15 {a : Nat} : wp V (cdT Ev) mx d 120 15 [l0, l1, l2, some (.ref a), l4] st h Q = wp V (cdT Ev) mx d 120 16 [l0, l1, l2, some (.ref a), l4] (.ref a :: st) h Q := x_aload (len := 1) rfl rfl
theorem s_120_15_n : wp V (cdT Ev) mx d 120 15 [l0, l1, l2, some .null, l4] st h Q = wp V (cdT Ev) mx d 120 16 [l0, l1, l2, some .null, l4] (.null :: st) h Q := x_aloadN (len := 1) rfl rfl
theorem s_120_16 {x : Int32} : wp V (cdT Ev) mx d 120 16 [l0, l1, some (.int x), l3, l4] st h Q = wp V (cdT Ev) mx d 120 17 [l0, l1, some (.int x), l3, l4] (.int x :: st) h Q := x_iload (len := 1) rfl rfl
theorem s_120_17 {w : Value} {a : Nat} : wp V (cdT Ev) mx d 120 17 ls (w :: .ref a :: st) h Q = pf [1, 2, 3, 4, 5, 6, 8] 2 0 w h a (fun hh => wp V (cdT Ev) mx d 120 20 ls st hh Q) := x_putf rfl
theorem s_120_20 {a : Nat} : wp V (cdT Ev) mx d 120 20 [some (.ref a), l1, l2, l3, l4] st h Q = wp V (cdT Ev) mx d 120 21 [some (.ref a), l1, l2, l3, l4] (.ref a :: st) h Q := x_aload (len := 1) rfl rfl
theorem s_120_20_n : wp V (cdT Ev) mx d 120 20 [some .null, l1, l2, l3, l4] st h Q = wp V (cdT Ev) mx d 120 21 [some .null, l1, l2, l3, l4] (.null :: st) h Q := x_aloadN (len := 1) rfl rfl
theorem s_120_21 {a : Nat} : wp V (cdT Ev) mx d 120 21 ls (.ref a :: st) h Q = gf [11] 1 h a (fun v => wp V (cdT Ev) mx d 120 24 ls (v :: st) h Q) := x_getf rfl
theorem s_120_24 {x : Int32} : wp V (cdT Ev) mx d 120 24 [l0, some (.int x), l2, l3, l4] st h Q = wp V (cdT Ev) mx d 120 25 [l0, some (.int x), l2, l3, l4] (.int x :: st) h Q := x_iload (len := 1) rfl rfl
theorem s_120_25 {b : Nat} {v0 : Value} (hst : st.length ≤ 4) : wp V (cdT Ev) mx d 120 25 ls (v0 :: .ref b :: st) h Q = cv [(10, 63)] h b (fun y' => WP V (cdT Ev) mx d y' [.ref b, v0] h (fun r h' => wp V (cdT Ev) mx d 120 28 ls (rts r st) h' Q)) := x_cv (sg := [v0]) rfl hst rfl rfl
theorem s_120_28 {x : Int32} (hn : nl l3 = true) : wp V (cdT Ev) mx d 120 28 [l0, l1, l2, l3, l4] (.int x :: st) h Q = wp V (cdT Ev) mx d 120 30 [l0, l1, l2, l3, some (.int x)] st h Q := x_istore (len := 2) rfl (Nat.le_of_ble_eq_true rfl) (okp_nl rfl hn) rfl
theorem s_120_30 {x : Int32} : wp V (cdT Ev) mx d 120 30 [l0, l1, l2, l3, some (.int x)] st h Q = wp V (cdT Ev) mx d 120 32 [l0, l1, l2, l3, some (.int x)] (.int x :: st) h Q := x_iload (len := 2) rfl rfl
theorem s_120_32 : wp V (cdT Ev) mx d 120 32 ls st h Q = wp V (cdT Ev) mx d 120 34 ls ((.int (-2)) :: st) h Q := x_push (v := (.int (-2))) (len := 2) rfl
theorem s_120_34 {x z : Int32} : wp V (cdT Ev) mx d 120 34 ls (.int z :: .int x :: st) h Q = (if x = z then wp V (cdT Ev) mx d 120 54 ls st h Q else wp V (cdT Ev) mx d 120 37 ls st h Q) := x_if2 (c := fun x z => x = z) rfl
theorem s_120_37 {x : Int32} : wp V (cdT Ev) mx d 120 37 [l0, l1, l2, l3, some (.int x)] st h Q = wp V (cdT Ev) mx d 120 39 [l0, l1, l2, l3, some (.int x)] (.int x :: st) h Q := x_iload (len := 2) rfl rfl
theorem s_120_39 {a : Nat} : wp V (cdT Ev) mx d 120 39 [some (.ref a), l1, l2, l3, l4] st h Q = wp V (cdT Ev) mx d 120 40 [some (.ref a), l1, l2, l3, l4] (.ref a :: st) h Q := x_aload (len := 1) rfl rfl
theorem s_120_39_n : wp V (cdT Ev) mx d 120 39 [some .null, l1, l2, l3, l4] st h Q = wp V (cdT Ev) mx d 120 40 [some .null, l1, l2, l3, l4] (.null :: st) h Q := x_aloadN (len := 1) rfl rfl
theorem s_120_40 {a : Nat} : wp V (cdT Ev) mx d 120 40 ls (.ref a :: st) h Q = gf [11] 1 h a (fun v => wp V (cdT Ev) mx d 120 43 ls (v :: st) h Q) := x_getf rfl
theorem s_120_43 {a : Nat} : wp V (cdT Ev) mx d 120 43 [l0, l1, l2, some (.ref a), l4] st h Q = wp V (cdT Ev) mx d 120 44 [l0, l1, l2, some (.ref a), l4] (.ref a :: st) h Q := x_aload (len := 1) rfl rfl
theorem s_120_43_n : wp V (cdT Ev) mx d 120 43 [l0, l1, l2, some .null, l4] st h Q = wp V (cdT Ev) mx d 120 44 [l0, l1, l2, some .null, l4] (.null :: st) h Q := x_aloadN (len := 1) rfl rfl
theorem s_120_44 {a : Nat} : wp V (cdT Ev) mx d 120 44 [l0, l1, l2, some (.ref a), l4] st h Q = wp V (cdT Ev) mx d 120 45 [l0, l1, l2, some (.ref a), l4] (.ref a :: st) h Q := x_aload (len := 1) rfl rfl
theorem s_120_44_n : wp V (cdT Ev) mx d 120 44 [l0, l1, l2, some .null, l4] st h Q = wp V (cdT Ev) mx d 120 45 [l0, l1, l2, some .null, l4] (.null :: st) h Q := x_aloadN (len := 1) rfl rfl
theorem s_120_45 {a : Nat} : wp V (cdT Ev) mx d 120 45 ls (.ref a :: st) h Q = gf [1, 2, 3, 4, 5, 6, 8] 3 h a (fun v => wp V (cdT Ev) mx d 120 48 ls (v :: st) h Q) := x_getf rfl
theorem s_120_48 {b : Nat} {v0 v1 : Value} (hst : st.length ≤ 4) : wp V (cdT Ev) mx d 120 48 ls (v1 :: v0 :: .ref b :: st) h Q = cv [(10, 58)] h b (fun y' => WP V (cdT Ev) mx d y' [.ref b, v0, v1] h (fun r h' => wp V (cdT Ev) mx d 120 51 ls (rts r st) h' Q)) := x_cv (sg := [v1, v0]) rfl hst rfl rfl
theorem s_120_51 {x z : Int32} : wp V (cdT Ev) mx d 120 51 ls (.int z :: .int x :: st) h Q = (if ¬ x = z then wp V (cdT Ev) mx d 120 58 ls st h Q else wp V (cdT Ev) mx d 120 54 ls st h Q) := x_if2 (c := fun x z => ¬ x = z) rfl
theorem s_120_54 : wp V (cdT Ev) mx d 120 54 ls st h Q = wp V (cdT Ev) mx d 120 55 ls ((.int (1)) :: st) h Q := x_push (v := (.int (1))) (len := 1) rfl
theorem s_120_55 : wp V (cdT Ev) mx d 120 55 ls st h Q = wp V (cdT Ev) mx d 120 59 ls st h Q := x_goto rfl
theorem s_120_58 : wp V (cdT Ev) mx d 120 58 ls st h Q = wp V (cdT Ev) mx d 120 59 ls ((.int (0)) :: st) h Q := x_push (v := (.int (0))) (len := 1) rfl
theorem s_120_59 {x : Int32} (hx : okr 1 (.int x) = true) : wp V (cdT Ev) mx d 120 59 ls [.int x] h Q = Q (some (.int x)) h := x_ret rfl hx
theorem e_120 {a : Nat} {p0 : Int32} {p1 : Int32} : WP V (cdT Ev) mx (d + 1) 120 [.ref a, .int p0, .int p1] h Q = wp V (cdT Ev) mx d 120 0 [some (.ref a), some (.int p0), some (.int p1), none, none] [] h Q := propext (WP_eq (Nat.le_of_ble_eq_true rfl))
theorem s_121_0 {a : Nat} : wp V (cdT Ev) mx d 121 0 [some (.ref a), l1, l2, l3] st h Q = wp V (cdT Ev) mx d 121 1 [some (.ref a), l1, l2, l3] (.ref a :: st) h Q := x_aload (len := 1) rfl rfl
theorem s_121_0_n : wp V (cdT Ev) mx d 121 0 [some .null, l1, l2, l3] st h Q = wp V (cdT Ev) mx d 121 1 [some .null, l1, l2, l3] (.null :: st) h Q := x_aloadN (len := 1) rfl rfl
theorem s_121_1 {a : Nat} : wp V (cdT Ev) mx d 121 1 ls (.ref a :: st) h Q = gf [11] 1 h a (fun v => wp V (cdT Ev) mx d 121 4 ls (v :: st) h Q) := x_getf rfl
theorem s_121_4 {x : Int32} : wp V (cdT Ev) mx d 121 4 [l0, l1, some (.int x), l3] st h Q = wp V (cdT Ev) mx d 121 5 [l0, l1, some (.int x), l3] (.int x :: st) h Q := x_iload (len := 1) rfl rfl
theorem s_121_5 {b : Nat} {v0 : Value} (hst : st.length ≤ 4) : wp V (cdT Ev) mx d 121 5 ls (v0 :: .ref b :: st) h Q = cv [(10, 51)] h b (fun y' => WP V (cdT Ev) mx d y' [.ref b, v0] h (fun r h' => wp V (cdT Ev) mx d 121 8 ls (rts r st) h' Q)) := x_cv (sg := [v0]) rfl hst rfl rfl
theorem s_121_8 {a : Nat} (hn : nl l2 = true) : wp V (cdT Ev) mx d 121 8 [l0, l1, l2, l3] (.ref a :: st) h Q = wp V (cdT Ev) mx d 121 9 [l0, l1, l2, some (.ref a)] st h Q := x_astore (len := 1) rfl (Nat.le_of_ble_eq_true rfl) (okp_nl rfl hn) rfl
theorem s_121_8_n (hn : nl l2 = true) : wp V (cdT Ev) mx d 121 8 [l0, l1, l2, l3] (.null :: st) h Q = wp V (cdT Ev) mx d 121 9 [l0, l1, l2, some .null] st h Q := x_astoreN (len := 1) rfl (Nat.le_of_ble_eq_true rfl) (okp_nl rfl hn) rfl
theorem s_121_9 {x : Int32} : wp V (cdT Ev) mx d 121 9 [l0, some (.int x), l2, l3] st h Q = wp V (cdT Ev) mx d 121 10 [l0, some (.int x), l2, l3] (.int x :: st) h Q := x_iload (len := 1) rfl rfl
theorem s_121_10 {x : Int32} : wp V (cdT Ev) mx d 121 10 ls (.int x :: st) h Q = (if ¬ x = 0 then wp V (cdT Ev) mx d 121 25 ls st h Q else wp V (cdT Ev) mx d 121 13 ls st h Q) := x_if1 (c := fun x => ¬ x = 0) rfl
theorem s_121_13 {a : Nat} : wp V (cdT Ev) mx d 121 13 [some (.ref a), l1, l2, l3] st h Q = wp V (cdT Ev) mx d 121 14 [some (.ref a), l1, l2, l3] (.ref a :: st) h Q := x_aload (len := 1) rfl rfl
theorem s_121_13_n : wp V (cdT Ev) mx d 121 13 [some .null, l1, l2, l3] st h Q = wp V (cdT Ev) mx d 121 14 [some .null, l1, l2, l3] (.null :: st) h Q := x_aloadN (len := 1) rfl rfl
theorem s_121_14 {a : Nat} : wp V (cdT Ev) mx d 121 14 ls (.ref a :: st) h Q = gf [11] 1 h a (fun v => wp V (cdT Ev) mx d 121 17 ls (v :: st) h Q) := x_getf rfl
theorem s_121_17 : wp V (cdT Ev) mx d 121 17 ls st h Q = wp V (cdT Ev) mx d 121 19 ls ((.int (2147483647)) :: st) h Q := x_push (v := (.int (2147483647))) (len := 2) rfl
theorem s_121_19 {b : Nat} {v0 : Value} (hst : st.length ≤ 4) : wp V (cdT Ev) mx d 121 19 ls (v0 :: .ref b :: st) h Q = cv [(10, 60)] h b (fun y' => WP V (cdT Ev) mx d y' [.ref b, v0] h (fun r h' => wp V (cdT Ev) mx d 121 22 ls (rts r st) h' Q)) := x_cv (sg := [v0]) rfl hst rfl rfl
theorem s_121_22 : wp V (cdT Ev) mx d 121 22 ls st h Q = wp V (cdT Ev) mx d 121 69 ls st h Q := x_goto rfl
theorem s_121_25 {x : Int32} : wp V (cdT Ev) mx d 121 25 [l0, some (.int x), l2, l3] st h Q = wp V (cdT Ev) mx d 121 26 [l0, some (.int x), l2, l3] (.int x :: st) h Q := x_iload (len := 1) rfl rfl
theorem s_121_26 : wp V (cdT Ev) mx d 121 26 ls st h Q = wp V (cdT Ev) mx d 121 27 ls ((.int (3)) :: st) h Q := x_push (v := (.int (3))) (len := 1) rfl
theorem s_121_27 {x z : Int32} : wp V (cdT Ev) mx d 121 27 ls (.int z :: .int x :: st) h Q = (if ¬ x = z then wp V (cdT Ev) mx d 121 51 ls st h Q else wp V (cdT Ev) mx d 121 30 ls st h Q) := x_if2 (c := fun x z => ¬ x = z) rfl
theorem s_121_30 {a : Nat} : wp V (cdT Ev) mx d 121 30 [some (.ref a), l1, l2, l3] st h Q = wp V (cdT Ev) mx d 121 31 [some (.ref a), l1, l2, l3] (.ref a :: st) h Q := x_aload (len := 1) rfl rfl
theorem s_121_30_n : wp V (cdT Ev) mx d 121 30 [some .null, l1, l2, l3] st h Q = wp V (cdT Ev) mx d 121 31 [some .null, l1, l2, l3] (.null :: st) h Q := x_aloadN (len := 1) rfl rfl
theorem s_121_31 {a : Nat} : wp V (cdT Ev) mx d 121 31 ls (.ref a :: st) h Q = gf [11] 1 h a (fun v => wp V (cdT Ev) mx d 121 34 ls (v :: st) h Q) := x_getf rfl
theorem s_121_34 : wp V (cdT Ev) mx d 121 34 ls st h Q = wp V (cdT Ev) mx d 121 35 ls ((.int (1)) :: st) h Q := x_push (v := (.int (1))) (len := 1) rfl
theorem s_121_35 {x : Int32} : wp V (cdT Ev) mx d 121 35 [l0, l1, some (.int x), l3] st h Q = wp V (cdT Ev) mx d 121 36 [l0, l1, some (.int x), l3] (.int x :: st) h Q := x_iload (len := 1) rfl rfl
theorem s_121_36 {x z : Int32} : wp V (cdT Ev) mx d 121 36 ls (.int z :: .int x :: st) h Q = wp V (cdT Ev) mx d 121 37 ls (.int (x <<< (z &&& 31)) :: st) h Q := x_ib (f := fun x z => x <<< (z &&& 31)) rfl
theorem s_121_37 {a : Nat} : wp V (cdT Ev) mx d 121 37 [some (.ref a), l1, l2, l3] st h Q = wp V (cdT Ev) mx d 121 38 [some (.ref a), l1, l2, l3] (.ref a :: st) h Q := x_aload (len := 1) rfl rfl
theorem s_121_37_n : wp V (cdT Ev) mx d 121 37 [some .null, l1, l2, l3] st h Q = wp V (cdT Ev) mx d 121 38 [some .null, l1, l2, l3] (.null :: st) h Q := x_aloadN (len := 1) rfl rfl
theorem s_121_38 {a : Nat} : wp V (cdT Ev) mx d 121 38 ls (.ref a :: st) h Q = gf [11] 1 h a (fun v => wp V (cdT Ev) mx d 121 41 ls (v :: st) h Q) := x_getf rfl
theorem s_121_41 {a : Nat} : wp V (cdT Ev) mx d 121 41 ls (.ref a :: st) h Q = gf [10] 3 h a (fun v => wp V (cdT Ev) mx d 121 44 ls (v :: st) h Q) := x_getf rfl
theorem s_121_44 {x z : Int32} : wp V (cdT Ev) mx d 121 44 ls (.int z :: .int x :: st) h Q = wp V (cdT Ev) mx d 121 45 ls (.int (x &&& z) :: st) h Q := x_ib (f := fun x z => x &&& z) rfl
theorem s_121_45 {b : Nat} {v0 : Value} (hst : st.length ≤ 4) : wp V (cdT Ev) mx d 121 45 ls (v0 :: .ref b :: st) h Q = cv [(10, 62)] h b (fun y' => WP V (cdT Ev) mx d y' [.ref b, v0] h (fun r h' => wp V (cdT Ev) mx d 121 48 ls (rts r st) h' Q)) := x_cv (sg := [v0]) rfl hst rfl rfl
theorem s_121_48 : wp V (cdT Ev) mx d 121 48 ls st h Q = wp V (cdT Ev) mx d 121 69 ls st h Q := x_goto rfl
theorem s_121_51 {a : Nat} : wp V (cdT Ev) mx d 121 51 [l0, l1, l2, some (.ref a)] st h Q = wp V (cdT Ev) mx d 121 52 [l0, l1, l2, some (.ref a)] (.ref a :: st) h Q := x_aload (len := 1) rfl rfl
theorem s_121_51_n : wp V (cdT Ev) mx d 121 51 [l0, l1, l2, some .null] st h Q = wp V (cdT Ev) mx d 121 52 [l0, l1, l2, some .null] (.null :: st) h Q := x_aloadN (len := 1) rfl rfl
theorem s_121_52 {a : Nat} : wp V (cdT Ev) mx d 121 52 ls (.ref a :: st) h Q = wp V (cdT Ev) mx d 121 55 ls st h Q := x_ifnull rfl
theorem s_121_52_n : wp V (cdT Ev) mx d 121 52 ls (.null :: st) h Q = wp V (cdT Ev) mx d 121 69 ls st h Q := x_ifnullN rfl
theorem s_121_55 {a : Nat} : wp V (cdT Ev) mx d 121 55 [l0, l1, l2, some (.ref a)] st h Q = wp V (cdT Ev) mx d 121 56 [l0, l1, l2, some (.ref a)] (.ref a :: st) h Q := x_aload (len := 1) rfl rfl
theorem s_121_55_n : wp V (cdT Ev) mx d 121 55 [l0, l1, l2, some .null] st h Q = wp V (cdT Ev) mx d 121 56 [l0, l1, l2, some .null] (.null :: st) h Q := x_aloadN (len := 1) rfl rfl
theorem s_121_56 {x : Int32} : wp V (cdT Ev) mx d 121 56 [l0, some (.int x), l2, l3] st h Q = wp V (cdT Ev) mx d 121 57 [l0, some (.int x), l2, l3] (.int x :: st) h Q := x_iload (len := 1) rfl rfl
theorem s_121_57 : wp V (cdT Ev) mx d 121 57 ls st h Q = wp V (cdT Ev) mx d 121 58 ls ((.int (1)) :: st) h Q := x_push (v := (.int (1))) (len := 1) rfl
theorem s_121_58 {x z : Int32} : wp V (cdT Ev) mx d 121 58 ls (.int z :: .int x :: st) h Q = (if ¬ x = z then wp V (cdT Ev) mx d 121 65 ls st h Q else wp V (cdT Ev) mx d 121 61 ls st h Q) := x_if2 (c := fun x z => ¬ x = z) rfl
theorem s_121_61 : wp V (cdT Ev) mx d 121 61 ls st h Q = wp V (cdT Ev) mx d 121 62 ls ((.int (1)) :: st) h Q := x_push (v := (.int (1))) (len := 1) rfl
theorem s_121_62 : wp V (cdT Ev) mx d 121 62 ls st h Q = wp V (cdT Ev) mx d 121 66 ls st h Q := x_goto rfl
theorem s_121_65 : wp V (cdT Ev) mx d 121 65 ls st h Q = wp V (cdT Ev) mx d 121 66 ls ((.int (0)) :: st) h Q := x_push (v := (.int (0))) (len := 1) rfl
theorem s_121_66 {w : Value} {a : Nat} : wp V (cdT Ev) mx d 121 66 ls (w :: .ref a :: st) h Q = pf [1, 2, 3, 4, 5, 6, 8] 4 1 w h a (fun hh => wp V (cdT Ev) mx d 121 69 ls st hh Q) := x_putf rfl
theorem s_121_69 : wp V (cdT Ev) mx d 121 69 ls [] h Q = Q none h := x_retv rfl
theorem e_121 {a : Nat} {p0 : Int32} {p1 : Int32} : WP V (cdT Ev) mx (d + 1) 121 [.ref a, .int p0, .int p1] h Q = wp V (cdT Ev) mx d 121 0 [some (.ref a), some (.int p0), some (.int p1), none] [] h Q := propext (WP_eq (Nat.le_of_ble_eq_true rfl))
theorem s_122_0 {a : Nat} : wp V (cdT Ev) mx d 122 0 [some (.ref a)] st h Q = wp V (cdT Ev) mx d 122 1 [some (.ref a)] (.ref a :: st) h Q := x_aload (len := 1) rfl rfl
theorem s_122_0_n : wp V (cdT Ev) mx d 122 0 [some .null] st h Q = wp V (cdT Ev) mx d 122 1 [some .null] (.null :: st) h Q := x_aloadN (len := 1) rfl rfl
theorem s_122_1 {a : Nat} (hst : st.length ≤ 4) : wp V (cdT Ev) mx d 122 1 ls (.ref a :: st) h Q = wp V (cdT Ev) mx d 122 4 ls st h Q := x_oi rfl hst
theorem s_122_4 {a : Nat} : wp V (cdT Ev) mx d 122 4 [some (.ref a)] st h Q = wp V (cdT Ev) mx d 122 5 [some (.ref a)] (.ref a :: st) h Q := x_aload (len := 1) rfl rfl
theorem s_122_4_n : wp V (cdT Ev) mx d 122 4 [some .null] st h Q = wp V (cdT Ev) mx d 122 5 [some .null] (.null :: st) h Q := x_aloadN (len := 1) rfl rfl
theorem s_122_5 (hst : st.length ≤ 4) : wp V (cdT Ev) mx d 122 5 ls (st) h Q = WP V (cdT Ev) mx d 124 [] h (fun r h' => wp V (cdT Ev) mx d 122 8 ls (rts r st) h' Q) := x_cs (sg := []) rfl hst rfl rfl
theorem s_122_8 {w : Value} {a : Nat} : wp V (cdT Ev) mx d 122 8 ls (w :: .ref a :: st) h Q = pf [12] 0 2 w h a (fun hh => wp V (cdT Ev) mx d 122 11 ls st hh Q) := x_putf rfl
theorem s_122_11 {a : Nat} : wp V (cdT Ev) mx d 122 11 [some (.ref a)] st h Q = wp V (cdT Ev) mx d 122 12 [some (.ref a)] (.ref a :: st) h Q := x_aload (len := 1) rfl rfl
theorem s_122_11_n : wp V (cdT Ev) mx d 122 11 [some .null] st h Q = wp V (cdT Ev) mx d 122 12 [some .null] (.null :: st) h Q := x_aloadN (len := 1) rfl rfl
theorem s_122_12 : wp V (cdT Ev) mx d 122 12 ls st h Q = wp V (cdT Ev) mx d 122 14 ls ((.int (120)) :: st) h Q := x_push (v := (.int (120))) (len := 2) rfl
theorem s_122_14 {x : Int32} : wp V (cdT Ev) mx d 122 14 ls (.int x :: st) h Q = (¬ (x < 0 ∨ 1000 < x.toNatClampNeg) ∧ wp V (cdT Ev) mx d 122 16 ls (.ref h.2.1 :: st) (hnew h (.inl (2, x.toNatClampNeg, (.inl (fun _ => 0)))) x.toNatClampNeg) Q) := x_newa (len := 2) rfl
theorem s_122_16 {w : Value} {a : Nat} : wp V (cdT Ev) mx d 122 16 ls (w :: .ref a :: st) h Q = pf [12] 1 2 w h a (fun hh => wp V (cdT Ev) mx d 122 19 ls st hh Q) := x_putf rfl
theorem s_122_19 {a : Nat} : wp V (cdT Ev) mx d 122 19 [some (.ref a)] st h Q = wp V (cdT Ev) mx d 122 20 [some (.ref a)] (.ref a :: st) h Q := x_aload (len := 1) rfl rfl
theorem s_122_19_n : wp V (cdT Ev) mx d 122 19 [some .null] st h Q = wp V (cdT Ev) mx d 122 20 [some .null] (.null :: st) h Q := x_aloadN (len := 1) rfl rfl
theorem s_122_20 : wp V (cdT Ev) mx d 122 20 ls st h Q = wp V (cdT Ev) mx d 122 22 ls ((.int (120)) :: st) h Q := x_push (v := (.int (120))) (len := 2) rfl
theorem s_122_22 {x : Int32} : wp V (cdT Ev) mx d 122 22 ls (.int x :: st) h Q = (¬ (x < 0 ∨ 1000 < x.toNatClampNeg) ∧ wp V (cdT Ev) mx d 122 24 ls (.ref h.2.1 :: st) (hnew h (.inl (2, x.toNatClampNeg, (.inl (fun _ => 0)))) x.toNatClampNeg) Q) := x_newa (len := 2) rfl
theorem s_122_24 {w : Value} {a : Nat} : wp V (cdT Ev) mx d 122 24 ls (w :: .ref a :: st) h Q = pf [12] 2 2 w h a (fun hh => wp V (cdT Ev) mx d 122 27 ls st hh Q) := x_putf rfl
theorem s_122_27 {a : Nat} : wp V (cdT Ev) mx d 122 27 [some (.ref a)] st h Q = wp V (cdT Ev) mx d 122 28 [some (.ref a)] (.ref a :: st) h Q := x_aload (len := 1) rfl rfl
theorem s_122_27_n : wp V (cdT Ev) mx d 122 27 [some .null] st h Q = wp V (cdT Ev) mx d 122 28 [some .null] (.null :: st) h Q := x_aloadN (len := 1) rfl rfl
theorem s_122_28 : wp V (cdT Ev) mx d 122 28 ls st h Q = wp V (cdT Ev) mx d 122 30 ls ((.int (100)) :: st) h Q := x_push (v := (.int (100))) (len := 2) rfl
theorem s_122_30 {x : Int32} : wp V (cdT Ev) mx d 122 30 ls (.int x :: st) h Q = (¬ (x < 0 ∨ 1000 < x.toNatClampNeg) ∧ wp V (cdT Ev) mx d 122 32 ls (.ref h.2.1 :: st) (hnew h (.inl (2, x.toNatClampNeg, (.inl (fun _ => 0)))) x.toNatClampNeg) Q) := x_newa (len := 2) rfl
theorem s_122_32 {w : Value} {a : Nat} : wp V (cdT Ev) mx d 122 32 ls (w :: .ref a :: st) h Q = pf [12] 4 2 w h a (fun hh => wp V (cdT Ev) mx d 122 35 ls st hh Q) := x_putf rfl
theorem s_122_35 {a : Nat} : wp V (cdT Ev) mx d 122 35 [some (.ref a)] st h Q = wp V (cdT Ev) mx d 122 36 [some (.ref a)] (.ref a :: st) h Q := x_aload (len := 1) rfl rfl
theorem s_122_35_n : wp V (cdT Ev) mx d 122 35 [some .null] st h Q = wp V (cdT Ev) mx d 122 36 [some .null] (.null :: st) h Q := x_aloadN (len := 1) rfl rfl
theorem s_122_36 : wp V (cdT Ev) mx d 122 36 ls st h Q = wp V (cdT Ev) mx d 122 39 ls ((.int (600)) :: st) h Q := x_push (v := (.int (600))) (len := 3) rfl
theorem s_122_39 {x : Int32} : wp V (cdT Ev) mx d 122 39 ls (.int x :: st) h Q = (¬ (x < 0 ∨ 1000 < x.toNatClampNeg) ∧ wp V (cdT Ev) mx d 122 41 ls (.ref h.2.1 :: st) (hnew h (.inl (2, x.toNatClampNeg, (.inl (fun _ => 0)))) x.toNatClampNeg) Q) := x_newa (len := 2) rfl
theorem s_122_41 {w : Value} {a : Nat} : wp V (cdT Ev) mx d 122 41 ls (w :: .ref a :: st) h Q = pf [12] 6 2 w h a (fun hh => wp V (cdT Ev) mx d 122 44 ls st hh Q) := x_putf rfl
theorem s_122_44 {a : Nat} : wp V (cdT Ev) mx d 122 44 [some (.ref a)] st h Q = wp V (cdT Ev) mx d 122 45 [some (.ref a)] (.ref a :: st) h Q := x_aload (len := 1) rfl rfl
theorem s_122_44_n : wp V (cdT Ev) mx d 122 44 [some .null] st h Q = wp V (cdT Ev) mx d 122 45 [some .null] (.null :: st) h Q := x_aloadN (len := 1) rfl rfl
theorem s_122_45 : wp V (cdT Ev) mx d 122 45 ls st h Q = wp V (cdT Ev) mx d 122 47 ls ((.int (6)) :: st) h Q := x_push (v := (.int (6))) (len := 2) rfl
theorem s_122_47 {x : Int32} : wp V (cdT Ev) mx d 122 47 ls (.int x :: st) h Q = (¬ (x < 0 ∨ 1000 < x.toNatClampNeg) ∧ wp V (cdT Ev) mx d 122 49 ls (.ref h.2.1 :: st) (hnew h (.inl (2, x.toNatClampNeg, (.inl (fun _ => 0)))) x.toNatClampNeg) Q) := x_newa (len := 2) rfl
theorem s_122_49 {w : Value} {a : Nat} : wp V (cdT Ev) mx d 122 49 ls (w :: .ref a :: st) h Q = pf [12] 7 2 w h a (fun hh => wp V (cdT Ev) mx d 122 52 ls st hh Q) := x_putf rfl
theorem s_122_52 {a : Nat} : wp V (cdT Ev) mx d 122 52 [some (.ref a)] st h Q = wp V (cdT Ev) mx d 122 53 [some (.ref a)] (.ref a :: st) h Q := x_aload (len := 1) rfl rfl
theorem s_122_52_n : wp V (cdT Ev) mx d 122 52 [some .null] st h Q = wp V (cdT Ev) mx d 122 53 [some .null] (.null :: st) h Q := x_aloadN (len := 1) rfl rfl
theorem s_122_53 : wp V (cdT Ev) mx d 122 53 ls st h Q = wp V (cdT Ev) mx d 122 55 ls ((.int (100)) :: st) h Q := x_push (v := (.int (100))) (len := 2) rfl
theorem s_122_55 {x : Int32} : wp V (cdT Ev) mx d 122 55 ls (.int x :: st) h Q = (¬ (x < 0 ∨ 1000 < x.toNatClampNeg) ∧ wp V (cdT Ev) mx d 122 57 ls (.ref h.2.1 :: st) (hnew h (.inl (2, x.toNatClampNeg, (.inl (fun _ => 0)))) x.toNatClampNeg) Q) := x_newa (len := 2) rfl
theorem s_122_57 {w : Value} {a : Nat} : wp V (cdT Ev) mx d 122 57 ls (w :: .ref a :: st) h Q = pf [12] 9 2 w h a (fun hh => wp V (cdT Ev) mx d 122 60 ls st hh Q) := x_putf rfl
theorem s_122_60 {a : Nat} : wp V (cdT Ev) mx d 122 60 [some (.ref a)] st h Q = wp V (cdT Ev) mx d 122 61 [some (.ref a)] (.ref a :: st) h Q := x_aload (len := 1) rfl rfl
theorem s_122_60_n : wp V (cdT Ev) mx d 122 60 [some .null] st h Q = wp V (cdT Ev) mx d 122 61 [some .null] (.null :: st) h Q := x_aloadN (len := 1) rfl rfl
theorem s_122_61 : wp V (cdT Ev) mx d 122 61 ls st h Q = wp V (cdT Ev) mx d 122 63 ls ((.int (6)) :: st) h Q := x_push (v := (.int (6))) (len := 2) rfl
theorem s_122_63 {x : Int32} : wp V (cdT Ev) mx d 122 63 ls (.int x :: st) h Q = (¬ (x < 0 ∨ 1000 < x.toNatClampNeg) ∧ wp V (cdT Ev) mx d 122 65 ls (.ref h.2.1 :: st) (hnew h (.inl (2, x.toNatClampNeg, (.inl (fun _ => 0)))) x.toNatClampNeg) Q) := x_newa (len := 2) rfl
theorem s_122_65 {w : Value} {a : Nat} : wp V (cdT Ev) mx d 122 65 ls (w :: .ref a :: st) h Q = pf [12] 16 2 w h a (fun hh => wp V (cdT Ev) mx d 122 68 ls st hh Q) := x_putf rfl
theorem s_122_68 {a : Nat} : wp V (cdT Ev) mx d 122 68 [some (.ref a)] st h Q = wp V (cdT Ev) mx d 122 69 [some (.ref a)] (.ref a :: st) h Q := x_aload (len := 1) rfl rfl
theorem s_122_68_n : wp V (cdT Ev) mx d 122 68 [some .null] st h Q = wp V (cdT Ev) mx d 122 69 [some .null] (.null :: st) h Q := x_aloadN (len := 1) rfl rfl
theorem s_122_69 : wp V (cdT Ev) mx d 122 69 ls st h Q = wp V (cdT Ev) mx d 122 71 ls ((.int (6)) :: st) h Q := x_push (v := (.int (6))) (len := 2) rfl
theorem s_122_71 {x : Int32} : wp V (cdT Ev) mx d 122 71 ls (.int x :: st) h Q = (¬ (x < 0 ∨ 1000 < x.toNatClampNeg) ∧ wp V (cdT Ev) mx d 122 73 ls (.ref h.2.1 :: st) (hnew h (.inl (1, x.toNatClampNeg, (.inl (fun _ => 0)))) x.toNatClampNeg) Q) := x_newa (len := 2) rfl
theorem s_122_73 {a : Nat} : wp V (cdT Ev) mx d 122 73 ls (.ref a :: st) h Q = wp V (cdT Ev) mx d 122 74 ls (.ref a :: .ref a :: st) h Q := x_dup rfl rfl
theorem s_122_73_i {x : Int32} : wp V (cdT Ev) mx d 122 73 ls (.int x :: st) h Q = wp V (cdT Ev) mx d 122 74 ls (.int x :: .int x :: st) h Q := x_dup rfl rfl
theorem s_122_74 : wp V (cdT Ev) mx d 122 74 ls st h Q = wp V (cdT Ev) mx d 122 75 ls ((.int (0)) :: st) h Q := x_push (v := (.int (0))) (len := 1) rfl
theorem s_122_75 : wp V (cdT Ev) mx d 122 75 ls st h Q = wp V (cdT Ev) mx d 122 77 ls ((.int (112)) :: st) h Q := x_push (v := (.int (112))) (len := 2) rfl
theorem s_122_77 {x i : Int32} {a : Nat} : wp V (cdT Ev) mx d 122 77 ls (.int x :: .int i :: .ref a :: st) h Q = si 1 i (vp_nar .char x) h a (fun hh => wp V (cdT Ev) mx d 122 78 ls st hh Q) := x_iast (nw := fun x => vp_nar .char x) rfl
theorem s_122_78 {a : Nat} : wp V (cdT Ev) mx d 122 78 ls (.ref a :: st) h Q = wp V (cdT Ev) mx d 122 79 ls (.ref a :: .ref a :: st) h Q := x_dup rfl rfl
theorem s_122_78_i {x : Int32} : wp V (cdT Ev) mx d 122 78 ls (.int x :: st) h Q = wp V (cdT Ev) mx d 122 79 ls (.int x :: .int x :: st) h Q := x_dup rfl rfl
theorem s_122_79 : wp V (cdT Ev) mx d 122 79 ls st h Q = wp V (cdT Ev) mx d 122 80 ls ((.int (1)) :: st) h Q := x_push (v := (.int (1))) (len := 1) rfl
theorem s_122_80 : wp V (cdT Ev) mx d 122 80 ls st h Q = wp V (cdT Ev) mx d 122 82 ls ((.int (107)) :: st) h Q := x_push (v := (.int (107))) (len := 2) rfl
theorem s_122_82 {x i : Int32} {a : Nat} : wp V (cdT Ev) mx d 122 82 ls (.int x :: .int i :: .ref a :: st) h Q = si 1 i (vp_nar .char x) h a (fun hh => wp V (cdT Ev) mx d 122 83 ls st hh Q) := x_iast (nw := fun x => vp_nar .char x) rfl
theorem s_122_83 {a : Nat} : wp V (cdT Ev) mx d 122 83 ls (.ref a :: st) h Q = wp V (cdT Ev) mx d 122 84 ls (.ref a :: .ref a :: st) h Q := x_dup rfl rfl
theorem s_122_83_i {x : Int32} : wp V (cdT Ev) mx d 122 83 ls (.int x :: st) h Q = wp V (cdT Ev) mx d 122 84 ls (.int x :: .int x :: st) h Q := x_dup rfl rfl
theorem s_122_84 : wp V (cdT Ev) mx d 122 84 ls st h Q = wp V (cdT Ev) mx d 122 85 ls ((.int (2)) :: st) h Q := x_push (v := (.int (2))) (len := 1) rfl
theorem s_122_85 : wp V (cdT Ev) mx d 122 85 ls st h Q = wp V (cdT Ev) mx d 122 87 ls ((.int (118)) :: st) h Q := x_push (v := (.int (118))) (len := 2) rfl
theorem s_122_87 {x i : Int32} {a : Nat} : wp V (cdT Ev) mx d 122 87 ls (.int x :: .int i :: .ref a :: st) h Q = si 1 i (vp_nar .char x) h a (fun hh => wp V (cdT Ev) mx d 122 88 ls st hh Q) := x_iast (nw := fun x => vp_nar .char x) rfl
theorem s_122_88 {a : Nat} : wp V (cdT Ev) mx d 122 88 ls (.ref a :: st) h Q = wp V (cdT Ev) mx d 122 89 ls (.ref a :: .ref a :: st) h Q := x_dup rfl rfl
theorem s_122_88_i {x : Int32} : wp V (cdT Ev) mx d 122 88 ls (.int x :: st) h Q = wp V (cdT Ev) mx d 122 89 ls (.int x :: .int x :: st) h Q := x_dup rfl rfl
theorem s_122_89 : wp V (cdT Ev) mx d 122 89 ls st h Q = wp V (cdT Ev) mx d 122 90 ls ((.int (3)) :: st) h Q := x_push (v := (.int (3))) (len := 1) rfl
theorem s_122_90 : wp V (cdT Ev) mx d 122 90 ls st h Q = wp V (cdT Ev) mx d 122 92 ls ((.int (115)) :: st) h Q := x_push (v := (.int (115))) (len := 2) rfl
theorem s_122_92 {x i : Int32} {a : Nat} : wp V (cdT Ev) mx d 122 92 ls (.int x :: .int i :: .ref a :: st) h Q = si 1 i (vp_nar .char x) h a (fun hh => wp V (cdT Ev) mx d 122 93 ls st hh Q) := x_iast (nw := fun x => vp_nar .char x) rfl
theorem s_122_93 {a : Nat} : wp V (cdT Ev) mx d 122 93 ls (.ref a :: st) h Q = wp V (cdT Ev) mx d 122 94 ls (.ref a :: .ref a :: st) h Q := x_dup rfl rfl
theorem s_122_93_i {x : Int32} : wp V (cdT Ev) mx d 122 93 ls (.int x :: st) h Q = wp V (cdT Ev) mx d 122 94 ls (.int x :: .int x :: st) h Q := x_dup rfl rfl
theorem s_122_94 : wp V (cdT Ev) mx d 122 94 ls st h Q = wp V (cdT Ev) mx d 122 95 ls ((.int (4)) :: st) h Q := x_push (v := (.int (4))) (len := 1) rfl
theorem s_122_95 : wp V (cdT Ev) mx d 122 95 ls st h Q = wp V (cdT Ev) mx d 122 97 ls ((.int (119)) :: st) h Q := x_push (v := (.int (119))) (len := 2) rfl
theorem s_122_97 {x i : Int32} {a : Nat} : wp V (cdT Ev) mx d 122 97 ls (.int x :: .int i :: .ref a :: st) h Q = si 1 i (vp_nar .char x) h a (fun hh => wp V (cdT Ev) mx d 122 98 ls st hh Q) := x_iast (nw := fun x => vp_nar .char x) rfl
theorem s_122_98 {a : Nat} : wp V (cdT Ev) mx d 122 98 ls (.ref a :: st) h Q = wp V (cdT Ev) mx d 122 99 ls (.ref a :: .ref a :: st) h Q := x_dup rfl rfl
theorem s_122_98_i {x : Int32} : wp V (cdT Ev) mx d 122 98 ls (.int x :: st) h Q = wp V (cdT Ev) mx d 122 99 ls (.int x :: .int x :: st) h Q := x_dup rfl rfl
theorem s_122_99 : wp V (cdT Ev) mx d 122 99 ls st h Q = wp V (cdT Ev) mx d 122 100 ls ((.int (5)) :: st) h Q := x_push (v := (.int (5))) (len := 1) rfl
theorem s_122_100 : wp V (cdT Ev) mx d 122 100 ls st h Q = wp V (cdT Ev) mx d 122 102 ls ((.int (100)) :: st) h Q := x_push (v := (.int (100))) (len := 2) rfl
theorem s_122_102 {x i : Int32} {a : Nat} : wp V (cdT Ev) mx d 122 102 ls (.int x :: .int i :: .ref a :: st) h Q = si 1 i (vp_nar .char x) h a (fun hh => wp V (cdT Ev) mx d 122 103 ls st hh Q) := x_iast (nw := fun x => vp_nar .char x) rfl
theorem s_122_103 {w : Value} {a : Nat} : wp V (cdT Ev) mx d 122 103 ls (w :: .ref a :: st) h Q = pf [12] 17 2 w h a (fun hh => wp V (cdT Ev) mx d 122 106 ls st hh Q) := x_putf rfl
theorem s_122_106 {a : Nat} : wp V (cdT Ev) mx d 122 106 [some (.ref a)] st h Q = wp V (cdT Ev) mx d 122 107 [some (.ref a)] (.ref a :: st) h Q := x_aload (len := 1) rfl rfl
theorem s_122_106_n : wp V (cdT Ev) mx d 122 106 [some .null] st h Q = wp V (cdT Ev) mx d 122 107 [some .null] (.null :: st) h Q := x_aloadN (len := 1) rfl rfl
theorem s_122_107 : wp V (cdT Ev) mx d 122 107 ls st h Q = wp V (cdT Ev) mx d 122 108 ls ((.int (3)) :: st) h Q := x_push (v := (.int (3))) (len := 1) rfl
theorem s_122_108 {x : Int32} : wp V (cdT Ev) mx d 122 108 ls (.int x :: st) h Q = (¬ (x < 0 ∨ 1000 < x.toNatClampNeg) ∧ wp V (cdT Ev) mx d 122 110 ls (.ref h.2.1 :: st) (hnew h (.inl (1, x.toNatClampNeg, (.inl (fun _ => 0)))) x.toNatClampNeg) Q) := x_newa (len := 2) rfl
theorem s_122_110 {a : Nat} : wp V (cdT Ev) mx d 122 110 ls (.ref a :: st) h Q = wp V (cdT Ev) mx d 122 111 ls (.ref a :: .ref a :: st) h Q := x_dup rfl rfl
theorem s_122_110_i {x : Int32} : wp V (cdT Ev) mx d 122 110 ls (.int x :: st) h Q = wp V (cdT Ev) mx d 122 111 ls (.int x :: .int x :: st) h Q := x_dup rfl rfl
theorem s_122_111 : wp V (cdT Ev) mx d 122 111 ls st h Q = wp V (cdT Ev) mx d 122 112 ls ((.int (0)) :: st) h Q := x_push (v := (.int (0))) (len := 1) rfl
theorem s_122_112 : wp V (cdT Ev) mx d 122 112 ls st h Q = wp V (cdT Ev) mx d 122 114 ls ((.int (112)) :: st) h Q := x_push (v := (.int (112))) (len := 2) rfl
theorem s_122_114 {x i : Int32} {a : Nat} : wp V (cdT Ev) mx d 122 114 ls (.int x :: .int i :: .ref a :: st) h Q = si 1 i (vp_nar .char x) h a (fun hh => wp V (cdT Ev) mx d 122 115 ls st hh Q) := x_iast (nw := fun x => vp_nar .char x) rfl
theorem s_122_115 {a : Nat} : wp V (cdT Ev) mx d 122 115 ls (.ref a :: st) h Q = wp V (cdT Ev) mx d 122 116 ls (.ref a :: .ref a :: st) h Q := x_dup rfl rfl
theorem s_122_115_i {x : Int32} : wp V (cdT Ev) mx d 122 115 ls (.int x :: st) h Q = wp V (cdT Ev) mx d 122 116 ls (.int x :: .int x :: st) h Q := x_dup rfl rfl
theorem s_122_116 : wp V (cdT Ev) mx d 122 116 ls st h Q = wp V (cdT Ev) mx d 122 117 ls ((.int (1)) :: st) h Q := x_push (v := (.int (1))) (len := 1) rfl
theorem s_122_117 : wp V (cdT Ev) mx d 122 117 ls st h Q = wp V (cdT Ev) mx d 122 119 ls ((.int (104)) :: st) h Q := x_push (v := (.int (104))) (len := 2) rfl
theorem s_122_119 {x i : Int32} {a : Nat} : wp V (cdT Ev) mx d 122 119 ls (.int x :: .int i :: .ref a :: st) h Q = si 1 i (vp_nar .char x) h a (fun hh => wp V (cdT Ev) mx d 122 120 ls st hh Q) := x_iast (nw := fun x => vp_nar .char x) rfl
theorem s_122_120 {a : Nat} : wp V (cdT Ev) mx d 122 120 ls (.ref a :: st) h Q = wp V (cdT Ev) mx d 122 121 ls (.ref a :: .ref a :: st) h Q := x_dup rfl rfl
theorem s_122_120_i {x : Int32} : wp V (cdT Ev) mx d 122 120 ls (.int x :: st) h Q = wp V (cdT Ev) mx d 122 121 ls (.int x :: .int x :: st) h Q := x_dup rfl rfl
theorem s_122_121 : wp V (cdT Ev) mx d 122 121 ls st h Q = wp V (cdT Ev) mx d 122 122 ls ((.int (2)) :: st) h Q := x_push (v := (.int (2))) (len := 1) rfl
theorem s_122_122 : wp V (cdT Ev) mx d 122 122 ls st h Q = wp V (cdT Ev) mx d 122 124 ls ((.int (102)) :: st) h Q := x_push (v := (.int (102))) (len := 2) rfl
theorem s_122_124 {x i : Int32} {a : Nat} : wp V (cdT Ev) mx d 122 124 ls (.int x :: .int i :: .ref a :: st) h Q = si 1 i (vp_nar .char x) h a (fun hh => wp V (cdT Ev) mx d 122 125 ls st hh Q) := x_iast (nw := fun x => vp_nar .char x) rfl
theorem s_122_125 {w : Value} {a : Nat} : wp V (cdT Ev) mx d 122 125 ls (w :: .ref a :: st) h Q = pf [12] 18 2 w h a (fun hh => wp V (cdT Ev) mx d 122 128 ls st hh Q) := x_putf rfl
theorem s_122_128 {a : Nat} : wp V (cdT Ev) mx d 122 128 [some (.ref a)] st h Q = wp V (cdT Ev) mx d 122 129 [some (.ref a)] (.ref a :: st) h Q := x_aload (len := 1) rfl rfl
theorem s_122_128_n : wp V (cdT Ev) mx d 122 128 [some .null] st h Q = wp V (cdT Ev) mx d 122 129 [some .null] (.null :: st) h Q := x_aloadN (len := 1) rfl rfl
theorem s_122_129 : wp V (cdT Ev) mx d 122 129 ls st h Q = wp V (cdT Ev) mx d 122 131 ls ((.int (15)) :: st) h Q := x_push (v := (.int (15))) (len := 2) rfl
theorem s_122_131 {x : Int32} : wp V (cdT Ev) mx d 122 131 ls (.int x :: st) h Q = (¬ (x < 0 ∨ 1000 < x.toNatClampNeg) ∧ wp V (cdT Ev) mx d 122 133 ls (.ref h.2.1 :: st) (hnew h (.inl (1, x.toNatClampNeg, (.inl (fun _ => 0)))) x.toNatClampNeg) Q) := x_newa (len := 2) rfl
theorem s_122_133 {a : Nat} : wp V (cdT Ev) mx d 122 133 ls (.ref a :: st) h Q = wp V (cdT Ev) mx d 122 134 ls (.ref a :: .ref a :: st) h Q := x_dup rfl rfl
theorem s_122_133_i {x : Int32} : wp V (cdT Ev) mx d 122 133 ls (.int x :: st) h Q = wp V (cdT Ev) mx d 122 134 ls (.int x :: .int x :: st) h Q := x_dup rfl rfl
theorem s_122_134 : wp V (cdT Ev) mx d 122 134 ls st h Q = wp V (cdT Ev) mx d 122 135 ls ((.int (0)) :: st) h Q := x_push (v := (.int (0))) (len := 1) rfl
theorem s_122_135 : wp V (cdT Ev) mx d 122 135 ls st h Q = wp V (cdT Ev) mx d 122 137 ls ((.int (112)) :: st) h Q := x_push (v := (.int (112))) (len := 2) rfl
theorem s_122_137 {x i : Int32} {a : Nat} : wp V (cdT Ev) mx d 122 137 ls (.int x :: .int i :: .ref a :: st) h Q = si 1 i (vp_nar .char x) h a (fun hh => wp V (cdT Ev) mx d 122 138 ls st hh Q) := x_iast (nw := fun x => vp_nar .char x) rfl
theorem s_122_138 {a : Nat} : wp V (cdT Ev) mx d 122 138 ls (.ref a :: st) h Q = wp V (cdT Ev) mx d 122 139 ls (.ref a :: .ref a :: st) h Q := x_dup rfl rfl
theorem s_122_138_i {x : Int32} : wp V (cdT Ev) mx d 122 138 ls (.int x :: st) h Q = wp V (cdT Ev) mx d 122 139 ls (.int x :: .int x :: st) h Q := x_dup rfl rfl
theorem s_122_139 : wp V (cdT Ev) mx d 122 139 ls st h Q = wp V (cdT Ev) mx d 122 140 ls ((.int (1)) :: st) h Q := x_push (v := (.int (1))) (len := 1) rfl
theorem s_122_140 : wp V (cdT Ev) mx d 122 140 ls st h Q = wp V (cdT Ev) mx d 122 142 ls ((.int (114)) :: st) h Q := x_push (v := (.int (114))) (len := 2) rfl
theorem s_122_142 {x i : Int32} {a : Nat} : wp V (cdT Ev) mx d 122 142 ls (.int x :: .int i :: .ref a :: st) h Q = si 1 i (vp_nar .char x) h a (fun hh => wp V (cdT Ev) mx d 122 143 ls st hh Q) := x_iast (nw := fun x => vp_nar .char x) rfl
theorem s_122_143 {a : Nat} : wp V (cdT Ev) mx d 122 143 ls (.ref a :: st) h Q = wp V (cdT Ev) mx d 122 144 ls (.ref a :: .ref a :: st) h Q := x_dup rfl rfl
theorem s_122_143_i {x : Int32} : wp V (cdT Ev) mx d 122 143 ls (.int x :: st) h Q = wp V (cdT Ev) mx d 122 144 ls (.int x :: .int x :: st) h Q := x_dup rfl rfl
theorem s_122_144 : wp V (cdT Ev) mx d 122 144 ls st h Q = wp V (cdT Ev) mx d 122 145 ls ((.int (2)) :: st) h Q := x_push (v := (.int (2))) (len := 1) rfl
theorem s_122_145 : wp V (cdT Ev) mx d 122 145 ls st h Q = wp V (cdT Ev) mx d 122 147 ls ((.int (101)) :: st) h Q := x_push (v := (.int (101))) (len := 2) rfl
theorem s_122_147 {x i : Int32} {a : Nat} : wp V (cdT Ev) mx d 122 147 ls (.int x :: .int i :: .ref a :: st) h Q = si 1 i (vp_nar .char x) h a (fun hh => wp V (cdT Ev) mx d 122 148 ls st hh Q) := x_iast (nw := fun x => vp_nar .char x) rfl
theorem s_122_148 {a : Nat} : wp V (cdT Ev) mx d 122 148 ls (.ref a :: st) h Q = wp V (cdT Ev) mx d 122 149 ls (.ref a :: .ref a :: st) h Q := x_dup rfl rfl
theorem s_122_148_i {x : Int32} : wp V (cdT Ev) mx d 122 148 ls (.int x :: st) h Q = wp V (cdT Ev) mx d 122 149 ls (.int x :: .int x :: st) h Q := x_dup rfl rfl
theorem s_122_149 : wp V (cdT Ev) mx d 122 149 ls st h Q = wp V (cdT Ev) mx d 122 150 ls ((.int (3)) :: st) h Q := x_push (v := (.int (3))) (len := 1) rfl
theorem s_122_150 : wp V (cdT Ev) mx d 122 150 ls st h Q = wp V (cdT Ev) mx d 122 152 ls ((.int (115)) :: st) h Q := x_push (v := (.int (115))) (len := 2) rfl
theorem s_122_152 {x i : Int32} {a : Nat} : wp V (cdT Ev) mx d 122 152 ls (.int x :: .int i :: .ref a :: st) h Q = si 1 i (vp_nar .char x) h a (fun hh => wp V (cdT Ev) mx d 122 153 ls st hh Q) := x_iast (nw := fun x => vp_nar .char x) rfl
theorem s_122_153 {a : Nat} : wp V (cdT Ev) mx d 122 153 ls (.ref a :: st) h Q = wp V (cdT Ev) mx d 122 154 ls (.ref a :: .ref a :: st) h Q := x_dup rfl rfl
theorem s_122_153_i {x : Int32} : wp V (cdT Ev) mx d 122 153 ls (.int x :: st) h Q = wp V (cdT Ev) mx d 122 154 ls (.int x :: .int x :: st) h Q := x_dup rfl rfl
theorem s_122_154 : wp V (cdT Ev) mx d 122 154 ls st h Q = wp V (cdT Ev) mx d 122 155 ls ((.int (4)) :: st) h Q := x_push (v := (.int (4))) (len := 1) rfl
theorem s_122_155 : wp V (cdT Ev) mx d 122 155 ls st h Q = wp V (cdT Ev) mx d 122 157 ls ((.int (115)) :: st) h Q := x_push (v := (.int (115))) (len := 2) rfl
theorem s_122_157 {x i : Int32} {a : Nat} : wp V (cdT Ev) mx d 122 157 ls (.int x :: .int i :: .ref a :: st) h Q = si 1 i (vp_nar .char x) h a (fun hh => wp V (cdT Ev) mx d 122 158 ls st hh Q) := x_iast (nw := fun x => vp_nar .char x) rfl
theorem s_122_158 {a : Nat} : wp V (cdT Ev) mx d 122 158 ls (.ref a :: st) h Q = wp V (cdT Ev) mx d 122 159 ls (.ref a :: .ref a :: st) h Q := x_dup rfl rfl
theorem s_122_158_i {x : Int32} : wp V (cdT Ev) mx d 122 158 ls (.int x :: st) h Q = wp V (cdT Ev) mx d 122 159 ls (.int x :: .int x :: st) h Q := x_dup rfl rfl
theorem s_122_159 : wp V (cdT Ev) mx d 122 159 ls st h Q = wp V (cdT Ev) mx d 122 160 ls ((.int (5)) :: st) h Q := x_push (v := (.int (5))) (len := 1) rfl
theorem s_122_160 : wp V (cdT Ev) mx d 122 160 ls st h Q = wp V (cdT Ev) mx d 122 162 ls ((.int (104)) :: st) h Q := x_push (v := (.int (104))) (len := 2) rfl
theorem s_122_162 {x i : Int32} {a : Nat} : wp V (cdT Ev) mx d 122 162 ls (.int x :: .int i :: .ref a :: st) h Q = si 1 i (vp_nar .char x) h a (fun hh => wp V (cdT Ev) mx d 122 163 ls st hh Q) := x_iast (nw := fun x => vp_nar .char x) rfl
theorem s_122_163 {a : Nat} : wp V (cdT Ev) mx d 122 163 ls (.ref a :: st) h Q = wp V (cdT Ev) mx d 122 164 ls (.ref a :: .ref a :: st) h Q := x_dup rfl rfl
theorem s_122_163_i {x : Int32} : wp V (cdT Ev) mx d 122 163 ls (.int x :: st) h Q = wp V (cdT Ev) mx d 122 164 ls (.int x :: .int x :: st) h Q := x_dup rfl rfl
theorem s_122_164 : wp V (cdT Ev) mx d 122 164 ls st h Q = wp V (cdT Ev) mx d 122 166 ls ((.int (6)) :: st) h Q := x_push (v := (.int (6))) (len := 2) rfl
theorem s_122_166 : wp V (cdT Ev) mx d 122 166 ls st h Q = wp V (cdT Ev) mx d 122 168 ls ((.int (111)) :: st) h Q := x_push (v := (.int (111))) (len := 2) rfl
theorem s_122_168 {x i : Int32} {a : Nat} : wp V (cdT Ev) mx d 122 168 ls (.int x :: .int i :: .ref a :: st) h Q = si 1 i (vp_nar .char x) h a (fun hh => wp V (cdT Ev) mx d 122 169 ls st hh Q) := x_iast (nw := fun x => vp_nar .char x) rfl
theorem s_122_169 {a : Nat} : wp V (cdT Ev) mx d 122 169 ls (.ref a :: st) h Q = wp V (cdT Ev) mx d 122 170 ls (.ref a :: .ref a :: st) h Q := x_dup rfl rfl
theorem s_122_169_i {x : Int32} : wp V (cdT Ev) mx d 122 169 ls (.int x :: st) h Q = wp V (cdT Ev) mx d 122 170 ls (.int x :: .int x :: st) h Q := x_dup rfl rfl
theorem s_122_170 : wp V (cdT Ev) mx d 122 170 ls st h Q = wp V (cdT Ev) mx d 122 172 ls ((.int (7)) :: st) h Q := x_push (v := (.int (7))) (len := 2) rfl
theorem s_122_172 : wp V (cdT Ev) mx d 122 172 ls st h Q = wp V (cdT Ev) mx d 122 174 ls ((.int (108)) :: st) h Q := x_push (v := (.int (108))) (len := 2) rfl
theorem s_122_174 {x i : Int32} {a : Nat} : wp V (cdT Ev) mx d 122 174 ls (.int x :: .int i :: .ref a :: st) h Q = si 1 i (vp_nar .char x) h a (fun hh => wp V (cdT Ev) mx d 122 175 ls st hh Q) := x_iast (nw := fun x => vp_nar .char x) rfl
theorem s_122_175 {a : Nat} : wp V (cdT Ev) mx d 122 175 ls (.ref a :: st) h Q = wp V (cdT Ev) mx d 122 176 ls (.ref a :: .ref a :: st) h Q := x_dup rfl rfl
theorem s_122_175_i {x : Int32} : wp V (cdT Ev) mx d 122 175 ls (.int x :: st) h Q = wp V (cdT Ev) mx d 122 176 ls (.int x :: .int x :: st) h Q := x_dup rfl rfl
theorem s_122_176 : wp V (cdT Ev) mx d 122 176 ls st h Q = wp V (cdT Ev) mx d 122 178 ls ((.int (8)) :: st) h Q := x_push (v := (.int (8))) (len := 2) rfl
theorem s_122_178 : wp V (cdT Ev) mx d 122 178 ls st h Q = wp V (cdT Ev) mx d 122 180 ls ((.int (100)) :: st) h Q := x_push (v := (.int (100))) (len := 2) rfl
theorem s_122_180 {x i : Int32} {a : Nat} : wp V (cdT Ev) mx d 122 180 ls (.int x :: .int i :: .ref a :: st) h Q = si 1 i (vp_nar .char x) h a (fun hh => wp V (cdT Ev) mx d 122 181 ls st hh Q) := x_iast (nw := fun x => vp_nar .char x) rfl
theorem s_122_181 {a : Nat} : wp V (cdT Ev) mx d 122 181 ls (.ref a :: st) h Q = wp V (cdT Ev) mx d 122 182 ls (.ref a :: .ref a :: st) h Q := x_dup rfl rfl
theorem s_122_181_i {x : Int32} : wp V (cdT Ev) mx d 122 181 ls (.int x :: st) h Q = wp V (cdT Ev) mx d 122 182 ls (.int x :: .int x :: st) h Q := x_dup rfl rfl
theorem s_122_182 : wp V (cdT Ev) mx d 122 182 ls st h Q = wp V (cdT Ev) mx d 122 184 ls ((.int (9)) :: st) h Q := x_push (v := (.int (9))) (len := 2) rfl
theorem s_122_184 : wp V (cdT Ev) mx d 122 184 ls st h Q = wp V (cdT Ev) mx d 122 185 ls ((.int (0)) :: st) h Q := x_push (v := (.int (0))) (len := 1) rfl
theorem s_122_185 {x i : Int32} {a : Nat} : wp V (cdT Ev) mx d 122 185 ls (.int x :: .int i :: .ref a :: st) h Q = si 1 i (vp_nar .char x) h a (fun hh => wp V (cdT Ev) mx d 122 186 ls st hh Q) := x_iast (nw := fun x => vp_nar .char x) rfl
theorem s_122_186 {a : Nat} : wp V (cdT Ev) mx d 122 186 ls (.ref a :: st) h Q = wp V (cdT Ev) mx d 122 187 ls (.ref a :: .ref a :: st) h Q := x_dup rfl rfl
theorem s_122_186_i {x : Int32} : wp V (cdT Ev) mx d 122 186 ls (.int x :: st) h Q = wp V (cdT Ev) mx d 122 187 ls (.int x :: .int x :: st) h Q := x_dup rfl rfl
theorem s_122_187 : wp V (cdT Ev) mx d 122 187 ls st h Q = wp V (cdT Ev) mx d 122 189 ls ((.int (10)) :: st) h Q := x_push (v := (.int (10))) (len := 2) rfl
theorem s_122_189 : wp V (cdT Ev) mx d 122 189 ls st h Q = wp V (cdT Ev) mx d 122 191 ls ((.int (102)) :: st) h Q := x_push (v := (.int (102))) (len := 2) rfl
theorem s_122_191 {x i : Int32} {a : Nat} : wp V (cdT Ev) mx d 122 191 ls (.int x :: .int i :: .ref a :: st) h Q = si 1 i (vp_nar .char x) h a (fun hh => wp V (cdT Ev) mx d 122 192 ls st hh Q) := x_iast (nw := fun x => vp_nar .char x) rfl
theorem s_122_192 {a : Nat} : wp V (cdT Ev) mx d 122 192 ls (.ref a :: st) h Q = wp V (cdT Ev) mx d 122 193 ls (.ref a :: .ref a :: st) h Q := x_dup rfl rfl
theorem s_122_192_i {x : Int32} : wp V (cdT Ev) mx d 122 192 ls (.int x :: st) h Q = wp V (cdT Ev) mx d 122 193 ls (.int x :: .int x :: st) h Q := x_dup rfl rfl
theorem s_122_193 : wp V (cdT Ev) mx d 122 193 ls st h Q = wp V (cdT Ev) mx d 122 195 ls ((.int (11)) :: st) h Q := x_push (v := (.int (11))) (len := 2) rfl
theorem s_122_195 : wp V (cdT Ev) mx d 122 195 ls st h Q = wp V (cdT Ev) mx d 122 197 ls ((.int (114)) :: st) h Q := x_push (v := (.int (114))) (len := 2) rfl
theorem s_122_197 {x i : Int32} {a : Nat} : wp V (cdT Ev) mx d 122 197 ls (.int x :: .int i :: .ref a :: st) h Q = si 1 i (vp_nar .char x) h a (fun hh => wp V (cdT Ev) mx d 122 198 ls st hh Q) := x_iast (nw := fun x => vp_nar .char x) rfl
theorem s_122_198 {a : Nat} : wp V (cdT Ev) mx d 122 198 ls (.ref a :: st) h Q = wp V (cdT Ev) mx d 122 199 ls (.ref a :: .ref a :: st) h Q := x_dup rfl rfl
theorem s_122_198_i {x : Int32} : wp V (cdT Ev) mx d 122 198 ls (.int x :: st) h Q = wp V (cdT Ev) mx d 122 199 ls (.int x :: .int x :: st) h Q := x_dup rfl rfl
theorem s_122_199 : wp V (cdT Ev) mx d 122 199 ls st h Q = wp V (cdT Ev) mx d 122 201 ls ((.int (12)) :: st) h Q := x_push (v := (.int (12))) (len := 2) rfl
theorem s_122_201 : wp V (cdT Ev) mx d 122 201 ls st h Q = wp V (cdT Ev) mx d 122 203 ls ((.int (101)) :: st) h Q := x_push (v := (.int (101))) (len := 2) rfl
theorem s_122_203 {x i : Int32} {a : Nat} : wp V (cdT Ev) mx d 122 203 ls (.int x :: .int i :: .ref a :: st) h Q = si 1 i (vp_nar .char x) h a (fun hh => wp V (cdT Ev) mx d 122 204 ls st hh Q) := x_iast (nw := fun x => vp_nar .char x) rfl
theorem s_122_204 {a : Nat} : wp V (cdT Ev) mx d 122 204 ls (.ref a :: st) h Q = wp V (cdT Ev) mx d 122 205 ls (.ref a :: .ref a :: st) h Q := x_dup rfl rfl
theorem s_122_204_i {x : Int32} : wp V (cdT Ev) mx d 122 204 ls (.int x :: st) h Q = wp V (cdT Ev) mx d 122 205 ls (.int x :: .int x :: st) h Q := x_dup rfl rfl
theorem s_122_205 : wp V (cdT Ev) mx d 122 205 ls st h Q = wp V (cdT Ev) mx d 122 207 ls ((.int (13)) :: st) h Q := x_push (v := (.int (13))) (len := 2) rfl
theorem s_122_207 : wp V (cdT Ev) mx d 122 207 ls st h Q = wp V (cdT Ev) mx d 122 209 ls ((.int (101)) :: st) h Q := x_push (v := (.int (101))) (len := 2) rfl
theorem s_122_209 {x i : Int32} {a : Nat} : wp V (cdT Ev) mx d 122 209 ls (.int x :: .int i :: .ref a :: st) h Q = si 1 i (vp_nar .char x) h a (fun hh => wp V (cdT Ev) mx d 122 210 ls st hh Q) := x_iast (nw := fun x => vp_nar .char x) rfl
theorem s_122_210 {a : Nat} : wp V (cdT Ev) mx d 122 210 ls (.ref a :: st) h Q = wp V (cdT Ev) mx d 122 211 ls (.ref a :: .ref a :: st) h Q := x_dup rfl rfl
theorem s_122_210_i {x : Int32} : wp V (cdT Ev) mx d 122 210 ls (.int x :: st) h Q = wp V (cdT Ev) mx d 122 211 ls (.int x :: .int x :: st) h Q := x_dup rfl rfl
theorem s_122_211 : wp V (cdT Ev) mx d 122 211 ls st h Q = wp V (cdT Ev) mx d 122 213 ls ((.int (14)) :: st) h Q := x_push (v := (.int (14))) (len := 2) rfl
theorem s_122_213 : wp V (cdT Ev) mx d 122 213 ls st h Q = wp V (cdT Ev) mx d 122 214 ls ((.int (0)) :: st) h Q := x_push (v := (.int (0))) (len := 1) rfl
theorem s_122_214 {x i : Int32} {a : Nat} : wp V (cdT Ev) mx d 122 214 ls (.int x :: .int i :: .ref a :: st) h Q = si 1 i (vp_nar .char x) h a (fun hh => wp V (cdT Ev) mx d 122 215 ls st hh Q) := x_iast (nw := fun x => vp_nar .char x) rfl
theorem s_122_215 {w : Value} {a : Nat} : wp V (cdT Ev) mx d 122 215 ls (w :: .ref a :: st) h Q = pf [12] 19 2 w h a (fun hh => wp V (cdT Ev) mx d 122 218 ls st hh Q) := x_putf rfl
theorem s_122_218 {a : Nat} : wp V (cdT Ev) mx d 122 218 [some (.ref a)] st h Q = wp V (cdT Ev) mx d 122 219 [some (.ref a)] (.ref a :: st) h Q := x_aload (len := 1) rfl rfl
theorem s_122_218_n : wp V (cdT Ev) mx d 122 218 [some .null] st h Q = wp V (cdT Ev) mx d 122 219 [some .null] (.null :: st) h Q := x_aloadN (len := 1) rfl rfl
theorem s_122_219 : wp V (cdT Ev) mx d 122 219 ls st h Q = wp V (cdT Ev) mx d 122 221 ls ((.int (12)) :: st) h Q := x_push (v := (.int (12))) (len := 2) rfl
theorem s_122_221 {x : Int32} : wp V (cdT Ev) mx d 122 221 ls (.int x :: st) h Q = (¬ (x < 0 ∨ 1000 < x.toNatClampNeg) ∧ wp V (cdT Ev) mx d 122 223 ls (.ref h.2.1 :: st) (hnew h (.inl (2, x.toNatClampNeg, (.inl (fun _ => 0)))) x.toNatClampNeg) Q) := x_newa (len := 2) rfl
theorem s_122_223 {w : Value} {a : Nat} : wp V (cdT Ev) mx d 122 223 ls (w :: .ref a :: st) h Q = pf [12] 20 2 w h a (fun hh => wp V (cdT Ev) mx d 122 226 ls st hh Q) := x_putf rfl
theorem s_122_226 {a : Nat} : wp V (cdT Ev) mx d 122 226 [some (.ref a)] st h Q = wp V (cdT Ev) mx d 122 227 [some (.ref a)] (.ref a :: st) h Q := x_aload (len := 1) rfl rfl
theorem s_122_226_n : wp V (cdT Ev) mx d 122 226 [some .null] st h Q = wp V (cdT Ev) mx d 122 227 [some .null] (.null :: st) h Q := x_aloadN (len := 1) rfl rfl
theorem s_122_227 : wp V (cdT Ev) mx d 122 227 ls st h Q = wp V (cdT Ev) mx d 122 229 ls ((.int (7)) :: st) h Q := x_push (v := (.int (7))) (len := 2) rfl
theorem s_122_229 {x : Int32} : wp V (cdT Ev) mx d 122 229 ls (.int x :: st) h Q = (¬ (x < 0 ∨ 1000 < x.toNatClampNeg) ∧ wp V (cdT Ev) mx d 122 231 ls (.ref h.2.1 :: st) (hnew h (.inl (2, x.toNatClampNeg, (.inl (fun _ => 0)))) x.toNatClampNeg) Q) := x_newa (len := 2) rfl
theorem s_122_231 {a : Nat} : wp V (cdT Ev) mx d 122 231 ls (.ref a :: st) h Q = wp V (cdT Ev) mx d 122 232 ls (.ref a :: .ref a :: st) h Q := x_dup rfl rfl
theorem s_122_231_i {x : Int32} : wp V (cdT Ev) mx d 122 231 ls (.int x :: st) h Q = wp V (cdT Ev) mx d 122 232 ls (.int x :: .int x :: st) h Q := x_dup rfl rfl
theorem s_122_232 : wp V (cdT Ev) mx d 122 232 ls st h Q = wp V (cdT Ev) mx d 122 233 ls ((.int (0)) :: st) h Q := x_push (v := (.int (0))) (len := 1) rfl
theorem s_122_233 : wp V (cdT Ev) mx d 122 233 ls st h Q = wp V (cdT Ev) mx d 122 234 ls ((.int (-1)) :: st) h Q := x_push (v := (.int (-1))) (len := 1) rfl
theorem s_122_234 {x i : Int32} {a : Nat} : wp V (cdT Ev) mx d 122 234 ls (.int x :: .int i :: .ref a :: st) h Q = si 2 i (x) h a (fun hh => wp V (cdT Ev) mx d 122 235 ls st hh Q) := x_iast (nw := fun x => x) rfl
theorem s_122_235 {a : Nat} : wp V (cdT Ev) mx d 122 235 ls (.ref a :: st) h Q = wp V (cdT Ev) mx d 122 236 ls (.ref a :: .ref a :: st) h Q := x_dup rfl rfl
theorem s_122_235_i {x : Int32} : wp V (cdT Ev) mx d 122 235 ls (.int x :: st) h Q = wp V (cdT Ev) mx d 122 236 ls (.int x :: .int x :: st) h Q := x_dup rfl rfl
theorem s_122_236 : wp V (cdT Ev) mx d 122 236 ls st h Q = wp V (cdT Ev) mx d 122 237 ls ((.int (1)) :: st) h Q := x_push (v := (.int (1))) (len := 1) rfl
theorem s_122_237 : wp V (cdT Ev) mx d 122 237 ls st h Q = wp V (cdT Ev) mx d 122 238 ls ((.int (0)) :: st) h Q := x_push (v := (.int (0))) (len := 1) rfl
theorem s_122_238 {x i : Int32} {a : Nat} : wp V (cdT Ev) mx d 122 238 ls (.int x :: .int i :: .ref a :: st) h Q = si 2 i (x) h a (fun hh => wp V (cdT Ev) mx d 122 239 ls st hh Q) := x_iast (nw := fun x => x) rfl
theorem s_122_239 {a : Nat} : wp V (cdT Ev) mx d 122 239 ls (.ref a :: st) h Q = wp V (cdT Ev) mx d 122 240 ls (.ref a :: .ref a :: st) h Q := x_dup rfl rfl
theorem s_122_239_i {x : Int32} : wp V (cdT Ev) mx d 122 239 ls (.int x :: st) h Q = wp V (cdT Ev) mx d 122 240 ls (.int x :: .int x :: st) h Q := x_dup rfl rfl
theorem s_122_240 : wp V (cdT Ev) mx d 122 240 ls st h Q = wp V (cdT Ev) mx d 122 241 ls ((.int (2)) :: st) h Q := x_push (v := (.int (2))) (len := 1) rfl
theorem s_122_241 : wp V (cdT Ev) mx d 122 241 ls st h Q = wp V (cdT Ev) mx d 122 242 ls ((.int (0)) :: st) h Q := x_push (v := (.int (0))) (len := 1) rfl
theorem s_122_242 {x i : Int32} {a : Nat} : wp V (cdT Ev) mx d 122 242 ls (.int x :: .int i :: .ref a :: st) h Q = si 2 i (x) h a (fun hh => wp V (cdT Ev) mx d 122 243 ls st hh Q) := x_iast (nw := fun x => x) rfl
theorem s_122_243 {a : Nat} : wp V (cdT Ev) mx d 122 243 ls (.ref a :: st) h Q = wp V (cdT Ev) mx d 122 244 ls (.ref a :: .ref a :: st) h Q := x_dup rfl rfl
theorem s_122_243_i {x : Int32} : wp V (cdT Ev) mx d 122 243 ls (.int x :: st) h Q = wp V (cdT Ev) mx d 122 244 ls (.int x :: .int x :: st) h Q := x_dup rfl rfl
theorem s_122_244 : wp V (cdT Ev) mx d 122 244 ls st h Q = wp V (cdT Ev) mx d 122 245 ls ((.int (3)) :: st) h Q := x_push (v := (.int (3))) (len := 1) rfl
theorem s_122_245 : wp V (cdT Ev) mx d 122 245 ls st h Q = wp V (cdT Ev) mx d 122 246 ls ((.int (0)) :: st) h Q := x_push (v := (.int (0))) (len := 1) rfl
theorem s_122_246 {x i : Int32} {a : Nat} : wp V (cdT Ev) mx d 122 246 ls (.int x :: .int i :: .ref a :: st) h Q = si 2 i (x) h a (fun hh => wp V (cdT Ev) mx d 122 247 ls st hh Q) := x_iast (nw := fun x => x) rfl
theorem s_122_247 {a : Nat} : wp V (cdT Ev) mx d 122 247 ls (.ref a :: st) h Q = wp V (cdT Ev) mx d 122 248 ls (.ref a :: .ref a :: st) h Q := x_dup rfl rfl
theorem s_122_247_i {x : Int32} : wp V (cdT Ev) mx d 122 247 ls (.int x :: st) h Q = wp V (cdT Ev) mx d 122 248 ls (.int x :: .int x :: st) h Q := x_dup rfl rfl
theorem s_122_248 : wp V (cdT Ev) mx d 122 248 ls st h Q = wp V (cdT Ev) mx d 122 249 ls ((.int (4)) :: st) h Q := x_push (v := (.int (4))) (len := 1) rfl
theorem s_122_249 : wp V (cdT Ev) mx d 122 249 ls st h Q = wp V (cdT Ev) mx d 122 250 ls ((.int (1)) :: st) h Q := x_push (v := (.int (1))) (len := 1) rfl
theorem s_122_250 {x i : Int32} {a : Nat} : wp V (cdT Ev) mx d 122 250 ls (.int x :: .int i :: .ref a :: st) h Q = si 2 i (x) h a (fun hh => wp V (cdT Ev) mx d 122 251 ls st hh Q) := x_iast (nw := fun x => x) rfl
theorem s_122_251 {a : Nat} : wp V (cdT Ev) mx d 122 251 ls (.ref a :: st) h Q = wp V (cdT Ev) mx d 122 252 ls (.ref a :: .ref a :: st) h Q := x_dup rfl rfl
theorem s_122_251_i {x : Int32} : wp V (cdT Ev) mx d 122 251 ls (.int x :: st) h Q = wp V (cdT Ev) mx d 122 252 ls (.int x :: .int x :: st) h Q := x_dup rfl rfl
theorem s_122_252 : wp V (cdT Ev) mx d 122 252 ls st h Q = wp V (cdT Ev) mx d 122 253 ls ((.int (5)) :: st) h Q := x_push (v := (.int (5))) (len := 1) rfl
theorem s_122_253 : wp V (cdT Ev) mx d 122 253 ls st h Q = wp V (cdT Ev) mx d 122 254 ls ((.int (2)) :: st) h Q := x_push (v := (.int (2))) (len := 1) rfl
theorem s_122_254 {x i : Int32} {a : Nat} : wp V (cdT Ev) mx d 122 254 ls (.int x :: .int i :: .ref a :: st) h Q = si 2 i (x) h a (fun hh => wp V (cdT Ev) mx d 122 255 ls st hh Q) := x_iast (nw := fun x => x) rfl
theorem s_122_255 {a : Nat} : wp V (cdT Ev) mx d 122 255 ls (.ref a :: st) h Q = wp V (cdT Ev) mx d 122 256 ls (.ref a :: .ref a :: st) h Q := x_dup rfl rfl
theorem s_122_255_i {x : Int32} : wp V (cdT Ev) mx d 122 255 ls (.int x :: st) h Q = wp V (cdT Ev) mx d 122 256 ls (.int x :: .int x :: st) h Q := x_dup rfl rfl
theorem s_122_256 : wp V (cdT Ev) mx d 122 256 ls st h Q = wp V (cdT Ev) mx d 122 258 ls ((.int (6)) :: st) h Q := x_push (v := (.int (6))) (len := 2) rfl
theorem s_122_258 : wp V (cdT Ev) mx d 122 258 ls st h Q = wp V (cdT Ev) mx d 122 259 ls ((.int (3)) :: st) h Q := x_push (v := (.int (3))) (len := 1) rfl
theorem s_122_259 {x i : Int32} {a : Nat} : wp V (cdT Ev) mx d 122 259 ls (.int x :: .int i :: .ref a :: st) h Q = si 2 i (x) h a (fun hh => wp V (cdT Ev) mx d 122 260 ls st hh Q) := x_iast (nw := fun x => x) rfl
theorem s_122_260 {w : Value} {a : Nat} : wp V (cdT Ev) mx d 122 260 ls (w :: .ref a :: st) h Q = pf [12] 21 2 w h a (fun hh => wp V (cdT Ev) mx d 122 263 ls st hh Q) := x_putf rfl
theorem s_122_263 {a : Nat} : wp V (cdT Ev) mx d 122 263 [some (.ref a)] st h Q = wp V (cdT Ev) mx d 122 264 [some (.ref a)] (.ref a :: st) h Q := x_aload (len := 1) rfl rfl
theorem s_122_263_n : wp V (cdT Ev) mx d 122 263 [some .null] st h Q = wp V (cdT Ev) mx d 122 264 [some .null] (.null :: st) h Q := x_aloadN (len := 1) rfl rfl
theorem s_122_264 : wp V (cdT Ev) mx d 122 264 ls st h Q = wp V (cdT Ev) mx d 122 266 ls ((.int (21)) :: st) h Q := x_push (v := (.int (21))) (len := 2) rfl
theorem s_122_266 {x : Int32} : wp V (cdT Ev) mx d 122 266 ls (.int x :: st) h Q = (¬ (x < 0 ∨ 1000 < x.toNatClampNeg) ∧ wp V (cdT Ev) mx d 122 268 ls (.ref h.2.1 :: st) (hnew h (.inl (2, x.toNatClampNeg, (.inl (fun _ => 0)))) x.toNatClampNeg) Q) := x_newa (len := 2) rfl
theorem s_122_268 {a : Nat} : wp V (cdT Ev) mx d 122 268 ls (.ref a :: st) h Q = wp V (cdT Ev) mx d 122 269 ls (.ref a :: .ref a :: st) h Q := x_dup rfl rfl
theorem s_122_268_i {x : Int32} : wp V (cdT Ev) mx d 122 268 ls (.int x :: st) h Q = wp V (cdT Ev) mx d 122 269 ls (.int x :: .int x :: st) h Q := x_dup rfl rfl
theorem s_122_269 : wp V (cdT Ev) mx d 122 269 ls st h Q = wp V (cdT Ev) mx d 122 270 ls ((.int (0)) :: st) h Q := x_push (v := (.int (0))) (len := 1) rfl
theorem s_122_270 : wp V (cdT Ev) mx d 122 270 ls st h Q = wp V (cdT Ev) mx d 122 272 ls ((.int (10)) :: st) h Q := x_push (v := (.int (10))) (len := 2) rfl
theorem s_122_272 {x i : Int32} {a : Nat} : wp V (cdT Ev) mx d 122 272 ls (.int x :: .int i :: .ref a :: st) h Q = si 2 i (x) h a (fun hh => wp V (cdT Ev) mx d 122 273 ls st hh Q) := x_iast (nw := fun x => x) rfl
theorem s_122_273 {a : Nat} : wp V (cdT Ev) mx d 122 273 ls (.ref a :: st) h Q = wp V (cdT Ev) mx d 122 274 ls (.ref a :: .ref a :: st) h Q := x_dup rfl rfl
theorem s_122_273_i {x : Int32} : wp V (cdT Ev) mx d 122 273 ls (.int x :: st) h Q = wp V (cdT Ev) mx d 122 274 ls (.int x :: .int x :: st) h Q := x_dup rfl rfl
theorem s_122_274 : wp V (cdT Ev) mx d 122 274 ls st h Q = wp V (cdT Ev) mx d 122 275 ls ((.int (1)) :: st) h Q := x_push (v := (.int (1))) (len := 1) rfl
theorem s_122_275 : wp V (cdT Ev) mx d 122 275 ls st h Q = wp V (cdT Ev) mx d 122 277 ls ((.int (11)) :: st) h Q := x_push (v := (.int (11))) (len := 2) rfl
theorem s_122_277 {x i : Int32} {a : Nat} : wp V (cdT Ev) mx d 122 277 ls (.int x :: .int i :: .ref a :: st) h Q = si 2 i (x) h a (fun hh => wp V (cdT Ev) mx d 122 278 ls st hh Q) := x_iast (nw := fun x => x) rfl
theorem s_122_278 {a : Nat} : wp V (cdT Ev) mx d 122 278 ls (.ref a :: st) h Q = wp V (cdT Ev) mx d 122 279 ls (.ref a :: .ref a :: st) h Q := x_dup rfl rfl
theorem s_122_278_i {x : Int32} : wp V (cdT Ev) mx d 122 278 ls (.int x :: st) h Q = wp V (cdT Ev) mx d 122 279 ls (.int x :: .int x :: st) h Q := x_dup rfl rfl
theorem s_122_279 : wp V (cdT Ev) mx d 122 279 ls st h Q = wp V (cdT Ev) mx d 122 280 ls ((.int (2)) :: st) h Q := x_push (v := (.int (2))) (len := 1) rfl
theorem s_122_280 : wp V (cdT Ev) mx d 122 280 ls st h Q = wp V (cdT Ev) mx d 122 282 ls ((.int (12)) :: st) h Q := x_push (v := (.int (12))) (len := 2) rfl
theorem s_122_282 {x i : Int32} {a : Nat} : wp V (cdT Ev) mx d 122 282 ls (.int x :: .int i :: .ref a :: st) h Q = si 2 i (x) h a (fun hh => wp V (cdT Ev) mx d 122 283 ls st hh Q) := x_iast (nw := fun x => x) rfl
theorem s_122_283 {a : Nat} : wp V (cdT Ev) mx d 122 283 ls (.ref a :: st) h Q = wp V (cdT Ev) mx d 122 284 ls (.ref a :: .ref a :: st) h Q := x_dup rfl rfl
theorem s_122_283_i {x : Int32} : wp V (cdT Ev) mx d 122 283 ls (.int x :: st) h Q = wp V (cdT Ev) mx d 122 284 ls (.int x :: .int x :: st) h Q := x_dup rfl rfl
theorem s_122_284 : wp V (cdT Ev) mx d 122 284 ls st h Q = wp V (cdT Ev) mx d 122 285 ls ((.int (3)) :: st) h Q := x_push (v := (.int (3))) (len := 1) rfl
theorem s_122_285 : wp V (cdT Ev) mx d 122 285 ls st h Q = wp V (cdT Ev) mx d 122 286 ls ((.int (0)) :: st) h Q := x_push (v := (.int (0))) (len := 1) rfl
theorem s_122_286 {x i : Int32} {a : Nat} : wp V (cdT Ev) mx d 122 286 ls (.int x :: .int i :: .ref a :: st) h Q = si 2 i (x) h a (fun hh => wp V (cdT Ev) mx d 122 287 ls st hh Q) := x_iast (nw := fun x => x) rfl
theorem s_122_287 {a : Nat} : wp V (cdT Ev) mx d 122 287 ls (.ref a :: st) h Q = wp V (cdT Ev) mx d 122 288 ls (.ref a :: .ref a :: st) h Q := x_dup rfl rfl
theorem s_122_287_i {x : Int32} : wp V (cdT Ev) mx d 122 287 ls (.int x :: st) h Q = wp V (cdT Ev) mx d 122 288 ls (.int x :: .int x :: st) h Q := x_dup rfl rfl
theorem s_122_288 : wp V (cdT Ev) mx d 122 288 ls st h Q = wp V (cdT Ev) mx d 122 289 ls ((.int (4)) :: st) h Q := x_push (v := (.int (4))) (len := 1) rfl
theorem s_122_289 : wp V (cdT Ev) mx d 122 289 ls st h Q = wp V (cdT Ev) mx d 122 291 ls ((.int (20)) :: st) h Q := x_push (v := (.int (20))) (len := 2) rfl
theorem s_122_291 {x i : Int32} {a : Nat} : wp V (cdT Ev) mx d 122 291 ls (.int x :: .int i :: .ref a :: st) h Q = si 2 i (x) h a (fun hh => wp V (cdT Ev) mx d 122 292 ls st hh Q) := x_iast (nw := fun x => x) rfl
theorem s_122_292 {a : Nat} : wp V (cdT Ev) mx d 122 292 ls (.ref a :: st) h Q = wp V (cdT Ev) mx d 122 293 ls (.ref a :: .ref a :: st) h Q := x_dup rfl rfl
theorem s_122_292_i {x : Int32} : wp V (cdT Ev) mx d 122 292 ls (.int x :: st) h Q = wp V (cdT Ev) mx d 122 293 ls (.int x :: .int x :: st) h Q := x_dup rfl rfl
theorem s_122_293 : wp V (cdT Ev) mx d 122 293 ls st h Q = wp V (cdT Ev) mx d 122 294 ls ((.int (5)) :: st) h Q := x_push (v := (.int (5))) (len := 1) rfl
theorem s_122_294 : wp V (cdT Ev) mx d 122 294 ls st h Q = wp V (cdT Ev) mx d 122 295 ls ((.int (0)) :: st) h Q := x_push (v := (.int (0))) (len := 1) rfl
theorem s_122_295 {x i : Int32} {a : Nat} : wp V (cdT Ev) mx d 122 295 ls (.int x :: .int i :: .ref a :: st) h Q = si 2 i (x) h a (fun hh => wp V (cdT Ev) mx d 122 296 ls st hh Q) := x_iast (nw := fun x => x) rfl
theorem s_122_296 {a : Nat} : wp V (cdT Ev) mx d 122 296 ls (.ref a :: st) h Q = wp V (cdT Ev) mx d 122 297 ls (.ref a :: .ref a :: st) h Q := x_dup rfl rfl
theorem s_122_296_i {x : Int32} : wp V (cdT Ev) mx d 122 296 ls (.int x :: st) h Q = wp V (cdT Ev) mx d 122 297 ls (.int x :: .int x :: st) h Q := x_dup rfl rfl
theorem s_122_297 : wp V (cdT Ev) mx d 122 297 ls st h Q = wp V (cdT Ev) mx d 122 299 ls ((.int (6)) :: st) h Q := x_push (v := (.int (6))) (len := 2) rfl
theorem s_122_299 : wp V (cdT Ev) mx d 122 299 ls st h Q = wp V (cdT Ev) mx d 122 301 ls ((.int (30)) :: st) h Q := x_push (v := (.int (30))) (len := 2) rfl
theorem s_122_301 {x i : Int32} {a : Nat} : wp V (cdT Ev) mx d 122 301 ls (.int x :: .int i :: .ref a :: st) h Q = si 2 i (x) h a (fun hh => wp V (cdT Ev) mx d 122 302 ls st hh Q) := x_iast (nw := fun x => x) rfl
theorem s_122_302 {a : Nat} : wp V (cdT Ev) mx d 122 302 ls (.ref a :: st) h Q = wp V (cdT Ev) mx d 122 303 ls (.ref a :: .ref a :: st) h Q := x_dup rfl rfl
theorem s_122_302_i {x : Int32} : wp V (cdT Ev) mx d 122 302 ls (.int x :: st) h Q = wp V (cdT Ev) mx d 122 303 ls (.int x :: .int x :: st) h Q := x_dup rfl rfl
theorem s_122_303 : wp V (cdT Ev) mx d 122 303 ls st h Q = wp V (cdT Ev) mx d 122 305 ls ((.int (7)) :: st) h Q := x_push (v := (.int (7))) (len := 2) rfl
theorem s_122_305 : wp V (cdT Ev) mx d 122 305 ls st h Q = wp V (cdT Ev) mx d 122 306 ls ((.int (0)) :: st) h Q := x_push (v := (.int (0))) (len := 1) rfl
theorem s_122_306 {x i : Int32} {a : Nat} : wp V (cdT Ev) mx d 122 306 ls (.int x :: .int i :: .ref a :: st) h Q = si 2 i (x) h a (fun hh => wp V (cdT Ev) mx d 122 307 ls st hh Q) := x_iast (nw := fun x => x) rfl
theorem s_122_307 {a : Nat} : wp V (cdT Ev) mx d 122 307 ls (.ref a :: st) h Q = wp V (cdT Ev) mx d 122 308 ls (.ref a :: .ref a :: st) h Q := x_dup rfl rfl
theorem s_122_307_i {x : Int32} : wp V (cdT Ev) mx d 122 307 ls (.int x :: st) h Q = wp V (cdT Ev) mx d 122 308 ls (.int x :: .int x :: st) h Q := x_dup rfl rfl
theorem s_122_308 : wp V (cdT Ev) mx d 122 308 ls st h Q = wp V (cdT Ev) mx d 122 310 ls ((.int (8)) :: st) h Q := x_push (v := (.int (8))) (len := 2) rfl
theorem s_122_310 : wp V (cdT Ev) mx d 122 310 ls st h Q = wp V (cdT Ev) mx d 122 311 ls ((.int (0)) :: st) h Q := x_push (v := (.int (0))) (len := 1) rfl
theorem s_122_311 {x i : Int32} {a : Nat} : wp V (cdT Ev) mx d 122 311 ls (.int x :: .int i :: .ref a :: st) h Q = si 2 i (x) h a (fun hh => wp V (cdT Ev) mx d 122 312 ls st hh Q) := x_iast (nw := fun x => x) rfl
theorem s_122_312 {a : Nat} : wp V (cdT Ev) mx d 122 312 ls (.ref a :: st) h Q = wp V (cdT Ev) mx d 122 313 ls (.ref a :: .ref a :: st) h Q := x_dup rfl rfl
theorem s_122_312_i {x : Int32} : wp V (cdT Ev) mx d 122 312 ls (.int x :: st) h Q = wp V (cdT Ev) mx d 122 313 ls (.int x :: .int x :: st) h Q := x_dup rfl rfl
theorem s_122_313 : wp V (cdT Ev) mx d 122 313 ls st h Q = wp V (cdT Ev) mx d 122 315 ls ((.int (9)) :: st) h Q := x_push (v := (.int (9))) (len := 2) rfl
theorem s_122_315 : wp V (cdT Ev) mx d 122 315 ls st h Q = wp V (cdT Ev) mx d 122 316 ls ((.int (0)) :: st) h Q := x_push (v := (.int (0))) (len := 1) rfl
theorem s_122_316 {x i : Int32} {a : Nat} : wp V (cdT Ev) mx d 122 316 ls (.int x :: .int i :: .ref a :: st) h Q = si 2 i (x) h a (fun hh => wp V (cdT Ev) mx d 122 317 ls st hh Q) := x_iast (nw := fun x => x) rfl
theorem s_122_317 {a : Nat} : wp V (cdT Ev) mx d 122 317 ls (.ref a :: st) h Q = wp V (cdT Ev) mx d 122 318 ls (.ref a :: .ref a :: st) h Q := x_dup rfl rfl
theorem s_122_317_i {x : Int32} : wp V (cdT Ev) mx d 122 317 ls (.int x :: st) h Q = wp V (cdT Ev) mx d 122 318 ls (.int x :: .int x :: st) h Q := x_dup rfl rfl
theorem s_122_318 : wp V (cdT Ev) mx d 122 318 ls st h Q = wp V (cdT Ev) mx d 122 320 ls ((.int (10)) :: st) h Q := x_push (v := (.int (10))) (len := 2) rfl
theorem s_122_320 : wp V (cdT Ev) mx d 122 320 ls st h Q = wp V (cdT Ev) mx d 122 321 ls ((.int (0)) :: st) h Q := x_push (v := (.int (0))) (len := 1) rfl
theorem s_122_321 {x i : Int32} {a : Nat} : wp V (cdT Ev) mx d 122 321 ls (.int x :: .int i :: .ref a :: st) h Q = si 2 i (x) h a (fun hh => wp V (cdT Ev) mx d 122 322 ls st hh Q) := x_iast (nw := fun x => x) rfl
theorem s_122_322 {a : Nat} : wp V (cdT Ev) mx d 122 322 ls (.ref a :: st) h Q = wp V (cdT Ev) mx d 122 323 ls (.ref a :: .ref a :: st) h Q := x_dup rfl rfl
theorem s_122_322_i {x : Int32} : wp V (cdT Ev) mx d 122 322 ls (.int x :: st) h Q = wp V (cdT Ev) mx d 122 323 ls (.int x :: .int x :: st) h Q := x_dup rfl rfl
theorem s_122_323 : wp V (cdT Ev) mx d 122 323 ls st h Q = wp V (cdT Ev) mx d 122 325 ls ((.int (11)) :: st) h Q := x_push (v := (.int (11))) (len := 2) rfl
theorem s_122_325 : wp V (cdT Ev) mx d 122 325 ls st h Q = wp V (cdT Ev) mx d 122 327 ls ((.int (40)) :: st) h Q := x_push (v := (.int (40))) (len := 2) rfl
theorem s_122_327 {x i : Int32} {a : Nat} : wp V (cdT Ev) mx d 122 327 ls (.int x :: .int i :: .ref a :: st) h Q = si 2 i (x) h a (fun hh => wp V (cdT Ev) mx d 122 328 ls st hh Q) := x_iast (nw := fun x => x) rfl
theorem s_122_328 {a : Nat} : wp V (cdT Ev) mx d 122 328 ls (.ref a :: st) h Q = wp V (cdT Ev) mx d 122 329 ls (.ref a :: .ref a :: st) h Q := x_dup rfl rfl
theorem s_122_328_i {x : Int32} : wp V (cdT Ev) mx d 122 328 ls (.int x :: st) h Q = wp V (cdT Ev) mx d 122 329 ls (.int x :: .int x :: st) h Q := x_dup rfl rfl
theorem s_122_329 : wp V (cdT Ev) mx d 122 329 ls st h Q = wp V (cdT Ev) mx d 122 331 ls ((.int (12)) :: st) h Q := x_push (v := (.int (12))) (len := 2) rfl
theorem s_122_331 : wp V (cdT Ev) mx d 122 331 ls st h Q = wp V (cdT Ev) mx d 122 333 ls ((.int (50)) :: st) h Q := x_push (v := (.int (50))) (len := 2) rfl
theorem s_122_333 {x i : Int32} {a : Nat} : wp V (cdT Ev) mx d 122 333 ls (.int x :: .int i :: .ref a :: st) h Q = si 2 i (x) h a (fun hh => wp V (cdT Ev) mx d 122 334 ls st hh Q) := x_iast (nw := fun x => x) rfl
theorem s_122_334 {a : Nat} : wp V (cdT Ev) mx d 122 334 ls (.ref a :: st) h Q = wp V (cdT Ev) mx d 122 335 ls (.ref a :: .ref a :: st) h Q := x_dup rfl rfl
theorem s_122_334_i {x : Int32} : wp V (cdT Ev) mx d 122 334 ls (.int x :: st) h Q = wp V (cdT Ev) mx d 122 335 ls (.int x :: .int x :: st) h Q := x_dup rfl rfl
theorem s_122_335 : wp V (cdT Ev) mx d 122 335 ls st h Q = wp V (cdT Ev) mx d 122 337 ls ((.int (13)) :: st) h Q := x_push (v := (.int (13))) (len := 2) rfl
theorem s_122_337 : wp V (cdT Ev) mx d 122 337 ls st h Q = wp V (cdT Ev) mx d 122 339 ls ((.int (51)) :: st) h Q := x_push (v := (.int (51))) (len := 2) rfl
theorem s_122_339 {x i : Int32} {a : Nat} : wp V (cdT Ev) mx d 122 339 ls (.int x :: .int i :: .ref a :: st) h Q = si 2 i (x) h a (fun hh => wp V (cdT Ev) mx d 122 340 ls st hh Q) := x_iast (nw := fun x => x) rfl
theorem s_122_340 {a : Nat} : wp V (cdT Ev) mx d 122 340 ls (.ref a :: st) h Q = wp V (cdT Ev) mx d 122 341 ls (.ref a :: .ref a :: st) h Q := x_dup rfl rfl
theorem s_122_340_i {x : Int32} : wp V (cdT Ev) mx d 122 340 ls (.int x :: st) h Q = wp V (cdT Ev) mx d 122 341 ls (.int x :: .int x :: st) h Q := x_dup rfl rfl
theorem s_122_341 : wp V (cdT Ev) mx d 122 341 ls st h Q = wp V (cdT Ev) mx d 122 343 ls ((.int (14)) :: st) h Q := x_push (v := (.int (14))) (len := 2) rfl
theorem s_122_343 : wp V (cdT Ev) mx d 122 343 ls st h Q = wp V (cdT Ev) mx d 122 344 ls ((.int (0)) :: st) h Q := x_push (v := (.int (0))) (len := 1) rfl
theorem s_122_344 {x i : Int32} {a : Nat} : wp V (cdT Ev) mx d 122 344 ls (.int x :: .int i :: .ref a :: st) h Q = si 2 i (x) h a (fun hh => wp V (cdT Ev) mx d 122 345 ls st hh Q) := x_iast (nw := fun x => x) rfl
theorem s_122_345 {a : Nat} : wp V (cdT Ev) mx d 122 345 ls (.ref a :: st) h Q = wp V (cdT Ev) mx d 122 346 ls (.ref a :: .ref a :: st) h Q := x_dup rfl rfl
theorem s_122_345_i {x : Int32} : wp V (cdT Ev) mx d 122 345 ls (.int x :: st) h Q = wp V (cdT Ev) mx d 122 346 ls (.int x :: .int x :: st) h Q := x_dup rfl rfl
theorem s_122_346 : wp V (cdT Ev) mx d 122 346 ls st h Q = wp V (cdT Ev) mx d 122 348 ls ((.int (15)) :: st) h Q := x_push (v := (.int (15))) (len := 2) rfl
theorem s_122_348 : wp V (cdT Ev) mx d 122 348 ls st h Q = wp V (cdT Ev) mx d 122 349 ls ((.int (0)) :: st) h Q := x_push (v := (.int (0))) (len := 1) rfl
theorem s_122_349 {x i : Int32} {a : Nat} : wp V (cdT Ev) mx d 122 349 ls (.int x :: .int i :: .ref a :: st) h Q = si 2 i (x) h a (fun hh => wp V (cdT Ev) mx d 122 350 ls st hh Q) := x_iast (nw := fun x => x) rfl
theorem s_122_350 {a : Nat} : wp V (cdT Ev) mx d 122 350 ls (.ref a :: st) h Q = wp V (cdT Ev) mx d 122 351 ls (.ref a :: .ref a :: st) h Q := x_dup rfl rfl
theorem s_122_350_i {x : Int32} : wp V (cdT Ev) mx d 122 350 ls (.int x :: st) h Q = wp V (cdT Ev) mx d 122 351 ls (.int x :: .int x :: st) h Q := x_dup rfl rfl
theorem s_122_351 : wp V (cdT Ev) mx d 122 351 ls st h Q = wp V (cdT Ev) mx d 122 353 ls ((.int (16)) :: st) h Q := x_push (v := (.int (16))) (len := 2) rfl
theorem s_122_353 : wp V (cdT Ev) mx d 122 353 ls st h Q = wp V (cdT Ev) mx d 122 354 ls ((.int (0)) :: st) h Q := x_push (v := (.int (0))) (len := 1) rfl
theorem s_122_354 {x i : Int32} {a : Nat} : wp V (cdT Ev) mx d 122 354 ls (.int x :: .int i :: .ref a :: st) h Q = si 2 i (x) h a (fun hh => wp V (cdT Ev) mx d 122 355 ls st hh Q) := x_iast (nw := fun x => x) rfl
theorem s_122_355 {a : Nat} : wp V (cdT Ev) mx d 122 355 ls (.ref a :: st) h Q = wp V (cdT Ev) mx d 122 356 ls (.ref a :: .ref a :: st) h Q := x_dup rfl rfl
theorem s_122_355_i {x : Int32} : wp V (cdT Ev) mx d 122 355 ls (.int x :: st) h Q = wp V (cdT Ev) mx d 122 356 ls (.int x :: .int x :: st) h Q := x_dup rfl rfl
theorem s_122_356 : wp V (cdT Ev) mx d 122 356 ls st h Q = wp V (cdT Ev) mx d 122 358 ls ((.int (17)) :: st) h Q := x_push (v := (.int (17))) (len := 2) rfl
theorem s_122_358 : wp V (cdT Ev) mx d 122 358 ls st h Q = wp V (cdT Ev) mx d 122 360 ls ((.int (60)) :: st) h Q := x_push (v := (.int (60))) (len := 2) rfl
theorem s_122_360 {x i : Int32} {a : Nat} : wp V (cdT Ev) mx d 122 360 ls (.int x :: .int i :: .ref a :: st) h Q = si 2 i (x) h a (fun hh => wp V (cdT Ev) mx d 122 361 ls st hh Q) := x_iast (nw := fun x => x) rfl
theorem s_122_361 {a : Nat} : wp V (cdT Ev) mx d 122 361 ls (.ref a :: st) h Q = wp V (cdT Ev) mx d 122 362 ls (.ref a :: .ref a :: st) h Q := x_dup rfl rfl
theorem s_122_361_i {x : Int32} : wp V (cdT Ev) mx d 122 361 ls (.int x :: st) h Q = wp V (cdT Ev) mx d 122 362 ls (.int x :: .int x :: st) h Q := x_dup rfl rfl
theorem s_122_362 : wp V (cdT Ev) mx d 122 362 ls st h Q = wp V (cdT Ev) mx d 122 364 ls ((.int (18)) :: st) h Q := x_push (v := (.int (18))) (len := 2) rfl
theorem s_122_364 : wp V (cdT Ev) mx d 122 364 ls st h Q = wp V (cdT Ev) mx d 122 366 ls ((.int (71)) :: st) h Q := x_push (v := (.int (71))) (len := 2) rfl
theorem s_122_366 {x i : Int32} {a : Nat} : wp V (cdT Ev) mx d 122 366 ls (.int x :: .int i :: .ref a :: st) h Q = si 2 i (x) h a (fun hh => wp V (cdT Ev) mx d 122 367 ls st hh Q) := x_iast (nw := fun x => x) rfl
theorem s_122_367 {a : Nat} : wp V (cdT Ev) mx d 122 367 ls (.ref a :: st) h Q = wp V (cdT Ev) mx d 122 368 ls (.ref a :: .ref a :: st) h Q := x_dup rfl rfl
theorem s_122_367_i {x : Int32} : wp V (cdT Ev) mx d 122 367 ls (.int x :: st) h Q = wp V (cdT Ev) mx d 122 368 ls (.int x :: .int x :: st) h Q := x_dup rfl rfl
theorem s_122_368 : wp V (cdT Ev) mx d 122 368 ls st h Q = wp V (cdT Ev) mx d 122 370 ls ((.int (19)) :: st) h Q := x_push (v := (.int (19))) (len := 2) rfl
theorem s_122_370 : wp V (cdT Ev) mx d 122 370 ls st h Q = wp V (cdT Ev) mx d 122 372 ls ((.int (70)) :: st) h Q := x_push (v := (.int (70))) (len := 2) rfl
theorem s_122_372 {x i : Int32} {a : Nat} : wp V (cdT Ev) mx d 122 372 ls (.int x :: .int i :: .ref a :: st) h Q = si 2 i (x) h a (fun hh => wp V (cdT Ev) mx d 122 373 ls st hh Q) := x_iast (nw := fun x => x) rfl
theorem s_122_373 {a : Nat} : wp V (cdT Ev) mx d 122 373 ls (.ref a :: st) h Q = wp V (cdT Ev) mx d 122 374 ls (.ref a :: .ref a :: st) h Q := x_dup rfl rfl
theorem s_122_373_i {x : Int32} : wp V (cdT Ev) mx d 122 373 ls (.int x :: st) h Q = wp V (cdT Ev) mx d 122 374 ls (.int x :: .int x :: st) h Q := x_dup rfl rfl
theorem s_122_374 : wp V (cdT Ev) mx d 122 374 ls st h Q = wp V (cdT Ev) mx d 122 376 ls ((.int (20)) :: st) h Q := x_push (v := (.int (20))) (len := 2) rfl
theorem s_122_376 : wp V (cdT Ev) mx d 122 376 ls st h Q = wp V (cdT Ev) mx d 122 377 ls ((.int (0)) :: st) h Q := x_push (v := (.int (0))) (len := 1) rfl
theorem s_122_377 {x i : Int32} {a : Nat} : wp V (cdT Ev) mx d 122 377 ls (.int x :: .int i :: .ref a :: st) h Q = si 2 i (x) h a (fun hh => wp V (cdT Ev) mx d 122 378 ls st hh Q) := x_iast (nw := fun x => x) rfl
theorem s_122_378 {w : Value} {a : Nat} : wp V (cdT Ev) mx d 122 378 ls (w :: .ref a :: st) h Q = pf [12] 22 2 w h a (fun hh => wp V (cdT Ev) mx d 122 381 ls st hh Q) := x_putf rfl
theorem s_122_381 {a : Nat} : wp V (cdT Ev) mx d 122 381 [some (.ref a)] st h Q = wp V (cdT Ev) mx d 122 382 [some (.ref a)] (.ref a :: st) h Q := x_aload (len := 1) rfl rfl
theorem s_122_381_n : wp V (cdT Ev) mx d 122 381 [some .null] st h Q = wp V (cdT Ev) mx d 122 382 [some .null] (.null :: st) h Q := x_aloadN (len := 1) rfl rfl
theorem s_122_382 : wp V (cdT Ev) mx d 122 382 ls st h Q = wp V (cdT Ev) mx d 122 384 ls ((.int (20)) :: st) h Q := x_push (v := (.int (20))) (len := 2) rfl
theorem s_122_384 {x : Int32} : wp V (cdT Ev) mx d 122 384 ls (.int x :: st) h Q = (¬ (x < 0 ∨ 1000 < x.toNatClampNeg) ∧ wp V (cdT Ev) mx d 122 386 ls (.ref h.2.1 :: st) (hnew h (.inl (2, x.toNatClampNeg, (.inl (fun _ => 0)))) x.toNatClampNeg) Q) := x_newa (len := 2) rfl
theorem s_122_386 {w : Value} {a : Nat} : wp V (cdT Ev) mx d 122 386 ls (w :: .ref a :: st) h Q = pf [12] 23 2 w h a (fun hh => wp V (cdT Ev) mx d 122 389 ls st hh Q) := x_putf rfl
theorem s_122_389 {a : Nat} : wp V (cdT Ev) mx d 122 389 [some (.ref a)] st h Q = wp V (cdT Ev) mx d 122 390 [some (.ref a)] (.ref a :: st) h Q := x_aload (len := 1) rfl rfl
theorem s_122_389_n : wp V (cdT Ev) mx d 122 389 [some .null] st h Q = wp V (cdT Ev) mx d 122 390 [some .null] (.null :: st) h Q := x_aloadN (len := 1) rfl rfl
theorem s_122_390 : wp V (cdT Ev) mx d 122 390 ls st h Q = wp V (cdT Ev) mx d 122 392 ls ((.int (6)) :: st) h Q := x_push (v := (.int (6))) (len := 2) rfl
theorem s_122_392 {x : Int32} : wp V (cdT Ev) mx d 122 392 ls (.int x :: st) h Q = (¬ (x < 0 ∨ 1000 < x.toNatClampNeg) ∧ wp V (cdT Ev) mx d 122 394 ls (.ref h.2.1 :: st) (hnew h (.inl (2, x.toNatClampNeg, (.inl (fun _ => 0)))) x.toNatClampNeg) Q) := x_newa (len := 2) rfl
theorem s_122_394 {a : Nat} : wp V (cdT Ev) mx d 122 394 ls (.ref a :: st) h Q = wp V (cdT Ev) mx d 122 395 ls (.ref a :: .ref a :: st) h Q := x_dup rfl rfl
theorem s_122_394_i {x : Int32} : wp V (cdT Ev) mx d 122 394 ls (.int x :: st) h Q = wp V (cdT Ev) mx d 122 395 ls (.int x :: .int x :: st) h Q := x_dup rfl rfl
theorem s_122_395 : wp V (cdT Ev) mx d 122 395 ls st h Q = wp V (cdT Ev) mx d 122 396 ls ((.int (0)) :: st) h Q := x_push (v := (.int (0))) (len := 1) rfl
theorem s_122_396 : wp V (cdT Ev) mx d 122 396 ls st h Q = wp V (cdT Ev) mx d 122 397 ls ((.int (-1)) :: st) h Q := x_push (v := (.int (-1))) (len := 1) rfl
theorem s_122_397 {x i : Int32} {a : Nat} : wp V (cdT Ev) mx d 122 397 ls (.int x :: .int i :: .ref a :: st) h Q = si 2 i (x) h a (fun hh => wp V (cdT Ev) mx d 122 398 ls st hh Q) := x_iast (nw := fun x => x) rfl
theorem s_122_398 {a : Nat} : wp V (cdT Ev) mx d 122 398 ls (.ref a :: st) h Q = wp V (cdT Ev) mx d 122 399 ls (.ref a :: .ref a :: st) h Q := x_dup rfl rfl
theorem s_122_398_i {x : Int32} : wp V (cdT Ev) mx d 122 398 ls (.int x :: st) h Q = wp V (cdT Ev) mx d 122 399 ls (.int x :: .int x :: st) h Q := x_dup rfl rfl
theorem s_122_399 : wp V (cdT Ev) mx d 122 399 ls st h Q = wp V (cdT Ev) mx d 122 400 ls ((.int (1)) :: st) h Q := x_push (v := (.int (1))) (len := 1) rfl
theorem s_122_400 : wp V (cdT Ev) mx d 122 400 ls st h Q = wp V (cdT Ev) mx d 122 401 ls ((.int (-1)) :: st) h Q := x_push (v := (.int (-1))) (len := 1) rfl
theorem s_122_401 {x i : Int32} {a : Nat} : wp V (cdT Ev) mx d 122 401 ls (.int x :: .int i :: .ref a :: st) h Q = si 2 i (x) h a (fun hh => wp V (cdT Ev) mx d 122 402 ls st hh Q) := x_iast (nw := fun x => x) rfl
theorem s_122_402 {a : Nat} : wp V (cdT Ev) mx d 122 402 ls (.ref a :: st) h Q = wp V (cdT Ev) mx d 122 403 ls (.ref a :: .ref a :: st) h Q := x_dup rfl rfl
theorem s_122_402_i {x : Int32} : wp V (cdT Ev) mx d 122 402 ls (.int x :: st) h Q = wp V (cdT Ev) mx d 122 403 ls (.int x :: .int x :: st) h Q := x_dup rfl rfl
theorem s_122_403 : wp V (cdT Ev) mx d 122 403 ls st h Q = wp V (cdT Ev) mx d 122 404 ls ((.int (2)) :: st) h Q := x_push (v := (.int (2))) (len := 1) rfl
theorem s_122_404 : wp V (cdT Ev) mx d 122 404 ls st h Q = wp V (cdT Ev) mx d 122 405 ls ((.int (-1)) :: st) h Q := x_push (v := (.int (-1))) (len := 1) rfl
theorem s_122_405 {x i : Int32} {a : Nat} : wp V (cdT Ev) mx d 122 405 ls (.int x :: .int i :: .ref a :: st) h Q = si 2 i (x) h a (fun hh => wp V (cdT Ev) mx d 122 406 ls st hh Q) := x_iast (nw := fun x => x) rfl
theorem s_122_406 {a : Nat} : wp V (cdT Ev) mx d 122 406 ls (.ref a :: st) h Q = wp V (cdT Ev) mx d 122 407 ls (.ref a :: .ref a :: st) h Q := x_dup rfl rfl
theorem s_122_406_i {x : Int32} : wp V (cdT Ev) mx d 122 406 ls (.int x :: st) h Q = wp V (cdT Ev) mx d 122 407 ls (.int x :: .int x :: st) h Q := x_dup rfl rfl
theorem s_122_407 : wp V (cdT Ev) mx d 122 407 ls st h Q = wp V (cdT Ev) mx d 122 408 ls ((.int (3)) :: st) h Q := x_push (v := (.int (3))) (len := 1) rfl
theorem s_122_408 : wp V (cdT Ev) mx d 122 408 ls st h Q = wp V (cdT Ev) mx d 122 409 ls ((.int (-1)) :: st) h Q := x_push (v := (.int (-1))) (len := 1) rfl
theorem s_122_409 {x i : Int32} {a : Nat} : wp V (cdT Ev) mx d 122 409 ls (.int x :: .int i :: .ref a :: st) h Q = si 2 i (x) h a (fun hh => wp V (cdT Ev) mx d 122 410 ls st hh Q) := x_iast (nw := fun x => x) rfl
theorem s_122_410 {a : Nat} : wp V (cdT Ev) mx d 122 410 ls (.ref a :: st) h Q = wp V (cdT Ev) mx d 122 411 ls (.ref a :: .ref a :: st) h Q := x_dup rfl rfl
theorem s_122_410_i {x : Int32} : wp V (cdT Ev) mx d 122 410 ls (.int x :: st) h Q = wp V (cdT Ev) mx d 122 411 ls (.int x :: .int x :: st) h Q := x_dup rfl rfl
theorem s_122_411 : wp V (cdT Ev) mx d 122 411 ls st h Q = wp V (cdT Ev) mx d 122 412 ls ((.int (4)) :: st) h Q := x_push (v := (.int (4))) (len := 1) rfl
theorem s_122_412 : wp V (cdT Ev) mx d 122 412 ls st h Q = wp V (cdT Ev) mx d 122 413 ls ((.int (-1)) :: st) h Q := x_push (v := (.int (-1))) (len := 1) rfl
theorem s_122_413 {x i : Int32} {a : Nat} : wp V (cdT Ev) mx d 122 413 ls (.int x :: .int i :: .ref a :: st) h Q = si 2 i (x) h a (fun hh => wp V (cdT Ev) mx d 122 414 ls st hh Q) := x_iast (nw := fun x => x) rfl
theorem s_122_414 {a : Nat} : wp V (cdT Ev) mx d 122 414 ls (.ref a :: st) h Q = wp V (cdT Ev) mx d 122 415 ls (.ref a :: .ref a :: st) h Q := x_dup rfl rfl
theorem s_122_414_i {x : Int32} : wp V (cdT Ev) mx d 122 414 ls (.int x :: st) h Q = wp V (cdT Ev) mx d 122 415 ls (.int x :: .int x :: st) h Q := x_dup rfl rfl
theorem s_122_415 : wp V (cdT Ev) mx d 122 415 ls st h Q = wp V (cdT Ev) mx d 122 416 ls ((.int (5)) :: st) h Q := x_push (v := (.int (5))) (len := 1) rfl
theorem s_122_416 : wp V (cdT Ev) mx d 122 416 ls st h Q = wp V (cdT Ev) mx d 122 417 ls ((.int (-1)) :: st) h Q := x_push (v := (.int (-1))) (len := 1) rfl
theorem s_122_417 {x i : Int32} {a : Nat} : wp V (cdT Ev) mx d 122 417 ls (.int x :: .int i :: .ref a :: st) h Q = si 2 i (x) h a (fun hh => wp V (cdT Ev) mx d 122 418 ls st hh Q) := x_iast (nw := fun x => x) rfl
theorem s_122_418 {w : Value} {a : Nat} : wp V (cdT Ev) mx d 122 418 ls (w :: .ref a :: st) h Q = pf [12] 25 2 w h a (fun hh => wp V (cdT Ev) mx d 122 421 ls st hh Q) := x_putf rfl
theorem s_122_421 {a : Nat} : wp V (cdT Ev) mx d 122 421 [some (.ref a)] st h Q = wp V (cdT Ev) mx d 122 422 [some (.ref a)] (.ref a :: st) h Q := x_aload (len := 1) rfl rfl
theorem s_122_421_n : wp V (cdT Ev) mx d 122 421 [some .null] st h Q = wp V (cdT Ev) mx d 122 422 [some .null] (.null :: st) h Q := x_aloadN (len := 1) rfl rfl
theorem s_122_422 : wp V (cdT Ev) mx d 122 422 ls st h Q = wp V (cdT Ev) mx d 122 424 ls ((.int (6)) :: st) h Q := x_push (v := (.int (6))) (len := 2) rfl
theorem s_122_424 {x : Int32} : wp V (cdT Ev) mx d 122 424 ls (.int x :: st) h Q = (¬ (x < 0 ∨ 1000 < x.toNatClampNeg) ∧ wp V (cdT Ev) mx d 122 426 ls (.ref h.2.1 :: st) (hnew h (.inl (2, x.toNatClampNeg, (.inl (fun _ => 0)))) x.toNatClampNeg) Q) := x_newa (len := 2) rfl
theorem s_122_426 {w : Value} {a : Nat} : wp V (cdT Ev) mx d 122 426 ls (w :: .ref a :: st) h Q = pf [12] 26 2 w h a (fun hh => wp V (cdT Ev) mx d 122 429 ls st hh Q) := x_putf rfl
theorem s_122_429 {a : Nat} : wp V (cdT Ev) mx d 122 429 [some (.ref a)] st h Q = wp V (cdT Ev) mx d 122 430 [some (.ref a)] (.ref a :: st) h Q := x_aload (len := 1) rfl rfl
theorem s_122_429_n : wp V (cdT Ev) mx d 122 429 [some .null] st h Q = wp V (cdT Ev) mx d 122 430 [some .null] (.null :: st) h Q := x_aloadN (len := 1) rfl rfl
theorem s_122_430 : wp V (cdT Ev) mx d 122 430 ls st h Q = wp V (cdT Ev) mx d 122 433 ls ((.int (360)) :: st) h Q := x_push (v := (.int (360))) (len := 3) rfl
theorem s_122_433 {x : Int32} : wp V (cdT Ev) mx d 122 433 ls (.int x :: st) h Q = (¬ (x < 0 ∨ 1000 < x.toNatClampNeg) ∧ wp V (cdT Ev) mx d 122 435 ls (.ref h.2.1 :: st) (hnew h (.inl (3, x.toNatClampNeg, (.inr (.inl (fun _ => 0))))) x.toNatClampNeg) Q) := x_newa (len := 2) rfl
theorem s_122_435 {w : Value} {a : Nat} : wp V (cdT Ev) mx d 122 435 ls (w :: .ref a :: st) h Q = pf [12] 27 2 w h a (fun hh => wp V (cdT Ev) mx d 122 438 ls st hh Q) := x_putf rfl
theorem s_122_438 {a : Nat} : wp V (cdT Ev) mx d 122 438 [some (.ref a)] st h Q = wp V (cdT Ev) mx d 122 439 [some (.ref a)] (.ref a :: st) h Q := x_aload (len := 1) rfl rfl
theorem s_122_438_n : wp V (cdT Ev) mx d 122 438 [some .null] st h Q = wp V (cdT Ev) mx d 122 439 [some .null] (.null :: st) h Q := x_aloadN (len := 1) rfl rfl
theorem s_122_439 : wp V (cdT Ev) mx d 122 439 ls st h Q = wp V (cdT Ev) mx d 122 441 ls ((.int (60)) :: st) h Q := x_push (v := (.int (60))) (len := 2) rfl
theorem s_122_441 {x : Int32} : wp V (cdT Ev) mx d 122 441 ls (.int x :: st) h Q = (¬ (x < 0 ∨ 1000 < x.toNatClampNeg) ∧ wp V (cdT Ev) mx d 122 443 ls (.ref h.2.1 :: st) (hnew h (.inl (3, x.toNatClampNeg, (.inr (.inl (fun _ => 0))))) x.toNatClampNeg) Q) := x_newa (len := 2) rfl
theorem s_122_443 {w : Value} {a : Nat} : wp V (cdT Ev) mx d 122 443 ls (w :: .ref a :: st) h Q = pf [12] 28 2 w h a (fun hh => wp V (cdT Ev) mx d 122 446 ls st hh Q) := x_putf rfl
theorem s_122_446 : wp V (cdT Ev) mx d 122 446 ls [] h Q = Q none h := x_retv rfl
theorem e_122 {a : Nat} : WP V (cdT Ev) mx (d + 1) 122 [.ref a] h Q = wp V (cdT Ev) mx d 122 0 [some (.ref a)] [] h Q := propext (WP_eq (Nat.le_of_ble_eq_true rfl))
theorem s_123_0 {x : Int32} : wp V (cdT Ev) mx d 123 0 [some (.int x), l1, l2] st h Q = wp V (cdT Ev) mx d 123 1 [some (.int x), l1, l2] (.int x :: st) h Q := x_iload (len := 1) rfl rfl
theorem s_123_1 {x : Int32} : wp V (cdT Ev) mx d 123 1 [l0, some (.int x), l2] st h Q = wp V (cdT Ev) mx d 123 2 [l0, some (.int x), l2] (.int x :: st) h Q := x_iload (len := 1) rfl rfl
theorem s_123_2 {x z : Int32} : wp V (cdT Ev) mx d 123 2 ls (.int z :: .int x :: st) h Q = (if x < z then wp V (cdT Ev) mx d 123 14 ls st h Q else wp V (cdT Ev) mx d 123 5 ls st h Q) := x_if2 (c := fun x z => x < z) rfl
theorem s_123_5 {x : Int32} : wp V (cdT Ev) mx d 123 5 [some (.int x), l1, l2] st h Q = wp V (cdT Ev) mx d 123 6 [some (.int x), l1, l2] (.int x :: st) h Q := x_iload (len := 1) rfl rfl
theorem s_123_6 {x : Int32} : wp V (cdT Ev) mx d 123 6 [l0, l1, some (.int x)] st h Q = wp V (cdT Ev) mx d 123 7 [l0, l1, some (.int x)] (.int x :: st) h Q := x_iload (len := 1) rfl rfl
theorem s_123_7 {x z : Int32} : wp V (cdT Ev) mx d 123 7 ls (.int z :: .int x :: st) h Q = (if z < x then wp V (cdT Ev) mx d 123 14 ls st h Q else wp V (cdT Ev) mx d 123 10 ls st h Q) := x_if2 (c := fun x z => z < x) rfl
theorem s_123_10 : wp V (cdT Ev) mx d 123 10 ls st h Q = wp V (cdT Ev) mx d 123 11 ls ((.int (1)) :: st) h Q := x_push (v := (.int (1))) (len := 1) rfl
theorem s_123_11 : wp V (cdT Ev) mx d 123 11 ls st h Q = wp V (cdT Ev) mx d 123 15 ls st h Q := x_goto rfl
theorem s_123_14 : wp V (cdT Ev) mx d 123 14 ls st h Q = wp V (cdT Ev) mx d 123 15 ls ((.int (0)) :: st) h Q := x_push (v := (.int (0))) (len := 1) rfl
theorem s_123_15 {x : Int32} (hx : okr 1 (.int x) = true) : wp V (cdT Ev) mx d 123 15 ls [.int x] h Q = Q (some (.int x)) h := x_ret rfl hx
theorem e_123 {p0 : Int32} {p1 : Int32} {p2 : Int32} : WP V (cdT Ev) mx (d + 1) 123 [.int p0, .int p1, .int p2] h Q = wp V (cdT Ev) mx d 123 0 [some (.int p0), some (.int p1), some (.int p2)] [] h Q := propext (WP_eq (Nat.le_of_ble_eq_true rfl))
theorem s_124_0 : wp V (cdT Ev) mx d 124 0 ls st h Q = wp V (cdT Ev) mx d 124 2 ls ((.int (120)) :: st) h Q := x_push (v := (.int (120))) (len := 2) rfl
theorem s_124_2 {x : Int32} : wp V (cdT Ev) mx d 124 2 ls (.int x :: st) h Q = (¬ (x < 0 ∨ 1000 < x.toNatClampNeg) ∧ wp V (cdT Ev) mx d 124 4 ls (.ref h.2.1 :: st) (hnew h (.inl (2, x.toNatClampNeg, (.inl (fun _ => 0)))) x.toNatClampNeg) Q) := x_newa (len := 2) rfl
theorem s_124_4 {a : Nat} : wp V (cdT Ev) mx d 124 4 [l0, l1] (.ref a :: st) h Q = wp V (cdT Ev) mx d 124 5 [some (.ref a), l1] st h Q := x_astore (len := 1) rfl (Nat.le_of_ble_eq_true rfl) rfl rfl
theorem s_124_4_n : wp V (cdT Ev) mx d 124 4 [l0, l1] (.null :: st) h Q = wp V (cdT Ev) mx d 124 5 [some .null, l1] st h Q := x_astoreN (len := 1) rfl (Nat.le_of_ble_eq_true rfl) rfl rfl
theorem s_124_5 : wp V (cdT Ev) mx d 124 5 ls st h Q = wp V (cdT Ev) mx d 124 6 ls ((.int (0)) :: st) h Q := x_push (v := (.int (0))) (len := 1) rfl
theorem s_124_6 {x : Int32} (hn : nl l0 = true) : wp V (cdT Ev) mx d 124 6 [l0, l1] (.int x :: st) h Q = wp V (cdT Ev) mx d 124 7 [l0, some (.int x)] st h Q := x_istore (len := 1) rfl (Nat.le_of_ble_eq_true rfl) (okp_nl rfl hn) rfl
theorem s_124_7 {x : Int32} : wp V (cdT Ev) mx d 124 7 [l0, some (.int x)] st h Q = wp V (cdT Ev) mx d 124 8 [l0, some (.int x)] (.int x :: st) h Q := x_iload (len := 1) rfl rfl
theorem s_124_8 : wp V (cdT Ev) mx d 124 8 ls st h Q = wp V (cdT Ev) mx d 124 10 ls ((.int (12)) :: st) h Q := x_push (v := (.int (12))) (len := 2) rfl
theorem s_124_10 {x z : Int32} : wp V (cdT Ev) mx d 124 10 ls (.int z :: .int x :: st) h Q = (if z ≤ x then wp V (cdT Ev) mx d 124 24 ls st h Q else wp V (cdT Ev) mx d 124 13 ls st h Q) := x_if2 (c := fun x z => z ≤ x) rfl
theorem s_124_13 {a : Nat} : wp V (cdT Ev) mx d 124 13 [some (.ref a), l1] st h Q = wp V (cdT Ev) mx d 124 14 [some (.ref a), l1] (.ref a :: st) h Q := x_aload (len := 1) rfl rfl
theorem s_124_13_n : wp V (cdT Ev) mx d 124 13 [some .null, l1] st h Q = wp V (cdT Ev) mx d 124 14 [some .null, l1] (.null :: st) h Q := x_aloadN (len := 1) rfl rfl
theorem s_124_14 {x : Int32} : wp V (cdT Ev) mx d 124 14 [l0, some (.int x)] st h Q = wp V (cdT Ev) mx d 124 15 [l0, some (.int x)] (.int x :: st) h Q := x_iload (len := 1) rfl rfl
theorem s_124_15 : wp V (cdT Ev) mx d 124 15 ls st h Q = wp V (cdT Ev) mx d 124 17 ls ((.int (10)) :: st) h Q := x_push (v := (.int (10))) (len := 2) rfl
theorem s_124_17 {x i : Int32} {a : Nat} : wp V (cdT Ev) mx d 124 17 ls (.int x :: .int i :: .ref a :: st) h Q = si 2 i (x) h a (fun hh => wp V (cdT Ev) mx d 124 18 ls st hh Q) := x_iast (nw := fun x => x) rfl
theorem s_124_18 {x : Int32} : wp V (cdT Ev) mx d 124 18 [l0, some (.int x)] st h Q = wp V (cdT Ev) mx d 124 21 [l0, some (.int (x + (1)))] st h Q := x_iinc rfl rfl rfl
theorem s_124_21 : wp V (cdT Ev) mx d 124 21 ls st h Q = wp V (cdT Ev) mx d 124 7 ls st h Q := x_goto rfl
theorem s_124_24 {a : Nat} : wp V (cdT Ev) mx d 124 24 [some (.ref a), l1] st h Q = wp V (cdT Ev) mx d 124 25 [some (.ref a), l1] (.ref a :: st) h Q := x_aload (len := 1) rfl rfl
theorem s_124_24_n : wp V (cdT Ev) mx d 124 24 [some .null, l1] st h Q = wp V (cdT Ev) mx d 124 25 [some .null, l1] (.null :: st) h Q := x_aloadN (len := 1) rfl rfl
theorem s_124_25 {a : Nat} : wp V (cdT Ev) mx d 124 25 ls [.ref a] h Q = Q (some (.ref a)) h := x_ret rfl rfl
theorem s_124_25_n : wp V (cdT Ev) mx d 124 25 ls [.null] h Q = Q (some .null) h := x_ret rfl rfl
theorem e_124  : WP V (cdT Ev) mx (d + 1) 124 [] h Q = wp V (cdT Ev) mx d 124 0 [none, none] [] h Q := propext (WP_eq (Nat.le_of_ble_eq_true rfl))
theorem s_125_0 : wp V (cdT Ev) mx d 125 0 ls st h Q = wp V (cdT Ev) mx d 125 1 ls ((.int (0)) :: st) h Q := x_push (v := (.int (0))) (len := 1) rfl
theorem s_125_1 {x : Int32} (hn : nl l1 = true) : wp V (cdT Ev) mx d 125 1 [l0, l1, l2] (.int x :: st) h Q = wp V (cdT Ev) mx d 125 2 [l0, l1, some (.int x)] st h Q := x_istore (len := 1) rfl (Nat.le_of_ble_eq_true rfl) (okp_nl rfl hn) rfl
theorem s_125_2 {x : Int32} : wp V (cdT Ev) mx d 125 2 [l0, l1, some (.int x)] st h Q = wp V (cdT Ev) mx d 125 3 [l0, l1, some (.int x)] (.int x :: st) h Q := x_iload (len := 1) rfl rfl
theorem s_125_3 : wp V (cdT Ev) mx d 125 3 ls st h Q = wp V (cdT Ev) mx d 125 5 ls ((.int (120)) :: st) h Q := x_push (v := (.int (120))) (len := 2) rfl
theorem s_125_5 {x z : Int32} : wp V (cdT Ev) mx d 125 5 ls (.int z :: .int x :: st) h Q = (if z ≤ x then wp V (cdT Ev) mx d 125 20 ls st h Q else wp V (cdT Ev) mx d 125 8 ls st h Q) := x_if2 (c := fun x z => z ≤ x) rfl
theorem s_125_8 {a : Nat} : wp V (cdT Ev) mx d 125 8 [l0, some (.ref a), l2] st h Q = wp V (cdT Ev) mx d 125 9 [l0, some (.ref a), l2] (.ref a :: st) h Q := x_aload (len := 1) rfl rfl
theorem s_125_8_n : wp V (cdT Ev) mx d 125 8 [l0, some .null, l2] st h Q = wp V (cdT Ev) mx d 125 9 [l0, some .null, l2] (.null :: st) h Q := x_aloadN (len := 1) rfl rfl
theorem s_125_9 {x : Int32} : wp V (cdT Ev) mx d 125 9 [l0, l1, some (.int x)] st h Q = wp V (cdT Ev) mx d 125 10 [l0, l1, some (.int x)] (.int x :: st) h Q := x_iload (len := 1) rfl rfl
theorem s_125_10 {a : Nat} : wp V (cdT Ev) mx d 125 10 [some (.ref a), l1, l2] st h Q = wp V (cdT Ev) mx d 125 11 [some (.ref a), l1, l2] (.ref a :: st) h Q := x_aload (len := 1) rfl rfl
theorem s_125_10_n : wp V (cdT Ev) mx d 125 10 [some .null, l1, l2] st h Q = wp V (cdT Ev) mx d 125 11 [some .null, l1, l2] (.null :: st) h Q := x_aloadN (len := 1) rfl rfl
theorem s_125_11 {x : Int32} : wp V (cdT Ev) mx d 125 11 [l0, l1, some (.int x)] st h Q = wp V (cdT Ev) mx d 125 12 [l0, l1, some (.int x)] (.int x :: st) h Q := x_iload (len := 1) rfl rfl
theorem s_125_12 {i : Int32} {a : Nat} : wp V (cdT Ev) mx d 125 12 ls (.int i :: .ref a :: st) h Q = ai 2 i V h a (fun x => wp V (cdT Ev) mx d 125 13 ls (.int x :: st) h Q) := x_iald rfl
theorem s_125_13 {x i : Int32} {a : Nat} : wp V (cdT Ev) mx d 125 13 ls (.int x :: .int i :: .ref a :: st) h Q = si 2 i (x) h a (fun hh => wp V (cdT Ev) mx d 125 14 ls st hh Q) := x_iast (nw := fun x => x) rfl
theorem s_125_14 {x : Int32} : wp V (cdT Ev) mx d 125 14 [l0, l1, some (.int x)] st h Q = wp V (cdT Ev) mx d 125 17 [l0, l1, some (.int (x + (1)))] st h Q := x_iinc rfl rfl rfl
theorem s_125_17 : wp V (cdT Ev) mx d 125 17 ls st h Q = wp V (cdT Ev) mx d 125 2 ls st h Q := x_goto rfl
theorem s_125_20 : wp V (cdT Ev) mx d 125 20 ls [] h Q = Q none h := x_retv rfl
theorem e_125 {p0 : Nat} {p1 : Nat} : WP V (cdT Ev) mx (d + 1) 125 [.ref p0, .ref p1] h Q = wp V (cdT Ev) mx d 125 0 [some (.ref p0), some (.ref p1), none] [] h Q := propext (WP_eq (Nat.le_of_ble_eq_true rfl))
theorem s_126_0 {a : Nat} : wp V (cdT Ev) mx d 126 0 [some (.ref a)] st h Q = wp V (cdT Ev) mx d 126 1 [some (.ref a)] (.ref a :: st) h Q := x_aload (len := 1) rfl rfl
theorem s_126_0_n : wp V (cdT Ev) mx d 126 0 [some .null] st h Q = wp V (cdT Ev) mx d 126 1 [some .null] (.null :: st) h Q := x_aloadN (len := 1) rfl rfl
theorem s_126_1 : wp V (cdT Ev) mx d 126 1 ls st h Q = wp V (cdT Ev) mx d 126 2 ls ((.int (1)) :: st) h Q := x_push (v := (.int (1))) (len := 1) rfl
theorem s_126_2 {w : Value} {a : Nat} : wp V (cdT Ev) mx d 126 2 ls (w :: .ref a :: st) h Q = pf [12] 3 1 w h a (fun hh => wp V (cdT Ev) mx d 126 5 ls st hh Q) := x_putf rfl
theorem s_126_5 {a : Nat} : wp V (cdT Ev) mx d 126 5 [some (.ref a)] st h Q = wp V (cdT Ev) mx d 126 6 [some (.ref a)] (.ref a :: st) h Q := x_aload (len := 1) rfl rfl
theorem s_126_5_n : wp V (cdT Ev) mx d 126 5 [some .null] st h Q = wp V (cdT Ev) mx d 126 6 [some .null] (.null :: st) h Q := x_aloadN (len := 1) rfl rfl
theorem s_126_6 {a : Nat} : wp V (cdT Ev) mx d 126 6 ls (.ref a :: st) h Q = gf [12] 0 h a (fun v => wp V (cdT Ev) mx d 126 9 ls (v :: st) h Q) := x_getf rfl
theorem s_126_9 {a : Nat} : wp V (cdT Ev) mx d 126 9 [some (.ref a)] st h Q = wp V (cdT Ev) mx d 126 10 [some (.ref a)] (.ref a :: st) h Q := x_aload (len := 1) rfl rfl
theorem s_126_9_n : wp V (cdT Ev) mx d 126 9 [some .null] st h Q = wp V (cdT Ev) mx d 126 10 [some .null] (.null :: st) h Q := x_aloadN (len := 1) rfl rfl
theorem s_126_10 {a : Nat} : wp V (cdT Ev) mx d 126 10 ls (.ref a :: st) h Q = gf [12] 2 h a (fun v => wp V (cdT Ev) mx d 126 13 ls (v :: st) h Q) := x_getf rfl
theorem s_126_13 {v0 v1 : Value} (hst : st.length ≤ 4) : wp V (cdT Ev) mx d 126 13 ls (v1 :: v0 :: st) h Q = WP V (cdT Ev) mx d 125 [v0, v1] h (fun r h' => wp V (cdT Ev) mx d 126 16 ls (rts r st) h' Q) := x_cs (sg := [v1, v0]) rfl hst rfl rfl
theorem s_126_16 {a : Nat} : wp V (cdT Ev) mx d 126 16 [some (.ref a)] st h Q = wp V (cdT Ev) mx d 126 17 [some (.ref a)] (.ref a :: st) h Q := x_aload (len := 1) rfl rfl
theorem s_126_16_n : wp V (cdT Ev) mx d 126 16 [some .null] st h Q = wp V (cdT Ev) mx d 126 17 [some .null] (.null :: st) h Q := x_aloadN (len := 1) rfl rfl
theorem s_126_17 {a : Nat} : wp V (cdT Ev) mx d 126 17 ls (.ref a :: st) h Q = gf [12] 0 h a (fun v => wp V (cdT Ev) mx d 126 20 ls (v :: st) h Q) := x_getf rfl
theorem s_126_20 : wp V (cdT Ev) mx d 126 20 ls st h Q = wp V (cdT Ev) mx d 126 22 ls ((.int (68)) :: st) h Q := x_push (v := (.int (68))) (len := 2) rfl
theorem s_126_22 {i : Int32} {a : Nat} : wp V (cdT Ev) mx d 126 22 ls (.int i :: .ref a :: st) h Q = ai 2 i V h a (fun x => wp V (cdT Ev) mx d 126 23 ls (.int x :: st) h Q) := x_iald rfl
theorem s_126_23 {x : Int32} : wp V (cdT Ev) mx d 126 23 ls [.int x] h Q = Q (some (.int x)) h := x_ret rfl rfl
theorem e_126 {a : Nat} : WP V (cdT Ev) mx (d + 1) 126 [.ref a] h Q = wp V (cdT Ev) mx d 126 0 [some (.ref a)] [] h Q := propext (WP_eq (Nat.le_of_ble_eq_true rfl))
theorem s_127_0 {a : Nat} : wp V (cdT Ev) mx d 127 0 [some (.ref a)] st h Q = wp V (cdT Ev) mx d 127 1 [some (.ref a)] (.ref a :: st) h Q := x_aload (len := 1) rfl rfl
theorem s_127_0_n : wp V (cdT Ev) mx d 127 0 [some .null] st h Q = wp V (cdT Ev) mx d 127 1 [some .null] (.null :: st) h Q := x_aloadN (len := 1) rfl rfl
theorem s_127_1 {a : Nat} : wp V (cdT Ev) mx d 127 1 ls (.ref a :: st) h Q = gf [12] 3 h a (fun v => wp V (cdT Ev) mx d 127 4 ls (v :: st) h Q) := x_getf rfl
theorem s_127_4 {x : Int32} : wp V (cdT Ev) mx d 127 4 ls (.int x :: st) h Q = (if ¬ x = 0 then wp V (cdT Ev) mx d 127 10 ls st h Q else wp V (cdT Ev) mx d 127 7 ls st h Q) := x_if1 (c := fun x => ¬ x = 0) rfl
theorem s_127_7 : wp V (cdT Ev) mx d 127 7 ls st h Q = wp V (cdT Ev) mx d 127 9 ls ((.int (-3)) :: st) h Q := x_push (v := (.int (-3))) (len := 2) rfl
theorem s_127_9 {x : Int32} : wp V (cdT Ev) mx d 127 9 ls [.int x] h Q = Q (some (.int x)) h := x_ret rfl rfl
theorem s_127_10 {a : Nat} : wp V (cdT Ev) mx d 127 10 [some (.ref a)] st h Q = wp V (cdT Ev) mx d 127 11 [some (.ref a)] (.ref a :: st) h Q := x_aload (len := 1) rfl rfl
theorem s_127_10_n : wp V (cdT Ev) mx d 127 10 [some .null] st h Q = wp V (cdT Ev) mx d 127 11 [some .null] (.null :: st) h Q := x_aloadN (len := 1) rfl rfl
theorem s_127_11 {a : Nat} : wp V (cdT Ev) mx d 127 11 ls (.ref a :: st) h Q = gf [12] 2 h a (fun v => wp V (cdT Ev) mx d 127 14 ls (v :: st) h Q) := x_getf rfl
theorem s_127_14 {a : Nat} : wp V (cdT Ev) mx d 127 14 [some (.ref a)] st h Q = wp V (cdT Ev) mx d 127 15 [some (.ref a)] (.ref a :: st) h Q := x_aload (len := 1) rfl rfl
theorem s_127_14_n : wp V (cdT Ev) mx d 127 14 [some .null] st h Q = wp V (cdT Ev) mx d 127 15 [some .null] (.null :: st) h Q := x_aloadN (len := 1) rfl rfl
theorem s_127_15 {a : Nat} : wp V (cdT Ev) mx d 127 15 ls (.ref a :: st) h Q = gf [12] 0 h a (fun v => wp V (cdT Ev) mx d 127 18 ls (v :: st) h Q) := x_getf rfl
theorem s_127_18 {v0 v1 : Value} (hst : st.length ≤ 4) : wp V (cdT Ev) mx d 127 18 ls (v1 :: v0 :: st) h Q = WP V (cdT Ev) mx d 125 [v0, v1] h (fun r h' => wp V (cdT Ev) mx d 127 21 ls (rts r st) h' Q) := x_cs (sg := [v1, v0]) rfl hst rfl rfl
theorem s_127_21 {a : Nat} : wp V (cdT Ev) mx d 127 21 [some (.ref a)] st h Q = wp V (cdT Ev) mx d 127 22 [some (.ref a)] (.ref a :: st) h Q := x_aload (len := 1) rfl rfl
theorem s_127_21_n : wp V (cdT Ev) mx d 127 21 [some .null] st h Q = wp V (cdT Ev) mx d 127 22 [some .null] (.null :: st) h Q := x_aloadN (len := 1) rfl rfl
theorem s_127_22 {a : Nat} : wp V (cdT Ev) mx d 127 22 ls (.ref a :: st) h Q = gf [12] 0 h a (fun v => wp V (cdT Ev) mx d 127 25 ls (v :: st) h Q) := x_getf rfl
theorem s_127_25 : wp V (cdT Ev) mx d 127 25 ls st h Q = wp V (cdT Ev) mx d 127 27 ls ((.int (68)) :: st) h Q := x_push (v := (.int (68))) (len := 2) rfl
theorem s_127_27 {i : Int32} {a : Nat} : wp V (cdT Ev) mx d 127 27 ls (.int i :: .ref a :: st) h Q = ai 2 i V h a (fun x => wp V (cdT Ev) mx d 127 28 ls (.int x :: st) h Q) := x_iald rfl
theorem s_127_28 {x : Int32} : wp V (cdT Ev) mx d 127 28 ls [.int x] h Q = Q (some (.int x)) h := x_ret rfl rfl
theorem e_127 {a : Nat} : WP V (cdT Ev) mx (d + 1) 127 [.ref a] h Q = wp V (cdT Ev) mx d 127 0 [some (.ref a)] [] h Q := propext (WP_eq (Nat.le_of_ble_eq_true rfl))
theorem s_128_0 {x : Int32} : wp V (cdT Ev) mx d 128 0 [l0, some (.int x)] st h Q = wp V (cdT Ev) mx d 128 1 [l0, some (.int x)] (.int x :: st) h Q := x_iload (len := 1) rfl rfl
theorem s_128_1 : wp V (cdT Ev) mx d 128 1 ls st h Q = wp V (cdT Ev) mx d 128 2 ls ((.int (0)) :: st) h Q := x_push (v := (.int (0))) (len := 1) rfl
theorem s_128_2 {a : Nat} : wp V (cdT Ev) mx d 128 2 [some (.ref a), l1] st h Q = wp V (cdT Ev) mx d 128 3 [some (.ref a), l1] (.ref a :: st) h Q := x_aload (len := 1) rfl rfl
theorem s_128_2_n : wp V (cdT Ev) mx d 128 2 [some .null, l1] st h Q = wp V (cdT Ev) mx d 128 3 [some .null, l1] (.null :: st) h Q := x_aloadN (len := 1) rfl rfl
theorem s_128_3 {a : Nat} : wp V (cdT Ev) mx d 128 3 ls (.ref a :: st) h Q = gf [12] 0 h a (fun v => wp V (cdT Ev) mx d 128 6 ls (v :: st) h Q) := x_getf rfl
theorem s_128_6 : wp V (cdT Ev) mx d 128 6 ls st h Q = wp V (cdT Ev) mx d 128 8 ls ((.int (68)) :: st) h Q := x_push (v := (.int (68))) (len := 2) rfl
theorem s_128_8 {i : Int32} {a : Nat} : wp V (cdT Ev) mx d 128 8 ls (.int i :: .ref a :: st) h Q = ai 2 i V h a (fun x => wp V (cdT Ev) mx d 128 9 ls (.int x :: st) h Q) := x_iald rfl
theorem s_128_9 : wp V (cdT Ev) mx d 128 9 ls st h Q = wp V (cdT Ev) mx d 128 10 ls ((.int (1)) :: st) h Q := x_push (v := (.int (1))) (len := 1) rfl
theorem s_128_10 {x z : Int32} : wp V (cdT Ev) mx d 128 10 ls (.int z :: .int x :: st) h Q = wp V (cdT Ev) mx d 128 11 ls (.int (x - z) :: st) h Q := x_ib (f := fun x z => x - z) rfl
theorem s_128_11 {v0 v1 v2 : Value} (hst : st.length ≤ 4) : wp V (cdT Ev) mx d 128 11 ls (v2 :: v1 :: v0 :: st) h Q = WP V (cdT Ev) mx d 123 [v0, v1, v2] h (fun r h' => wp V (cdT Ev) mx d 128 14 ls (rts r st) h' Q) := x_cs (sg := [v2, v1, v0]) rfl hst rfl rfl
theorem s_128_14 {x : Int32} (hx : okr 1 (.int x) = true) : wp V (cdT Ev) mx d 128 14 ls [.int x] h Q = Q (some (.int x)) h := x_ret rfl hx
theorem e_128 {a : Nat} {p0 : Int32} : WP V (cdT Ev) mx (d + 1) 128 [.ref a, .int p0] h Q = wp V (cdT Ev) mx d 128 0 [some (.ref a), some (.int p0)] [] h Q := propext (WP_eq (Nat.le_of_ble_eq_true rfl))
theorem s_129_0 {x : Int32} : wp V (cdT Ev) mx d 129 0 [some (.int x)] st h Q = wp V (cdT Ev) mx d 129 1 [some (.int x)] (.int x :: st) h Q := x_iload (len := 1) rfl rfl
theorem s_129_1 : wp V (cdT Ev) mx d 129 1 ls st h Q = wp V (cdT Ev) mx d 129 2 ls ((.int (0)) :: st) h Q := x_push (v := (.int (0))) (len := 1) rfl
theorem s_129_2 : wp V (cdT Ev) mx d 129 2 ls st h Q = wp V (cdT Ev) mx d 129 4 ls ((.int (11)) :: st) h Q := x_push (v := (.int (11))) (len := 2) rfl
theorem s_129_4 {v0 v1 v2 : Value} (hst : st.length ≤ 4) : wp V (cdT Ev) mx d 129 4 ls (v2 :: v1 :: v0 :: st) h Q = WP V (cdT Ev) mx d 123 [v0, v1, v2] h (fun r h' => wp V (cdT Ev) mx d 129 7 ls (rts r st) h' Q) := x_cs (sg := [v2, v1, v0]) rfl hst rfl rfl
theorem s_129_7 {x : Int32} (hx : okr 1 (.int x) = true) : wp V (cdT Ev) mx d 129 7 ls [.int x] h Q = Q (some (.int x)) h := x_ret rfl hx
theorem e_129 {p0 : Int32} : WP V (cdT Ev) mx (d + 1) 129 [.int p0] h Q = wp V (cdT Ev) mx d 129 0 [some (.int p0)] [] h Q := propext (WP_eq (Nat.le_of_ble_eq_true rfl))
theorem s_130_0 {x : Int32} : wp V (cdT Ev) mx d 130 0 [some (.int x)] st h Q = wp V (cdT Ev) mx d 130 1 [some (.int x)] (.int x :: st) h Q := x_iload (len := 1) rfl rfl
theorem s_130_1 : wp V (cdT Ev) mx d 130 1 ls st h Q = wp V (cdT Ev) mx d 130 2 ls ((.int (-1)) :: st) h Q := x_push (v := (.int (-1))) (len := 1) rfl
theorem s_130_2 {x z : Int32} : wp V (cdT Ev) mx d 130 2 ls (.int z :: .int x :: st) h Q = (if ¬ x = z then wp V (cdT Ev) mx d 130 10 ls st h Q else wp V (cdT Ev) mx d 130 5 ls st h Q) := x_if2 (c := fun x z => ¬ x = z) rfl
theorem s_130_5 : wp V (cdT Ev) mx d 130 5 ls st h Q = wp V (cdT Ev) mx d 130 7 ls ((.int (-5)) :: st) h Q := x_push (v := (.int (-5))) (len := 2) rfl
theorem s_130_7 : wp V (cdT Ev) mx d 130 7 ls st h Q = wp V (cdT Ev) mx d 130 11 ls st h Q := x_goto rfl
theorem s_130_10 {x : Int32} : wp V (cdT Ev) mx d 130 10 [some (.int x)] st h Q = wp V (cdT Ev) mx d 130 11 [some (.int x)] (.int x :: st) h Q := x_iload (len := 1) rfl rfl
theorem s_130_11 {x : Int32} : wp V (cdT Ev) mx d 130 11 ls [.int x] h Q = Q (some (.int x)) h := x_ret rfl rfl
theorem e_130 {p0 : Int32} : WP V (cdT Ev) mx (d + 1) 130 [.int p0] h Q = wp V (cdT Ev) mx d 130 0 [some (.int p0)] [] h Q := propext (WP_eq (Nat.le_of_ble_eq_true rfl))
theorem s_131_0 : wp V (cdT Ev) mx d 131 0 ls st h Q = wp V (cdT Ev) mx d 131 1 ls ((.int (0)) :: st) h Q := x_push (v := (.int (0))) (len := 1) rfl
theorem s_131_1 {x : Int32} (hn : nl l0 = true) : wp V (cdT Ev) mx d 131 1 [l0, l1, l2] (.int x :: st) h Q = wp V (cdT Ev) mx d 131 2 [l0, some (.int x), l2] st h Q := x_istore (len := 1) rfl (Nat.le_of_ble_eq_true rfl) (okp_nl rfl hn) rfl
theorem s_131_2 : wp V (cdT Ev) mx d 131 2 ls st h Q = wp V (cdT Ev) mx d 131 3 ls ((.int (0)) :: st) h Q := x_push (v := (.int (0))) (len := 1) rfl
theorem s_131_3 {x : Int32} (hn : nl l1 = true) : wp V (cdT Ev) mx d 131 3 [l0, l1, l2] (.int x :: st) h Q = wp V (cdT Ev) mx d 131 4 [l0, l1, some (.int x)] st h Q := x_istore (len := 1) rfl (Nat.le_of_ble_eq_true rfl) (okp_nl rfl hn) rfl
theorem s_131_4 {x : Int32} : wp V (cdT Ev) mx d 131 4 [l0, l1, some (.int x)] st h Q = wp V (cdT Ev) mx d 131 5 [l0, l1, some (.int x)] (.int x :: st) h Q := x_iload (len := 1) rfl rfl
theorem s_131_5 : wp V (cdT Ev) mx d 131 5 ls st h Q = wp V (cdT Ev) mx d 131 7 ls ((.int (12)) :: st) h Q := x_push (v := (.int (12))) (len := 2) rfl
theorem s_131_7 {x z : Int32} : wp V (cdT Ev) mx d 131 7 ls (.int z :: .int x :: st) h Q = (if z ≤ x then wp V (cdT Ev) mx d 131 24 ls st h Q else wp V (cdT Ev) mx d 131 10 ls st h Q) := x_if2 (c := fun x z => z ≤ x) rfl
theorem s_131_10 {x : Int32} : wp V (cdT Ev) mx d 131 10 [l0, some (.int x), l2] st h Q = wp V (cdT Ev) mx d 131 11 [l0, some (.int x), l2] (.int x :: st) h Q := x_iload (len := 1) rfl rfl
theorem s_131_11 {x : Int32} : wp V (cdT Ev) mx d 131 11 [some (.int x), l1, l2] st h Q = wp V (cdT Ev) mx d 131 12 [some (.int x), l1, l2] (.int x :: st) h Q := x_iload (len := 1) rfl rfl
theorem s_131_12 {x : Int32} : wp V (cdT Ev) mx d 131 12 [l0, l1, some (.int x)] st h Q = wp V (cdT Ev) mx d 131 13 [l0, l1, some (.int x)] (.int x :: st) h Q := x_iload (len := 1) rfl rfl
theorem s_131_13 {x z : Int32} : wp V (cdT Ev) mx d 131 13 ls (.int z :: .int x :: st) h Q = wp V (cdT Ev) mx d 131 14 ls (.int (x >>> (z &&& 31)) :: st) h Q := x_ib (f := fun x z => x >>> (z &&& 31)) rfl
theorem s_131_14 : wp V (cdT Ev) mx d 131 14 ls st h Q = wp V (cdT Ev) mx d 131 15 ls ((.int (1)) :: st) h Q := x_push (v := (.int (1))) (len := 1) rfl
theorem s_131_15 {x z : Int32} : wp V (cdT Ev) mx d 131 15 ls (.int z :: .int x :: st) h Q = wp V (cdT Ev) mx d 131 16 ls (.int (x &&& z) :: st) h Q := x_ib (f := fun x z => x &&& z) rfl
theorem s_131_16 {x z : Int32} : wp V (cdT Ev) mx d 131 16 ls (.int z :: .int x :: st) h Q = wp V (cdT Ev) mx d 131 17 ls (.int (x + z) :: st) h Q := x_ib (f := fun x z => x + z) rfl
theorem s_131_17 {x : Int32} (hn : nl l0 = true) : wp V (cdT Ev) mx d 131 17 [l0, l1, l2] (.int x :: st) h Q = wp V (cdT Ev) mx d 131 18 [l0, some (.int x), l2] st h Q := x_istore (len := 1) rfl (Nat.le_of_ble_eq_true rfl) (okp_nl rfl hn) rfl
theorem s_131_18 {x : Int32} : wp V (cdT Ev) mx d 131 18 [l0, l1, some (.int x)] st h Q = wp V (cdT Ev) mx d 131 21 [l0, l1, some (.int (x + (1)))] st h Q := x_iinc rfl rfl rfl
theorem s_131_21 : wp V (cdT Ev) mx d 131 21 ls st h Q = wp V (cdT Ev) mx d 131 4 ls st h Q := x_goto rfl
theorem s_131_24 {x : Int32} : wp V (cdT Ev) mx d 131 24 [l0, some (.int x), l2] st h Q = wp V (cdT Ev) mx d 131 25 [l0, some (.int x), l2] (.int x :: st) h Q := x_iload (len := 1) rfl rfl
theorem s_131_25 {x : Int32} : wp V (cdT Ev) mx d 131 25 ls [.int x] h Q = Q (some (.int x)) h := x_ret rfl rfl
theorem e_131 {p0 : Int32} : WP V (cdT Ev) mx (d + 1) 131 [.int p0] h Q = wp V (cdT Ev) mx d 131 0 [some (.int p0), none, none] [] h Q := propext (WP_eq (Nat.le_of_ble_eq_true rfl))
theorem s_132_0 {a : Nat} : wp V (cdT Ev) mx d 132 0 [some (.ref a), l1, l2] st h Q = wp V (cdT Ev) mx d 132 1 [some (.ref a), l1, l2] (.ref a :: st) h Q := x_aload (len := 1) rfl rfl
theorem s_132_0_n : wp V (cdT Ev) mx d 132 0 [some .null, l1, l2] st h Q = wp V (cdT Ev) mx d 132 1 [some .null, l1, l2] (.null :: st) h Q := x_aloadN (len := 1) rfl rfl
theorem s_132_1 {a : Nat} : wp V (cdT Ev) mx d 132 1 ls (.ref a :: st) h Q = gf [12] 0 h a (fun v => wp V (cdT Ev) mx d 132 4 ls (v :: st) h Q) := x_getf rfl
theorem s_132_4 : wp V (cdT Ev) mx d 132 4 ls st h Q = wp V (cdT Ev) mx d 132 6 ls ((.int (14)) :: st) h Q := x_push (v := (.int (14))) (len := 2) rfl
theorem s_132_6 : wp V (cdT Ev) mx d 132 6 ls st h Q = wp V (cdT Ev) mx d 132 8 ls ((.int (9)) :: st) h Q := x_push (v := (.int (9))) (len := 2) rfl
theorem s_132_8 {x : Int32} : wp V (cdT Ev) mx d 132 8 [l0, some (.int x), l2] st h Q = wp V (cdT Ev) mx d 132 9 [l0, some (.int x), l2] (.int x :: st) h Q := x_iload (len := 1) rfl rfl
theorem s_132_9 {x z : Int32} : wp V (cdT Ev) mx d 132 9 ls (.int z :: .int x :: st) h Q = wp V (cdT Ev) mx d 132 10 ls (.int (x * z) :: st) h Q := x_ib (f := fun x z => x * z) rfl
theorem s_132_10 {x z : Int32} : wp V (cdT Ev) mx d 132 10 ls (.int z :: .int x :: st) h Q = wp V (cdT Ev) mx d 132 11 ls (.int (x + z) :: st) h Q := x_ib (f := fun x z => x + z) rfl
theorem s_132_11 {x : Int32} : wp V (cdT Ev) mx d 132 11 [l0, l1, some (.int x)] st h Q = wp V (cdT Ev) mx d 132 12 [l0, l1, some (.int x)] (.int x :: st) h Q := x_iload (len := 1) rfl rfl
theorem s_132_12 {x z : Int32} : wp V (cdT Ev) mx d 132 12 ls (.int z :: .int x :: st) h Q = wp V (cdT Ev) mx d 132 13 ls (.int (x + z) :: st) h Q := x_ib (f := fun x z => x + z) rfl
theorem s_132_13 {i : Int32} {a : Nat} : wp V (cdT Ev) mx d 132 13 ls (.int i :: .ref a :: st) h Q = ai 2 i V h a (fun x => wp V (cdT Ev) mx d 132 14 ls (.int x :: st) h Q) := x_iald rfl
theorem s_132_14 {x : Int32} : wp V (cdT Ev) mx d 132 14 ls [.int x] h Q = Q (some (.int x)) h := x_ret rfl rfl
theorem e_132 {a : Nat} {p0 : Int32} {p1 : Int32} : WP V (cdT Ev) mx (d + 1) 132 [.ref a, .int p0, .int p1] h Q = wp V (cdT Ev) mx d 132 0 [some (.ref a), some (.int p0), some (.int p1)] [] h Q := propext (WP_eq (Nat.le_of_ble_eq_true rfl))
theorem s_133_0 {a : Nat} : wp V (cdT Ev) mx d 133 0 [some (.ref a), l1, l2, l3, l4] st h Q = wp V (cdT Ev) mx d 133 1 [some (.ref a), l1, l2, l3, l4] (.ref a :: st) h Q := x_aload (len := 1) rfl rfl
theorem s_133_0_n : wp V (cdT Ev) mx d 133 0 [some .null, l1, l2, l3, l4] st h Q = wp V (cdT Ev) mx d 133 1 [some .null, l1, l2, l3, l4] (.null :: st) h Q := x_aloadN (len := 1) rfl rfl
theorem s_133_1 {x : Int32} : wp V (cdT Ev) mx d 133 1 [l0, some (.int x), l2, l3, l4] st h Q = wp V (cdT Ev) mx d 133 2 [l0, some (.int x), l2, l3, l4] (.int x :: st) h Q := x_iload (len := 1) rfl rfl
theorem s_133_2 {x : Int32} : wp V (cdT Ev) mx d 133 2 [l0, l1, some (.int x), l3, l4] st h Q = wp V (cdT Ev) mx d 133 3 [l0, l1, some (.int x), l3, l4] (.int x :: st) h Q := x_iload (len := 1) rfl rfl
theorem s_133_3 {b : Nat} {v0 v1 : Value} (hst : st.length ≤ 4) : wp V (cdT Ev) mx d 133 3 ls (v1 :: v0 :: .ref b :: st) h Q = cv [(12, 132)] h b (fun y' => WP V (cdT Ev) mx d y' [.ref b, v0, v1] h (fun r h' => wp V (cdT Ev) mx d 133 6 ls (rts r st) h' Q)) := x_cv (sg := [v1, v0]) rfl hst rfl rfl
theorem s_133_6 {x : Int32} (hn : nl l3 = true) : wp V (cdT Ev) mx d 133 6 [l0, l1, l2, l3, l4] (.int x :: st) h Q = wp V (cdT Ev) mx d 133 8 [l0, l1, l2, l3, some (.int x)] st h Q := x_istore (len := 2) rfl (Nat.le_of_ble_eq_true rfl) (okp_nl rfl hn) rfl
theorem s_133_8 {a : Nat} : wp V (cdT Ev) mx d 133 8 [some (.ref a), l1, l2, l3, l4] st h Q = wp V (cdT Ev) mx d 133 9 [some (.ref a), l1, l2, l3, l4] (.ref a :: st) h Q := x_aload (len := 1) rfl rfl
theorem s_133_8_n : wp V (cdT Ev) mx d 133 8 [some .null, l1, l2, l3, l4] st h Q = wp V (cdT Ev) mx d 133 9 [some .null, l1, l2, l3, l4] (.null :: st) h Q := x_aloadN (len := 1) rfl rfl
theorem s_133_9 {a : Nat} : wp V (cdT Ev) mx d 133 9 ls (.ref a :: st) h Q = gf [12] 0 h a (fun v => wp V (cdT Ev) mx d 133 12 ls (v :: st) h Q) := x_getf rfl
theorem s_133_12 : wp V (cdT Ev) mx d 133 12 ls st h Q = wp V (cdT Ev) mx d 133 14 ls ((.int (14)) :: st) h Q := x_push (v := (.int (14))) (len := 2) rfl
theorem s_133_14 : wp V (cdT Ev) mx d 133 14 ls st h Q = wp V (cdT Ev) mx d 133 16 ls ((.int (9)) :: st) h Q := x_push (v := (.int (9))) (len := 2) rfl
theorem s_133_16 {x : Int32} : wp V (cdT Ev) mx d 133 16 [l0, some (.int x), l2, l3, l4] st h Q = wp V (cdT Ev) mx d 133 17 [l0, some (.int x), l2, l3, l4] (.int x :: st) h Q := x_iload (len := 1) rfl rfl
theorem s_133_17 {x z : Int32} : wp V (cdT Ev) mx d 133 17 ls (.int z :: .int x :: st) h Q = wp V (cdT Ev) mx d 133 18 ls (.int (x * z) :: st) h Q := x_ib (f := fun x z => x * z) rfl
theorem s_133_18 {x z : Int32} : wp V (cdT Ev) mx d 133 18 ls (.int z :: .int x :: st) h Q = wp V (cdT Ev) mx d 133 19 ls (.int (x + z) :: st) h Q := x_ib (f := fun x z => x + z) rfl
theorem s_133_19 {x : Int32} : wp V (cdT Ev) mx d 133 19 [l0, l1, some (.int x), l3, l4] st h Q = wp V (cdT Ev) mx d 133 20 [l0, l1, some (.int x), l3, l4] (.int x :: st) h Q := x_iload (len := 1) rfl rfl
theorem s_133_20 {x z : Int32} : wp V (cdT Ev) mx d 133 20 ls (.int z :: .int x :: st) h Q = wp V (cdT Ev) mx d 133 21 ls (.int (x + z) :: st) h Q := x_ib (f := fun x z => x + z) rfl
theorem s_133_21 {x : Int32} : wp V (cdT Ev) mx d 133 21 [l0, l1, l2, some (.int x), l4] st h Q = wp V (cdT Ev) mx d 133 22 [l0, l1, l2, some (.int x), l4] (.int x :: st) h Q := x_iload (len := 1) rfl rfl
theorem s_133_22 {x i : Int32} {a : Nat} : wp V (cdT Ev) mx d 133 22 ls (.int x :: .int i :: .ref a :: st) h Q = si 2 i (x) h a (fun hh => wp V (cdT Ev) mx d 133 23 ls st hh Q) := x_iast (nw := fun x => x) rfl
theorem s_133_23 {x : Int32} : wp V (cdT Ev) mx d 133 23 [l0, l1, l2, l3, some (.int x)] st h Q = wp V (cdT Ev) mx d 133 25 [l0, l1, l2, l3, some (.int x)] (.int x :: st) h Q := x_iload (len := 2) rfl rfl
theorem s_133_25 {x : Int32} : wp V (cdT Ev) mx d 133 25 ls [.int x] h Q = Q (some (.int x)) h := x_ret rfl rfl
theorem e_133 {a : Nat} {p0 : Int32} {p1 : Int32} {p2 : Int32} : WP V (cdT Ev) mx (d + 1) 133 [.ref a, .int p0, .int p1, .int p2] h Q = wp V (cdT Ev) mx d 133 0 [some (.ref a), some (.int p0), some (.int p1), some (.int p2), none] [] h Q := propext (WP_eq (Nat.le_of_ble_eq_true rfl))
theorem s_134_0 {x : Int32} : wp V (cdT Ev) mx d 134 0 [l0, some (.int x), l2, l3, l4, l5] st h Q = wp V (cdT Ev) mx d 134 1 [l0, some (.int x), l2, l3, l4, l5] (.int x :: st) h Q := x_iload (len := 1) rfl rfl
theorem s_134_1 : wp V (cdT Ev) mx d 134 1 ls st h Q = wp V (cdT Ev) mx d 134 2 ls ((.int (0)) :: st) h Q := x_push (v := (.int (0))) (len := 1) rfl
theorem s_134_2 : wp V (cdT Ev) mx d 134 2 ls st h Q = wp V (cdT Ev) mx d 134 4 ls ((.int (6)) :: st) h Q := x_push (v := (.int (6))) (len := 2) rfl
theorem s_134_4 {v0 v1 v2 : Value} (hst : st.length ≤ 4) : wp V (cdT Ev) mx d 134 4 ls (v2 :: v1 :: v0 :: st) h Q = WP V (cdT Ev) mx d 123 [v0, v1, v2] h (fun r h' => wp V (cdT Ev) mx d 134 7 ls (rts r st) h' Q) := x_cs (sg := [v2, v1, v0]) rfl hst rfl rfl
theorem s_134_7 {x : Int32} : wp V (cdT Ev) mx d 134 7 ls (.int x :: st) h Q = (if ¬ x = 0 then wp V (cdT Ev) mx d 134 12 ls st h Q else wp V (cdT Ev) mx d 134 10 ls st h Q) := x_if1 (c := fun x => ¬ x = 0) rfl
theorem s_134_10 : wp V (cdT Ev) mx d 134 10 ls st h Q = wp V (cdT Ev) mx d 134 11 ls ((.int (-1)) :: st) h Q := x_push (v := (.int (-1))) (len := 1) rfl
theorem s_134_11 {x : Int32} : wp V (cdT Ev) mx d 134 11 ls [.int x] h Q = Q (some (.int x)) h := x_ret rfl rfl
theorem s_134_12 {x : Int32} : wp V (cdT Ev) mx d 134 12 [l0, l1, some (.int x), l3, l4, l5] st h Q = wp V (cdT Ev) mx d 134 13 [l0, l1, some (.int x), l3, l4, l5] (.int x :: st) h Q := x_iload (len := 1) rfl rfl
theorem s_134_13 : wp V (cdT Ev) mx d 134 13 ls st h Q = wp V (cdT Ev) mx d 134 14 ls ((.int (0)) :: st) h Q := x_push (v := (.int (0))) (len := 1) rfl
theorem s_134_14 : wp V (cdT Ev) mx d 134 14 ls st h Q = wp V (cdT Ev) mx d 134 16 ls ((.int (9)) :: st) h Q := x_push (v := (.int (9))) (len := 2) rfl
theorem s_134_16 {v0 v1 v2 : Value} (hst : st.length ≤ 4) : wp V (cdT Ev) mx d 134 16 ls (v2 :: v1 :: v0 :: st) h Q = WP V (cdT Ev) mx d 123 [v0, v1, v2] h (fun r h' => wp V (cdT Ev) mx d 134 19 ls (rts r st) h' Q) := x_cs (sg := [v2, v1, v0]) rfl hst rfl rfl
theorem s_134_19 {x : Int32} : wp V (cdT Ev) mx d 134 19 ls (.int x :: st) h Q = (if x = 0 then wp V (cdT Ev) mx d 134 33 ls st h Q else wp V (cdT Ev) mx d 134 22 ls st h Q) := x_if1 (c := fun x => x = 0) rfl
theorem s_134_22 {x : Int32} : wp V (cdT Ev) mx d 134 22 [l0, l1, l2, some (.int x), l4, l5] st h Q = wp V (cdT Ev) mx d 134 23 [l0, l1, l2, some (.int x), l4, l5] (.int x :: st) h Q := x_iload (len := 1) rfl rfl
theorem s_134_23 : wp V (cdT Ev) mx d 134 23 ls st h Q = wp V (cdT Ev) mx d 134 24 ls ((.int (0)) :: st) h Q := x_push (v := (.int (0))) (len := 1) rfl
theorem s_134_24 : wp V (cdT Ev) mx d 134 24 ls st h Q = wp V (cdT Ev) mx d 134 27 ls ((.int (4095)) :: st) h Q := x_push (v := (.int (4095))) (len := 3) rfl
theorem s_134_27 {v0 v1 v2 : Value} (hst : st.length ≤ 4) : wp V (cdT Ev) mx d 134 27 ls (v2 :: v1 :: v0 :: st) h Q = WP V (cdT Ev) mx d 123 [v0, v1, v2] h (fun r h' => wp V (cdT Ev) mx d 134 30 ls (rts r st) h' Q) := x_cs (sg := [v2, v1, v0]) rfl hst rfl rfl
theorem s_134_30 {x : Int32} : wp V (cdT Ev) mx d 134 30 ls (.int x :: st) h Q = (if ¬ x = 0 then wp V (cdT Ev) mx d 134 36 ls st h Q else wp V (cdT Ev) mx d 134 33 ls st h Q) := x_if1 (c := fun x => ¬ x = 0) rfl
theorem s_134_33 : wp V (cdT Ev) mx d 134 33 ls st h Q = wp V (cdT Ev) mx d 134 35 ls ((.int (-2)) :: st) h Q := x_push (v := (.int (-2))) (len := 2) rfl
theorem s_134_35 {x : Int32} : wp V (cdT Ev) mx d 134 35 ls [.int x] h Q = Q (some (.int x)) h := x_ret rfl rfl
theorem s_134_36 {a : Nat} : wp V (cdT Ev) mx d 134 36 [some (.ref a), l1, l2, l3, l4, l5] st h Q = wp V (cdT Ev) mx d 134 37 [some (.ref a), l1, l2, l3, l4, l5] (.ref a :: st) h Q := x_aload (len := 1) rfl rfl
theorem s_134_36_n : wp V (cdT Ev) mx d 134 36 [some .null, l1, l2, l3, l4, l5] st h Q = wp V (cdT Ev) mx d 134 37 [some .null, l1, l2, l3, l4, l5] (.null :: st) h Q := x_aloadN (len := 1) rfl rfl
theorem s_134_37 {a : Nat} : wp V (cdT Ev) mx d 134 37 ls (.ref a :: st) h Q = gf [12] 0 h a (fun v => wp V (cdT Ev) mx d 134 40 ls (v :: st) h Q) := x_getf rfl
theorem s_134_40 : wp V (cdT Ev) mx d 134 40 ls st h Q = wp V (cdT Ev) mx d 134 42 ls ((.int (68)) :: st) h Q := x_push (v := (.int (68))) (len := 2) rfl
theorem s_134_42 {i : Int32} {a : Nat} : wp V (cdT Ev) mx d 134 42 ls (.int i :: .ref a :: st) h Q = ai 2 i V h a (fun x => wp V (cdT Ev) mx d 134 43 ls (.int x :: st) h Q) := x_iald rfl
theorem s_134_43 {x : Int32} (hn : nl l3 = true) : wp V (cdT Ev) mx d 134 43 [l0, l1, l2, l3, l4, l5] (.int x :: st) h Q = wp V (cdT Ev) mx d 134 45 [l0, l1, l2, l3, some (.int x), l5] st h Q := x_istore (len := 2) rfl (Nat.le_of_ble_eq_true rfl) (okp_nl rfl hn) rfl
theorem s_134_45 {x : Int32} : wp V (cdT Ev) mx d 134 45 [l0, l1, l2, l3, some (.int x), l5] st h Q = wp V (cdT Ev) mx d 134 47 [l0, l1, l2, l3, some (.int x), l5] (.int x :: st) h Q := x_iload (len := 2) rfl rfl
theorem s_134_47 : wp V (cdT Ev) mx d 134 47 ls st h Q = wp V (cdT Ev) mx d 134 49 ls ((.int (6)) :: st) h Q := x_push (v := (.int (6))) (len := 2) rfl
theorem s_134_49 {x z : Int32} : wp V (cdT Ev) mx d 134 49 ls (.int z :: .int x :: st) h Q = (if ¬ x = z then wp V (cdT Ev) mx d 134 55 ls st h Q else wp V (cdT Ev) mx d 134 52 ls st h Q) := x_if2 (c := fun x z => ¬ x = z) rfl
theorem s_134_52 : wp V (cdT Ev) mx d 134 52 ls st h Q = wp V (cdT Ev) mx d 134 54 ls ((.int (-4)) :: st) h Q := x_push (v := (.int (-4))) (len := 2) rfl
theorem s_134_54 {x : Int32} : wp V (cdT Ev) mx d 134 54 ls [.int x] h Q = Q (some (.int x)) h := x_ret rfl rfl
theorem s_134_55 : wp V (cdT Ev) mx d 134 55 ls st h Q = wp V (cdT Ev) mx d 134 56 ls ((.int (0)) :: st) h Q := x_push (v := (.int (0))) (len := 1) rfl
theorem s_134_56 {x : Int32} (hn : nl l4 = true) : wp V (cdT Ev) mx d 134 56 [l0, l1, l2, l3, l4, l5] (.int x :: st) h Q = wp V (cdT Ev) mx d 134 58 [l0, l1, l2, l3, l4, some (.int x)] st h Q := x_istore (len := 2) rfl (Nat.le_of_ble_eq_true rfl) (okp_nl rfl hn) rfl
theorem s_134_58 {x : Int32} : wp V (cdT Ev) mx d 134 58 [l0, l1, l2, l3, l4, some (.int x)] st h Q = wp V (cdT Ev) mx d 134 60 [l0, l1, l2, l3, l4, some (.int x)] (.int x :: st) h Q := x_iload (len := 2) rfl rfl
theorem s_134_60 : wp V (cdT Ev) mx d 134 60 ls st h Q = wp V (cdT Ev) mx d 134 62 ls ((.int (9)) :: st) h Q := x_push (v := (.int (9))) (len := 2) rfl
theorem s_134_62 {x z : Int32} : wp V (cdT Ev) mx d 134 62 ls (.int z :: .int x :: st) h Q = (if z ≤ x then wp V (cdT Ev) mx d 134 81 ls st h Q else wp V (cdT Ev) mx d 134 65 ls st h Q) := x_if2 (c := fun x z => z ≤ x) rfl
theorem s_134_65 {a : Nat} : wp V (cdT Ev) mx d 134 65 [some (.ref a), l1, l2, l3, l4, l5] st h Q = wp V (cdT Ev) mx d 134 66 [some (.ref a), l1, l2, l3, l4, l5] (.ref a :: st) h Q := x_aload (len := 1) rfl rfl
theorem s_134_65_n : wp V (cdT Ev) mx d 134 65 [some .null, l1, l2, l3, l4, l5] st h Q = wp V (cdT Ev) mx d 134 66 [some .null, l1, l2, l3, l4, l5] (.null :: st) h Q := x_aloadN (len := 1) rfl rfl
theorem s_134_66 {x : Int32} : wp V (cdT Ev) mx d 134 66 [l0, l1, l2, l3, some (.int x), l5] st h Q = wp V (cdT Ev) mx d 134 68 [l0, l1, l2, l3, some (.int x), l5] (.int x :: st) h Q := x_iload (len := 2) rfl rfl
theorem s_134_68 {x : Int32} : wp V (cdT Ev) mx d 134 68 [l0, l1, l2, l3, l4, some (.int x)] st h Q = wp V (cdT Ev) mx d 134 70 [l0, l1, l2, l3, l4, some (.int x)] (.int x :: st) h Q := x_iload (len := 2) rfl rfl
theorem s_134_70 : wp V (cdT Ev) mx d 134 70 ls st h Q = wp V (cdT Ev) mx d 134 71 ls ((.int (0)) :: st) h Q := x_push (v := (.int (0))) (len := 1) rfl
theorem s_134_71 {b : Nat} {v0 v1 v2 : Value} (hst : st.length ≤ 4) : wp V (cdT Ev) mx d 134 71 ls (v2 :: v1 :: v0 :: .ref b :: st) h Q = cv [(12, 133)] h b (fun y' => WP V (cdT Ev) mx d y' [.ref b, v0, v1, v2] h (fun r h' => wp V (cdT Ev) mx d 134 74 ls (rts r st) h' Q)) := x_cv (sg := [v2, v1, v0]) rfl hst rfl rfl
theorem s_134_74 {a : Nat} : wp V (cdT Ev) mx d 134 74 ls (.ref a :: st) h Q = wp V (cdT Ev) mx d 134 75 ls st h Q := x_pop rfl rfl
theorem s_134_74_i {x : Int32} : wp V (cdT Ev) mx d 134 74 ls (.int x :: st) h Q = wp V (cdT Ev) mx d 134 75 ls st h Q := x_pop rfl rfl
theorem s_134_75 {x : Int32} : wp V (cdT Ev) mx d 134 75 [l0, l1, l2, l3, l4, some (.int x)] st h Q = wp V (cdT Ev) mx d 134 78 [l0, l1, l2, l3, l4, some (.int (x + (1)))] st h Q := x_iinc rfl rfl rfl
theorem s_134_78 : wp V (cdT Ev) mx d 134 78 ls st h Q = wp V (cdT Ev) mx d 134 58 ls st h Q := x_goto rfl
theorem s_134_81 {a : Nat} : wp V (cdT Ev) mx d 134 81 [some (.ref a), l1, l2, l3, l4, l5] st h Q = wp V (cdT Ev) mx d 134 82 [some (.ref a), l1, l2, l3, l4, l5] (.ref a :: st) h Q := x_aload (len := 1) rfl rfl
theorem s_134_81_n : wp V (cdT Ev) mx d 134 81 [some .null, l1, l2, l3, l4, l5] st h Q = wp V (cdT Ev) mx d 134 82 [some .null, l1, l2, l3, l4, l5] (.null :: st) h Q := x_aloadN (len := 1) rfl rfl
theorem s_134_82 {x : Int32} : wp V (cdT Ev) mx d 134 82 [l0, l1, l2, l3, some (.int x), l5] st h Q = wp V (cdT Ev) mx d 134 84 [l0, l1, l2, l3, some (.int x), l5] (.int x :: st) h Q := x_iload (len := 2) rfl rfl
theorem s_134_84 : wp V (cdT Ev) mx d 134 84 ls st h Q = wp V (cdT Ev) mx d 134 85 ls ((.int (0)) :: st) h Q := x_push (v := (.int (0))) (len := 1) rfl
theorem s_134_85 {x : Int32} : wp V (cdT Ev) mx d 134 85 [l0, some (.int x), l2, l3, l4, l5] st h Q = wp V (cdT Ev) mx d 134 86 [l0, some (.int x), l2, l3, l4, l5] (.int x :: st) h Q := x_iload (len := 1) rfl rfl
theorem s_134_86 {b : Nat} {v0 v1 v2 : Value} (hst : st.length ≤ 4) : wp V (cdT Ev) mx d 134 86 ls (v2 :: v1 :: v0 :: .ref b :: st) h Q = cv [(12, 133)] h b (fun y' => WP V (cdT Ev) mx d y' [.ref b, v0, v1, v2] h (fun r h' => wp V (cdT Ev) mx d 134 89 ls (rts r st) h' Q)) := x_cv (sg := [v2, v1, v0]) rfl hst rfl rfl
theorem s_134_89 {a : Nat} : wp V (cdT Ev) mx d 134 89 ls (.ref a :: st) h Q = wp V (cdT Ev) mx d 134 90 ls st h Q := x_pop rfl rfl
theorem s_134_89_i {x : Int32} : wp V (cdT Ev) mx d 134 89 ls (.int x :: st) h Q = wp V (cdT Ev) mx d 134 90 ls st h Q := x_pop rfl rfl
theorem s_134_90 {a : Nat} : wp V (cdT Ev) mx d 134 90 [some (.ref a), l1, l2, l3, l4, l5] st h Q = wp V (cdT Ev) mx d 134 91 [some (.ref a), l1, l2, l3, l4, l5] (.ref a :: st) h Q := x_aload (len := 1) rfl rfl
theorem s_134_90_n : wp V (cdT Ev) mx d 134 90 [some .null, l1, l2, l3, l4, l5] st h Q = wp V (cdT Ev) mx d 134 91 [some .null, l1, l2, l3, l4, l5] (.null :: st) h Q := x_aloadN (len := 1) rfl rfl
theorem s_134_91 {x : Int32} : wp V (cdT Ev) mx d 134 91 [l0, l1, l2, l3, some (.int x), l5] st h Q = wp V (cdT Ev) mx d 134 93 [l0, l1, l2, l3, some (.int x), l5] (.int x :: st) h Q := x_iload (len := 2) rfl rfl
theorem s_134_93 : wp V (cdT Ev) mx d 134 93 ls st h Q = wp V (cdT Ev) mx d 134 94 ls ((.int (1)) :: st) h Q := x_push (v := (.int (1))) (len := 1) rfl
theorem s_134_94 {x : Int32} : wp V (cdT Ev) mx d 134 94 [l0, l1, some (.int x), l3, l4, l5] st h Q = wp V (cdT Ev) mx d 134 95 [l0, l1, some (.int x), l3, l4, l5] (.int x :: st) h Q := x_iload (len := 1) rfl rfl
theorem s_134_95 {b : Nat} {v0 v1 v2 : Value} (hst : st.length ≤ 4) : wp V (cdT Ev) mx d 134 95 ls (v2 :: v1 :: v0 :: .ref b :: st) h Q = cv [(12, 133)] h b (fun y' => WP V (cdT Ev) mx d y' [.ref b, v0, v1, v2] h (fun r h' => wp V (cdT Ev) mx d 134 98 ls (rts r st) h' Q)) := x_cv (sg := [v2, v1, v0]) rfl hst rfl rfl
theorem s_134_98 {a : Nat} : wp V (cdT Ev) mx d 134 98 ls (.ref a :: st) h Q = wp V (cdT Ev) mx d 134 99 ls st h Q := x_pop rfl rfl
theorem s_134_98_i {x : Int32} : wp V (cdT Ev) mx d 134 98 ls (.int x :: st) h Q = wp V (cdT Ev) mx d 134 99 ls st h Q := x_pop rfl rfl
theorem s_134_99 {a : Nat} : wp V (cdT Ev) mx d 134 99 [some (.ref a), l1, l2, l3, l4, l5] st h Q = wp V (cdT Ev) mx d 134 100 [some (.ref a), l1, l2, l3, l4, l5] (.ref a :: st) h Q := x_aload (len := 1) rfl rfl
theorem s_134_99_n : wp V (cdT Ev) mx d 134 99 [some .null, l1, l2, l3, l4, l5] st h Q = wp V (cdT Ev) mx d 134 100 [some .null, l1, l2, l3, l4, l5] (.null :: st) h Q := x_aloadN (len := 1) rfl rfl
theorem s_134_100 {x : Int32} : wp V (cdT Ev) mx d 134 100 [l0, l1, l2, l3, some (.int x), l5] st h Q = wp V (cdT Ev) mx d 134 102 [l0, l1, l2, l3, some (.int x), l5] (.int x :: st) h Q := x_iload (len := 2) rfl rfl
theorem s_134_102 : wp V (cdT Ev) mx d 134 102 ls st h Q = wp V (cdT Ev) mx d 134 103 ls ((.int (2)) :: st) h Q := x_push (v := (.int (2))) (len := 1) rfl
theorem s_134_103 {x : Int32} : wp V (cdT Ev) mx d 134 103 [l0, l1, l2, some (.int x), l4, l5] st h Q = wp V (cdT Ev) mx d 134 104 [l0, l1, l2, some (.int x), l4, l5] (.int x :: st) h Q := x_iload (len := 1) rfl rfl
theorem s_134_104 {b : Nat} {v0 v1 v2 : Value} (hst : st.length ≤ 4) : wp V (cdT Ev) mx d 134 104 ls (v2 :: v1 :: v0 :: .ref b :: st) h Q = cv [(12, 133)] h b (fun y' => WP V (cdT Ev) mx d y' [.ref b, v0, v1, v2] h (fun r h' => wp V (cdT Ev) mx d 134 107 ls (rts r st) h' Q)) := x_cv (sg := [v2, v1, v0]) rfl hst rfl rfl
theorem s_134_107 {a : Nat} : wp V (cdT Ev) mx d 134 107 ls (.ref a :: st) h Q = wp V (cdT Ev) mx d 134 108 ls st h Q := x_pop rfl rfl
theorem s_134_107_i {x : Int32} : wp V (cdT Ev) mx d 134 107 ls (.int x :: st) h Q = wp V (cdT Ev) mx d 134 108 ls st h Q := x_pop rfl rfl
theorem s_134_108 {a : Nat} : wp V (cdT Ev) mx d 134 108 [some (.ref a), l1, l2, l3, l4, l5] st h Q = wp V (cdT Ev) mx d 134 109 [some (.ref a), l1, l2, l3, l4, l5] (.ref a :: st) h Q := x_aload (len := 1) rfl rfl
theorem s_134_108_n : wp V (cdT Ev) mx d 134 108 [some .null, l1, l2, l3, l4, l5] st h Q = wp V (cdT Ev) mx d 134 109 [some .null, l1, l2, l3, l4, l5] (.null :: st) h Q := x_aloadN (len := 1) rfl rfl
theorem s_134_109 {a : Nat} : wp V (cdT Ev) mx d 134 109 ls (.ref a :: st) h Q = gf [12] 0 h a (fun v => wp V (cdT Ev) mx d 134 112 ls (v :: st) h Q) := x_getf rfl
theorem s_134_112 : wp V (cdT Ev) mx d 134 112 ls st h Q = wp V (cdT Ev) mx d 134 114 ls ((.int (68)) :: st) h Q := x_push (v := (.int (68))) (len := 2) rfl
theorem s_134_114 {x : Int32} {a : Nat} : wp V (cdT Ev) mx d 134 114 ls (.int x :: .ref a :: st) h Q = wp V (cdT Ev) mx d 134 115 ls (.int x :: .ref a :: .int x :: .ref a :: st) h Q := x_dup2 rfl rfl rfl
theorem s_134_115 {i : Int32} {a : Nat} : wp V (cdT Ev) mx d 134 115 ls (.int i :: .ref a :: st) h Q = ai 2 i V h a (fun x => wp V (cdT Ev) mx d 134 116 ls (.int x :: st) h Q) := x_iald rfl
theorem s_134_116 : wp V (cdT Ev) mx d 134 116 ls st h Q = wp V (cdT Ev) mx d 134 117 ls ((.int (1)) :: st) h Q := x_push (v := (.int (1))) (len := 1) rfl
theorem s_134_117 {x z : Int32} : wp V (cdT Ev) mx d 134 117 ls (.int z :: .int x :: st) h Q = wp V (cdT Ev) mx d 134 118 ls (.int (x + z) :: st) h Q := x_ib (f := fun x z => x + z) rfl
theorem s_134_118 {x i : Int32} {a : Nat} : wp V (cdT Ev) mx d 134 118 ls (.int x :: .int i :: .ref a :: st) h Q = si 2 i (x) h a (fun hh => wp V (cdT Ev) mx d 134 119 ls st hh Q) := x_iast (nw := fun x => x) rfl
theorem s_134_119 {x : Int32} : wp V (cdT Ev) mx d 134 119 [l0, l1, l2, l3, some (.int x), l5] st h Q = wp V (cdT Ev) mx d 134 121 [l0, l1, l2, l3, some (.int x), l5] (.int x :: st) h Q := x_iload (len := 2) rfl rfl
theorem s_134_121 {x : Int32} : wp V (cdT Ev) mx d 134 121 ls [.int x] h Q = Q (some (.int x)) h := x_ret rfl rfl
theorem e_134 {a : Nat} {p0 : Int32} {p1 : Int32} {p2 : Int32} : WP V (cdT Ev) mx (d + 1) 134 [.ref a, .int p0, .int p1, .int p2] h Q = wp V (cdT Ev) mx d 134 0 [some (.ref a), some (.int p0), some (.int p1), some (.int p2), none, none] [] h Q := propext (WP_eq (Nat.le_of_ble_eq_true rfl))
theorem s_135_0 {a : Nat} : wp V (cdT Ev) mx d 135 0 [some (.ref a), l1, l2] st h Q = wp V (cdT Ev) mx d 135 1 [some (.ref a), l1, l2] (.ref a :: st) h Q := x_aload (len := 1) rfl rfl
theorem s_135_0_n : wp V (cdT Ev) mx d 135 0 [some .null, l1, l2] st h Q = wp V (cdT Ev) mx d 135 1 [some .null, l1, l2] (.null :: st) h Q := x_aloadN (len := 1) rfl rfl
theorem s_135_1 {x : Int32} : wp V (cdT Ev) mx d 135 1 [l0, some (.int x), l2] st h Q = wp V (cdT Ev) mx d 135 2 [l0, some (.int x), l2] (.int x :: st) h Q := x_iload (len := 1) rfl rfl
theorem s_135_2 {b : Nat} {v0 : Value} (hst : st.length ≤ 4) : wp V (cdT Ev) mx d 135 2 ls (v0 :: .ref b :: st) h Q = cv [(12, 128)] h b (fun y' => WP V (cdT Ev) mx d y' [.ref b, v0] h (fun r h' => wp V (cdT Ev) mx d 135 5 ls (rts r st) h' Q)) := x_cv (sg := [v0]) rfl hst rfl rfl
theorem s_135_5 {x : Int32} : wp V (cdT Ev) mx d 135 5 ls (.int x :: st) h Q = (if ¬ x = 0 then wp V (cdT Ev) mx d 135 10 ls st h Q else wp V (cdT Ev) mx d 135 8 ls st h Q) := x_if1 (c := fun x => ¬ x = 0) rfl
theorem s_135_8 : wp V (cdT Ev) mx d 135 8 ls st h Q = wp V (cdT Ev) mx d 135 9 ls ((.int (-1)) :: st) h Q := x_push (v := (.int (-1))) (len := 1) rfl
theorem s_135_9 {x : Int32} : wp V (cdT Ev) mx d 135 9 ls [.int x] h Q = Q (some (.int x)) h := x_ret rfl rfl
theorem s_135_10 {x : Int32} : wp V (cdT Ev) mx d 135 10 [l0, l1, some (.int x)] st h Q = wp V (cdT Ev) mx d 135 11 [l0, l1, some (.int x)] (.int x :: st) h Q := x_iload (len := 1) rfl rfl
theorem s_135_11 {x : Int32} : wp V (cdT Ev) mx d 135 11 ls (.int x :: st) h Q = (if x = 5 then wp V (cdT Ev) mx d 135 40 ls st h Q else (if x = 6 then wp V (cdT Ev) mx d 135 49 ls st h Q else (if x = 7 then wp V (cdT Ev) mx d 135 55 ls st h Q else (if x = 8 then wp V (cdT Ev) mx d 135 62 ls st h Q else wp V (cdT Ev) mx d 135 69 ls st h Q)))) := x_sw (t := 69) (l := [(5, 40), (6, 49), (7, 55), (8, 62)]) rfl
theorem s_135_40 {a : Nat} : wp V (cdT Ev) mx d 135 40 [some (.ref a), l1, l2] st h Q = wp V (cdT Ev) mx d 135 41 [some (.ref a), l1, l2] (.ref a :: st) h Q := x_aload (len := 1) rfl rfl
theorem s_135_40_n : wp V (cdT Ev) mx d 135 40 [some .null, l1, l2] st h Q = wp V (cdT Ev) mx d 135 41 [some .null, l1, l2] (.null :: st) h Q := x_aloadN (len := 1) rfl rfl
theorem s_135_41 {x : Int32} : wp V (cdT Ev) mx d 135 41 [l0, some (.int x), l2] st h Q = wp V (cdT Ev) mx d 135 42 [l0, some (.int x), l2] (.int x :: st) h Q := x_iload (len := 1) rfl rfl
theorem s_135_42 {b : Nat} {v0 : Value} (hst : st.length ≤ 4) : wp V (cdT Ev) mx d 135 42 ls (v0 :: .ref b :: st) h Q = cv [(12, 157)] h b (fun y' => WP V (cdT Ev) mx d y' [.ref b, v0] h (fun r h' => wp V (cdT Ev) mx d 135 45 ls (rts r st) h' Q)) := x_cv (sg := [v0]) rfl hst rfl rfl
theorem s_135_45 {v0 : Value} (hst : st.length ≤ 4) : wp V (cdT Ev) mx d 135 45 ls (v0 :: st) h Q = WP V (cdT Ev) mx d 130 [v0] h (fun r h' => wp V (cdT Ev) mx d 135 48 ls (rts r st) h' Q) := x_cs (sg := [v0]) rfl hst rfl rfl
theorem s_135_48 {x : Int32} : wp V (cdT Ev) mx d 135 48 ls [.int x] h Q = Q (some (.int x)) h := x_ret rfl rfl
theorem s_135_49 {a : Nat} : wp V (cdT Ev) mx d 135 49 [some (.ref a), l1, l2] st h Q = wp V (cdT Ev) mx d 135 50 [some (.ref a), l1, l2] (.ref a :: st) h Q := x_aload (len := 1) rfl rfl
theorem s_135_49_n : wp V (cdT Ev) mx d 135 49 [some .null, l1, l2] st h Q = wp V (cdT Ev) mx d 135 50 [some .null, l1, l2] (.null :: st) h Q := x_aloadN (len := 1) rfl rfl
theorem s_135_50 {x : Int32} : wp V (cdT Ev) mx d 135 50 [l0, some (.int x), l2] st h Q = wp V (cdT Ev) mx d 135 51 [l0, some (.int x), l2] (.int x :: st) h Q := x_iload (len := 1) rfl rfl
theorem s_135_51 {b : Nat} {v0 : Value} (hst : st.length ≤ 4) : wp V (cdT Ev) mx d 135 51 ls (v0 :: .ref b :: st) h Q = cv [(12, 165)] h b (fun y' => WP V (cdT Ev) mx d y' [.ref b, v0] h (fun r h' => wp V (cdT Ev) mx d 135 54 ls (rts r st) h' Q)) := x_cv (sg := [v0]) rfl hst rfl rfl
theorem s_135_54 {x : Int32} : wp V (cdT Ev) mx d 135 54 ls [.int x] h Q = Q (some (.int x)) h := x_ret rfl rfl
theorem s_135_55 {a : Nat} : wp V (cdT Ev) mx d 135 55 [some (.ref a), l1, l2] st h Q = wp V (cdT Ev) mx d 135 56 [some (.ref a), l1, l2] (.ref a :: st) h Q := x_aload (len := 1) rfl rfl
theorem s_135_55_n : wp V (cdT Ev) mx d 135 55 [some .null, l1, l2] st h Q = wp V (cdT Ev) mx d 135 56 [some .null, l1, l2] (.null :: st) h Q := x_aloadN (len := 1) rfl rfl
theorem s_135_56 {x : Int32} : wp V (cdT Ev) mx d 135 56 [l0, some (.int x), l2] st h Q = wp V (cdT Ev) mx d 135 57 [l0, some (.int x), l2] (.int x :: st) h Q := x_iload (len := 1) rfl rfl
theorem s_135_57 : wp V (cdT Ev) mx d 135 57 ls st h Q = wp V (cdT Ev) mx d 135 58 ls ((.int (1)) :: st) h Q := x_push (v := (.int (1))) (len := 1) rfl
theorem s_135_58 {b : Nat} {v0 v1 : Value} (hst : st.length ≤ 4) : wp V (cdT Ev) mx d 135 58 ls (v1 :: v0 :: .ref b :: st) h Q = cv [(12, 172)] h b (fun y' => WP V (cdT Ev) mx d y' [.ref b, v0, v1] h (fun r h' => wp V (cdT Ev) mx d 135 61 ls (rts r st) h' Q)) := x_cv (sg := [v1, v0]) rfl hst rfl rfl
theorem s_135_61 {x : Int32} : wp V (cdT Ev) mx d 135 61 ls [.int x] h Q = Q (some (.int x)) h := x_ret rfl rfl
theorem s_135_62 {a : Nat} : wp V (cdT Ev) mx d 135 62 [some (.ref a), l1, l2] st h Q = wp V (cdT Ev) mx d 135 63 [some (.ref a), l1, l2] (.ref a :: st) h Q := x_aload (len := 1) rfl rfl
theorem s_135_62_n : wp V (cdT Ev) mx d 135 62 [some .null, l1, l2] st h Q = wp V (cdT Ev) mx d 135 63 [some .null, l1, l2] (.null :: st) h Q := x_aloadN (len := 1) rfl rfl
theorem s_135_63 {x : Int32} : wp V (cdT Ev) mx d 135 63 [l0, some (.int x), l2] st h Q = wp V (cdT Ev) mx d 135 64 [l0, some (.int x), l2] (.int x :: st) h Q := x_iload (len := 1) rfl rfl
theorem s_135_64 : wp V (cdT Ev) mx d 135 64 ls st h Q = wp V (cdT Ev) mx d 135 65 ls ((.int (0)) :: st) h Q := x_push (v := (.int (0))) (len := 1) rfl
theorem s_135_65 {b : Nat} {v0 v1 : Value} (hst : st.length ≤ 4) : wp V (cdT Ev) mx d 135 65 ls (v1 :: v0 :: .ref b :: st) h Q = cv [(12, 172)] h b (fun y' => WP V (cdT Ev) mx d y' [.ref b, v0, v1] h (fun r h' => wp V (cdT Ev) mx d 135 68 ls (rts r st) h' Q)) := x_cv (sg := [v1, v0]) rfl hst rfl rfl
theorem s_135_68 {x : Int32} : wp V (cdT Ev) mx d 135 68 ls [.int x] h Q = Q (some (.int x)) h := x_ret rfl rfl
theorem s_135_69 {x : Int32} : wp V (cdT Ev) mx d 135 69 [l0, l1, some (.int x)] st h Q = wp V (cdT Ev) mx d 135 70 [l0, l1, some (.int x)] (.int x :: st) h Q := x_iload (len := 1) rfl rfl
theorem s_135_70 : wp V (cdT Ev) mx d 135 70 ls st h Q = wp V (cdT Ev) mx d 135 71 ls ((.int (0)) :: st) h Q := x_push (v := (.int (0))) (len := 1) rfl
theorem s_135_71 : wp V (cdT Ev) mx d 135 71 ls st h Q = wp V (cdT Ev) mx d 135 72 ls ((.int (4)) :: st) h Q := x_push (v := (.int (4))) (len := 1) rfl
theorem s_135_72 {v0 v1 v2 : Value} (hst : st.length ≤ 4) : wp V (cdT Ev) mx d 135 72 ls (v2 :: v1 :: v0 :: st) h Q = WP V (cdT Ev) mx d 123 [v0, v1, v2] h (fun r h' => wp V (cdT Ev) mx d 135 75 ls (rts r st) h' Q) := x_cs (sg := [v2, v1, v0]) rfl hst rfl rfl
theorem s_135_75 {x : Int32} : wp V (cdT Ev) mx d 135 75 ls (.int x :: st) h Q = (if x = 0 then wp V (cdT Ev) mx d 135 87 ls st h Q else wp V (cdT Ev) mx d 135 78 ls st h Q) := x_if1 (c := fun x => x = 0) rfl
theorem s_135_78 {a : Nat} : wp V (cdT Ev) mx d 135 78 [some (.ref a), l1, l2] st h Q = wp V (cdT Ev) mx d 135 79 [some (.ref a), l1, l2] (.ref a :: st) h Q := x_aload (len := 1) rfl rfl
theorem s_135_78_n : wp V (cdT Ev) mx d 135 78 [some .null, l1, l2] st h Q = wp V (cdT Ev) mx d 135 79 [some .null, l1, l2] (.null :: st) h Q := x_aloadN (len := 1) rfl rfl
theorem s_135_79 {x : Int32} : wp V (cdT Ev) mx d 135 79 [l0, some (.int x), l2] st h Q = wp V (cdT Ev) mx d 135 80 [l0, some (.int x), l2] (.int x :: st) h Q := x_iload (len := 1) rfl rfl
theorem s_135_80 {x : Int32} : wp V (cdT Ev) mx d 135 80 [l0, l1, some (.int x)] st h Q = wp V (cdT Ev) mx d 135 81 [l0, l1, some (.int x)] (.int x :: st) h Q := x_iload (len := 1) rfl rfl
theorem s_135_81 {b : Nat} {v0 v1 : Value} (hst : st.length ≤ 4) : wp V (cdT Ev) mx d 135 81 ls (v1 :: v0 :: .ref b :: st) h Q = cv [(12, 132)] h b (fun y' => WP V (cdT Ev) mx d y' [.ref b, v0, v1] h (fun r h' => wp V (cdT Ev) mx d 135 84 ls (rts r st) h' Q)) := x_cv (sg := [v1, v0]) rfl hst rfl rfl
theorem s_135_84 : wp V (cdT Ev) mx d 135 84 ls st h Q = wp V (cdT Ev) mx d 135 88 ls st h Q := x_goto rfl
theorem s_135_87 : wp V (cdT Ev) mx d 135 87 ls st h Q = wp V (cdT Ev) mx d 135 88 ls ((.int (-1)) :: st) h Q := x_push (v := (.int (-1))) (len := 1) rfl
theorem s_135_88 {x : Int32} : wp V (cdT Ev) mx d 135 88 ls [.int x] h Q = Q (some (.int x)) h := x_ret rfl rfl
theorem e_135 {a : Nat} {p0 : Int32} {p1 : Int32} : WP V (cdT Ev) mx (d + 1) 135 [.ref a, .int p0, .int p1] h Q = wp V (cdT Ev) mx d 135 0 [some (.ref a), some (.int p0), some (.int p1)] [] h Q := propext (WP_eq (Nat.le_of_ble_eq_true rfl))
theorem s_136_0 {a : Nat} : wp V (cdT Ev) mx d 136 0 [some (.ref a), l1, l2] st h Q = wp V (cdT Ev) mx d 136 1 [some (.ref a), l1, l2] (.ref a :: st) h Q := x_aload (len := 1) rfl rfl
theorem s_136_0_n : wp V (cdT Ev) mx d 136 0 [some .null, l1, l2] st h Q = wp V (cdT Ev) mx d 136 1 [some .null, l1, l2] (.null :: st) h Q := x_aloadN (len := 1) rfl rfl
theorem s_136_1 {x : Int32} : wp V (cdT Ev) mx d 136 1 [l0, some (.int x), l2] st h Q = wp V (cdT Ev) mx d 136 2 [l0, some (.int x), l2] (.int x :: st) h Q := x_iload (len := 1) rfl rfl
theorem s_136_2 {b : Nat} {v0 : Value} (hst : st.length ≤ 4) : wp V (cdT Ev) mx d 136 2 ls (v0 :: .ref b :: st) h Q = cv [(12, 128)] h b (fun y' => WP V (cdT Ev) mx d y' [.ref b, v0] h (fun r h' => wp V (cdT Ev) mx d 136 5 ls (rts r st) h' Q)) := x_cv (sg := [v0]) rfl hst rfl rfl
theorem s_136_5 {x : Int32} : wp V (cdT Ev) mx d 136 5 ls (.int x :: st) h Q = (if x = 0 then wp V (cdT Ev) mx d 136 15 ls st h Q else wp V (cdT Ev) mx d 136 8 ls st h Q) := x_if1 (c := fun x => x = 0) rfl
theorem s_136_8 {x : Int32} : wp V (cdT Ev) mx d 136 8 [l0, l1, some (.int x)] st h Q = wp V (cdT Ev) mx d 136 9 [l0, l1, some (.int x)] (.int x :: st) h Q := x_iload (len := 1) rfl rfl
theorem s_136_9 {v0 : Value} (hst : st.length ≤ 4) : wp V (cdT Ev) mx d 136 9 ls (v0 :: st) h Q = WP V (cdT Ev) mx d 129 [v0] h (fun r h' => wp V (cdT Ev) mx d 136 12 ls (rts r st) h' Q) := x_cs (sg := [v0]) rfl hst rfl rfl
theorem s_136_12 {x : Int32} : wp V (cdT Ev) mx d 136 12 ls (.int x :: st) h Q = (if ¬ x = 0 then wp V (cdT Ev) mx d 136 19 ls st h Q else wp V (cdT Ev) mx d 136 15 ls st h Q) := x_if1 (c := fun x => ¬ x = 0) rfl
theorem s_136_15 : wp V (cdT Ev) mx d 136 15 ls st h Q = wp V (cdT Ev) mx d 136 18 ls ((.int (-10001)) :: st) h Q := x_push (v := (.int (-10001))) (len := 3) rfl
theorem s_136_18 {x : Int32} : wp V (cdT Ev) mx d 136 18 ls [.int x] h Q = Q (some (.int x)) h := x_ret rfl rfl
theorem s_136_19 {a : Nat} : wp V (cdT Ev) mx d 136 19 [some (.ref a), l1, l2] st h Q = wp V (cdT Ev) mx d 136 20 [some (.ref a), l1, l2] (.ref a :: st) h Q := x_aload (len := 1) rfl rfl
theorem s_136_19_n : wp V (cdT Ev) mx d 136 19 [some .null, l1, l2] st h Q = wp V (cdT Ev) mx d 136 20 [some .null, l1, l2] (.null :: st) h Q := x_aloadN (len := 1) rfl rfl
theorem s_136_20 {x : Int32} : wp V (cdT Ev) mx d 136 20 [l0, some (.int x), l2] st h Q = wp V (cdT Ev) mx d 136 21 [l0, some (.int x), l2] (.int x :: st) h Q := x_iload (len := 1) rfl rfl
theorem s_136_21 {x : Int32} : wp V (cdT Ev) mx d 136 21 [l0, l1, some (.int x)] st h Q = wp V (cdT Ev) mx d 136 22 [l0, l1, some (.int x)] (.int x :: st) h Q := x_iload (len := 1) rfl rfl
theorem s_136_22 {b : Nat} {v0 v1 : Value} (hst : st.length ≤ 4) : wp V (cdT Ev) mx d 136 22 ls (v1 :: v0 :: .ref b :: st) h Q = cv [(12, 152)] h b (fun y' => WP V (cdT Ev) mx d y' [.ref b, v0, v1] h (fun r h' => wp V (cdT Ev) mx d 136 25 ls (rts r st) h' Q)) := x_cv (sg := [v1, v0]) rfl hst rfl rfl
theorem s_136_25 {a : Nat} : wp V (cdT Ev) mx d 136 25 [some (.ref a), l1, l2] st h Q = wp V (cdT Ev) mx d 136 26 [some (.ref a), l1, l2] (.ref a :: st) h Q := x_aload (len := 1) rfl rfl
theorem s_136_25_n : wp V (cdT Ev) mx d 136 25 [some .null, l1, l2] st h Q = wp V (cdT Ev) mx d 136 26 [some .null, l1, l2] (.null :: st) h Q := x_aloadN (len := 1) rfl rfl
theorem s_136_26 {x : Int32} : wp V (cdT Ev) mx d 136 26 [l0, some (.int x), l2] st h Q = wp V (cdT Ev) mx d 136 27 [l0, some (.int x), l2] (.int x :: st) h Q := x_iload (len := 1) rfl rfl
theorem s_136_27 {x : Int32} : wp V (cdT Ev) mx d 136 27 [l0, l1, some (.int x)] st h Q = wp V (cdT Ev) mx d 136 28 [l0, l1, some (.int x)] (.int x :: st) h Q := x_iload (len := 1) rfl rfl
theorem s_136_28 {a : Nat} : wp V (cdT Ev) mx d 136 28 [some (.ref a), l1, l2] st h Q = wp V (cdT Ev) mx d 136 29 [some (.ref a), l1, l2] (.ref a :: st) h Q := x_aload (len := 1) rfl rfl
theorem s_136_28_n : wp V (cdT Ev) mx d 136 28 [some .null, l1, l2] st h Q = wp V (cdT Ev) mx d 136 29 [some .null, l1, l2] (.null :: st) h Q := x_aloadN (len := 1) rfl rfl
theorem s_136_29 {a : Nat} : wp V (cdT Ev) mx d 136 29 ls (.ref a :: st) h Q = gf [12] 14 h a (fun v => wp V (cdT Ev) mx d 136 32 ls (v :: st) h Q) := x_getf rfl
theorem s_136_32 {a : Nat} : wp V (cdT Ev) mx d 136 32 [some (.ref a), l1, l2] st h Q = wp V (cdT Ev) mx d 136 33 [some (.ref a), l1, l2] (.ref a :: st) h Q := x_aload (len := 1) rfl rfl
theorem s_136_32_n : wp V (cdT Ev) mx d 136 32 [some .null, l1, l2] st h Q = wp V (cdT Ev) mx d 136 33 [some .null, l1, l2] (.null :: st) h Q := x_aloadN (len := 1) rfl rfl
theorem s_136_33 {x : Int32} : wp V (cdT Ev) mx d 136 33 [l0, some (.int x), l2] st h Q = wp V (cdT Ev) mx d 136 34 [l0, some (.int x), l2] (.int x :: st) h Q := x_iload (len := 1) rfl rfl
theorem s_136_34 : wp V (cdT Ev) mx d 136 34 ls st h Q = wp V (cdT Ev) mx d 136 35 ls ((.int (2)) :: st) h Q := x_push (v := (.int (2))) (len := 1) rfl
theorem s_136_35 {b : Nat} {v0 v1 : Value} (hst : st.length ≤ 4) : wp V (cdT Ev) mx d 136 35 ls (v1 :: v0 :: .ref b :: st) h Q = cv [(12, 132)] h b (fun y' => WP V (cdT Ev) mx d y' [.ref b, v0, v1] h (fun r h' => wp V (cdT Ev) mx d 136 38 ls (rts r st) h' Q)) := x_cv (sg := [v1, v0]) rfl hst rfl rfl
theorem s_136_38 {b : Nat} {v0 v1 v2 v3 : Value} (hst : st.length ≤ 4) : wp V (cdT Ev) mx d 136 38 ls (v3 :: v2 :: v1 :: v0 :: .ref b :: st) h Q = cv [(12, 154)] h b (fun y' => WP V (cdT Ev) mx d y' [.ref b, v0, v1, v2, v3] h (fun r h' => wp V (cdT Ev) mx d 136 41 ls (rts r st) h' Q)) := x_cv (sg := [v3, v2, v1, v0]) rfl hst rfl rfl
theorem s_136_41 {x : Int32} : wp V (cdT Ev) mx d 136 41 ls [.int x] h Q = Q (some (.int x)) h := x_ret rfl rfl
theorem e_136 {a : Nat} {p0 : Int32} {p1 : Int32} : WP V (cdT Ev) mx (d + 1) 136 [.ref a, .int p0, .int p1] h Q = wp V (cdT Ev) mx d 136 0 [some (.ref a), some (.int p0), some (.int p1)] [] h Q := propext (WP_eq (Nat.le_of_ble_eq_true rfl))
theorem s_137_0 {a : Nat} : wp V (cdT Ev) mx d 137 0 [some (.ref a), l1, l2] st h Q = wp V (cdT Ev) mx d 137 1 [some (.ref a), l1, l2] (.ref a :: st) h Q := x_aload (len := 1) rfl rfl
theorem s_137_0_n : wp V (cdT Ev) mx d 137 0 [some .null, l1, l2] st h Q = wp V (cdT Ev) mx d 137 1 [some .null, l1, l2] (.null :: st) h Q := x_aloadN (len := 1) rfl rfl
theorem s_137_1 {x : Int32} : wp V (cdT Ev) mx d 137 1 [l0, some (.int x), l2] st h Q = wp V (cdT Ev) mx d 137 2 [l0, some (.int x), l2] (.int x :: st) h Q := x_iload (len := 1) rfl rfl
theorem s_137_2 {b : Nat} {v0 : Value} (hst : st.length ≤ 4) : wp V (cdT Ev) mx d 137 2 ls (v0 :: .ref b :: st) h Q = cv [(12, 128)] h b (fun y' => WP V (cdT Ev) mx d y' [.ref b, v0] h (fun r h' => wp V (cdT Ev) mx d 137 5 ls (rts r st) h' Q)) := x_cv (sg := [v0]) rfl hst rfl rfl
theorem s_137_5 {x : Int32} : wp V (cdT Ev) mx d 137 5 ls (.int x :: st) h Q = (if ¬ x = 0 then wp V (cdT Ev) mx d 137 10 ls st h Q else wp V (cdT Ev) mx d 137 8 ls st h Q) := x_if1 (c := fun x => ¬ x = 0) rfl
theorem s_137_8 : wp V (cdT Ev) mx d 137 8 ls st h Q = wp V (cdT Ev) mx d 137 9 ls ((.int (-1)) :: st) h Q := x_push (v := (.int (-1))) (len := 1) rfl
theorem s_137_9 {x : Int32} : wp V (cdT Ev) mx d 137 9 ls [.int x] h Q = Q (some (.int x)) h := x_ret rfl rfl
theorem s_137_10 {x : Int32} : wp V (cdT Ev) mx d 137 10 [l0, l1, some (.int x)] st h Q = wp V (cdT Ev) mx d 137 11 [l0, l1, some (.int x)] (.int x :: st) h Q := x_iload (len := 1) rfl rfl
theorem s_137_11 : wp V (cdT Ev) mx d 137 11 ls st h Q = wp V (cdT Ev) mx d 137 12 ls ((.int (0)) :: st) h Q := x_push (v := (.int (0))) (len := 1) rfl
theorem s_137_12 : wp V (cdT Ev) mx d 137 12 ls st h Q = wp V (cdT Ev) mx d 137 15 ls ((.int (4095)) :: st) h Q := x_push (v := (.int (4095))) (len := 3) rfl
theorem s_137_15 {v0 v1 v2 : Value} (hst : st.length ≤ 4) : wp V (cdT Ev) mx d 137 15 ls (v2 :: v1 :: v0 :: st) h Q = WP V (cdT Ev) mx d 123 [v0, v1, v2] h (fun r h' => wp V (cdT Ev) mx d 137 18 ls (rts r st) h' Q) := x_cs (sg := [v2, v1, v0]) rfl hst rfl rfl
theorem s_137_18 {x : Int32} : wp V (cdT Ev) mx d 137 18 ls (.int x :: st) h Q = (if x = 0 then wp V (cdT Ev) mx d 137 31 ls st h Q else wp V (cdT Ev) mx d 137 21 ls st h Q) := x_if1 (c := fun x => x = 0) rfl
theorem s_137_21 {a : Nat} : wp V (cdT Ev) mx d 137 21 [some (.ref a), l1, l2] st h Q = wp V (cdT Ev) mx d 137 22 [some (.ref a), l1, l2] (.ref a :: st) h Q := x_aload (len := 1) rfl rfl
theorem s_137_21_n : wp V (cdT Ev) mx d 137 21 [some .null, l1, l2] st h Q = wp V (cdT Ev) mx d 137 22 [some .null, l1, l2] (.null :: st) h Q := x_aloadN (len := 1) rfl rfl
theorem s_137_22 {x : Int32} : wp V (cdT Ev) mx d 137 22 [l0, some (.int x), l2] st h Q = wp V (cdT Ev) mx d 137 23 [l0, some (.int x), l2] (.int x :: st) h Q := x_iload (len := 1) rfl rfl
theorem s_137_23 : wp V (cdT Ev) mx d 137 23 ls st h Q = wp V (cdT Ev) mx d 137 24 ls ((.int (2)) :: st) h Q := x_push (v := (.int (2))) (len := 1) rfl
theorem s_137_24 {x : Int32} : wp V (cdT Ev) mx d 137 24 [l0, l1, some (.int x)] st h Q = wp V (cdT Ev) mx d 137 25 [l0, l1, some (.int x)] (.int x :: st) h Q := x_iload (len := 1) rfl rfl
theorem s_137_25 {b : Nat} {v0 v1 v2 : Value} (hst : st.length ≤ 4) : wp V (cdT Ev) mx d 137 25 ls (v2 :: v1 :: v0 :: .ref b :: st) h Q = cv [(12, 133)] h b (fun y' => WP V (cdT Ev) mx d y' [.ref b, v0, v1, v2] h (fun r h' => wp V (cdT Ev) mx d 137 28 ls (rts r st) h' Q)) := x_cv (sg := [v2, v1, v0]) rfl hst rfl rfl
theorem s_137_28 : wp V (cdT Ev) mx d 137 28 ls st h Q = wp V (cdT Ev) mx d 137 33 ls st h Q := x_goto rfl
theorem s_137_31 : wp V (cdT Ev) mx d 137 31 ls st h Q = wp V (cdT Ev) mx d 137 33 ls ((.int (-2)) :: st) h Q := x_push (v := (.int (-2))) (len := 2) rfl
theorem s_137_33 {x : Int32} : wp V (cdT Ev) mx d 137 33 ls [.int x] h Q = Q (some (.int x)) h := x_ret rfl rfl
theorem e_137 {a : Nat} {p0 : Int32} {p1 : Int32} : WP V (cdT Ev) mx (d + 1) 137 [.ref a, .int p0, .int p1] h Q = wp V (cdT Ev) mx d 137 0 [some (.ref a), some (.int p0), some (.int p1)] [] h Q := propext (WP_eq (Nat.le_of_ble_eq_true rfl))
theorem s_138_0 {a : Nat} : wp V (cdT Ev) mx d 138 0 [some (.ref a), l1, l2] st h Q = wp V (cdT Ev) mx d 138 1 [some (.ref a), l1, l2] (.ref a :: st) h Q := x_aload (len := 1) rfl rfl
theorem s_138_0_n : wp V (cdT Ev) mx d 138 0 [some .null, l1, l2] st h Q = wp V (cdT Ev) mx d 138 1 [some .null, l1, l2] (.null :: st) h Q := x_aloadN (len := 1) rfl rfl
theorem s_138_1 {x : Int32} : wp V (cdT Ev) mx d 138 1 [l0, some (.int x), l2] st h Q = wp V (cdT Ev) mx d 138 2 [l0, some (.int x), l2] (.int x :: st) h Q := x_iload (len := 1) rfl rfl
theorem s_138_2 {b : Nat} {v0 : Value} (hst : st.length ≤ 4) : wp V (cdT Ev) mx d 138 2 ls (v0 :: .ref b :: st) h Q = cv [(12, 128)] h b (fun y' => WP V (cdT Ev) mx d y' [.ref b, v0] h (fun r h' => wp V (cdT Ev) mx d 138 5 ls (rts r st) h' Q)) := x_cv (sg := [v0]) rfl hst rfl rfl
theorem s_138_5 {x : Int32} : wp V (cdT Ev) mx d 138 5 ls (.int x :: st) h Q = (if x = 0 then wp V (cdT Ev) mx d 138 26 ls st h Q else wp V (cdT Ev) mx d 138 8 ls st h Q) := x_if1 (c := fun x => x = 0) rfl
theorem s_138_8 {a : Nat} : wp V (cdT Ev) mx d 138 8 [some (.ref a), l1, l2] st h Q = wp V (cdT Ev) mx d 138 9 [some (.ref a), l1, l2] (.ref a :: st) h Q := x_aload (len := 1) rfl rfl
theorem s_138_8_n : wp V (cdT Ev) mx d 138 8 [some .null, l1, l2] st h Q = wp V (cdT Ev) mx d 138 9 [some .null, l1, l2] (.null :: st) h Q := x_aloadN (len := 1) rfl rfl
theorem s_138_9 {x : Int32} : wp V (cdT Ev) mx d 138 9 [l0, some (.int x), l2] st h Q = wp V (cdT Ev) mx d 138 10 [l0, some (.int x), l2] (.int x :: st) h Q := x_iload (len := 1) rfl rfl
theorem s_138_10 : wp V (cdT Ev) mx d 138 10 ls st h Q = wp V (cdT Ev) mx d 138 11 ls ((.int (3)) :: st) h Q := x_push (v := (.int (3))) (len := 1) rfl
theorem s_138_11 {x : Int32} : wp V (cdT Ev) mx d 138 11 [l0, l1, some (.int x)] st h Q = wp V (cdT Ev) mx d 138 12 [l0, l1, some (.int x)] (.int x :: st) h Q := x_iload (len := 1) rfl rfl
theorem s_138_12 {x : Int32} : wp V (cdT Ev) mx d 138 12 ls (.int x :: st) h Q = (if x = 0 then wp V (cdT Ev) mx d 138 19 ls st h Q else wp V (cdT Ev) mx d 138 15 ls st h Q) := x_if1 (c := fun x => x = 0) rfl
theorem s_138_15 : wp V (cdT Ev) mx d 138 15 ls st h Q = wp V (cdT Ev) mx d 138 16 ls ((.int (1)) :: st) h Q := x_push (v := (.int (1))) (len := 1) rfl
theorem s_138_16 : wp V (cdT Ev) mx d 138 16 ls st h Q = wp V (cdT Ev) mx d 138 20 ls st h Q := x_goto rfl
theorem s_138_19 : wp V (cdT Ev) mx d 138 19 ls st h Q = wp V (cdT Ev) mx d 138 20 ls ((.int (0)) :: st) h Q := x_push (v := (.int (0))) (len := 1) rfl
theorem s_138_20 {b : Nat} {v0 v1 v2 : Value} (hst : st.length ≤ 4) : wp V (cdT Ev) mx d 138 20 ls (v2 :: v1 :: v0 :: .ref b :: st) h Q = cv [(12, 133)] h b (fun y' => WP V (cdT Ev) mx d y' [.ref b, v0, v1, v2] h (fun r h' => wp V (cdT Ev) mx d 138 23 ls (rts r st) h' Q)) := x_cv (sg := [v2, v1, v0]) rfl hst rfl rfl
theorem s_138_23 : wp V (cdT Ev) mx d 138 23 ls st h Q = wp V (cdT Ev) mx d 138 27 ls st h Q := x_goto rfl
theorem s_138_26 : wp V (cdT Ev) mx d 138 26 ls st h Q = wp V (cdT Ev) mx d 138 27 ls ((.int (-1)) :: st) h Q := x_push (v := (.int (-1))) (len := 1) rfl
theorem s_138_27 {x : Int32} : wp V (cdT Ev) mx d 138 27 ls [.int x] h Q = Q (some (.int x)) h := x_ret rfl rfl
theorem e_138 {a : Nat} {p0 : Int32} {p1 : Int32} : WP V (cdT Ev) mx (d + 1) 138 [.ref a, .int p0, .int p1] h Q = wp V (cdT Ev) mx d 138 0 [some (.ref a), some (.int p0), some (.int p1)] [] h Q := propext (WP_eq (Nat.le_of_ble_eq_true rfl))
theorem s_139_0 {x : Int32} : wp V (cdT Ev) mx d 139 0 [l0, some (.int x), l2, l3] st h Q = wp V (cdT Ev) mx d 139 1 [l0, some (.int x), l2, l3] (.int x :: st) h Q := x_iload (len := 1) rfl rfl
theorem s_139_1 {v0 : Value} (hst : st.length ≤ 4) : wp V (cdT Ev) mx d 139 1 ls (v0 :: st) h Q = WP V (cdT Ev) mx d 129 [v0] h (fun r h' => wp V (cdT Ev) mx d 139 4 ls (rts r st) h' Q) := x_cs (sg := [v0]) rfl hst rfl rfl
theorem s_139_4 {x : Int32} : wp V (cdT Ev) mx d 139 4 ls (.int x :: st) h Q = (if ¬ x = 0 then wp V (cdT Ev) mx d 139 9 ls st h Q else wp V (cdT Ev) mx d 139 7 ls st h Q) := x_if1 (c := fun x => ¬ x = 0) rfl
theorem s_139_7 : wp V (cdT Ev) mx d 139 7 ls st h Q = wp V (cdT Ev) mx d 139 8 ls ((.int (-1)) :: st) h Q := x_push (v := (.int (-1))) (len := 1) rfl
theorem s_139_8 {x : Int32} : wp V (cdT Ev) mx d 139 8 ls [.int x] h Q = Q (some (.int x)) h := x_ret rfl rfl
theorem s_139_9 {x : Int32} : wp V (cdT Ev) mx d 139 9 [l0, l1, some (.int x), l3] st h Q = wp V (cdT Ev) mx d 139 10 [l0, l1, some (.int x), l3] (.int x :: st) h Q := x_iload (len := 1) rfl rfl
theorem s_139_10 : wp V (cdT Ev) mx d 139 10 ls st h Q = wp V (cdT Ev) mx d 139 11 ls ((.int (0)) :: st) h Q := x_push (v := (.int (0))) (len := 1) rfl
theorem s_139_11 : wp V (cdT Ev) mx d 139 11 ls st h Q = wp V (cdT Ev) mx d 139 13 ls ((.int (20)) :: st) h Q := x_push (v := (.int (20))) (len := 2) rfl
theorem s_139_13 {v0 v1 v2 : Value} (hst : st.length ≤ 4) : wp V (cdT Ev) mx d 139 13 ls (v2 :: v1 :: v0 :: st) h Q = WP V (cdT Ev) mx d 123 [v0, v1, v2] h (fun r h' => wp V (cdT Ev) mx d 139 16 ls (rts r st) h' Q) := x_cs (sg := [v2, v1, v0]) rfl hst rfl rfl
theorem s_139_16 {x : Int32} : wp V (cdT Ev) mx d 139 16 ls (.int x :: st) h Q = (if ¬ x = 0 then wp V (cdT Ev) mx d 139 22 ls st h Q else wp V (cdT Ev) mx d 139 19 ls st h Q) := x_if1 (c := fun x => ¬ x = 0) rfl
theorem s_139_19 : wp V (cdT Ev) mx d 139 19 ls st h Q = wp V (cdT Ev) mx d 139 21 ls ((.int (-2)) :: st) h Q := x_push (v := (.int (-2))) (len := 2) rfl
theorem s_139_21 {x : Int32} : wp V (cdT Ev) mx d 139 21 ls [.int x] h Q = Q (some (.int x)) h := x_ret rfl rfl
theorem s_139_22 {a : Nat} : wp V (cdT Ev) mx d 139 22 [some (.ref a), l1, l2, l3] st h Q = wp V (cdT Ev) mx d 139 23 [some (.ref a), l1, l2, l3] (.ref a :: st) h Q := x_aload (len := 1) rfl rfl
theorem s_139_22_n : wp V (cdT Ev) mx d 139 22 [some .null, l1, l2, l3] st h Q = wp V (cdT Ev) mx d 139 23 [some .null, l1, l2, l3] (.null :: st) h Q := x_aloadN (len := 1) rfl rfl
theorem s_139_23 {a : Nat} : wp V (cdT Ev) mx d 139 23 ls (.ref a :: st) h Q = gf [12] 0 h a (fun v => wp V (cdT Ev) mx d 139 26 ls (v :: st) h Q) := x_getf rfl
theorem s_139_26 {x : Int32} : wp V (cdT Ev) mx d 139 26 [l0, some (.int x), l2, l3] st h Q = wp V (cdT Ev) mx d 139 27 [l0, some (.int x), l2, l3] (.int x :: st) h Q := x_iload (len := 1) rfl rfl
theorem s_139_27 {i : Int32} {a : Nat} : wp V (cdT Ev) mx d 139 27 ls (.int i :: .ref a :: st) h Q = ai 2 i V h a (fun x => wp V (cdT Ev) mx d 139 28 ls (.int x :: st) h Q) := x_iald rfl
theorem s_139_28 {x : Int32} (hn : nl l2 = true) : wp V (cdT Ev) mx d 139 28 [l0, l1, l2, l3] (.int x :: st) h Q = wp V (cdT Ev) mx d 139 29 [l0, l1, l2, some (.int x)] st h Q := x_istore (len := 1) rfl (Nat.le_of_ble_eq_true rfl) (okp_nl rfl hn) rfl
theorem s_139_29 {a : Nat} : wp V (cdT Ev) mx d 139 29 [some (.ref a), l1, l2, l3] st h Q = wp V (cdT Ev) mx d 139 30 [some (.ref a), l1, l2, l3] (.ref a :: st) h Q := x_aload (len := 1) rfl rfl
theorem s_139_29_n : wp V (cdT Ev) mx d 139 29 [some .null, l1, l2, l3] st h Q = wp V (cdT Ev) mx d 139 30 [some .null, l1, l2, l3] (.null :: st) h Q := x_aloadN (len := 1) rfl rfl
theorem s_139_30 {a : Nat} : wp V (cdT Ev) mx d 139 30 ls (.ref a :: st) h Q = gf [12] 0 h a (fun v => wp V (cdT Ev) mx d 139 33 ls (v :: st) h Q) := x_getf rfl
theorem s_139_33 {x : Int32} : wp V (cdT Ev) mx d 139 33 [l0, some (.int x), l2, l3] st h Q = wp V (cdT Ev) mx d 139 34 [l0, some (.int x), l2, l3] (.int x :: st) h Q := x_iload (len := 1) rfl rfl
theorem s_139_34 {x : Int32} : wp V (cdT Ev) mx d 139 34 [l0, l1, some (.int x), l3] st h Q = wp V (cdT Ev) mx d 139 35 [l0, l1, some (.int x), l3] (.int x :: st) h Q := x_iload (len := 1) rfl rfl
theorem s_139_35 {x i : Int32} {a : Nat} : wp V (cdT Ev) mx d 139 35 ls (.int x :: .int i :: .ref a :: st) h Q = si 2 i (x) h a (fun hh => wp V (cdT Ev) mx d 139 36 ls st hh Q) := x_iast (nw := fun x => x) rfl
theorem s_139_36 {x : Int32} : wp V (cdT Ev) mx d 139 36 [l0, l1, l2, some (.int x)] st h Q = wp V (cdT Ev) mx d 139 37 [l0, l1, l2, some (.int x)] (.int x :: st) h Q := x_iload (len := 1) rfl rfl
theorem s_139_37 {x : Int32} : wp V (cdT Ev) mx d 139 37 ls [.int x] h Q = Q (some (.int x)) h := x_ret rfl rfl
theorem e_139 {a : Nat} {p0 : Int32} {p1 : Int32} : WP V (cdT Ev) mx (d + 1) 139 [.ref a, .int p0, .int p1] h Q = wp V (cdT Ev) mx d 139 0 [some (.ref a), some (.int p0), some (.int p1), none] [] h Q := propext (WP_eq (Nat.le_of_ble_eq_true rfl))
theorem s_140_0 {a : Nat} : wp V (cdT Ev) mx d 140 0 [some (.ref a), l1, l2, l3] st h Q = wp V (cdT Ev) mx d 140 1 [some (.ref a), l1, l2, l3] (.ref a :: st) h Q := x_aload (len := 1) rfl rfl
theorem s_140_0_n : wp V (cdT Ev) mx d 140 0 [some .null, l1, l2, l3] st h Q = wp V (cdT Ev) mx d 140 1 [some .null, l1, l2, l3] (.null :: st) h Q := x_aloadN (len := 1) rfl rfl
theorem s_140_1 {x : Int32} : wp V (cdT Ev) mx d 140 1 [l0, some (.int x), l2, l3] st h Q = wp V (cdT Ev) mx d 140 2 [l0, some (.int x), l2, l3] (.int x :: st) h Q := x_iload (len := 1) rfl rfl
theorem s_140_2 {b : Nat} {v0 : Value} (hst : st.length ≤ 4) : wp V (cdT Ev) mx d 140 2 ls (v0 :: .ref b :: st) h Q = cv [(12, 128)] h b (fun y' => WP V (cdT Ev) mx d y' [.ref b, v0] h (fun r h' => wp V (cdT Ev) mx d 140 5 ls (rts r st) h' Q)) := x_cv (sg := [v0]) rfl hst rfl rfl
theorem s_140_5 {x : Int32} : wp V (cdT Ev) mx d 140 5 ls (.int x :: st) h Q = (if x = 0 then wp V (cdT Ev) mx d 140 17 ls st h Q else wp V (cdT Ev) mx d 140 8 ls st h Q) := x_if1 (c := fun x => x = 0) rfl
theorem s_140_8 {x : Int32} : wp V (cdT Ev) mx d 140 8 [l0, l1, some (.int x), l3] st h Q = wp V (cdT Ev) mx d 140 9 [l0, l1, some (.int x), l3] (.int x :: st) h Q := x_iload (len := 1) rfl rfl
theorem s_140_9 : wp V (cdT Ev) mx d 140 9 ls st h Q = wp V (cdT Ev) mx d 140 10 ls ((.int (0)) :: st) h Q := x_push (v := (.int (0))) (len := 1) rfl
theorem s_140_10 : wp V (cdT Ev) mx d 140 10 ls st h Q = wp V (cdT Ev) mx d 140 11 ls ((.int (3)) :: st) h Q := x_push (v := (.int (3))) (len := 1) rfl
theorem s_140_11 {v0 v1 v2 : Value} (hst : st.length ≤ 4) : wp V (cdT Ev) mx d 140 11 ls (v2 :: v1 :: v0 :: st) h Q = WP V (cdT Ev) mx d 123 [v0, v1, v2] h (fun r h' => wp V (cdT Ev) mx d 140 14 ls (rts r st) h' Q) := x_cs (sg := [v2, v1, v0]) rfl hst rfl rfl
theorem s_140_14 {x : Int32} : wp V (cdT Ev) mx d 140 14 ls (.int x :: st) h Q = (if ¬ x = 0 then wp V (cdT Ev) mx d 140 19 ls st h Q else wp V (cdT Ev) mx d 140 17 ls st h Q) := x_if1 (c := fun x => ¬ x = 0) rfl
theorem s_140_17 : wp V (cdT Ev) mx d 140 17 ls st h Q = wp V (cdT Ev) mx d 140 18 ls ((.int (-1)) :: st) h Q := x_push (v := (.int (-1))) (len := 1) rfl
theorem s_140_18 {x : Int32} : wp V (cdT Ev) mx d 140 18 ls [.int x] h Q = Q (some (.int x)) h := x_ret rfl rfl
theorem s_140_19 {x : Int32} : wp V (cdT Ev) mx d 140 19 [l0, l1, l2, some (.int x)] st h Q = wp V (cdT Ev) mx d 140 20 [l0, l1, l2, some (.int x)] (.int x :: st) h Q := x_iload (len := 1) rfl rfl
theorem s_140_20 : wp V (cdT Ev) mx d 140 20 ls st h Q = wp V (cdT Ev) mx d 140 21 ls ((.int (0)) :: st) h Q := x_push (v := (.int (0))) (len := 1) rfl
theorem s_140_21 : wp V (cdT Ev) mx d 140 21 ls st h Q = wp V (cdT Ev) mx d 140 23 ls ((.int (9)) :: st) h Q := x_push (v := (.int (9))) (len := 2) rfl
theorem s_140_23 {v0 v1 v2 : Value} (hst : st.length ≤ 4) : wp V (cdT Ev) mx d 140 23 ls (v2 :: v1 :: v0 :: st) h Q = WP V (cdT Ev) mx d 123 [v0, v1, v2] h (fun r h' => wp V (cdT Ev) mx d 140 26 ls (rts r st) h' Q) := x_cs (sg := [v2, v1, v0]) rfl hst rfl rfl
theorem s_140_26 {x : Int32} : wp V (cdT Ev) mx d 140 26 ls (.int x :: st) h Q = (if ¬ x = 0 then wp V (cdT Ev) mx d 140 32 ls st h Q else wp V (cdT Ev) mx d 140 29 ls st h Q) := x_if1 (c := fun x => ¬ x = 0) rfl
theorem s_140_29 : wp V (cdT Ev) mx d 140 29 ls st h Q = wp V (cdT Ev) mx d 140 31 ls ((.int (-2)) :: st) h Q := x_push (v := (.int (-2))) (len := 2) rfl
theorem s_140_31 {x : Int32} : wp V (cdT Ev) mx d 140 31 ls [.int x] h Q = Q (some (.int x)) h := x_ret rfl rfl
theorem s_140_32 {a : Nat} : wp V (cdT Ev) mx d 140 32 [some (.ref a), l1, l2, l3] st h Q = wp V (cdT Ev) mx d 140 33 [some (.ref a), l1, l2, l3] (.ref a :: st) h Q := x_aload (len := 1) rfl rfl
theorem s_140_32_n : wp V (cdT Ev) mx d 140 32 [some .null, l1, l2, l3] st h Q = wp V (cdT Ev) mx d 140 33 [some .null, l1, l2, l3] (.null :: st) h Q := x_aloadN (len := 1) rfl rfl
theorem s_140_33 {x : Int32} : wp V (cdT Ev) mx d 140 33 [l0, some (.int x), l2, l3] st h Q = wp V (cdT Ev) mx d 140 34 [l0, some (.int x), l2, l3] (.int x :: st) h Q := x_iload (len := 1) rfl rfl
theorem s_140_34 : wp V (cdT Ev) mx d 140 34 ls st h Q = wp V (cdT Ev) mx d 140 35 ls ((.int (0)) :: st) h Q := x_push (v := (.int (0))) (len := 1) rfl
theorem s_140_35 {b : Nat} {v0 v1 : Value} (hst : st.length ≤ 4) : wp V (cdT Ev) mx d 140 35 ls (v1 :: v0 :: .ref b :: st) h Q = cv [(12, 132)] h b (fun y' => WP V (cdT Ev) mx d y' [.ref b, v0, v1] h (fun r h' => wp V (cdT Ev) mx d 140 38 ls (rts r st) h' Q)) := x_cv (sg := [v1, v0]) rfl hst rfl rfl
theorem s_140_38 : wp V (cdT Ev) mx d 140 38 ls st h Q = wp V (cdT Ev) mx d 140 40 ls ((.int (6)) :: st) h Q := x_push (v := (.int (6))) (len := 2) rfl
theorem s_140_40 {x z : Int32} : wp V (cdT Ev) mx d 140 40 ls (.int z :: .int x :: st) h Q = (if ¬ x = z then wp V (cdT Ev) mx d 140 55 ls st h Q else wp V (cdT Ev) mx d 140 43 ls st h Q) := x_if2 (c := fun x z => ¬ x = z) rfl
theorem s_140_43 {a : Nat} : wp V (cdT Ev) mx d 140 43 [some (.ref a), l1, l2, l3] st h Q = wp V (cdT Ev) mx d 140 44 [some (.ref a), l1, l2, l3] (.ref a :: st) h Q := x_aload (len := 1) rfl rfl
theorem s_140_43_n : wp V (cdT Ev) mx d 140 43 [some .null, l1, l2, l3] st h Q = wp V (cdT Ev) mx d 140 44 [some .null, l1, l2, l3] (.null :: st) h Q := x_aloadN (len := 1) rfl rfl
theorem s_140_44 {x : Int32} : wp V (cdT Ev) mx d 140 44 [l0, some (.int x), l2, l3] st h Q = wp V (cdT Ev) mx d 140 45 [l0, some (.int x), l2, l3] (.int x :: st) h Q := x_iload (len := 1) rfl rfl
theorem s_140_45 : wp V (cdT Ev) mx d 140 45 ls st h Q = wp V (cdT Ev) mx d 140 46 ls ((.int (5)) :: st) h Q := x_push (v := (.int (5))) (len := 1) rfl
theorem s_140_46 {x : Int32} : wp V (cdT Ev) mx d 140 46 [l0, l1, some (.int x), l3] st h Q = wp V (cdT Ev) mx d 140 47 [l0, l1, some (.int x), l3] (.int x :: st) h Q := x_iload (len := 1) rfl rfl
theorem s_140_47 {x z : Int32} : wp V (cdT Ev) mx d 140 47 ls (.int z :: .int x :: st) h Q = wp V (cdT Ev) mx d 140 48 ls (.int (x + z) :: st) h Q := x_ib (f := fun x z => x + z) rfl
theorem s_140_48 {x : Int32} : wp V (cdT Ev) mx d 140 48 [l0, l1, l2, some (.int x)] st h Q = wp V (cdT Ev) mx d 140 49 [l0, l1, l2, some (.int x)] (.int x :: st) h Q := x_iload (len := 1) rfl rfl
theorem s_140_49 {b : Nat} {v0 v1 v2 : Value} (hst : st.length ≤ 4) : wp V (cdT Ev) mx d 140 49 ls (v2 :: v1 :: v0 :: .ref b :: st) h Q = cv [(12, 133)] h b (fun y' => WP V (cdT Ev) mx d y' [.ref b, v0, v1, v2] h (fun r h' => wp V (cdT Ev) mx d 140 52 ls (rts r st) h' Q)) := x_cv (sg := [v2, v1, v0]) rfl hst rfl rfl
theorem s_140_52 : wp V (cdT Ev) mx d 140 52 ls st h Q = wp V (cdT Ev) mx d 140 57 ls st h Q := x_goto rfl
theorem s_140_55 : wp V (cdT Ev) mx d 140 55 ls st h Q = wp V (cdT Ev) mx d 140 57 ls ((.int (-3)) :: st) h Q := x_push (v := (.int (-3))) (len := 2) rfl
theorem s_140_57 {x : Int32} : wp V (cdT Ev) mx d 140 57 ls [.int x] h Q = Q (some (.int x)) h := x_ret rfl rfl
theorem e_140 {a : Nat} {p0 : Int32} {p1 : Int32} {p2 : Int32} : WP V (cdT Ev) mx (d + 1) 140 [.ref a, .int p0, .int p1, .int p2] h Q = wp V (cdT Ev) mx d 140 0 [some (.ref a), some (.int p0), some (.int p1), some (.int p2)] [] h Q := propext (WP_eq (Nat.le_of_ble_eq_true rfl))
theorem s_141_0 {x : Int32} : wp V (cdT Ev) mx d 141 0 [l0, some (.int x)] st h Q = wp V (cdT Ev) mx d 141 1 [l0, some (.int x)] (.int x :: st) h Q := x_iload (len := 1) rfl rfl
theorem s_141_1 : wp V (cdT Ev) mx d 141 1 ls st h Q = wp V (cdT Ev) mx d 141 2 ls ((.int (0)) :: st) h Q := x_push (v := (.int (0))) (len := 1) rfl
theorem s_141_2 : wp V (cdT Ev) mx d 141 2 ls st h Q = wp V (cdT Ev) mx d 141 4 ls ((.int (127)) :: st) h Q := x_push (v := (.int (127))) (len := 2) rfl
theorem s_141_4 {v0 v1 v2 : Value} (hst : st.length ≤ 4) : wp V (cdT Ev) mx d 141 4 ls (v2 :: v1 :: v0 :: st) h Q = WP V (cdT Ev) mx d 123 [v0, v1, v2] h (fun r h' => wp V (cdT Ev) mx d 141 7 ls (rts r st) h' Q) := x_cs (sg := [v2, v1, v0]) rfl hst rfl rfl
theorem s_141_7 {x : Int32} : wp V (cdT Ev) mx d 141 7 ls (.int x :: st) h Q = (if ¬ x = 0 then wp V (cdT Ev) mx d 141 13 ls st h Q else wp V (cdT Ev) mx d 141 10 ls st h Q) := x_if1 (c := fun x => ¬ x = 0) rfl
theorem s_141_10 : wp V (cdT Ev) mx d 141 10 ls st h Q = wp V (cdT Ev) mx d 141 12 ls ((.int (-2)) :: st) h Q := x_push (v := (.int (-2))) (len := 2) rfl
theorem s_141_12 {x : Int32} : wp V (cdT Ev) mx d 141 12 ls [.int x] h Q = Q (some (.int x)) h := x_ret rfl rfl
theorem s_141_13 {a : Nat} : wp V (cdT Ev) mx d 141 13 [some (.ref a), l1] st h Q = wp V (cdT Ev) mx d 141 14 [some (.ref a), l1] (.ref a :: st) h Q := x_aload (len := 1) rfl rfl
theorem s_141_13_n : wp V (cdT Ev) mx d 141 13 [some .null, l1] st h Q = wp V (cdT Ev) mx d 141 14 [some .null, l1] (.null :: st) h Q := x_aloadN (len := 1) rfl rfl
theorem s_141_14 {a : Nat} : wp V (cdT Ev) mx d 141 14 ls (.ref a :: st) h Q = gf [12] 5 h a (fun v => wp V (cdT Ev) mx d 141 17 ls (v :: st) h Q) := x_getf rfl
theorem s_141_17 : wp V (cdT Ev) mx d 141 17 ls st h Q = wp V (cdT Ev) mx d 141 19 ls ((.int (100)) :: st) h Q := x_push (v := (.int (100))) (len := 2) rfl
theorem s_141_19 {x z : Int32} : wp V (cdT Ev) mx d 141 19 ls (.int z :: .int x :: st) h Q = (if ¬ x = z then wp V (cdT Ev) mx d 141 25 ls st h Q else wp V (cdT Ev) mx d 141 22 ls st h Q) := x_if2 (c := fun x z => ¬ x = z) rfl
theorem s_141_22 : wp V (cdT Ev) mx d 141 22 ls st h Q = wp V (cdT Ev) mx d 141 24 ls ((.int (-4)) :: st) h Q := x_push (v := (.int (-4))) (len := 2) rfl
theorem s_141_24 {x : Int32} : wp V (cdT Ev) mx d 141 24 ls [.int x] h Q = Q (some (.int x)) h := x_ret rfl rfl
theorem s_141_25 {a : Nat} : wp V (cdT Ev) mx d 141 25 [some (.ref a), l1] st h Q = wp V (cdT Ev) mx d 141 26 [some (.ref a), l1] (.ref a :: st) h Q := x_aload (len := 1) rfl rfl
theorem s_141_25_n : wp V (cdT Ev) mx d 141 25 [some .null, l1] st h Q = wp V (cdT Ev) mx d 141 26 [some .null, l1] (.null :: st) h Q := x_aloadN (len := 1) rfl rfl
theorem s_141_26 {a : Nat} : wp V (cdT Ev) mx d 141 26 ls (.ref a :: st) h Q = gf [12] 4 h a (fun v => wp V (cdT Ev) mx d 141 29 ls (v :: st) h Q) := x_getf rfl
theorem s_141_29 {a : Nat} : wp V (cdT Ev) mx d 141 29 [some (.ref a), l1] st h Q = wp V (cdT Ev) mx d 141 30 [some (.ref a), l1] (.ref a :: st) h Q := x_aload (len := 1) rfl rfl
theorem s_141_29_n : wp V (cdT Ev) mx d 141 29 [some .null, l1] st h Q = wp V (cdT Ev) mx d 141 30 [some .null, l1] (.null :: st) h Q := x_aloadN (len := 1) rfl rfl
theorem s_141_30 {a : Nat} : wp V (cdT Ev) mx d 141 30 ls (.ref a :: st) h Q = gf [12] 5 h a (fun v => wp V (cdT Ev) mx d 141 33 ls (v :: st) h Q) := x_getf rfl
theorem s_141_33 {x : Int32} : wp V (cdT Ev) mx d 141 33 [l0, some (.int x)] st h Q = wp V (cdT Ev) mx d 141 34 [l0, some (.int x)] (.int x :: st) h Q := x_iload (len := 1) rfl rfl
theorem s_141_34 {x i : Int32} {a : Nat} : wp V (cdT Ev) mx d 141 34 ls (.int x :: .int i :: .ref a :: st) h Q = si 2 i (x) h a (fun hh => wp V (cdT Ev) mx d 141 35 ls st hh Q) := x_iast (nw := fun x => x) rfl
theorem s_141_35 {a : Nat} : wp V (cdT Ev) mx d 141 35 [some (.ref a), l1] st h Q = wp V (cdT Ev) mx d 141 36 [some (.ref a), l1] (.ref a :: st) h Q := x_aload (len := 1) rfl rfl
theorem s_141_35_n : wp V (cdT Ev) mx d 141 35 [some .null, l1] st h Q = wp V (cdT Ev) mx d 141 36 [some .null, l1] (.null :: st) h Q := x_aloadN (len := 1) rfl rfl
theorem s_141_36 {a : Nat} : wp V (cdT Ev) mx d 141 36 ls (.ref a :: st) h Q = wp V (cdT Ev) mx d 141 37 ls (.ref a :: .ref a :: st) h Q := x_dup rfl rfl
theorem s_141_36_i {x : Int32} : wp V (cdT Ev) mx d 141 36 ls (.int x :: st) h Q = wp V (cdT Ev) mx d 141 37 ls (.int x :: .int x :: st) h Q := x_dup rfl rfl
theorem s_141_37 {a : Nat} : wp V (cdT Ev) mx d 141 37 ls (.ref a :: st) h Q = gf [12] 5 h a (fun v => wp V (cdT Ev) mx d 141 40 ls (v :: st) h Q) := x_getf rfl
theorem s_141_40 : wp V (cdT Ev) mx d 141 40 ls st h Q = wp V (cdT Ev) mx d 141 41 ls ((.int (1)) :: st) h Q := x_push (v := (.int (1))) (len := 1) rfl
theorem s_141_41 {x z : Int32} : wp V (cdT Ev) mx d 141 41 ls (.int z :: .int x :: st) h Q = wp V (cdT Ev) mx d 141 42 ls (.int (x + z) :: st) h Q := x_ib (f := fun x z => x + z) rfl
theorem s_141_42 {w : Value} {a : Nat} : wp V (cdT Ev) mx d 141 42 ls (w :: .ref a :: st) h Q = pf [12] 5 0 w h a (fun hh => wp V (cdT Ev) mx d 141 45 ls st hh Q) := x_putf rfl
theorem s_141_45 {a : Nat} : wp V (cdT Ev) mx d 141 45 [some (.ref a), l1] st h Q = wp V (cdT Ev) mx d 141 46 [some (.ref a), l1] (.ref a :: st) h Q := x_aload (len := 1) rfl rfl
theorem s_141_45_n : wp V (cdT Ev) mx d 141 45 [some .null, l1] st h Q = wp V (cdT Ev) mx d 141 46 [some .null, l1] (.null :: st) h Q := x_aloadN (len := 1) rfl rfl
theorem s_141_46 {a : Nat} : wp V (cdT Ev) mx d 141 46 ls (.ref a :: st) h Q = gf [12] 5 h a (fun v => wp V (cdT Ev) mx d 141 49 ls (v :: st) h Q) := x_getf rfl
theorem s_141_49 {x : Int32} : wp V (cdT Ev) mx d 141 49 ls [.int x] h Q = Q (some (.int x)) h := x_ret rfl rfl
theorem e_141 {a : Nat} {p0 : Int32} : WP V (cdT Ev) mx (d + 1) 141 [.ref a, .int p0] h Q = wp V (cdT Ev) mx d 141 0 [some (.ref a), some (.int p0)] [] h Q := propext (WP_eq (Nat.le_of_ble_eq_true rfl))
theorem s_142_0 {a : Nat} : wp V (cdT Ev) mx d 142 0 [some (.ref a), l1] st h Q = wp V (cdT Ev) mx d 142 1 [some (.ref a), l1] (.ref a :: st) h Q := x_aload (len := 1) rfl rfl
theorem s_142_0_n : wp V (cdT Ev) mx d 142 0 [some .null, l1] st h Q = wp V (cdT Ev) mx d 142 1 [some .null, l1] (.null :: st) h Q := x_aloadN (len := 1) rfl rfl
theorem s_142_1 {a : Nat} : wp V (cdT Ev) mx d 142 1 ls (.ref a :: st) h Q = gf [12] 12 h a (fun v => wp V (cdT Ev) mx d 142 4 ls (v :: st) h Q) := x_getf rfl
theorem s_142_4 {x : Int32} : wp V (cdT Ev) mx d 142 4 ls (.int x :: st) h Q = (if x = 0 then wp V (cdT Ev) mx d 142 35 ls st h Q else wp V (cdT Ev) mx d 142 7 ls st h Q) := x_if1 (c := fun x => x = 0) rfl
theorem s_142_7 {a : Nat} : wp V (cdT Ev) mx d 142 7 [some (.ref a), l1] st h Q = wp V (cdT Ev) mx d 142 8 [some (.ref a), l1] (.ref a :: st) h Q := x_aload (len := 1) rfl rfl
theorem s_142_7_n : wp V (cdT Ev) mx d 142 7 [some .null, l1] st h Q = wp V (cdT Ev) mx d 142 8 [some .null, l1] (.null :: st) h Q := x_aloadN (len := 1) rfl rfl
theorem s_142_8 {a : Nat} : wp V (cdT Ev) mx d 142 8 ls (.ref a :: st) h Q = gf [12] 11 h a (fun v => wp V (cdT Ev) mx d 142 11 ls (v :: st) h Q) := x_getf rfl
theorem s_142_11 {a : Nat} : wp V (cdT Ev) mx d 142 11 [some (.ref a), l1] st h Q = wp V (cdT Ev) mx d 142 12 [some (.ref a), l1] (.ref a :: st) h Q := x_aload (len := 1) rfl rfl
theorem s_142_11_n : wp V (cdT Ev) mx d 142 11 [some .null, l1] st h Q = wp V (cdT Ev) mx d 142 12 [some .null, l1] (.null :: st) h Q := x_aloadN (len := 1) rfl rfl
theorem s_142_12 {a : Nat} : wp V (cdT Ev) mx d 142 12 ls (.ref a :: st) h Q = gf [12] 10 h a (fun v => wp V (cdT Ev) mx d 142 15 ls (v :: st) h Q) := x_getf rfl
theorem s_142_15 {x z : Int32} : wp V (cdT Ev) mx d 142 15 ls (.int z :: .int x :: st) h Q = (if z ≤ x then wp V (cdT Ev) mx d 142 35 ls st h Q else wp V (cdT Ev) mx d 142 18 ls st h Q) := x_if2 (c := fun x z => z ≤ x) rfl
theorem s_142_18 {a : Nat} : wp V (cdT Ev) mx d 142 18 [some (.ref a), l1] st h Q = wp V (cdT Ev) mx d 142 19 [some (.ref a), l1] (.ref a :: st) h Q := x_aload (len := 1) rfl rfl
theorem s_142_18_n : wp V (cdT Ev) mx d 142 18 [some .null, l1] st h Q = wp V (cdT Ev) mx d 142 19 [some .null, l1] (.null :: st) h Q := x_aloadN (len := 1) rfl rfl
theorem s_142_19 {a : Nat} : wp V (cdT Ev) mx d 142 19 ls (.ref a :: st) h Q = gf [12] 9 h a (fun v => wp V (cdT Ev) mx d 142 22 ls (v :: st) h Q) := x_getf rfl
theorem s_142_22 {a : Nat} : wp V (cdT Ev) mx d 142 22 [some (.ref a), l1] st h Q = wp V (cdT Ev) mx d 142 23 [some (.ref a), l1] (.ref a :: st) h Q := x_aload (len := 1) rfl rfl
theorem s_142_22_n : wp V (cdT Ev) mx d 142 22 [some .null, l1] st h Q = wp V (cdT Ev) mx d 142 23 [some .null, l1] (.null :: st) h Q := x_aloadN (len := 1) rfl rfl
theorem s_142_23 {a : Nat} : wp V (cdT Ev) mx d 142 23 ls (.ref a :: st) h Q = gf [12] 11 h a (fun v => wp V (cdT Ev) mx d 142 26 ls (v :: st) h Q) := x_getf rfl
theorem s_142_26 {i : Int32} {a : Nat} : wp V (cdT Ev) mx d 142 26 ls (.int i :: .ref a :: st) h Q = ai 2 i V h a (fun x => wp V (cdT Ev) mx d 142 27 ls (.int x :: st) h Q) := x_iald rfl
theorem s_142_27 {x : Int32} : wp V (cdT Ev) mx d 142 27 [l0, some (.int x)] st h Q = wp V (cdT Ev) mx d 142 28 [l0, some (.int x)] (.int x :: st) h Q := x_iload (len := 1) rfl rfl
theorem s_142_28 {x z : Int32} : wp V (cdT Ev) mx d 142 28 ls (.int z :: .int x :: st) h Q = (if ¬ x = z then wp V (cdT Ev) mx d 142 35 ls st h Q else wp V (cdT Ev) mx d 142 31 ls st h Q) := x_if2 (c := fun x z => ¬ x = z) rfl
theorem s_142_31 : wp V (cdT Ev) mx d 142 31 ls st h Q = wp V (cdT Ev) mx d 142 32 ls ((.int (1)) :: st) h Q := x_push (v := (.int (1))) (len := 1) rfl
theorem s_142_32 : wp V (cdT Ev) mx d 142 32 ls st h Q = wp V (cdT Ev) mx d 142 36 ls st h Q := x_goto rfl
theorem s_142_35 : wp V (cdT Ev) mx d 142 35 ls st h Q = wp V (cdT Ev) mx d 142 36 ls ((.int (0)) :: st) h Q := x_push (v := (.int (0))) (len := 1) rfl
theorem s_142_36 {x : Int32} (hx : okr 1 (.int x) = true) : wp V (cdT Ev) mx d 142 36 ls [.int x] h Q = Q (some (.int x)) h := x_ret rfl hx
theorem e_142 {a : Nat} {p0 : Int32} : WP V (cdT Ev) mx (d + 1) 142 [.ref a, .int p0] h Q = wp V (cdT Ev) mx d 142 0 [some (.ref a), some (.int p0)] [] h Q := propext (WP_eq (Nat.le_of_ble_eq_true rfl))
theorem s_143_0 {a : Nat} : wp V (cdT Ev) mx d 143 0 [some (.ref a), l1] st h Q = wp V (cdT Ev) mx d 143 1 [some (.ref a), l1] (.ref a :: st) h Q := x_aload (len := 1) rfl rfl
theorem s_143_0_n : wp V (cdT Ev) mx d 143 0 [some .null, l1] st h Q = wp V (cdT Ev) mx d 143 1 [some .null, l1] (.null :: st) h Q := x_aloadN (len := 1) rfl rfl
theorem s_143_1 {x : Int32} : wp V (cdT Ev) mx d 143 1 [l0, some (.int x)] st h Q = wp V (cdT Ev) mx d 143 2 [l0, some (.int x)] (.int x :: st) h Q := x_iload (len := 1) rfl rfl
theorem s_143_2 {b : Nat} {v0 : Value} (hst : st.length ≤ 4) : wp V (cdT Ev) mx d 143 2 ls (v0 :: .ref b :: st) h Q = cv [(12, 142)] h b (fun y' => WP V (cdT Ev) mx d y' [.ref b, v0] h (fun r h' => wp V (cdT Ev) mx d 143 5 ls (rts r st) h' Q)) := x_cv (sg := [v0]) rfl hst rfl rfl
theorem s_143_5 {x : Int32} : wp V (cdT Ev) mx d 143 5 ls (.int x :: st) h Q = (if x = 0 then wp V (cdT Ev) mx d 143 21 ls st h Q else wp V (cdT Ev) mx d 143 8 ls st h Q) := x_if1 (c := fun x => x = 0) rfl
theorem s_143_8 {a : Nat} : wp V (cdT Ev) mx d 143 8 [some (.ref a), l1] st h Q = wp V (cdT Ev) mx d 143 9 [some (.ref a), l1] (.ref a :: st) h Q := x_aload (len := 1) rfl rfl
theorem s_143_8_n : wp V (cdT Ev) mx d 143 8 [some .null, l1] st h Q = wp V (cdT Ev) mx d 143 9 [some .null, l1] (.null :: st) h Q := x_aloadN (len := 1) rfl rfl
theorem s_143_9 {a : Nat} : wp V (cdT Ev) mx d 143 9 ls (.ref a :: st) h Q = wp V (cdT Ev) mx d 143 10 ls (.ref a :: .ref a :: st) h Q := x_dup rfl rfl
theorem s_143_9_i {x : Int32} : wp V (cdT Ev) mx d 143 9 ls (.int x :: st) h Q = wp V (cdT Ev) mx d 143 10 ls (.int x :: .int x :: st) h Q := x_dup rfl rfl
theorem s_143_10 {a : Nat} : wp V (cdT Ev) mx d 143 10 ls (.ref a :: st) h Q = gf [12] 11 h a (fun v => wp V (cdT Ev) mx d 143 13 ls (v :: st) h Q) := x_getf rfl
theorem s_143_13 : wp V (cdT Ev) mx d 143 13 ls st h Q = wp V (cdT Ev) mx d 143 14 ls ((.int (1)) :: st) h Q := x_push (v := (.int (1))) (len := 1) rfl
theorem s_143_14 {x z : Int32} : wp V (cdT Ev) mx d 143 14 ls (.int z :: .int x :: st) h Q = wp V (cdT Ev) mx d 143 15 ls (.int (x + z) :: st) h Q := x_ib (f := fun x z => x + z) rfl
theorem s_143_15 {w : Value} {a : Nat} : wp V (cdT Ev) mx d 143 15 ls (w :: .ref a :: st) h Q = pf [12] 11 0 w h a (fun hh => wp V (cdT Ev) mx d 143 18 ls st hh Q) := x_putf rfl
theorem s_143_18 : wp V (cdT Ev) mx d 143 18 ls st h Q = wp V (cdT Ev) mx d 143 26 ls st h Q := x_goto rfl
theorem s_143_21 {a : Nat} : wp V (cdT Ev) mx d 143 21 [some (.ref a), l1] st h Q = wp V (cdT Ev) mx d 143 22 [some (.ref a), l1] (.ref a :: st) h Q := x_aload (len := 1) rfl rfl
theorem s_143_21_n : wp V (cdT Ev) mx d 143 21 [some .null, l1] st h Q = wp V (cdT Ev) mx d 143 22 [some .null, l1] (.null :: st) h Q := x_aloadN (len := 1) rfl rfl
theorem s_143_22 : wp V (cdT Ev) mx d 143 22 ls st h Q = wp V (cdT Ev) mx d 143 23 ls ((.int (0)) :: st) h Q := x_push (v := (.int (0))) (len := 1) rfl
theorem s_143_23 {w : Value} {a : Nat} : wp V (cdT Ev) mx d 143 23 ls (w :: .ref a :: st) h Q = pf [12] 12 1 w h a (fun hh => wp V (cdT Ev) mx d 143 26 ls st hh Q) := x_putf rfl
theorem s_143_26 : wp V (cdT Ev) mx d 143 26 ls [] h Q = Q none h := x_retv rfl
theorem e_143 {a : Nat} {p0 : Int32} : WP V (cdT Ev) mx (d + 1) 143 [.ref a, .int p0] h Q = wp V (cdT Ev) mx d 143 0 [some (.ref a), some (.int p0)] [] h Q := propext (WP_eq (Nat.le_of_ble_eq_true rfl))
theorem s_144_0 {a : Nat} : wp V (cdT Ev) mx d 144 0 [some (.ref a)] st h Q = wp V (cdT Ev) mx d 144 1 [some (.ref a)] (.ref a :: st) h Q := x_aload (len := 1) rfl rfl
theorem s_144_0_n : wp V (cdT Ev) mx d 144 0 [some .null] st h Q = wp V (cdT Ev) mx d 144 1 [some .null] (.null :: st) h Q := x_aloadN (len := 1) rfl rfl
theorem s_144_1 {a : Nat} : wp V (cdT Ev) mx d 144 1 ls (.ref a :: st) h Q = gf [12] 12 h a (fun v => wp V (cdT Ev) mx d 144 4 ls (v :: st) h Q) := x_getf rfl
theorem s_144_4 {x : Int32} : wp V (cdT Ev) mx d 144 4 ls (.int x :: st) h Q = (if x = 0 then wp V (cdT Ev) mx d 144 50 ls st h Q else wp V (cdT Ev) mx d 144 7 ls st h Q) := x_if1 (c := fun x => x = 0) rfl
theorem s_144_7 {a : Nat} : wp V (cdT Ev) mx d 144 7 [some (.ref a)] st h Q = wp V (cdT Ev) mx d 144 8 [some (.ref a)] (.ref a :: st) h Q := x_aload (len := 1) rfl rfl
theorem s_144_7_n : wp V (cdT Ev) mx d 144 7 [some .null] st h Q = wp V (cdT Ev) mx d 144 8 [some .null] (.null :: st) h Q := x_aloadN (len := 1) rfl rfl
theorem s_144_8 {a : Nat} : wp V (cdT Ev) mx d 144 8 ls (.ref a :: st) h Q = gf [12] 11 h a (fun v => wp V (cdT Ev) mx d 144 11 ls (v :: st) h Q) := x_getf rfl
theorem s_144_11 {a : Nat} : wp V (cdT Ev) mx d 144 11 [some (.ref a)] st h Q = wp V (cdT Ev) mx d 144 12 [some (.ref a)] (.ref a :: st) h Q := x_aload (len := 1) rfl rfl
theorem s_144_11_n : wp V (cdT Ev) mx d 144 11 [some .null] st h Q = wp V (cdT Ev) mx d 144 12 [some .null] (.null :: st) h Q := x_aloadN (len := 1) rfl rfl
theorem s_144_12 {a : Nat} : wp V (cdT Ev) mx d 144 12 ls (.ref a :: st) h Q = gf [12] 10 h a (fun v => wp V (cdT Ev) mx d 144 15 ls (v :: st) h Q) := x_getf rfl
theorem s_144_15 {x z : Int32} : wp V (cdT Ev) mx d 144 15 ls (.int z :: .int x :: st) h Q = (if z ≤ x then wp V (cdT Ev) mx d 144 50 ls st h Q else wp V (cdT Ev) mx d 144 18 ls st h Q) := x_if2 (c := fun x z => z ≤ x) rfl
theorem s_144_18 {a : Nat} : wp V (cdT Ev) mx d 144 18 [some (.ref a)] st h Q = wp V (cdT Ev) mx d 144 19 [some (.ref a)] (.ref a :: st) h Q := x_aload (len := 1) rfl rfl
theorem s_144_18_n : wp V (cdT Ev) mx d 144 18 [some .null] st h Q = wp V (cdT Ev) mx d 144 19 [some .null] (.null :: st) h Q := x_aloadN (len := 1) rfl rfl
theorem s_144_19 {a : Nat} : wp V (cdT Ev) mx d 144 19 ls (.ref a :: st) h Q = gf [12] 9 h a (fun v => wp V (cdT Ev) mx d 144 22 ls (v :: st) h Q) := x_getf rfl
theorem s_144_22 {a : Nat} : wp V (cdT Ev) mx d 144 22 [some (.ref a)] st h Q = wp V (cdT Ev) mx d 144 23 [some (.ref a)] (.ref a :: st) h Q := x_aload (len := 1) rfl rfl
theorem s_144_22_n : wp V (cdT Ev) mx d 144 22 [some .null] st h Q = wp V (cdT Ev) mx d 144 23 [some .null] (.null :: st) h Q := x_aloadN (len := 1) rfl rfl
theorem s_144_23 {a : Nat} : wp V (cdT Ev) mx d 144 23 ls (.ref a :: st) h Q = gf [12] 11 h a (fun v => wp V (cdT Ev) mx d 144 26 ls (v :: st) h Q) := x_getf rfl
theorem s_144_26 {i : Int32} {a : Nat} : wp V (cdT Ev) mx d 144 26 ls (.int i :: .ref a :: st) h Q = ai 2 i V h a (fun x => wp V (cdT Ev) mx d 144 27 ls (.int x :: st) h Q) := x_iald rfl
theorem s_144_27 : wp V (cdT Ev) mx d 144 27 ls st h Q = wp V (cdT Ev) mx d 144 29 ls ((.int (48)) :: st) h Q := x_push (v := (.int (48))) (len := 2) rfl
theorem s_144_29 {x z : Int32} : wp V (cdT Ev) mx d 144 29 ls (.int z :: .int x :: st) h Q = (if x < z then wp V (cdT Ev) mx d 144 50 ls st h Q else wp V (cdT Ev) mx d 144 32 ls st h Q) := x_if2 (c := fun x z => x < z) rfl
theorem s_144_32 {a : Nat} : wp V (cdT Ev) mx d 144 32 [some (.ref a)] st h Q = wp V (cdT Ev) mx d 144 33 [some (.ref a)] (.ref a :: st) h Q := x_aload (len := 1) rfl rfl
theorem s_144_32_n : wp V (cdT Ev) mx d 144 32 [some .null] st h Q = wp V (cdT Ev) mx d 144 33 [some .null] (.null :: st) h Q := x_aloadN (len := 1) rfl rfl
theorem s_144_33 {a : Nat} : wp V (cdT Ev) mx d 144 33 ls (.ref a :: st) h Q = gf [12] 9 h a (fun v => wp V (cdT Ev) mx d 144 36 ls (v :: st) h Q) := x_getf rfl
theorem s_144_36 {a : Nat} : wp V (cdT Ev) mx d 144 36 [some (.ref a)] st h Q = wp V (cdT Ev) mx d 144 37 [some (.ref a)] (.ref a :: st) h Q := x_aload (len := 1) rfl rfl
theorem s_144_36_n : wp V (cdT Ev) mx d 144 36 [some .null] st h Q = wp V (cdT Ev) mx d 144 37 [some .null] (.null :: st) h Q := x_aloadN (len := 1) rfl rfl
theorem s_144_37 {a : Nat} : wp V (cdT Ev) mx d 144 37 ls (.ref a :: st) h Q = gf [12] 11 h a (fun v => wp V (cdT Ev) mx d 144 40 ls (v :: st) h Q) := x_getf rfl
theorem s_144_40 {i : Int32} {a : Nat} : wp V (cdT Ev) mx d 144 40 ls (.int i :: .ref a :: st) h Q = ai 2 i V h a (fun x => wp V (cdT Ev) mx d 144 41 ls (.int x :: st) h Q) := x_iald rfl
theorem s_144_41 : wp V (cdT Ev) mx d 144 41 ls st h Q = wp V (cdT Ev) mx d 144 43 ls ((.int (57)) :: st) h Q := x_push (v := (.int (57))) (len := 2) rfl
theorem s_144_43 {x z : Int32} : wp V (cdT Ev) mx d 144 43 ls (.int z :: .int x :: st) h Q = (if z < x then wp V (cdT Ev) mx d 144 50 ls st h Q else wp V (cdT Ev) mx d 144 46 ls st h Q) := x_if2 (c := fun x z => z < x) rfl
theorem s_144_46 : wp V (cdT Ev) mx d 144 46 ls st h Q = wp V (cdT Ev) mx d 144 47 ls ((.int (1)) :: st) h Q := x_push (v := (.int (1))) (len := 1) rfl
theorem s_144_47 : wp V (cdT Ev) mx d 144 47 ls st h Q = wp V (cdT Ev) mx d 144 51 ls st h Q := x_goto rfl
theorem s_144_50 : wp V (cdT Ev) mx d 144 50 ls st h Q = wp V (cdT Ev) mx d 144 51 ls ((.int (0)) :: st) h Q := x_push (v := (.int (0))) (len := 1) rfl
theorem s_144_51 {x : Int32} (hx : okr 1 (.int x) = true) : wp V (cdT Ev) mx d 144 51 ls [.int x] h Q = Q (some (.int x)) h := x_ret rfl hx
theorem e_144 {a : Nat} : WP V (cdT Ev) mx (d + 1) 144 [.ref a] h Q = wp V (cdT Ev) mx d 144 0 [some (.ref a)] [] h Q := propext (WP_eq (Nat.le_of_ble_eq_true rfl))
theorem s_145_0 {a : Nat} : wp V (cdT Ev) mx d 145 0 [some (.ref a), l1] st h Q = wp V (cdT Ev) mx d 145 1 [some (.ref a), l1] (.ref a :: st) h Q := x_aload (len := 1) rfl rfl
theorem s_145_0_n : wp V (cdT Ev) mx d 145 0 [some .null, l1] st h Q = wp V (cdT Ev) mx d 145 1 [some .null, l1] (.null :: st) h Q := x_aloadN (len := 1) rfl rfl
theorem s_145_1 {b : Nat} (hst : st.length ≤ 4) : wp V (cdT Ev) mx d 145 1 ls (.ref b :: st) h Q = cv [(12, 144)] h b (fun y' => WP V (cdT Ev) mx d y' [.ref b] h (fun r h' => wp V (cdT Ev) mx d 145 4 ls (rts r st) h' Q)) := x_cv (sg := []) rfl hst rfl rfl
theorem s_145_4 {x : Int32} : wp V (cdT Ev) mx d 145 4 ls (.int x :: st) h Q = (if ¬ x = 0 then wp V (cdT Ev) mx d 145 14 ls st h Q else wp V (cdT Ev) mx d 145 7 ls st h Q) := x_if1 (c := fun x => ¬ x = 0) rfl
theorem s_145_7 {a : Nat} : wp V (cdT Ev) mx d 145 7 [some (.ref a), l1] st h Q = wp V (cdT Ev) mx d 145 8 [some (.ref a), l1] (.ref a :: st) h Q := x_aload (len := 1) rfl rfl
theorem s_145_7_n : wp V (cdT Ev) mx d 145 7 [some .null, l1] st h Q = wp V (cdT Ev) mx d 145 8 [some .null, l1] (.null :: st) h Q := x_aloadN (len := 1) rfl rfl
theorem s_145_8 : wp V (cdT Ev) mx d 145 8 ls st h Q = wp V (cdT Ev) mx d 145 9 ls ((.int (0)) :: st) h Q := x_push (v := (.int (0))) (len := 1) rfl
theorem s_145_9 {w : Value} {a : Nat} : wp V (cdT Ev) mx d 145 9 ls (w :: .ref a :: st) h Q = pf [12] 12 1 w h a (fun hh => wp V (cdT Ev) mx d 145 12 ls st hh Q) := x_putf rfl
theorem s_145_12 : wp V (cdT Ev) mx d 145 12 ls st h Q = wp V (cdT Ev) mx d 145 13 ls ((.int (0)) :: st) h Q := x_push (v := (.int (0))) (len := 1) rfl
theorem s_145_13 {x : Int32} : wp V (cdT Ev) mx d 145 13 ls [.int x] h Q = Q (some (.int x)) h := x_ret rfl rfl
theorem s_145_14 {a : Nat} : wp V (cdT Ev) mx d 145 14 [some (.ref a), l1] st h Q = wp V (cdT Ev) mx d 145 15 [some (.ref a), l1] (.ref a :: st) h Q := x_aload (len := 1) rfl rfl
theorem s_145_14_n : wp V (cdT Ev) mx d 145 14 [some .null, l1] st h Q = wp V (cdT Ev) mx d 145 15 [some .null, l1] (.null :: st) h Q := x_aloadN (len := 1) rfl rfl
theorem s_145_15 {a : Nat} : wp V (cdT Ev) mx d 145 15 ls (.ref a :: st) h Q = gf [12] 9 h a (fun v => wp V (cdT Ev) mx d 145 18 ls (v :: st) h Q) := x_getf rfl
theorem s_145_18 {a : Nat} : wp V (cdT Ev) mx d 145 18 [some (.ref a), l1] st h Q = wp V (cdT Ev) mx d 145 19 [some (.ref a), l1] (.ref a :: st) h Q := x_aload (len := 1) rfl rfl
theorem s_145_18_n : wp V (cdT Ev) mx d 145 18 [some .null, l1] st h Q = wp V (cdT Ev) mx d 145 19 [some .null, l1] (.null :: st) h Q := x_aloadN (len := 1) rfl rfl
theorem s_145_19 {a : Nat} : wp V (cdT Ev) mx d 145 19 ls (.ref a :: st) h Q = gf [12] 11 h a (fun v => wp V (cdT Ev) mx d 145 22 ls (v :: st) h Q) := x_getf rfl
theorem s_145_22 {i : Int32} {a : Nat} : wp V (cdT Ev) mx d 145 22 ls (.int i :: .ref a :: st) h Q = ai 2 i V h a (fun x => wp V (cdT Ev) mx d 145 23 ls (.int x :: st) h Q) := x_iald rfl
theorem s_145_23 : wp V (cdT Ev) mx d 145 23 ls st h Q = wp V (cdT Ev) mx d 145 25 ls ((.int (48)) :: st) h Q := x_push (v := (.int (48))) (len := 2) rfl
theorem s_145_25 {x z : Int32} : wp V (cdT Ev) mx d 145 25 ls (.int z :: .int x :: st) h Q = wp V (cdT Ev) mx d 145 26 ls (.int (x - z) :: st) h Q := x_ib (f := fun x z => x - z) rfl
theorem s_145_26 {x : Int32} (hn : nl l0 = true) : wp V (cdT Ev) mx d 145 26 [l0, l1] (.int x :: st) h Q = wp V (cdT Ev) mx d 145 27 [l0, some (.int x)] st h Q := x_istore (len := 1) rfl (Nat.le_of_ble_eq_true rfl) (okp_nl rfl hn) rfl
theorem s_145_27 {a : Nat} : wp V (cdT Ev) mx d 145 27 [some (.ref a), l1] st h Q = wp V (cdT Ev) mx d 145 28 [some (.ref a), l1] (.ref a :: st) h Q := x_aload (len := 1) rfl rfl
theorem s_145_27_n : wp V (cdT Ev) mx d 145 27 [some .null, l1] st h Q = wp V (cdT Ev) mx d 145 28 [some .null, l1] (.null :: st) h Q := x_aloadN (len := 1) rfl rfl
theorem s_145_28 {a : Nat} : wp V (cdT Ev) mx d 145 28 ls (.ref a :: st) h Q = wp V (cdT Ev) mx d 145 29 ls (.ref a :: .ref a :: st) h Q := x_dup rfl rfl
theorem s_145_28_i {x : Int32} : wp V (cdT Ev) mx d 145 28 ls (.int x :: st) h Q = wp V (cdT Ev) mx d 145 29 ls (.int x :: .int x :: st) h Q := x_dup rfl rfl
theorem s_145_29 {a : Nat} : wp V (cdT Ev) mx d 145 29 ls (.ref a :: st) h Q = gf [12] 11 h a (fun v => wp V (cdT Ev) mx d 145 32 ls (v :: st) h Q) := x_getf rfl
theorem s_145_32 : wp V (cdT Ev) mx d 145 32 ls st h Q = wp V (cdT Ev) mx d 145 33 ls ((.int (1)) :: st) h Q := x_push (v := (.int (1))) (len := 1) rfl
theorem s_145_33 {x z : Int32} : wp V (cdT Ev) mx d 145 33 ls (.int z :: .int x :: st) h Q = wp V (cdT Ev) mx d 145 34 ls (.int (x + z) :: st) h Q := x_ib (f := fun x z => x + z) rfl
theorem s_145_34 {w : Value} {a : Nat} : wp V (cdT Ev) mx d 145 34 ls (w :: .ref a :: st) h Q = pf [12] 11 0 w h a (fun hh => wp V (cdT Ev) mx d 145 37 ls st hh Q) := x_putf rfl
theorem s_145_37 {a : Nat} : wp V (cdT Ev) mx d 145 37 [some (.ref a), l1] st h Q = wp V (cdT Ev) mx d 145 38 [some (.ref a), l1] (.ref a :: st) h Q := x_aload (len := 1) rfl rfl
theorem s_145_37_n : wp V (cdT Ev) mx d 145 37 [some .null, l1] st h Q = wp V (cdT Ev) mx d 145 38 [some .null, l1] (.null :: st) h Q := x_aloadN (len := 1) rfl rfl
theorem s_145_38 {b : Nat} (hst : st.length ≤ 4) : wp V (cdT Ev) mx d 145 38 ls (.ref b :: st) h Q = cv [(12, 144)] h b (fun y' => WP V (cdT Ev) mx d y' [.ref b] h (fun r h' => wp V (cdT Ev) mx d 145 41 ls (rts r st) h' Q)) := x_cv (sg := []) rfl hst rfl rfl
theorem s_145_41 {x : Int32} : wp V (cdT Ev) mx d 145 41 ls (.int x :: st) h Q = (if x = 0 then wp V (cdT Ev) mx d 145 72 ls st h Q else wp V (cdT Ev) mx d 145 44 ls st h Q) := x_if1 (c := fun x => x = 0) rfl
theorem s_145_44 : wp V (cdT Ev) mx d 145 44 ls st h Q = wp V (cdT Ev) mx d 145 46 ls ((.int (10)) :: st) h Q := x_push (v := (.int (10))) (len := 2) rfl
theorem s_145_46 {x : Int32} : wp V (cdT Ev) mx d 145 46 [l0, some (.int x)] st h Q = wp V (cdT Ev) mx d 145 47 [l0, some (.int x)] (.int x :: st) h Q := x_iload (len := 1) rfl rfl
theorem s_145_47 {x z : Int32} : wp V (cdT Ev) mx d 145 47 ls (.int z :: .int x :: st) h Q = wp V (cdT Ev) mx d 145 48 ls (.int (x * z) :: st) h Q := x_ib (f := fun x z => x * z) rfl
theorem s_145_48 {a : Nat} : wp V (cdT Ev) mx d 145 48 [some (.ref a), l1] st h Q = wp V (cdT Ev) mx d 145 49 [some (.ref a), l1] (.ref a :: st) h Q := x_aload (len := 1) rfl rfl
theorem s_145_48_n : wp V (cdT Ev) mx d 145 48 [some .null, l1] st h Q = wp V (cdT Ev) mx d 145 49 [some .null, l1] (.null :: st) h Q := x_aloadN (len := 1) rfl rfl
theorem s_145_49 {a : Nat} : wp V (cdT Ev) mx d 145 49 ls (.ref a :: st) h Q = gf [12] 9 h a (fun v => wp V (cdT Ev) mx d 145 52 ls (v :: st) h Q) := x_getf rfl
theorem s_145_52 {a : Nat} : wp V (cdT Ev) mx d 145 52 [some (.ref a), l1] st h Q = wp V (cdT Ev) mx d 145 53 [some (.ref a), l1] (.ref a :: st) h Q := x_aload (len := 1) rfl rfl
theorem s_145_52_n : wp V (cdT Ev) mx d 145 52 [some .null, l1] st h Q = wp V (cdT Ev) mx d 145 53 [some .null, l1] (.null :: st) h Q := x_aloadN (len := 1) rfl rfl
theorem s_145_53 {a : Nat} : wp V (cdT Ev) mx d 145 53 ls (.ref a :: st) h Q = gf [12] 11 h a (fun v => wp V (cdT Ev) mx d 145 56 ls (v :: st) h Q) := x_getf rfl
theorem s_145_56 {i : Int32} {a : Nat} : wp V (cdT Ev) mx d 145 56 ls (.int i :: .ref a :: st) h Q = ai 2 i V h a (fun x => wp V (cdT Ev) mx d 145 57 ls (.int x :: st) h Q) := x_iald rfl
theorem s_145_57 {x z : Int32} : wp V (cdT Ev) mx d 145 57 ls (.int z :: .int x :: st) h Q = wp V (cdT Ev) mx d 145 58 ls (.int (x + z) :: st) h Q := x_ib (f := fun x z => x + z) rfl
theorem s_145_58 : wp V (cdT Ev) mx d 145 58 ls st h Q = wp V (cdT Ev) mx d 145 60 ls ((.int (48)) :: st) h Q := x_push (v := (.int (48))) (len := 2) rfl
theorem s_145_60 {x z : Int32} : wp V (cdT Ev) mx d 145 60 ls (.int z :: .int x :: st) h Q = wp V (cdT Ev) mx d 145 61 ls (.int (x - z) :: st) h Q := x_ib (f := fun x z => x - z) rfl
theorem s_145_61 {x : Int32} (hn : nl l0 = true) : wp V (cdT Ev) mx d 145 61 [l0, l1] (.int x :: st) h Q = wp V (cdT Ev) mx d 145 62 [l0, some (.int x)] st h Q := x_istore (len := 1) rfl (Nat.le_of_ble_eq_true rfl) (okp_nl rfl hn) rfl
theorem s_145_62 {a : Nat} : wp V (cdT Ev) mx d 145 62 [some (.ref a), l1] st h Q = wp V (cdT Ev) mx d 145 63 [some (.ref a), l1] (.ref a :: st) h Q := x_aload (len := 1) rfl rfl
theorem s_145_62_n : wp V (cdT Ev) mx d 145 62 [some .null, l1] st h Q = wp V (cdT Ev) mx d 145 63 [some .null, l1] (.null :: st) h Q := x_aloadN (len := 1) rfl rfl
theorem s_145_63 {a : Nat} : wp V (cdT Ev) mx d 145 63 ls (.ref a :: st) h Q = wp V (cdT Ev) mx d 145 64 ls (.ref a :: .ref a :: st) h Q := x_dup rfl rfl
theorem s_145_63_i {x : Int32} : wp V (cdT Ev) mx d 145 63 ls (.int x :: st) h Q = wp V (cdT Ev) mx d 145 64 ls (.int x :: .int x :: st) h Q := x_dup rfl rfl
theorem s_145_64 {a : Nat} : wp V (cdT Ev) mx d 145 64 ls (.ref a :: st) h Q = gf [12] 11 h a (fun v => wp V (cdT Ev) mx d 145 67 ls (v :: st) h Q) := x_getf rfl
theorem s_145_67 : wp V (cdT Ev) mx d 145 67 ls st h Q = wp V (cdT Ev) mx d 145 68 ls ((.int (1)) :: st) h Q := x_push (v := (.int (1))) (len := 1) rfl
theorem s_145_68 {x z : Int32} : wp V (cdT Ev) mx d 145 68 ls (.int z :: .int x :: st) h Q = wp V (cdT Ev) mx d 145 69 ls (.int (x + z) :: st) h Q := x_ib (f := fun x z => x + z) rfl
theorem s_145_69 {w : Value} {a : Nat} : wp V (cdT Ev) mx d 145 69 ls (w :: .ref a :: st) h Q = pf [12] 11 0 w h a (fun hh => wp V (cdT Ev) mx d 145 72 ls st hh Q) := x_putf rfl
theorem s_145_72 {x : Int32} : wp V (cdT Ev) mx d 145 72 [l0, some (.int x)] st h Q = wp V (cdT Ev) mx d 145 73 [l0, some (.int x)] (.int x :: st) h Q := x_iload (len := 1) rfl rfl
theorem s_145_73 {x : Int32} : wp V (cdT Ev) mx d 145 73 ls [.int x] h Q = Q (some (.int x)) h := x_ret rfl rfl
theorem e_145 {a : Nat} : WP V (cdT Ev) mx (d + 1) 145 [.ref a] h Q = wp V (cdT Ev) mx d 145 0 [some (.ref a), none] [] h Q := propext (WP_eq (Nat.le_of_ble_eq_true rfl))
theorem s_146_0 : wp V (cdT Ev) mx d 146 0 ls st h Q = wp V (cdT Ev) mx d 146 1 ls ((.int (-1)) :: st) h Q := x_push (v := (.int (-1))) (len := 1) rfl
theorem s_146_1 {x : Int32} (hn : nl l0 = true) : wp V (cdT Ev) mx d 146 1 [l0, l1, l2, l3] (.int x :: st) h Q = wp V (cdT Ev) mx d 146 2 [l0, some (.int x), l2, l3] st h Q := x_istore (len := 1) rfl (Nat.le_of_ble_eq_true rfl) (okp_nl rfl hn) rfl
theorem s_146_2 : wp V (cdT Ev) mx d 146 2 ls st h Q = wp V (cdT Ev) mx d 146 3 ls ((.int (0)) :: st) h Q := x_push (v := (.int (0))) (len := 1) rfl
theorem s_146_3 {x : Int32} (hn : nl l1 = true) : wp V (cdT Ev) mx d 146 3 [l0, l1, l2, l3] (.int x :: st) h Q = wp V (cdT Ev) mx d 146 4 [l0, l1, some (.int x), l3] st h Q := x_istore (len := 1) rfl (Nat.le_of_ble_eq_true rfl) (okp_nl rfl hn) rfl
theorem s_146_4 {x : Int32} : wp V (cdT Ev) mx d 146 4 [l0, l1, some (.int x), l3] st h Q = wp V (cdT Ev) mx d 146 5 [l0, l1, some (.int x), l3] (.int x :: st) h Q := x_iload (len := 1) rfl rfl
theorem s_146_5 : wp V (cdT Ev) mx d 146 5 ls st h Q = wp V (cdT Ev) mx d 146 7 ls ((.int (6)) :: st) h Q := x_push (v := (.int (6))) (len := 2) rfl
theorem s_146_7 {x z : Int32} : wp V (cdT Ev) mx d 146 7 ls (.int z :: .int x :: st) h Q = (if z ≤ x then wp V (cdT Ev) mx d 146 35 ls st h Q else wp V (cdT Ev) mx d 146 10 ls st h Q) := x_if2 (c := fun x z => z ≤ x) rfl
theorem s_146_10 {a : Nat} : wp V (cdT Ev) mx d 146 10 [some (.ref a), l1, l2, l3] st h Q = wp V (cdT Ev) mx d 146 11 [some (.ref a), l1, l2, l3] (.ref a :: st) h Q := x_aload (len := 1) rfl rfl
theorem s_146_10_n : wp V (cdT Ev) mx d 146 10 [some .null, l1, l2, l3] st h Q = wp V (cdT Ev) mx d 146 11 [some .null, l1, l2, l3] (.null :: st) h Q := x_aloadN (len := 1) rfl rfl
theorem s_146_11 {a : Nat} : wp V (cdT Ev) mx d 146 11 [some (.ref a), l1, l2, l3] st h Q = wp V (cdT Ev) mx d 146 12 [some (.ref a), l1, l2, l3] (.ref a :: st) h Q := x_aload (len := 1) rfl rfl
theorem s_146_11_n : wp V (cdT Ev) mx d 146 11 [some .null, l1, l2, l3] st h Q = wp V (cdT Ev) mx d 146 12 [some .null, l1, l2, l3] (.null :: st) h Q := x_aloadN (len := 1) rfl rfl
theorem s_146_12 {a : Nat} : wp V (cdT Ev) mx d 146 12 ls (.ref a :: st) h Q = gf [12] 17 h a (fun v => wp V (cdT Ev) mx d 146 15 ls (v :: st) h Q) := x_getf rfl
theorem s_146_15 {x : Int32} : wp V (cdT Ev) mx d 146 15 [l0, l1, some (.int x), l3] st h Q = wp V (cdT Ev) mx d 146 16 [l0, l1, some (.int x), l3] (.int x :: st) h Q := x_iload (len := 1) rfl rfl
theorem s_146_16 {i : Int32} {a : Nat} : wp V (cdT Ev) mx d 146 16 ls (.int i :: .ref a :: st) h Q = ai 1 i V h a (fun x => wp V (cdT Ev) mx d 146 17 ls (.int x :: st) h Q) := x_iald rfl
theorem s_146_17 {b : Nat} {v0 : Value} (hst : st.length ≤ 4) : wp V (cdT Ev) mx d 146 17 ls (v0 :: .ref b :: st) h Q = cv [(12, 142)] h b (fun y' => WP V (cdT Ev) mx d y' [.ref b, v0] h (fun r h' => wp V (cdT Ev) mx d 146 20 ls (rts r st) h' Q)) := x_cv (sg := [v0]) rfl hst rfl rfl
theorem s_146_20 {x : Int32} : wp V (cdT Ev) mx d 146 20 ls (.int x :: st) h Q = (if x = 0 then wp V (cdT Ev) mx d 146 27 ls st h Q else wp V (cdT Ev) mx d 146 23 ls st h Q) := x_if1 (c := fun x => x = 0) rfl
theorem s_146_23 {x : Int32} : wp V (cdT Ev) mx d 146 23 [l0, l1, some (.int x), l3] st h Q = wp V (cdT Ev) mx d 146 24 [l0, l1, some (.int x), l3] (.int x :: st) h Q := x_iload (len := 1) rfl rfl
theorem s_146_24 : wp V (cdT Ev) mx d 146 24 ls st h Q = wp V (cdT Ev) mx d 146 28 ls st h Q := x_goto rfl
theorem s_146_27 {x : Int32} : wp V (cdT Ev) mx d 146 27 [l0, some (.int x), l2, l3] st h Q = wp V (cdT Ev) mx d 146 28 [l0, some (.int x), l2, l3] (.int x :: st) h Q := x_iload (len := 1) rfl rfl
theorem s_146_28 {x : Int32} (hn : nl l0 = true) : wp V (cdT Ev) mx d 146 28 [l0, l1, l2, l3] (.int x :: st) h Q = wp V (cdT Ev) mx d 146 29 [l0, some (.int x), l2, l3] st h Q := x_istore (len := 1) rfl (Nat.le_of_ble_eq_true rfl) (okp_nl rfl hn) rfl
theorem s_146_29 {x : Int32} : wp V (cdT Ev) mx d 146 29 [l0, l1, some (.int x), l3] st h Q = wp V (cdT Ev) mx d 146 32 [l0, l1, some (.int (x + (1))), l3] st h Q := x_iinc rfl rfl rfl
theorem s_146_32 : wp V (cdT Ev) mx d 146 32 ls st h Q = wp V (cdT Ev) mx d 146 4 ls st h Q := x_goto rfl
theorem s_146_35 {x : Int32} : wp V (cdT Ev) mx d 146 35 [l0, some (.int x), l2, l3] st h Q = wp V (cdT Ev) mx d 146 36 [l0, some (.int x), l2, l3] (.int x :: st) h Q := x_iload (len := 1) rfl rfl
theorem s_146_36 : wp V (cdT Ev) mx d 146 36 ls st h Q = wp V (cdT Ev) mx d 146 37 ls ((.int (-1)) :: st) h Q := x_push (v := (.int (-1))) (len := 1) rfl
theorem s_146_37 {x z : Int32} : wp V (cdT Ev) mx d 146 37 ls (.int z :: .int x :: st) h Q = (if ¬ x = z then wp V (cdT Ev) mx d 146 47 ls st h Q else wp V (cdT Ev) mx d 146 40 ls st h Q) := x_if2 (c := fun x z => ¬ x = z) rfl
theorem s_146_40 {a : Nat} : wp V (cdT Ev) mx d 146 40 [some (.ref a), l1, l2, l3] st h Q = wp V (cdT Ev) mx d 146 41 [some (.ref a), l1, l2, l3] (.ref a :: st) h Q := x_aload (len := 1) rfl rfl
theorem s_146_40_n : wp V (cdT Ev) mx d 146 40 [some .null, l1, l2, l3] st h Q = wp V (cdT Ev) mx d 146 41 [some .null, l1, l2, l3] (.null :: st) h Q := x_aloadN (len := 1) rfl rfl
theorem s_146_41 : wp V (cdT Ev) mx d 146 41 ls st h Q = wp V (cdT Ev) mx d 146 42 ls ((.int (0)) :: st) h Q := x_push (v := (.int (0))) (len := 1) rfl
theorem s_146_42 {w : Value} {a : Nat} : wp V (cdT Ev) mx d 146 42 ls (w :: .ref a :: st) h Q = pf [12] 12 1 w h a (fun hh => wp V (cdT Ev) mx d 146 45 ls st hh Q) := x_putf rfl
theorem s_146_45 : wp V (cdT Ev) mx d 146 45 ls st h Q = wp V (cdT Ev) mx d 146 46 ls ((.int (0)) :: st) h Q := x_push (v := (.int (0))) (len := 1) rfl
theorem s_146_46 {x : Int32} (hx : okr 1 (.int x) = true) : wp V (cdT Ev) mx d 146 46 ls [.int x] h Q = Q (some (.int x)) h := x_ret rfl hx
theorem s_146_47 {a : Nat} : wp V (cdT Ev) mx d 146 47 [some (.ref a), l1, l2, l3] st h Q = wp V (cdT Ev) mx d 146 48 [some (.ref a), l1, l2, l3] (.ref a :: st) h Q := x_aload (len := 1) rfl rfl
theorem s_146_47_n : wp V (cdT Ev) mx d 146 47 [some .null, l1, l2, l3] st h Q = wp V (cdT Ev) mx d 146 48 [some .null, l1, l2, l3] (.null :: st) h Q := x_aloadN (len := 1) rfl rfl
theorem s_146_48 {a : Nat} : wp V (cdT Ev) mx d 146 48 ls (.ref a :: st) h Q = wp V (cdT Ev) mx d 146 49 ls (.ref a :: .ref a :: st) h Q := x_dup rfl rfl
theorem s_146_48_i {x : Int32} : wp V (cdT Ev) mx d 146 48 ls (.int x :: st) h Q = wp V (cdT Ev) mx d 146 49 ls (.int x :: .int x :: st) h Q := x_dup rfl rfl
theorem s_146_49 {a : Nat} : wp V (cdT Ev) mx d 146 49 ls (.ref a :: st) h Q = gf [12] 11 h a (fun v => wp V (cdT Ev) mx d 146 52 ls (v :: st) h Q) := x_getf rfl
theorem s_146_52 : wp V (cdT Ev) mx d 146 52 ls st h Q = wp V (cdT Ev) mx d 146 53 ls ((.int (1)) :: st) h Q := x_push (v := (.int (1))) (len := 1) rfl
theorem s_146_53 {x z : Int32} : wp V (cdT Ev) mx d 146 53 ls (.int z :: .int x :: st) h Q = wp V (cdT Ev) mx d 146 54 ls (.int (x + z) :: st) h Q := x_ib (f := fun x z => x + z) rfl
theorem s_146_54 {w : Value} {a : Nat} : wp V (cdT Ev) mx d 146 54 ls (w :: .ref a :: st) h Q = pf [12] 11 0 w h a (fun hh => wp V (cdT Ev) mx d 146 57 ls st hh Q) := x_putf rfl
theorem s_146_57 {a : Nat} : wp V (cdT Ev) mx d 146 57 [some (.ref a), l1, l2, l3] st h Q = wp V (cdT Ev) mx d 146 58 [some (.ref a), l1, l2, l3] (.ref a :: st) h Q := x_aload (len := 1) rfl rfl
theorem s_146_57_n : wp V (cdT Ev) mx d 146 57 [some .null, l1, l2, l3] st h Q = wp V (cdT Ev) mx d 146 58 [some .null, l1, l2, l3] (.null :: st) h Q := x_aloadN (len := 1) rfl rfl
theorem s_146_58 : wp V (cdT Ev) mx d 146 58 ls st h Q = wp V (cdT Ev) mx d 146 60 ls ((.int (60)) :: st) h Q := x_push (v := (.int (60))) (len := 2) rfl
theorem s_146_60 {b : Nat} {v0 : Value} (hst : st.length ≤ 4) : wp V (cdT Ev) mx d 146 60 ls (v0 :: .ref b :: st) h Q = cv [(12, 142)] h b (fun y' => WP V (cdT Ev) mx d y' [.ref b, v0] h (fun r h' => wp V (cdT Ev) mx d 146 63 ls (rts r st) h' Q)) := x_cv (sg := [v0]) rfl hst rfl rfl
theorem s_146_63 {x : Int32} : wp V (cdT Ev) mx d 146 63 ls (.int x :: st) h Q = (if x = 0 then wp V (cdT Ev) mx d 146 70 ls st h Q else wp V (cdT Ev) mx d 146 66 ls st h Q) := x_if1 (c := fun x => x = 0) rfl
theorem s_146_66 : wp V (cdT Ev) mx d 146 66 ls st h Q = wp V (cdT Ev) mx d 146 67 ls ((.int (-1)) :: st) h Q := x_push (v := (.int (-1))) (len := 1) rfl
theorem s_146_67 : wp V (cdT Ev) mx d 146 67 ls st h Q = wp V (cdT Ev) mx d 146 84 ls st h Q := x_goto rfl
theorem s_146_70 {a : Nat} : wp V (cdT Ev) mx d 146 70 [some (.ref a), l1, l2, l3] st h Q = wp V (cdT Ev) mx d 146 71 [some (.ref a), l1, l2, l3] (.ref a :: st) h Q := x_aload (len := 1) rfl rfl
theorem s_146_70_n : wp V (cdT Ev) mx d 146 70 [some .null, l1, l2, l3] st h Q = wp V (cdT Ev) mx d 146 71 [some .null, l1, l2, l3] (.null :: st) h Q := x_aloadN (len := 1) rfl rfl
theorem s_146_71 : wp V (cdT Ev) mx d 146 71 ls st h Q = wp V (cdT Ev) mx d 146 73 ls ((.int (62)) :: st) h Q := x_push (v := (.int (62))) (len := 2) rfl
theorem s_146_73 {b : Nat} {v0 : Value} (hst : st.length ≤ 4) : wp V (cdT Ev) mx d 146 73 ls (v0 :: .ref b :: st) h Q = cv [(12, 142)] h b (fun y' => WP V (cdT Ev) mx d y' [.ref b, v0] h (fun r h' => wp V (cdT Ev) mx d 146 76 ls (rts r st) h' Q)) := x_cv (sg := [v0]) rfl hst rfl rfl
theorem s_146_76 {x : Int32} : wp V (cdT Ev) mx d 146 76 ls (.int x :: st) h Q = (if x = 0 then wp V (cdT Ev) mx d 146 83 ls st h Q else wp V (cdT Ev) mx d 146 79 ls st h Q) := x_if1 (c := fun x => x = 0) rfl
theorem s_146_79 : wp V (cdT Ev) mx d 146 79 ls st h Q = wp V (cdT Ev) mx d 146 80 ls ((.int (1)) :: st) h Q := x_push (v := (.int (1))) (len := 1) rfl
theorem s_146_80 : wp V (cdT Ev) mx d 146 80 ls st h Q = wp V (cdT Ev) mx d 146 84 ls st h Q := x_goto rfl
theorem s_146_83 : wp V (cdT Ev) mx d 146 83 ls st h Q = wp V (cdT Ev) mx d 146 84 ls ((.int (0)) :: st) h Q := x_push (v := (.int (0))) (len := 1) rfl
theorem s_146_84 {x : Int32} (hn : nl l1 = true) : wp V (cdT Ev) mx d 146 84 [l0, l1, l2, l3] (.int x :: st) h Q = wp V (cdT Ev) mx d 146 85 [l0, l1, some (.int x), l3] st h Q := x_istore (len := 1) rfl (Nat.le_of_ble_eq_true rfl) (okp_nl rfl hn) rfl
theorem s_146_85 {a : Nat} : wp V (cdT Ev) mx d 146 85 [some (.ref a), l1, l2, l3] st h Q = wp V (cdT Ev) mx d 146 86 [some (.ref a), l1, l2, l3] (.ref a :: st) h Q := x_aload (len := 1) rfl rfl
theorem s_146_85_n : wp V (cdT Ev) mx d 146 85 [some .null, l1, l2, l3] st h Q = wp V (cdT Ev) mx d 146 86 [some .null, l1, l2, l3] (.null :: st) h Q := x_aloadN (len := 1) rfl rfl
theorem s_146_86 {x : Int32} : wp V (cdT Ev) mx d 146 86 [l0, l1, some (.int x), l3] st h Q = wp V (cdT Ev) mx d 146 87 [l0, l1, some (.int x), l3] (.int x :: st) h Q := x_iload (len := 1) rfl rfl
theorem s_146_87 {x : Int32} : wp V (cdT Ev) mx d 146 87 ls (.int x :: st) h Q = (if 0 ≤ x then wp V (cdT Ev) mx d 146 95 ls st h Q else wp V (cdT Ev) mx d 146 90 ls st h Q) := x_if1 (c := fun x => 0 ≤ x) rfl
theorem s_146_90 : wp V (cdT Ev) mx d 146 90 ls st h Q = wp V (cdT Ev) mx d 146 92 ls ((.int (60)) :: st) h Q := x_push (v := (.int (60))) (len := 2) rfl
theorem s_146_92 : wp V (cdT Ev) mx d 146 92 ls st h Q = wp V (cdT Ev) mx d 146 106 ls st h Q := x_goto rfl
theorem s_146_95 {x : Int32} : wp V (cdT Ev) mx d 146 95 [l0, l1, some (.int x), l3] st h Q = wp V (cdT Ev) mx d 146 96 [l0, l1, some (.int x), l3] (.int x :: st) h Q := x_iload (len := 1) rfl rfl
theorem s_146_96 {x : Int32} : wp V (cdT Ev) mx d 146 96 ls (.int x :: st) h Q = (if x ≤ 0 then wp V (cdT Ev) mx d 146 104 ls st h Q else wp V (cdT Ev) mx d 146 99 ls st h Q) := x_if1 (c := fun x => x ≤ 0) rfl
theorem s_146_99 : wp V (cdT Ev) mx d 146 99 ls st h Q = wp V (cdT Ev) mx d 146 101 ls ((.int (62)) :: st) h Q := x_push (v := (.int (62))) (len := 2) rfl
theorem s_146_101 : wp V (cdT Ev) mx d 146 101 ls st h Q = wp V (cdT Ev) mx d 146 106 ls st h Q := x_goto rfl
theorem s_146_104 : wp V (cdT Ev) mx d 146 104 ls st h Q = wp V (cdT Ev) mx d 146 106 ls ((.int (61)) :: st) h Q := x_push (v := (.int (61))) (len := 2) rfl
theorem s_146_106 {b : Nat} {v0 : Value} (hst : st.length ≤ 4) : wp V (cdT Ev) mx d 146 106 ls (v0 :: .ref b :: st) h Q = cv [(12, 143)] h b (fun y' => WP V (cdT Ev) mx d y' [.ref b, v0] h (fun r h' => wp V (cdT Ev) mx d 146 109 ls (rts r st) h' Q)) := x_cv (sg := [v0]) rfl hst rfl rfl
theorem s_146_109 {a : Nat} : wp V (cdT Ev) mx d 146 109 [some (.ref a), l1, l2, l3] st h Q = wp V (cdT Ev) mx d 146 110 [some (.ref a), l1, l2, l3] (.ref a :: st) h Q := x_aload (len := 1) rfl rfl
theorem s_146_109_n : wp V (cdT Ev) mx d 146 109 [some .null, l1, l2, l3] st h Q = wp V (cdT Ev) mx d 146 110 [some .null, l1, l2, l3] (.null :: st) h Q := x_aloadN (len := 1) rfl rfl
theorem s_146_110 {b : Nat} (hst : st.length ≤ 4) : wp V (cdT Ev) mx d 146 110 ls (.ref b :: st) h Q = cv [(12, 145)] h b (fun y' => WP V (cdT Ev) mx d y' [.ref b] h (fun r h' => wp V (cdT Ev) mx d 146 113 ls (rts r st) h' Q)) := x_cv (sg := []) rfl hst rfl rfl
theorem s_146_113 {x : Int32} (hn : nl l2 = true) : wp V (cdT Ev) mx d 146 113 [l0, l1, l2, l3] (.int x :: st) h Q = wp V (cdT Ev) mx d 146 114 [l0, l1, l2, some (.int x)] st h Q := x_istore (len := 1) rfl (Nat.le_of_ble_eq_true rfl) (okp_nl rfl hn) rfl
theorem s_146_114 {x : Int32} : wp V (cdT Ev) mx d 146 114 [l0, l1, some (.int x), l3] st h Q = wp V (cdT Ev) mx d 146 115 [l0, l1, some (.int x), l3] (.int x :: st) h Q := x_iload (len := 1) rfl rfl
theorem s_146_115 {x : Int32} : wp V (cdT Ev) mx d 146 115 ls (.int x :: st) h Q = (if 0 ≤ x then wp V (cdT Ev) mx d 146 136 ls st h Q else wp V (cdT Ev) mx d 146 118 ls st h Q) := x_if1 (c := fun x => 0 ≤ x) rfl
theorem s_146_118 {a : Nat} : wp V (cdT Ev) mx d 146 118 [some (.ref a), l1, l2, l3] st h Q = wp V (cdT Ev) mx d 146 119 [some (.ref a), l1, l2, l3] (.ref a :: st) h Q := x_aload (len := 1) rfl rfl
theorem s_146_118_n : wp V (cdT Ev) mx d 146 118 [some .null, l1, l2, l3] st h Q = wp V (cdT Ev) mx d 146 119 [some .null, l1, l2, l3] (.null :: st) h Q := x_aloadN (len := 1) rfl rfl
theorem s_146_119 {a : Nat} : wp V (cdT Ev) mx d 146 119 ls (.ref a :: st) h Q = gf [12] 16 h a (fun v => wp V (cdT Ev) mx d 146 122 ls (v :: st) h Q) := x_getf rfl
theorem s_146_122 {x : Int32} : wp V (cdT Ev) mx d 146 122 [l0, some (.int x), l2, l3] st h Q = wp V (cdT Ev) mx d 146 123 [l0, some (.int x), l2, l3] (.int x :: st) h Q := x_iload (len := 1) rfl rfl
theorem s_146_123 {i : Int32} {a : Nat} : wp V (cdT Ev) mx d 146 123 ls (.int i :: .ref a :: st) h Q = ai 2 i V h a (fun x => wp V (cdT Ev) mx d 146 124 ls (.int x :: st) h Q) := x_iald rfl
theorem s_146_124 {x : Int32} : wp V (cdT Ev) mx d 146 124 [l0, l1, l2, some (.int x)] st h Q = wp V (cdT Ev) mx d 146 125 [l0, l1, l2, some (.int x)] (.int x :: st) h Q := x_iload (len := 1) rfl rfl
theorem s_146_125 {x z : Int32} : wp V (cdT Ev) mx d 146 125 ls (.int z :: .int x :: st) h Q = (if z ≤ x then wp V (cdT Ev) mx d 146 132 ls st h Q else wp V (cdT Ev) mx d 146 128 ls st h Q) := x_if2 (c := fun x z => z ≤ x) rfl
theorem s_146_128 : wp V (cdT Ev) mx d 146 128 ls st h Q = wp V (cdT Ev) mx d 146 129 ls ((.int (1)) :: st) h Q := x_push (v := (.int (1))) (len := 1) rfl
theorem s_146_129 : wp V (cdT Ev) mx d 146 129 ls st h Q = wp V (cdT Ev) mx d 146 173 ls st h Q := x_goto rfl
theorem s_146_132 : wp V (cdT Ev) mx d 146 132 ls st h Q = wp V (cdT Ev) mx d 146 133 ls ((.int (0)) :: st) h Q := x_push (v := (.int (0))) (len := 1) rfl
theorem s_146_133 : wp V (cdT Ev) mx d 146 133 ls st h Q = wp V (cdT Ev) mx d 146 173 ls st h Q := x_goto rfl
theorem s_146_136 {x : Int32} : wp V (cdT Ev) mx d 146 136 [l0, l1, some (.int x), l3] st h Q = wp V (cdT Ev) mx d 146 137 [l0, l1, some (.int x), l3] (.int x :: st) h Q := x_iload (len := 1) rfl rfl
theorem s_146_137 {x : Int32} : wp V (cdT Ev) mx d 146 137 ls (.int x :: st) h Q = (if x ≤ 0 then wp V (cdT Ev) mx d 146 158 ls st h Q else wp V (cdT Ev) mx d 146 140 ls st h Q) := x_if1 (c := fun x => x ≤ 0) rfl
theorem s_146_140 {a : Nat} : wp V (cdT Ev) mx d 146 140 [some (.ref a), l1, l2, l3] st h Q = wp V (cdT Ev) mx d 146 141 [some (.ref a), l1, l2, l3] (.ref a :: st) h Q := x_aload (len := 1) rfl rfl
theorem s_146_140_n : wp V (cdT Ev) mx d 146 140 [some .null, l1, l2, l3] st h Q = wp V (cdT Ev) mx d 146 141 [some .null, l1, l2, l3] (.null :: st) h Q := x_aloadN (len := 1) rfl rfl
theorem s_146_141 {a : Nat} : wp V (cdT Ev) mx d 146 141 ls (.ref a :: st) h Q = gf [12] 16 h a (fun v => wp V (cdT Ev) mx d 146 144 ls (v :: st) h Q) := x_getf rfl
theorem s_146_144 {x : Int32} : wp V (cdT Ev) mx d 146 144 [l0, some (.int x), l2, l3] st h Q = wp V (cdT Ev) mx d 146 145 [l0, some (.int x), l2, l3] (.int x :: st) h Q := x_iload (len := 1) rfl rfl
theorem s_146_145 {i : Int32} {a : Nat} : wp V (cdT Ev) mx d 146 145 ls (.int i :: .ref a :: st) h Q = ai 2 i V h a (fun x => wp V (cdT Ev) mx d 146 146 ls (.int x :: st) h Q) := x_iald rfl
theorem s_146_146 {x : Int32} : wp V (cdT Ev) mx d 146 146 [l0, l1, l2, some (.int x)] st h Q = wp V (cdT Ev) mx d 146 147 [l0, l1, l2, some (.int x)] (.int x :: st) h Q := x_iload (len := 1) rfl rfl
theorem s_146_147 {x z : Int32} : wp V (cdT Ev) mx d 146 147 ls (.int z :: .int x :: st) h Q = (if x ≤ z then wp V (cdT Ev) mx d 146 154 ls st h Q else wp V (cdT Ev) mx d 146 150 ls st h Q) := x_if2 (c := fun x z => x ≤ z) rfl
theorem s_146_150 : wp V (cdT Ev) mx d 146 150 ls st h Q = wp V (cdT Ev) mx d 146 151 ls ((.int (1)) :: st) h Q := x_push (v := (.int (1))) (len := 1) rfl
theorem s_146_151 : wp V (cdT Ev) mx d 146 151 ls st h Q = wp V (cdT Ev) mx d 146 173 ls st h Q := x_goto rfl
theorem s_146_154 : wp V (cdT Ev) mx d 146 154 ls st h Q = wp V (cdT Ev) mx d 146 155 ls ((.int (0)) :: st) h Q := x_push (v := (.int (0))) (len := 1) rfl
theorem s_146_155 : wp V (cdT Ev) mx d 146 155 ls st h Q = wp V (cdT Ev) mx d 146 173 ls st h Q := x_goto rfl
theorem s_146_158 {a : Nat} : wp V (cdT Ev) mx d 146 158 [some (.ref a), l1, l2, l3] st h Q = wp V (cdT Ev) mx d 146 159 [some (.ref a), l1, l2, l3] (.ref a :: st) h Q := x_aload (len := 1) rfl rfl
theorem s_146_158_n : wp V (cdT Ev) mx d 146 158 [some .null, l1, l2, l3] st h Q = wp V (cdT Ev) mx d 146 159 [some .null, l1, l2, l3] (.null :: st) h Q := x_aloadN (len := 1) rfl rfl
theorem s_146_159 {a : Nat} : wp V (cdT Ev) mx d 146 159 ls (.ref a :: st) h Q = gf [12] 16 h a (fun v => wp V (cdT Ev) mx d 146 162 ls (v :: st) h Q) := x_getf rfl
theorem s_146_162 {x : Int32} : wp V (cdT Ev) mx d 146 162 [l0, some (.int x), l2, l3] st h Q = wp V (cdT Ev) mx d 146 163 [l0, some (.int x), l2, l3] (.int x :: st) h Q := x_iload (len := 1) rfl rfl
theorem s_146_163 {i : Int32} {a : Nat} : wp V (cdT Ev) mx d 146 163 ls (.int i :: .ref a :: st) h Q = ai 2 i V h a (fun x => wp V (cdT Ev) mx d 146 164 ls (.int x :: st) h Q) := x_iald rfl
theorem s_146_164 {x : Int32} : wp V (cdT Ev) mx d 146 164 [l0, l1, l2, some (.int x)] st h Q = wp V (cdT Ev) mx d 146 165 [l0, l1, l2, some (.int x)] (.int x :: st) h Q := x_iload (len := 1) rfl rfl
theorem s_146_165 {x z : Int32} : wp V (cdT Ev) mx d 146 165 ls (.int z :: .int x :: st) h Q = (if ¬ x = z then wp V (cdT Ev) mx d 146 172 ls st h Q else wp V (cdT Ev) mx d 146 168 ls st h Q) := x_if2 (c := fun x z => ¬ x = z) rfl
theorem s_146_168 : wp V (cdT Ev) mx d 146 168 ls st h Q = wp V (cdT Ev) mx d 146 169 ls ((.int (1)) :: st) h Q := x_push (v := (.int (1))) (len := 1) rfl
theorem s_146_169 : wp V (cdT Ev) mx d 146 169 ls st h Q = wp V (cdT Ev) mx d 146 173 ls st h Q := x_goto rfl
theorem s_146_172 : wp V (cdT Ev) mx d 146 172 ls st h Q = wp V (cdT Ev) mx d 146 173 ls ((.int (0)) :: st) h Q := x_push (v := (.int (0))) (len := 1) rfl
theorem s_146_173 {x : Int32} (hx : okr 1 (.int x) = true) : wp V (cdT Ev) mx d 146 173 ls [.int x] h Q = Q (some (.int x)) h := x_ret rfl hx
theorem e_146 {a : Nat} : WP V (cdT Ev) mx (d + 1) 146 [.ref a] h Q = wp V (cdT Ev) mx d 146 0 [some (.ref a), none, none, none] [] h Q := propext (WP_eq (Nat.le_of_ble_eq_true rfl))
theorem s_147_0 {a : Nat} : wp V (cdT Ev) mx d 147 0 [some (.ref a), l1] st h Q = wp V (cdT Ev) mx d 147 1 [some (.ref a), l1] (.ref a :: st) h Q := x_aload (len := 1) rfl rfl
theorem s_147_0_n : wp V (cdT Ev) mx d 147 0 [some .null, l1] st h Q = wp V (cdT Ev) mx d 147 1 [some .null, l1] (.null :: st) h Q := x_aloadN (len := 1) rfl rfl
theorem s_147_1 {a : Nat} : wp V (cdT Ev) mx d 147 1 ls (.ref a :: st) h Q = gf [12] 13 h a (fun v => wp V (cdT Ev) mx d 147 4 ls (v :: st) h Q) := x_getf rfl
theorem s_147_4 : wp V (cdT Ev) mx d 147 4 ls st h Q = wp V (cdT Ev) mx d 147 5 ls ((.int (4)) :: st) h Q := x_push (v := (.int (4))) (len := 1) rfl
theorem s_147_5 {x z : Int32} : wp V (cdT Ev) mx d 147 5 ls (.int z :: .int x :: st) h Q = (if z ≤ x then wp V (cdT Ev) mx d 147 63 ls st h Q else wp V (cdT Ev) mx d 147 8 ls st h Q) := x_if2 (c := fun x z => z ≤ x) rfl
theorem s_147_8 {a : Nat} : wp V (cdT Ev) mx d 147 8 [some (.ref a), l1] st h Q = wp V (cdT Ev) mx d 147 9 [some (.ref a), l1] (.ref a :: st) h Q := x_aload (len := 1) rfl rfl
theorem s_147_8_n : wp V (cdT Ev) mx d 147 8 [some .null, l1] st h Q = wp V (cdT Ev) mx d 147 9 [some .null, l1] (.null :: st) h Q := x_aloadN (len := 1) rfl rfl
theorem s_147_9 : wp V (cdT Ev) mx d 147 9 ls st h Q = wp V (cdT Ev) mx d 147 11 ls ((.int (33)) :: st) h Q := x_push (v := (.int (33))) (len := 2) rfl
theorem s_147_11 {b : Nat} {v0 : Value} (hst : st.length ≤ 4) : wp V (cdT Ev) mx d 147 11 ls (v0 :: .ref b :: st) h Q = cv [(12, 142)] h b (fun y' => WP V (cdT Ev) mx d y' [.ref b, v0] h (fun r h' => wp V (cdT Ev) mx d 147 14 ls (rts r st) h' Q)) := x_cv (sg := [v0]) rfl hst rfl rfl
theorem s_147_14 {x : Int32} : wp V (cdT Ev) mx d 147 14 ls (.int x :: st) h Q = (if x = 0 then wp V (cdT Ev) mx d 147 63 ls st h Q else wp V (cdT Ev) mx d 147 17 ls st h Q) := x_if1 (c := fun x => x = 0) rfl
theorem s_147_17 {a : Nat} : wp V (cdT Ev) mx d 147 17 [some (.ref a), l1] st h Q = wp V (cdT Ev) mx d 147 18 [some (.ref a), l1] (.ref a :: st) h Q := x_aload (len := 1) rfl rfl
theorem s_147_17_n : wp V (cdT Ev) mx d 147 17 [some .null, l1] st h Q = wp V (cdT Ev) mx d 147 18 [some .null, l1] (.null :: st) h Q := x_aloadN (len := 1) rfl rfl
theorem s_147_18 {a : Nat} : wp V (cdT Ev) mx d 147 18 ls (.ref a :: st) h Q = wp V (cdT Ev) mx d 147 19 ls (.ref a :: .ref a :: st) h Q := x_dup rfl rfl
theorem s_147_18_i {x : Int32} : wp V (cdT Ev) mx d 147 18 ls (.int x :: st) h Q = wp V (cdT Ev) mx d 147 19 ls (.int x :: .int x :: st) h Q := x_dup rfl rfl
theorem s_147_19 {a : Nat} : wp V (cdT Ev) mx d 147 19 ls (.ref a :: st) h Q = gf [12] 11 h a (fun v => wp V (cdT Ev) mx d 147 22 ls (v :: st) h Q) := x_getf rfl
theorem s_147_22 : wp V (cdT Ev) mx d 147 22 ls st h Q = wp V (cdT Ev) mx d 147 23 ls ((.int (1)) :: st) h Q := x_push (v := (.int (1))) (len := 1) rfl
theorem s_147_23 {x z : Int32} : wp V (cdT Ev) mx d 147 23 ls (.int z :: .int x :: st) h Q = wp V (cdT Ev) mx d 147 24 ls (.int (x + z) :: st) h Q := x_ib (f := fun x z => x + z) rfl
theorem s_147_24 {w : Value} {a : Nat} : wp V (cdT Ev) mx d 147 24 ls (w :: .ref a :: st) h Q = pf [12] 11 0 w h a (fun hh => wp V (cdT Ev) mx d 147 27 ls st hh Q) := x_putf rfl
theorem s_147_27 {a : Nat} : wp V (cdT Ev) mx d 147 27 [some (.ref a), l1] st h Q = wp V (cdT Ev) mx d 147 28 [some (.ref a), l1] (.ref a :: st) h Q := x_aload (len := 1) rfl rfl
theorem s_147_27_n : wp V (cdT Ev) mx d 147 27 [some .null, l1] st h Q = wp V (cdT Ev) mx d 147 28 [some .null, l1] (.null :: st) h Q := x_aloadN (len := 1) rfl rfl
theorem s_147_28 {a : Nat} : wp V (cdT Ev) mx d 147 28 ls (.ref a :: st) h Q = wp V (cdT Ev) mx d 147 29 ls (.ref a :: .ref a :: st) h Q := x_dup rfl rfl
theorem s_147_28_i {x : Int32} : wp V (cdT Ev) mx d 147 28 ls (.int x :: st) h Q = wp V (cdT Ev) mx d 147 29 ls (.int x :: .int x :: st) h Q := x_dup rfl rfl
theorem s_147_29 {a : Nat} : wp V (cdT Ev) mx d 147 29 ls (.ref a :: st) h Q = gf [12] 13 h a (fun v => wp V (cdT Ev) mx d 147 32 ls (v :: st) h Q) := x_getf rfl
theorem s_147_32 : wp V (cdT Ev) mx d 147 32 ls st h Q = wp V (cdT Ev) mx d 147 33 ls ((.int (1)) :: st) h Q := x_push (v := (.int (1))) (len := 1) rfl
theorem s_147_33 {x z : Int32} : wp V (cdT Ev) mx d 147 33 ls (.int z :: .int x :: st) h Q = wp V (cdT Ev) mx d 147 34 ls (.int (x + z) :: st) h Q := x_ib (f := fun x z => x + z) rfl
theorem s_147_34 {w : Value} {a : Nat} : wp V (cdT Ev) mx d 147 34 ls (w :: .ref a :: st) h Q = pf [12] 13 0 w h a (fun hh => wp V (cdT Ev) mx d 147 37 ls st hh Q) := x_putf rfl
theorem s_147_37 {a : Nat} : wp V (cdT Ev) mx d 147 37 [some (.ref a), l1] st h Q = wp V (cdT Ev) mx d 147 38 [some (.ref a), l1] (.ref a :: st) h Q := x_aload (len := 1) rfl rfl
theorem s_147_37_n : wp V (cdT Ev) mx d 147 37 [some .null, l1] st h Q = wp V (cdT Ev) mx d 147 38 [some .null, l1] (.null :: st) h Q := x_aloadN (len := 1) rfl rfl
theorem s_147_38 {b : Nat} (hst : st.length ≤ 4) : wp V (cdT Ev) mx d 147 38 ls (.ref b :: st) h Q = cv [(12, 147)] h b (fun y' => WP V (cdT Ev) mx d y' [.ref b] h (fun r h' => wp V (cdT Ev) mx d 147 41 ls (rts r st) h' Q)) := x_cv (sg := []) rfl hst rfl rfl
theorem s_147_41 {x : Int32} : wp V (cdT Ev) mx d 147 41 ls (.int x :: st) h Q = (if ¬ x = 0 then wp V (cdT Ev) mx d 147 48 ls st h Q else wp V (cdT Ev) mx d 147 44 ls st h Q) := x_if1 (c := fun x => ¬ x = 0) rfl
theorem s_147_44 : wp V (cdT Ev) mx d 147 44 ls st h Q = wp V (cdT Ev) mx d 147 45 ls ((.int (1)) :: st) h Q := x_push (v := (.int (1))) (len := 1) rfl
theorem s_147_45 : wp V (cdT Ev) mx d 147 45 ls st h Q = wp V (cdT Ev) mx d 147 49 ls st h Q := x_goto rfl
theorem s_147_48 : wp V (cdT Ev) mx d 147 48 ls st h Q = wp V (cdT Ev) mx d 147 49 ls ((.int (0)) :: st) h Q := x_push (v := (.int (0))) (len := 1) rfl
theorem s_147_49 {x : Int32} (hn : nl l0 = true) : wp V (cdT Ev) mx d 147 49 [l0, l1] (.int x :: st) h Q = wp V (cdT Ev) mx d 147 50 [l0, some (.int x)] st h Q := x_istore (len := 1) rfl (Nat.le_of_ble_eq_true rfl) (okp_nl rfl hn) rfl
theorem s_147_50 {a : Nat} : wp V (cdT Ev) mx d 147 50 [some (.ref a), l1] st h Q = wp V (cdT Ev) mx d 147 51 [some (.ref a), l1] (.ref a :: st) h Q := x_aload (len := 1) rfl rfl
theorem s_147_50_n : wp V (cdT Ev) mx d 147 50 [some .null, l1] st h Q = wp V (cdT Ev) mx d 147 51 [some .null, l1] (.null :: st) h Q := x_aloadN (len := 1) rfl rfl
theorem s_147_51 {a : Nat} : wp V (cdT Ev) mx d 147 51 ls (.ref a :: st) h Q = wp V (cdT Ev) mx d 147 52 ls (.ref a :: .ref a :: st) h Q := x_dup rfl rfl
theorem s_147_51_i {x : Int32} : wp V (cdT Ev) mx d 147 51 ls (.int x :: st) h Q = wp V (cdT Ev) mx d 147 52 ls (.int x :: .int x :: st) h Q := x_dup rfl rfl
theorem s_147_52 {a : Nat} : wp V (cdT Ev) mx d 147 52 ls (.ref a :: st) h Q = gf [12] 13 h a (fun v => wp V (cdT Ev) mx d 147 55 ls (v :: st) h Q) := x_getf rfl
theorem s_147_55 : wp V (cdT Ev) mx d 147 55 ls st h Q = wp V (cdT Ev) mx d 147 56 ls ((.int (1)) :: st) h Q := x_push (v := (.int (1))) (len := 1) rfl
theorem s_147_56 {x z : Int32} : wp V (cdT Ev) mx d 147 56 ls (.int z :: .int x :: st) h Q = wp V (cdT Ev) mx d 147 57 ls (.int (x - z) :: st) h Q := x_ib (f := fun x z => x - z) rfl
theorem s_147_57 {w : Value} {a : Nat} : wp V (cdT Ev) mx d 147 57 ls (w :: .ref a :: st) h Q = pf [12] 13 0 w h a (fun hh => wp V (cdT Ev) mx d 147 60 ls st hh Q) := x_putf rfl
theorem s_147_60 : wp V (cdT Ev) mx d 147 60 ls st h Q = wp V (cdT Ev) mx d 147 129 ls st h Q := x_goto rfl
theorem s_147_63 {a : Nat} : wp V (cdT Ev) mx d 147 63 [some (.ref a), l1] st h Q = wp V (cdT Ev) mx d 147 64 [some (.ref a), l1] (.ref a :: st) h Q := x_aload (len := 1) rfl rfl
theorem s_147_63_n : wp V (cdT Ev) mx d 147 63 [some .null, l1] st h Q = wp V (cdT Ev) mx d 147 64 [some .null, l1] (.null :: st) h Q := x_aloadN (len := 1) rfl rfl
theorem s_147_64 {a : Nat} : wp V (cdT Ev) mx d 147 64 ls (.ref a :: st) h Q = gf [12] 13 h a (fun v => wp V (cdT Ev) mx d 147 67 ls (v :: st) h Q) := x_getf rfl
theorem s_147_67 : wp V (cdT Ev) mx d 147 67 ls st h Q = wp V (cdT Ev) mx d 147 68 ls ((.int (4)) :: st) h Q := x_push (v := (.int (4))) (len := 1) rfl
theorem s_147_68 {x z : Int32} : wp V (cdT Ev) mx d 147 68 ls (.int z :: .int x :: st) h Q = (if z ≤ x then wp V (cdT Ev) mx d 147 124 ls st h Q else wp V (cdT Ev) mx d 147 71 ls st h Q) := x_if2 (c := fun x z => z ≤ x) rfl
theorem s_147_71 {a : Nat} : wp V (cdT Ev) mx d 147 71 [some (.ref a), l1] st h Q = wp V (cdT Ev) mx d 147 72 [some (.ref a), l1] (.ref a :: st) h Q := x_aload (len := 1) rfl rfl
theorem s_147_71_n : wp V (cdT Ev) mx d 147 71 [some .null, l1] st h Q = wp V (cdT Ev) mx d 147 72 [some .null, l1] (.null :: st) h Q := x_aloadN (len := 1) rfl rfl
theorem s_147_72 : wp V (cdT Ev) mx d 147 72 ls st h Q = wp V (cdT Ev) mx d 147 74 ls ((.int (40)) :: st) h Q := x_push (v := (.int (40))) (len := 2) rfl
theorem s_147_74 {b : Nat} {v0 : Value} (hst : st.length ≤ 4) : wp V (cdT Ev) mx d 147 74 ls (v0 :: .ref b :: st) h Q = cv [(12, 142)] h b (fun y' => WP V (cdT Ev) mx d y' [.ref b, v0] h (fun r h' => wp V (cdT Ev) mx d 147 77 ls (rts r st) h' Q)) := x_cv (sg := [v0]) rfl hst rfl rfl
theorem s_147_77 {x : Int32} : wp V (cdT Ev) mx d 147 77 ls (.int x :: st) h Q = (if x = 0 then wp V (cdT Ev) mx d 147 124 ls st h Q else wp V (cdT Ev) mx d 147 80 ls st h Q) := x_if1 (c := fun x => x = 0) rfl
theorem s_147_80 {a : Nat} : wp V (cdT Ev) mx d 147 80 [some (.ref a), l1] st h Q = wp V (cdT Ev) mx d 147 81 [some (.ref a), l1] (.ref a :: st) h Q := x_aload (len := 1) rfl rfl
theorem s_147_80_n : wp V (cdT Ev) mx d 147 80 [some .null, l1] st h Q = wp V (cdT Ev) mx d 147 81 [some .null, l1] (.null :: st) h Q := x_aloadN (len := 1) rfl rfl
theorem s_147_81 {a : Nat} : wp V (cdT Ev) mx d 147 81 ls (.ref a :: st) h Q = wp V (cdT Ev) mx d 147 82 ls (.ref a :: .ref a :: st) h Q := x_dup rfl rfl
theorem s_147_81_i {x : Int32} : wp V (cdT Ev) mx d 147 81 ls (.int x :: st) h Q = wp V (cdT Ev) mx d 147 82 ls (.int x :: .int x :: st) h Q := x_dup rfl rfl
theorem s_147_82 {a : Nat} : wp V (cdT Ev) mx d 147 82 ls (.ref a :: st) h Q = gf [12] 11 h a (fun v => wp V (cdT Ev) mx d 147 85 ls (v :: st) h Q) := x_getf rfl
theorem s_147_85 : wp V (cdT Ev) mx d 147 85 ls st h Q = wp V (cdT Ev) mx d 147 86 ls ((.int (1)) :: st) h Q := x_push (v := (.int (1))) (len := 1) rfl
theorem s_147_86 {x z : Int32} : wp V (cdT Ev) mx d 147 86 ls (.int z :: .int x :: st) h Q = wp V (cdT Ev) mx d 147 87 ls (.int (x + z) :: st) h Q := x_ib (f := fun x z => x + z) rfl
theorem s_147_87 {w : Value} {a : Nat} : wp V (cdT Ev) mx d 147 87 ls (w :: .ref a :: st) h Q = pf [12] 11 0 w h a (fun hh => wp V (cdT Ev) mx d 147 90 ls st hh Q) := x_putf rfl
theorem s_147_90 {a : Nat} : wp V (cdT Ev) mx d 147 90 [some (.ref a), l1] st h Q = wp V (cdT Ev) mx d 147 91 [some (.ref a), l1] (.ref a :: st) h Q := x_aload (len := 1) rfl rfl
theorem s_147_90_n : wp V (cdT Ev) mx d 147 90 [some .null, l1] st h Q = wp V (cdT Ev) mx d 147 91 [some .null, l1] (.null :: st) h Q := x_aloadN (len := 1) rfl rfl
theorem s_147_91 {a : Nat} : wp V (cdT Ev) mx d 147 91 ls (.ref a :: st) h Q = wp V (cdT Ev) mx d 147 92 ls (.ref a :: .ref a :: st) h Q := x_dup rfl rfl
theorem s_147_91_i {x : Int32} : wp V (cdT Ev) mx d 147 91 ls (.int x :: st) h Q = wp V (cdT Ev) mx d 147 92 ls (.int x :: .int x :: st) h Q := x_dup rfl rfl
theorem s_147_92 {a : Nat} : wp V (cdT Ev) mx d 147 92 ls (.ref a :: st) h Q = gf [12] 13 h a (fun v => wp V (cdT Ev) mx d 147 95 ls (v :: st) h Q) := x_getf rfl
theorem s_147_95 : wp V (cdT Ev) mx d 147 95 ls st h Q = wp V (cdT Ev) mx d 147 96 ls ((.int (1)) :: st) h Q := x_push (v := (.int (1))) (len := 1) rfl
theorem s_147_96 {x z : Int32} : wp V (cdT Ev) mx d 147 96 ls (.int z :: .int x :: st) h Q = wp V (cdT Ev) mx d 147 97 ls (.int (x + z) :: st) h Q := x_ib (f := fun x z => x + z) rfl
theorem s_147_97 {w : Value} {a : Nat} : wp V (cdT Ev) mx d 147 97 ls (w :: .ref a :: st) h Q = pf [12] 13 0 w h a (fun hh => wp V (cdT Ev) mx d 147 100 ls st hh Q) := x_putf rfl
theorem s_147_100 {a : Nat} : wp V (cdT Ev) mx d 147 100 [some (.ref a), l1] st h Q = wp V (cdT Ev) mx d 147 101 [some (.ref a), l1] (.ref a :: st) h Q := x_aload (len := 1) rfl rfl
theorem s_147_100_n : wp V (cdT Ev) mx d 147 100 [some .null, l1] st h Q = wp V (cdT Ev) mx d 147 101 [some .null, l1] (.null :: st) h Q := x_aloadN (len := 1) rfl rfl
theorem s_147_101 {b : Nat} (hst : st.length ≤ 4) : wp V (cdT Ev) mx d 147 101 ls (.ref b :: st) h Q = cv [(12, 149)] h b (fun y' => WP V (cdT Ev) mx d y' [.ref b] h (fun r h' => wp V (cdT Ev) mx d 147 104 ls (rts r st) h' Q)) := x_cv (sg := []) rfl hst rfl rfl
theorem s_147_104 {x : Int32} (hn : nl l0 = true) : wp V (cdT Ev) mx d 147 104 [l0, l1] (.int x :: st) h Q = wp V (cdT Ev) mx d 147 105 [l0, some (.int x)] st h Q := x_istore (len := 1) rfl (Nat.le_of_ble_eq_true rfl) (okp_nl rfl hn) rfl
theorem s_147_105 {a : Nat} : wp V (cdT Ev) mx d 147 105 [some (.ref a), l1] st h Q = wp V (cdT Ev) mx d 147 106 [some (.ref a), l1] (.ref a :: st) h Q := x_aload (len := 1) rfl rfl
theorem s_147_105_n : wp V (cdT Ev) mx d 147 105 [some .null, l1] st h Q = wp V (cdT Ev) mx d 147 106 [some .null, l1] (.null :: st) h Q := x_aloadN (len := 1) rfl rfl
theorem s_147_106 {a : Nat} : wp V (cdT Ev) mx d 147 106 ls (.ref a :: st) h Q = wp V (cdT Ev) mx d 147 107 ls (.ref a :: .ref a :: st) h Q := x_dup rfl rfl
theorem s_147_106_i {x : Int32} : wp V (cdT Ev) mx d 147 106 ls (.int x :: st) h Q = wp V (cdT Ev) mx d 147 107 ls (.int x :: .int x :: st) h Q := x_dup rfl rfl
theorem s_147_107 {a : Nat} : wp V (cdT Ev) mx d 147 107 ls (.ref a :: st) h Q = gf [12] 13 h a (fun v => wp V (cdT Ev) mx d 147 110 ls (v :: st) h Q) := x_getf rfl
theorem s_147_110 : wp V (cdT Ev) mx d 147 110 ls st h Q = wp V (cdT Ev) mx d 147 111 ls ((.int (1)) :: st) h Q := x_push (v := (.int (1))) (len := 1) rfl
theorem s_147_111 {x z : Int32} : wp V (cdT Ev) mx d 147 111 ls (.int z :: .int x :: st) h Q = wp V (cdT Ev) mx d 147 112 ls (.int (x - z) :: st) h Q := x_ib (f := fun x z => x - z) rfl
theorem s_147_112 {w : Value} {a : Nat} : wp V (cdT Ev) mx d 147 112 ls (w :: .ref a :: st) h Q = pf [12] 13 0 w h a (fun hh => wp V (cdT Ev) mx d 147 115 ls st hh Q) := x_putf rfl
theorem s_147_115 {a : Nat} : wp V (cdT Ev) mx d 147 115 [some (.ref a), l1] st h Q = wp V (cdT Ev) mx d 147 116 [some (.ref a), l1] (.ref a :: st) h Q := x_aload (len := 1) rfl rfl
theorem s_147_115_n : wp V (cdT Ev) mx d 147 115 [some .null, l1] st h Q = wp V (cdT Ev) mx d 147 116 [some .null, l1] (.null :: st) h Q := x_aloadN (len := 1) rfl rfl
theorem s_147_116 : wp V (cdT Ev) mx d 147 116 ls st h Q = wp V (cdT Ev) mx d 147 118 ls ((.int (41)) :: st) h Q := x_push (v := (.int (41))) (len := 2) rfl
theorem s_147_118 {b : Nat} {v0 : Value} (hst : st.length ≤ 4) : wp V (cdT Ev) mx d 147 118 ls (v0 :: .ref b :: st) h Q = cv [(12, 143)] h b (fun y' => WP V (cdT Ev) mx d y' [.ref b, v0] h (fun r h' => wp V (cdT Ev) mx d 147 121 ls (rts r st) h' Q)) := x_cv (sg := [v0]) rfl hst rfl rfl
theorem s_147_121 : wp V (cdT Ev) mx d 147 121 ls st h Q = wp V (cdT Ev) mx d 147 129 ls st h Q := x_goto rfl
theorem s_147_124 {a : Nat} : wp V (cdT Ev) mx d 147 124 [some (.ref a), l1] st h Q = wp V (cdT Ev) mx d 147 125 [some (.ref a), l1] (.ref a :: st) h Q := x_aload (len := 1) rfl rfl
theorem s_147_124_n : wp V (cdT Ev) mx d 147 124 [some .null, l1] st h Q = wp V (cdT Ev) mx d 147 125 [some .null, l1] (.null :: st) h Q := x_aloadN (len := 1) rfl rfl
theorem s_147_125 {b : Nat} (hst : st.length ≤ 4) : wp V (cdT Ev) mx d 147 125 ls (.ref b :: st) h Q = cv [(12, 146)] h b (fun y' => WP V (cdT Ev) mx d y' [.ref b] h (fun r h' => wp V (cdT Ev) mx d 147 128 ls (rts r st) h' Q)) := x_cv (sg := []) rfl hst rfl rfl
theorem s_147_128 {x : Int32} (hn : nl l0 = true) : wp V (cdT Ev) mx d 147 128 [l0, l1] (.int x :: st) h Q = wp V (cdT Ev) mx d 147 129 [l0, some (.int x)] st h Q := x_istore (len := 1) rfl (Nat.le_of_ble_eq_true rfl) (okp_nl rfl hn) rfl
theorem s_147_129 {x : Int32} : wp V (cdT Ev) mx d 147 129 [l0, some (.int x)] st h Q = wp V (cdT Ev) mx d 147 130 [l0, some (.int x)] (.int x :: st) h Q := x_iload (len := 1) rfl rfl
theorem s_147_130 {x : Int32} (hx : okr 1 (.int x) = true) : wp V (cdT Ev) mx d 147 130 ls [.int x] h Q = Q (some (.int x)) h := x_ret rfl hx
theorem e_147 {a : Nat} : WP V (cdT Ev) mx (d + 1) 147 [.ref a] h Q = wp V (cdT Ev) mx d 147 0 [some (.ref a), none] [] h Q := propext (WP_eq (Nat.le_of_ble_eq_true rfl))
theorem s_148_0 {a : Nat} : wp V (cdT Ev) mx d 148 0 [some (.ref a), l1, l2] st h Q = wp V (cdT Ev) mx d 148 1 [some (.ref a), l1, l2] (.ref a :: st) h Q := x_aload (len := 1) rfl rfl
theorem s_148_0_n : wp V (cdT Ev) mx d 148 0 [some .null, l1, l2] st h Q = wp V (cdT Ev) mx d 148 1 [some .null, l1, l2] (.null :: st) h Q := x_aloadN (len := 1) rfl rfl
theorem s_148_1 {b : Nat} (hst : st.length ≤ 4) : wp V (cdT Ev) mx d 148 1 ls (.ref b :: st) h Q = cv [(12, 147)] h b (fun y' => WP V (cdT Ev) mx d y' [.ref b] h (fun r h' => wp V (cdT Ev) mx d 148 4 ls (rts r st) h' Q)) := x_cv (sg := []) rfl hst rfl rfl
theorem s_148_4 {x : Int32} (hn : nl l0 = true) : wp V (cdT Ev) mx d 148 4 [l0, l1, l2] (.int x :: st) h Q = wp V (cdT Ev) mx d 148 5 [l0, some (.int x), l2] st h Q := x_istore (len := 1) rfl (Nat.le_of_ble_eq_true rfl) (okp_nl rfl hn) rfl
theorem s_148_5 {a : Nat} : wp V (cdT Ev) mx d 148 5 [some (.ref a), l1, l2] st h Q = wp V (cdT Ev) mx d 148 6 [some (.ref a), l1, l2] (.ref a :: st) h Q := x_aload (len := 1) rfl rfl
theorem s_148_5_n : wp V (cdT Ev) mx d 148 5 [some .null, l1, l2] st h Q = wp V (cdT Ev) mx d 148 6 [some .null, l1, l2] (.null :: st) h Q := x_aloadN (len := 1) rfl rfl
theorem s_148_6 : wp V (cdT Ev) mx d 148 6 ls st h Q = wp V (cdT Ev) mx d 148 8 ls ((.int (38)) :: st) h Q := x_push (v := (.int (38))) (len := 2) rfl
theorem s_148_8 {b : Nat} {v0 : Value} (hst : st.length ≤ 4) : wp V (cdT Ev) mx d 148 8 ls (v0 :: .ref b :: st) h Q = cv [(12, 142)] h b (fun y' => WP V (cdT Ev) mx d y' [.ref b, v0] h (fun r h' => wp V (cdT Ev) mx d 148 11 ls (rts r st) h' Q)) := x_cv (sg := [v0]) rfl hst rfl rfl
theorem s_148_11 {x : Int32} : wp V (cdT Ev) mx d 148 11 ls (.int x :: st) h Q = (if x = 0 then wp V (cdT Ev) mx d 148 46 ls st h Q else wp V (cdT Ev) mx d 148 14 ls st h Q) := x_if1 (c := fun x => x = 0) rfl
theorem s_148_14 {a : Nat} : wp V (cdT Ev) mx d 148 14 [some (.ref a), l1, l2] st h Q = wp V (cdT Ev) mx d 148 15 [some (.ref a), l1, l2] (.ref a :: st) h Q := x_aload (len := 1) rfl rfl
theorem s_148_14_n : wp V (cdT Ev) mx d 148 14 [some .null, l1, l2] st h Q = wp V (cdT Ev) mx d 148 15 [some .null, l1, l2] (.null :: st) h Q := x_aloadN (len := 1) rfl rfl
theorem s_148_15 {a : Nat} : wp V (cdT Ev) mx d 148 15 ls (.ref a :: st) h Q = wp V (cdT Ev) mx d 148 16 ls (.ref a :: .ref a :: st) h Q := x_dup rfl rfl
theorem s_148_15_i {x : Int32} : wp V (cdT Ev) mx d 148 15 ls (.int x :: st) h Q = wp V (cdT Ev) mx d 148 16 ls (.int x :: .int x :: st) h Q := x_dup rfl rfl
theorem s_148_16 {a : Nat} : wp V (cdT Ev) mx d 148 16 ls (.ref a :: st) h Q = gf [12] 11 h a (fun v => wp V (cdT Ev) mx d 148 19 ls (v :: st) h Q) := x_getf rfl
theorem s_148_19 : wp V (cdT Ev) mx d 148 19 ls st h Q = wp V (cdT Ev) mx d 148 20 ls ((.int (1)) :: st) h Q := x_push (v := (.int (1))) (len := 1) rfl
theorem s_148_20 {x z : Int32} : wp V (cdT Ev) mx d 148 20 ls (.int z :: .int x :: st) h Q = wp V (cdT Ev) mx d 148 21 ls (.int (x + z) :: st) h Q := x_ib (f := fun x z => x + z) rfl
theorem s_148_21 {w : Value} {a : Nat} : wp V (cdT Ev) mx d 148 21 ls (w :: .ref a :: st) h Q = pf [12] 11 0 w h a (fun hh => wp V (cdT Ev) mx d 148 24 ls st hh Q) := x_putf rfl
theorem s_148_24 {a : Nat} : wp V (cdT Ev) mx d 148 24 [some (.ref a), l1, l2] st h Q = wp V (cdT Ev) mx d 148 25 [some (.ref a), l1, l2] (.ref a :: st) h Q := x_aload (len := 1) rfl rfl
theorem s_148_24_n : wp V (cdT Ev) mx d 148 24 [some .null, l1, l2] st h Q = wp V (cdT Ev) mx d 148 25 [some .null, l1, l2] (.null :: st) h Q := x_aloadN (len := 1) rfl rfl
theorem s_148_25 {b : Nat} (hst : st.length ≤ 4) : wp V (cdT Ev) mx d 148 25 ls (.ref b :: st) h Q = cv [(12, 147)] h b (fun y' => WP V (cdT Ev) mx d y' [.ref b] h (fun r h' => wp V (cdT Ev) mx d 148 28 ls (rts r st) h' Q)) := x_cv (sg := []) rfl hst rfl rfl
theorem s_148_28 {x : Int32} (hn : nl l1 = true) : wp V (cdT Ev) mx d 148 28 [l0, l1, l2] (.int x :: st) h Q = wp V (cdT Ev) mx d 148 29 [l0, l1, some (.int x)] st h Q := x_istore (len := 1) rfl (Nat.le_of_ble_eq_true rfl) (okp_nl rfl hn) rfl
theorem s_148_29 {x : Int32} : wp V (cdT Ev) mx d 148 29 [l0, some (.int x), l2] st h Q = wp V (cdT Ev) mx d 148 30 [l0, some (.int x), l2] (.int x :: st) h Q := x_iload (len := 1) rfl rfl
theorem s_148_30 {x : Int32} : wp V (cdT Ev) mx d 148 30 ls (.int x :: st) h Q = (if x = 0 then wp V (cdT Ev) mx d 148 41 ls st h Q else wp V (cdT Ev) mx d 148 33 ls st h Q) := x_if1 (c := fun x => x = 0) rfl
theorem s_148_33 {x : Int32} : wp V (cdT Ev) mx d 148 33 [l0, l1, some (.int x)] st h Q = wp V (cdT Ev) mx d 148 34 [l0, l1, some (.int x)] (.int x :: st) h Q := x_iload (len := 1) rfl rfl
theorem s_148_34 {x : Int32} : wp V (cdT Ev) mx d 148 34 ls (.int x :: st) h Q = (if x = 0 then wp V (cdT Ev) mx d 148 41 ls st h Q else wp V (cdT Ev) mx d 148 37 ls st h Q) := x_if1 (c := fun x => x = 0) rfl
theorem s_148_37 : wp V (cdT Ev) mx d 148 37 ls st h Q = wp V (cdT Ev) mx d 148 38 ls ((.int (1)) :: st) h Q := x_push (v := (.int (1))) (len := 1) rfl
theorem s_148_38 : wp V (cdT Ev) mx d 148 38 ls st h Q = wp V (cdT Ev) mx d 148 42 ls st h Q := x_goto rfl
theorem s_148_41 : wp V (cdT Ev) mx d 148 41 ls st h Q = wp V (cdT Ev) mx d 148 42 ls ((.int (0)) :: st) h Q := x_push (v := (.int (0))) (len := 1) rfl
theorem s_148_42 {x : Int32} (hn : nl l0 = true) : wp V (cdT Ev) mx d 148 42 [l0, l1, l2] (.int x :: st) h Q = wp V (cdT Ev) mx d 148 43 [l0, some (.int x), l2] st h Q := x_istore (len := 1) rfl (Nat.le_of_ble_eq_true rfl) (okp_nl rfl hn) rfl
theorem s_148_43 : wp V (cdT Ev) mx d 148 43 ls st h Q = wp V (cdT Ev) mx d 148 5 ls st h Q := x_goto rfl
theorem s_148_46 {x : Int32} : wp V (cdT Ev) mx d 148 46 [l0, some (.int x), l2] st h Q = wp V (cdT Ev) mx d 148 47 [l0, some (.int x), l2] (.int x :: st) h Q := x_iload (len := 1) rfl rfl
theorem s_148_47 {x : Int32} (hx : okr 1 (.int x) = true) : wp V (cdT Ev) mx d 148 47 ls [.int x] h Q = Q (some (.int x)) h := x_ret rfl hx
theorem e_148 {a : Nat} : WP V (cdT Ev) mx (d + 1) 148 [.ref a] h Q = wp V (cdT Ev) mx d 148 0 [some (.ref a), none, none] [] h Q := propext (WP_eq (Nat.le_of_ble_eq_true rfl))
theorem s_149_0 {a : Nat} : wp V (cdT Ev) mx d 149 0 [some (.ref a), l1, l2] st h Q = wp V (cdT Ev) mx d 149 1 [some (.ref a), l1, l2] (.ref a :: st) h Q := x_aload (len := 1) rfl rfl
theorem s_149_0_n : wp V (cdT Ev) mx d 149 0 [some .null, l1, l2] st h Q = wp V (cdT Ev) mx d 149 1 [some .null, l1, l2] (.null :: st) h Q := x_aloadN (len := 1) rfl rfl
theorem s_149_1 {b : Nat} (hst : st.length ≤ 4) : wp V (cdT Ev) mx d 149 1 ls (.ref b :: st) h Q = cv [(12, 148)] h b (fun y' => WP V (cdT Ev) mx d y' [.ref b] h (fun r h' => wp V (cdT Ev) mx d 149 4 ls (rts r st) h' Q)) := x_cv (sg := []) rfl hst rfl rfl
theorem s_149_4 {x : Int32} (hn : nl l0 = true) : wp V (cdT Ev) mx d 149 4 [l0, l1, l2] (.int x :: st) h Q = wp V (cdT Ev) mx d 149 5 [l0, some (.int x), l2] st h Q := x_istore (len := 1) rfl (Nat.le_of_ble_eq_true rfl) (okp_nl rfl hn) rfl
theorem s_149_5 {a : Nat} : wp V (cdT Ev) mx d 149 5 [some (.ref a), l1, l2] st h Q = wp V (cdT Ev) mx d 149 6 [some (.ref a), l1, l2] (.ref a :: st) h Q := x_aload (len := 1) rfl rfl
theorem s_149_5_n : wp V (cdT Ev) mx d 149 5 [some .null, l1, l2] st h Q = wp V (cdT Ev) mx d 149 6 [some .null, l1, l2] (.null :: st) h Q := x_aloadN (len := 1) rfl rfl
theorem s_149_6 : wp V (cdT Ev) mx d 149 6 ls st h Q = wp V (cdT Ev) mx d 149 8 ls ((.int (124)) :: st) h Q := x_push (v := (.int (124))) (len := 2) rfl
theorem s_149_8 {b : Nat} {v0 : Value} (hst : st.length ≤ 4) : wp V (cdT Ev) mx d 149 8 ls (v0 :: .ref b :: st) h Q = cv [(12, 142)] h b (fun y' => WP V (cdT Ev) mx d y' [.ref b, v0] h (fun r h' => wp V (cdT Ev) mx d 149 11 ls (rts r st) h' Q)) := x_cv (sg := [v0]) rfl hst rfl rfl
theorem s_149_11 {x : Int32} : wp V (cdT Ev) mx d 149 11 ls (.int x :: st) h Q = (if x = 0 then wp V (cdT Ev) mx d 149 46 ls st h Q else wp V (cdT Ev) mx d 149 14 ls st h Q) := x_if1 (c := fun x => x = 0) rfl
theorem s_149_14 {a : Nat} : wp V (cdT Ev) mx d 149 14 [some (.ref a), l1, l2] st h Q = wp V (cdT Ev) mx d 149 15 [some (.ref a), l1, l2] (.ref a :: st) h Q := x_aload (len := 1) rfl rfl
theorem s_149_14_n : wp V (cdT Ev) mx d 149 14 [some .null, l1, l2] st h Q = wp V (cdT Ev) mx d 149 15 [some .null, l1, l2] (.null :: st) h Q := x_aloadN (len := 1) rfl rfl
theorem s_149_15 {a : Nat} : wp V (cdT Ev) mx d 149 15 ls (.ref a :: st) h Q = wp V (cdT Ev) mx d 149 16 ls (.ref a :: .ref a :: st) h Q := x_dup rfl rfl
theorem s_149_15_i {x : Int32} : wp V (cdT Ev) mx d 149 15 ls (.int x :: st) h Q = wp V (cdT Ev) mx d 149 16 ls (.int x :: .int x :: st) h Q := x_dup rfl rfl
theorem s_149_16 {a : Nat} : wp V (cdT Ev) mx d 149 16 ls (.ref a :: st) h Q = gf [12] 11 h a (fun v => wp V (cdT Ev) mx d 149 19 ls (v :: st) h Q) := x_getf rfl
theorem s_149_19 : wp V (cdT Ev) mx d 149 19 ls st h Q = wp V (cdT Ev) mx d 149 20 ls ((.int (1)) :: st) h Q := x_push (v := (.int (1))) (len := 1) rfl
theorem s_149_20 {x z : Int32} : wp V (cdT Ev) mx d 149 20 ls (.int z :: .int x :: st) h Q = wp V (cdT Ev) mx d 149 21 ls (.int (x + z) :: st) h Q := x_ib (f := fun x z => x + z) rfl
theorem s_149_21 {w : Value} {a : Nat} : wp V (cdT Ev) mx d 149 21 ls (w :: .ref a :: st) h Q = pf [12] 11 0 w h a (fun hh => wp V (cdT Ev) mx d 149 24 ls st hh Q) := x_putf rfl
theorem s_149_24 {a : Nat} : wp V (cdT Ev) mx d 149 24 [some (.ref a), l1, l2] st h Q = wp V (cdT Ev) mx d 149 25 [some (.ref a), l1, l2] (.ref a :: st) h Q := x_aload (len := 1) rfl rfl
theorem s_149_24_n : wp V (cdT Ev) mx d 149 24 [some .null, l1, l2] st h Q = wp V (cdT Ev) mx d 149 25 [some .null, l1, l2] (.null :: st) h Q := x_aloadN (len := 1) rfl rfl
theorem s_149_25 {b : Nat} (hst : st.length ≤ 4) : wp V (cdT Ev) mx d 149 25 ls (.ref b :: st) h Q = cv [(12, 148)] h b (fun y' => WP V (cdT Ev) mx d y' [.ref b] h (fun r h' => wp V (cdT Ev) mx d 149 28 ls (rts r st) h' Q)) := x_cv (sg := []) rfl hst rfl rfl
theorem s_149_28 {x : Int32} (hn : nl l1 = true) : wp V (cdT Ev) mx d 149 28 [l0, l1, l2] (.int x :: st) h Q = wp V (cdT Ev) mx d 149 29 [l0, l1, some (.int x)] st h Q := x_istore (len := 1) rfl (Nat.le_of_ble_eq_true rfl) (okp_nl rfl hn) rfl
theorem s_149_29 {x : Int32} : wp V (cdT Ev) mx d 149 29 [l0, some (.int x), l2] st h Q = wp V (cdT Ev) mx d 149 30 [l0, some (.int x), l2] (.int x :: st) h Q := x_iload (len := 1) rfl rfl
theorem s_149_30 {x : Int32} : wp V (cdT Ev) mx d 149 30 ls (.int x :: st) h Q = (if ¬ x = 0 then wp V (cdT Ev) mx d 149 37 ls st h Q else wp V (cdT Ev) mx d 149 33 ls st h Q) := x_if1 (c := fun x => ¬ x = 0) rfl
theorem s_149_33 {x : Int32} : wp V (cdT Ev) mx d 149 33 [l0, l1, some (.int x)] st h Q = wp V (cdT Ev) mx d 149 34 [l0, l1, some (.int x)] (.int x :: st) h Q := x_iload (len := 1) rfl rfl
theorem s_149_34 {x : Int32} : wp V (cdT Ev) mx d 149 34 ls (.int x :: st) h Q = (if x = 0 then wp V (cdT Ev) mx d 149 41 ls st h Q else wp V (cdT Ev) mx d 149 37 ls st h Q) := x_if1 (c := fun x => x = 0) rfl
theorem s_149_37 : wp V (cdT Ev) mx d 149 37 ls st h Q = wp V (cdT Ev) mx d 149 38 ls ((.int (1)) :: st) h Q := x_push (v := (.int (1))) (len := 1) rfl
theorem s_149_38 : wp V (cdT Ev) mx d 149 38 ls st h Q = wp V (cdT Ev) mx d 149 42 ls st h Q := x_goto rfl
theorem s_149_41 : wp V (cdT Ev) mx d 149 41 ls st h Q = wp V (cdT Ev) mx d 149 42 ls ((.int (0)) :: st) h Q := x_push (v := (.int (0))) (len := 1) rfl
theorem s_149_42 {x : Int32} (hn : nl l0 = true) : wp V (cdT Ev) mx d 149 42 [l0, l1, l2] (.int x :: st) h Q = wp V (cdT Ev) mx d 149 43 [l0, some (.int x), l2] st h Q := x_istore (len := 1) rfl (Nat.le_of_ble_eq_true rfl) (okp_nl rfl hn) rfl
theorem s_149_43 : wp V (cdT Ev) mx d 149 43 ls st h Q = wp V (cdT Ev) mx d 149 5 ls st h Q := x_goto rfl
theorem s_149_46 {x : Int32} : wp V (cdT Ev) mx d 149 46 [l0, some (.int x), l2] st h Q = wp V (cdT Ev) mx d 149 47 [l0, some (.int x), l2] (.int x :: st) h Q := x_iload (len := 1) rfl rfl
theorem s_149_47 {x : Int32} (hx : okr 1 (.int x) = true) : wp V (cdT Ev) mx d 149 47 ls [.int x] h Q = Q (some (.int x)) h := x_ret rfl hx
theorem e_149 {a : Nat} : WP V (cdT Ev) mx (d + 1) 149 [.ref a] h Q = wp V (cdT Ev) mx d 149 0 [some (.ref a), none, none] [] h Q := propext (WP_eq (Nat.le_of_ble_eq_true rfl))
theorem s_150_0 : wp V (cdT Ev) mx d 150 0 ls st h Q = wp V (cdT Ev) mx d 150 1 ls ((.int (-1)) :: st) h Q := x_push (v := (.int (-1))) (len := 1) rfl
theorem s_150_1 {x : Int32} (hn : nl l0 = true) : wp V (cdT Ev) mx d 150 1 [l0, l1, l2, l3] (.int x :: st) h Q = wp V (cdT Ev) mx d 150 2 [l0, some (.int x), l2, l3] st h Q := x_istore (len := 1) rfl (Nat.le_of_ble_eq_true rfl) (okp_nl rfl hn) rfl
theorem s_150_2 : wp V (cdT Ev) mx d 150 2 ls st h Q = wp V (cdT Ev) mx d 150 3 ls ((.int (0)) :: st) h Q := x_push (v := (.int (0))) (len := 1) rfl
theorem s_150_3 {x : Int32} (hn : nl l1 = true) : wp V (cdT Ev) mx d 150 3 [l0, l1, l2, l3] (.int x :: st) h Q = wp V (cdT Ev) mx d 150 4 [l0, l1, some (.int x), l3] st h Q := x_istore (len := 1) rfl (Nat.le_of_ble_eq_true rfl) (okp_nl rfl hn) rfl
theorem s_150_4 {x : Int32} : wp V (cdT Ev) mx d 150 4 [l0, l1, some (.int x), l3] st h Q = wp V (cdT Ev) mx d 150 5 [l0, l1, some (.int x), l3] (.int x :: st) h Q := x_iload (len := 1) rfl rfl
theorem s_150_5 : wp V (cdT Ev) mx d 150 5 ls st h Q = wp V (cdT Ev) mx d 150 6 ls ((.int (3)) :: st) h Q := x_push (v := (.int (3))) (len := 1) rfl
theorem s_150_6 {x z : Int32} : wp V (cdT Ev) mx d 150 6 ls (.int z :: .int x :: st) h Q = (if z ≤ x then wp V (cdT Ev) mx d 150 34 ls st h Q else wp V (cdT Ev) mx d 150 9 ls st h Q) := x_if2 (c := fun x z => z ≤ x) rfl
theorem s_150_9 {a : Nat} : wp V (cdT Ev) mx d 150 9 [some (.ref a), l1, l2, l3] st h Q = wp V (cdT Ev) mx d 150 10 [some (.ref a), l1, l2, l3] (.ref a :: st) h Q := x_aload (len := 1) rfl rfl
theorem s_150_9_n : wp V (cdT Ev) mx d 150 9 [some .null, l1, l2, l3] st h Q = wp V (cdT Ev) mx d 150 10 [some .null, l1, l2, l3] (.null :: st) h Q := x_aloadN (len := 1) rfl rfl
theorem s_150_10 {a : Nat} : wp V (cdT Ev) mx d 150 10 [some (.ref a), l1, l2, l3] st h Q = wp V (cdT Ev) mx d 150 11 [some (.ref a), l1, l2, l3] (.ref a :: st) h Q := x_aload (len := 1) rfl rfl
theorem s_150_10_n : wp V (cdT Ev) mx d 150 10 [some .null, l1, l2, l3] st h Q = wp V (cdT Ev) mx d 150 11 [some .null, l1, l2, l3] (.null :: st) h Q := x_aloadN (len := 1) rfl rfl
theorem s_150_11 {a : Nat} : wp V (cdT Ev) mx d 150 11 ls (.ref a :: st) h Q = gf [12] 18 h a (fun v => wp V (cdT Ev) mx d 150 14 ls (v :: st) h Q) := x_getf rfl
theorem s_150_14 {x : Int32} : wp V (cdT Ev) mx d 150 14 [l0, l1, some (.int x), l3] st h Q = wp V (cdT Ev) mx d 150 15 [l0, l1, some (.int x), l3] (.int x :: st) h Q := x_iload (len := 1) rfl rfl
theorem s_150_15 {i : Int32} {a : Nat} : wp V (cdT Ev) mx d 150 15 ls (.int i :: .ref a :: st) h Q = ai 1 i V h a (fun x => wp V (cdT Ev) mx d 150 16 ls (.int x :: st) h Q) := x_iald rfl
theorem s_150_16 {b : Nat} {v0 : Value} (hst : st.length ≤ 4) : wp V (cdT Ev) mx d 150 16 ls (v0 :: .ref b :: st) h Q = cv [(12, 142)] h b (fun y' => WP V (cdT Ev) mx d y' [.ref b, v0] h (fun r h' => wp V (cdT Ev) mx d 150 19 ls (rts r st) h' Q)) := x_cv (sg := [v0]) rfl hst rfl rfl
theorem s_150_19 {x : Int32} : wp V (cdT Ev) mx d 150 19 ls (.int x :: st) h Q = (if x = 0 then wp V (cdT Ev) mx d 150 26 ls st h Q else wp V (cdT Ev) mx d 150 22 ls st h Q) := x_if1 (c := fun x => x = 0) rfl
theorem s_150_22 {x : Int32} : wp V (cdT Ev) mx d 150 22 [l0, l1, some (.int x), l3] st h Q = wp V (cdT Ev) mx d 150 23 [l0, l1, some (.int x), l3] (.int x :: st) h Q := x_iload (len := 1) rfl rfl
theorem s_150_23 : wp V (cdT Ev) mx d 150 23 ls st h Q = wp V (cdT Ev) mx d 150 27 ls st h Q := x_goto rfl
theorem s_150_26 {x : Int32} : wp V (cdT Ev) mx d 150 26 [l0, some (.int x), l2, l3] st h Q = wp V (cdT Ev) mx d 150 27 [l0, some (.int x), l2, l3] (.int x :: st) h Q := x_iload (len := 1) rfl rfl
theorem s_150_27 {x : Int32} (hn : nl l0 = true) : wp V (cdT Ev) mx d 150 27 [l0, l1, l2, l3] (.int x :: st) h Q = wp V (cdT Ev) mx d 150 28 [l0, some (.int x), l2, l3] st h Q := x_istore (len := 1) rfl (Nat.le_of_ble_eq_true rfl) (okp_nl rfl hn) rfl
theorem s_150_28 {x : Int32} : wp V (cdT Ev) mx d 150 28 [l0, l1, some (.int x), l3] st h Q = wp V (cdT Ev) mx d 150 31 [l0, l1, some (.int (x + (1))), l3] st h Q := x_iinc rfl rfl rfl
theorem s_150_31 : wp V (cdT Ev) mx d 150 31 ls st h Q = wp V (cdT Ev) mx d 150 4 ls st h Q := x_goto rfl
theorem s_150_34 {x : Int32} : wp V (cdT Ev) mx d 150 34 [l0, some (.int x), l2, l3] st h Q = wp V (cdT Ev) mx d 150 35 [l0, some (.int x), l2, l3] (.int x :: st) h Q := x_iload (len := 1) rfl rfl
theorem s_150_35 : wp V (cdT Ev) mx d 150 35 ls st h Q = wp V (cdT Ev) mx d 150 36 ls ((.int (-1)) :: st) h Q := x_push (v := (.int (-1))) (len := 1) rfl
theorem s_150_36 {x z : Int32} : wp V (cdT Ev) mx d 150 36 ls (.int z :: .int x :: st) h Q = (if ¬ x = z then wp V (cdT Ev) mx d 150 45 ls st h Q else wp V (cdT Ev) mx d 150 39 ls st h Q) := x_if2 (c := fun x z => ¬ x = z) rfl
theorem s_150_39 {a : Nat} : wp V (cdT Ev) mx d 150 39 [some (.ref a), l1, l2, l3] st h Q = wp V (cdT Ev) mx d 150 40 [some (.ref a), l1, l2, l3] (.ref a :: st) h Q := x_aload (len := 1) rfl rfl
theorem s_150_39_n : wp V (cdT Ev) mx d 150 39 [some .null, l1, l2, l3] st h Q = wp V (cdT Ev) mx d 150 40 [some .null, l1, l2, l3] (.null :: st) h Q := x_aloadN (len := 1) rfl rfl
theorem s_150_40 : wp V (cdT Ev) mx d 150 40 ls st h Q = wp V (cdT Ev) mx d 150 41 ls ((.int (0)) :: st) h Q := x_push (v := (.int (0))) (len := 1) rfl
theorem s_150_41 {w : Value} {a : Nat} : wp V (cdT Ev) mx d 150 41 ls (w :: .ref a :: st) h Q = pf [12] 12 1 w h a (fun hh => wp V (cdT Ev) mx d 150 44 ls st hh Q) := x_putf rfl
theorem s_150_44 : wp V (cdT Ev) mx d 150 44 ls [] h Q = Q none h := x_retv rfl
theorem s_150_45 : wp V (cdT Ev) mx d 150 45 ls st h Q = wp V (cdT Ev) mx d 150 46 ls ((.int (0)) :: st) h Q := x_push (v := (.int (0))) (len := 1) rfl
theorem s_150_46 {x : Int32} (hn : nl l1 = true) : wp V (cdT Ev) mx d 150 46 [l0, l1, l2, l3] (.int x :: st) h Q = wp V (cdT Ev) mx d 150 47 [l0, l1, some (.int x), l3] st h Q := x_istore (len := 1) rfl (Nat.le_of_ble_eq_true rfl) (okp_nl rfl hn) rfl
theorem s_150_47 {x : Int32} : wp V (cdT Ev) mx d 150 47 [l0, l1, some (.int x), l3] st h Q = wp V (cdT Ev) mx d 150 48 [l0, l1, some (.int x), l3] (.int x :: st) h Q := x_iload (len := 1) rfl rfl
theorem s_150_48 : wp V (cdT Ev) mx d 150 48 ls st h Q = wp V (cdT Ev) mx d 150 49 ls ((.int (5)) :: st) h Q := x_push (v := (.int (5))) (len := 1) rfl
theorem s_150_49 {x z : Int32} : wp V (cdT Ev) mx d 150 49 ls (.int z :: .int x :: st) h Q = (if z ≤ x then wp V (cdT Ev) mx d 150 85 ls st h Q else wp V (cdT Ev) mx d 150 52 ls st h Q) := x_if2 (c := fun x z => z ≤ x) rfl
theorem s_150_52 {a : Nat} : wp V (cdT Ev) mx d 150 52 [some (.ref a), l1, l2, l3] st h Q = wp V (cdT Ev) mx d 150 53 [some (.ref a), l1, l2, l3] (.ref a :: st) h Q := x_aload (len := 1) rfl rfl
theorem s_150_52_n : wp V (cdT Ev) mx d 150 52 [some .null, l1, l2, l3] st h Q = wp V (cdT Ev) mx d 150 53 [some .null, l1, l2, l3] (.null :: st) h Q := x_aloadN (len := 1) rfl rfl
theorem s_150_53 {a : Nat} : wp V (cdT Ev) mx d 150 53 ls (.ref a :: st) h Q = gf [12] 19 h a (fun v => wp V (cdT Ev) mx d 150 56 ls (v :: st) h Q) := x_getf rfl
theorem s_150_56 : wp V (cdT Ev) mx d 150 56 ls st h Q = wp V (cdT Ev) mx d 150 57 ls ((.int (5)) :: st) h Q := x_push (v := (.int (5))) (len := 1) rfl
theorem s_150_57 {x : Int32} : wp V (cdT Ev) mx d 150 57 [l0, some (.int x), l2, l3] st h Q = wp V (cdT Ev) mx d 150 58 [l0, some (.int x), l2, l3] (.int x :: st) h Q := x_iload (len := 1) rfl rfl
theorem s_150_58 {x z : Int32} : wp V (cdT Ev) mx d 150 58 ls (.int z :: .int x :: st) h Q = wp V (cdT Ev) mx d 150 59 ls (.int (x * z) :: st) h Q := x_ib (f := fun x z => x * z) rfl
theorem s_150_59 {x : Int32} : wp V (cdT Ev) mx d 150 59 [l0, l1, some (.int x), l3] st h Q = wp V (cdT Ev) mx d 150 60 [l0, l1, some (.int x), l3] (.int x :: st) h Q := x_iload (len := 1) rfl rfl
theorem s_150_60 {x z : Int32} : wp V (cdT Ev) mx d 150 60 ls (.int z :: .int x :: st) h Q = wp V (cdT Ev) mx d 150 61 ls (.int (x + z) :: st) h Q := x_ib (f := fun x z => x + z) rfl
theorem s_150_61 {i : Int32} {a : Nat} : wp V (cdT Ev) mx d 150 61 ls (.int i :: .ref a :: st) h Q = ai 1 i V h a (fun x => wp V (cdT Ev) mx d 150 62 ls (.int x :: st) h Q) := x_iald rfl
theorem s_150_62 {x : Int32} : wp V (cdT Ev) mx d 150 62 ls (.int x :: st) h Q = (if x = 0 then wp V (cdT Ev) mx d 150 85 ls st h Q else wp V (cdT Ev) mx d 150 65 ls st h Q) := x_if1 (c := fun x => x = 0) rfl
theorem s_150_65 {a : Nat} : wp V (cdT Ev) mx d 150 65 [some (.ref a), l1, l2, l3] st h Q = wp V (cdT Ev) mx d 150 66 [some (.ref a), l1, l2, l3] (.ref a :: st) h Q := x_aload (len := 1) rfl rfl
theorem s_150_65_n : wp V (cdT Ev) mx d 150 65 [some .null, l1, l2, l3] st h Q = wp V (cdT Ev) mx d 150 66 [some .null, l1, l2, l3] (.null :: st) h Q := x_aloadN (len := 1) rfl rfl
theorem s_150_66 {a : Nat} : wp V (cdT Ev) mx d 150 66 [some (.ref a), l1, l2, l3] st h Q = wp V (cdT Ev) mx d 150 67 [some (.ref a), l1, l2, l3] (.ref a :: st) h Q := x_aload (len := 1) rfl rfl
theorem s_150_66_n : wp V (cdT Ev) mx d 150 66 [some .null, l1, l2, l3] st h Q = wp V (cdT Ev) mx d 150 67 [some .null, l1, l2, l3] (.null :: st) h Q := x_aloadN (len := 1) rfl rfl
theorem s_150_67 {a : Nat} : wp V (cdT Ev) mx d 150 67 ls (.ref a :: st) h Q = gf [12] 19 h a (fun v => wp V (cdT Ev) mx d 150 70 ls (v :: st) h Q) := x_getf rfl
theorem s_150_70 : wp V (cdT Ev) mx d 150 70 ls st h Q = wp V (cdT Ev) mx d 150 71 ls ((.int (5)) :: st) h Q := x_push (v := (.int (5))) (len := 1) rfl
theorem s_150_71 {x : Int32} : wp V (cdT Ev) mx d 150 71 [l0, some (.int x), l2, l3] st h Q = wp V (cdT Ev) mx d 150 72 [l0, some (.int x), l2, l3] (.int x :: st) h Q := x_iload (len := 1) rfl rfl
theorem s_150_72 {x z : Int32} : wp V (cdT Ev) mx d 150 72 ls (.int z :: .int x :: st) h Q = wp V (cdT Ev) mx d 150 73 ls (.int (x * z) :: st) h Q := x_ib (f := fun x z => x * z) rfl
theorem s_150_73 {x : Int32} : wp V (cdT Ev) mx d 150 73 [l0, l1, some (.int x), l3] st h Q = wp V (cdT Ev) mx d 150 74 [l0, l1, some (.int x), l3] (.int x :: st) h Q := x_iload (len := 1) rfl rfl
theorem s_150_74 {x z : Int32} : wp V (cdT Ev) mx d 150 74 ls (.int z :: .int x :: st) h Q = wp V (cdT Ev) mx d 150 75 ls (.int (x + z) :: st) h Q := x_ib (f := fun x z => x + z) rfl
theorem s_150_75 {i : Int32} {a : Nat} : wp V (cdT Ev) mx d 150 75 ls (.int i :: .ref a :: st) h Q = ai 1 i V h a (fun x => wp V (cdT Ev) mx d 150 76 ls (.int x :: st) h Q) := x_iald rfl
theorem s_150_76 {b : Nat} {v0 : Value} (hst : st.length ≤ 4) : wp V (cdT Ev) mx d 150 76 ls (v0 :: .ref b :: st) h Q = cv [(12, 143)] h b (fun y' => WP V (cdT Ev) mx d y' [.ref b, v0] h (fun r h' => wp V (cdT Ev) mx d 150 79 ls (rts r st) h' Q)) := x_cv (sg := [v0]) rfl hst rfl rfl
theorem s_150_79 {x : Int32} : wp V (cdT Ev) mx d 150 79 [l0, l1, some (.int x), l3] st h Q = wp V (cdT Ev) mx d 150 82 [l0, l1, some (.int (x + (1))), l3] st h Q := x_iinc rfl rfl rfl
theorem s_150_82 : wp V (cdT Ev) mx d 150 82 ls st h Q = wp V (cdT Ev) mx d 150 47 ls st h Q := x_goto rfl
theorem s_150_85 {a : Nat} : wp V (cdT Ev) mx d 150 85 [some (.ref a), l1, l2, l3] st h Q = wp V (cdT Ev) mx d 150 86 [some (.ref a), l1, l2, l3] (.ref a :: st) h Q := x_aload (len := 1) rfl rfl
theorem s_150_85_n : wp V (cdT Ev) mx d 150 85 [some .null, l1, l2, l3] st h Q = wp V (cdT Ev) mx d 150 86 [some .null, l1, l2, l3] (.null :: st) h Q := x_aloadN (len := 1) rfl rfl
theorem s_150_86 : wp V (cdT Ev) mx d 150 86 ls st h Q = wp V (cdT Ev) mx d 150 88 ls ((.int (32)) :: st) h Q := x_push (v := (.int (32))) (len := 2) rfl
theorem s_150_88 {b : Nat} {v0 : Value} (hst : st.length ≤ 4) : wp V (cdT Ev) mx d 150 88 ls (v0 :: .ref b :: st) h Q = cv [(12, 143)] h b (fun y' => WP V (cdT Ev) mx d y' [.ref b, v0] h (fun r h' => wp V (cdT Ev) mx d 150 91 ls (rts r st) h' Q)) := x_cv (sg := [v0]) rfl hst rfl rfl
theorem s_150_91 {a : Nat} : wp V (cdT Ev) mx d 150 91 [some (.ref a), l1, l2, l3] st h Q = wp V (cdT Ev) mx d 150 92 [some (.ref a), l1, l2, l3] (.ref a :: st) h Q := x_aload (len := 1) rfl rfl
theorem s_150_91_n : wp V (cdT Ev) mx d 150 91 [some .null, l1, l2, l3] st h Q = wp V (cdT Ev) mx d 150 92 [some .null, l1, l2, l3] (.null :: st) h Q := x_aloadN (len := 1) rfl rfl
theorem s_150_92 {b : Nat} (hst : st.length ≤ 4) : wp V (cdT Ev) mx d 150 92 ls (.ref b :: st) h Q = cv [(12, 145)] h b (fun y' => WP V (cdT Ev) mx d y' [.ref b] h (fun r h' => wp V (cdT Ev) mx d 150 95 ls (rts r st) h' Q)) := x_cv (sg := []) rfl hst rfl rfl
theorem s_150_95 {x : Int32} (hn : nl l1 = true) : wp V (cdT Ev) mx d 150 95 [l0, l1, l2, l3] (.int x :: st) h Q = wp V (cdT Ev) mx d 150 96 [l0, l1, some (.int x), l3] st h Q := x_istore (len := 1) rfl (Nat.le_of_ble_eq_true rfl) (okp_nl rfl hn) rfl
theorem s_150_96 {x : Int32} : wp V (cdT Ev) mx d 150 96 [l0, some (.int x), l2, l3] st h Q = wp V (cdT Ev) mx d 150 97 [l0, some (.int x), l2, l3] (.int x :: st) h Q := x_iload (len := 1) rfl rfl
theorem s_150_97 : wp V (cdT Ev) mx d 150 97 ls st h Q = wp V (cdT Ev) mx d 150 98 ls ((.int (2)) :: st) h Q := x_push (v := (.int (2))) (len := 1) rfl
theorem s_150_98 {x z : Int32} : wp V (cdT Ev) mx d 150 98 ls (.int z :: .int x :: st) h Q = (if ¬ x = z then wp V (cdT Ev) mx d 150 107 ls st h Q else wp V (cdT Ev) mx d 150 101 ls st h Q) := x_if2 (c := fun x z => ¬ x = z) rfl
theorem s_150_101 {a : Nat} : wp V (cdT Ev) mx d 150 101 [some (.ref a), l1, l2, l3] st h Q = wp V (cdT Ev) mx d 150 102 [some (.ref a), l1, l2, l3] (.ref a :: st) h Q := x_aload (len := 1) rfl rfl
theorem s_150_101_n : wp V (cdT Ev) mx d 150 101 [some .null, l1, l2, l3] st h Q = wp V (cdT Ev) mx d 150 102 [some .null, l1, l2, l3] (.null :: st) h Q := x_aloadN (len := 1) rfl rfl
theorem s_150_102 {x : Int32} : wp V (cdT Ev) mx d 150 102 [l0, l1, some (.int x), l3] st h Q = wp V (cdT Ev) mx d 150 103 [l0, l1, some (.int x), l3] (.int x :: st) h Q := x_iload (len := 1) rfl rfl
theorem s_150_103 {w : Value} {a : Nat} : wp V (cdT Ev) mx d 150 103 ls (w :: .ref a :: st) h Q = pf [12] 15 0 w h a (fun hh => wp V (cdT Ev) mx d 150 106 ls st hh Q) := x_putf rfl
theorem s_150_106 : wp V (cdT Ev) mx d 150 106 ls [] h Q = Q none h := x_retv rfl
theorem s_150_107 {a : Nat} : wp V (cdT Ev) mx d 150 107 [some (.ref a), l1, l2, l3] st h Q = wp V (cdT Ev) mx d 150 108 [some (.ref a), l1, l2, l3] (.ref a :: st) h Q := x_aload (len := 1) rfl rfl
theorem s_150_107_n : wp V (cdT Ev) mx d 150 107 [some .null, l1, l2, l3] st h Q = wp V (cdT Ev) mx d 150 108 [some .null, l1, l2, l3] (.null :: st) h Q := x_aloadN (len := 1) rfl rfl
theorem s_150_108 : wp V (cdT Ev) mx d 150 108 ls st h Q = wp V (cdT Ev) mx d 150 110 ls ((.int (32)) :: st) h Q := x_push (v := (.int (32))) (len := 2) rfl
theorem s_150_110 {b : Nat} {v0 : Value} (hst : st.length ≤ 4) : wp V (cdT Ev) mx d 150 110 ls (v0 :: .ref b :: st) h Q = cv [(12, 143)] h b (fun y' => WP V (cdT Ev) mx d y' [.ref b, v0] h (fun r h' => wp V (cdT Ev) mx d 150 113 ls (rts r st) h' Q)) := x_cv (sg := [v0]) rfl hst rfl rfl
theorem s_150_113 {a : Nat} : wp V (cdT Ev) mx d 150 113 [some (.ref a), l1, l2, l3] st h Q = wp V (cdT Ev) mx d 150 114 [some (.ref a), l1, l2, l3] (.ref a :: st) h Q := x_aload (len := 1) rfl rfl
theorem s_150_113_n : wp V (cdT Ev) mx d 150 113 [some .null, l1, l2, l3] st h Q = wp V (cdT Ev) mx d 150 114 [some .null, l1, l2, l3] (.null :: st) h Q := x_aloadN (len := 1) rfl rfl
theorem s_150_114 : wp V (cdT Ev) mx d 150 114 ls st h Q = wp V (cdT Ev) mx d 150 115 ls ((.int (0)) :: st) h Q := x_push (v := (.int (0))) (len := 1) rfl
theorem s_150_115 {w : Value} {a : Nat} : wp V (cdT Ev) mx d 150 115 ls (w :: .ref a :: st) h Q = pf [12] 13 0 w h a (fun hh => wp V (cdT Ev) mx d 150 118 ls st hh Q) := x_putf rfl
theorem s_150_118 {a : Nat} : wp V (cdT Ev) mx d 150 118 [some (.ref a), l1, l2, l3] st h Q = wp V (cdT Ev) mx d 150 119 [some (.ref a), l1, l2, l3] (.ref a :: st) h Q := x_aload (len := 1) rfl rfl
theorem s_150_118_n : wp V (cdT Ev) mx d 150 118 [some .null, l1, l2, l3] st h Q = wp V (cdT Ev) mx d 150 119 [some .null, l1, l2, l3] (.null :: st) h Q := x_aloadN (len := 1) rfl rfl
theorem s_150_119 {b : Nat} (hst : st.length ≤ 4) : wp V (cdT Ev) mx d 150 119 ls (.ref b :: st) h Q = cv [(12, 149)] h b (fun y' => WP V (cdT Ev) mx d y' [.ref b] h (fun r h' => wp V (cdT Ev) mx d 150 122 ls (rts r st) h' Q)) := x_cv (sg := []) rfl hst rfl rfl
theorem s_150_122 {x : Int32} (hn : nl l2 = true) : wp V (cdT Ev) mx d 150 122 [l0, l1, l2, l3] (.int x :: st) h Q = wp V (cdT Ev) mx d 150 123 [l0, l1, l2, some (.int x)] st h Q := x_istore (len := 1) rfl (Nat.le_of_ble_eq_true rfl) (okp_nl rfl hn) rfl
theorem s_150_123 {a : Nat} : wp V (cdT Ev) mx d 150 123 [some (.ref a), l1, l2, l3] st h Q = wp V (cdT Ev) mx d 150 124 [some (.ref a), l1, l2, l3] (.ref a :: st) h Q := x_aload (len := 1) rfl rfl
theorem s_150_123_n : wp V (cdT Ev) mx d 150 123 [some .null, l1, l2, l3] st h Q = wp V (cdT Ev) mx d 150 124 [some .null, l1, l2, l3] (.null :: st) h Q := x_aloadN (len := 1) rfl rfl
theorem s_150_124 {a : Nat} : wp V (cdT Ev) mx d 150 124 ls (.ref a :: st) h Q = wp V (cdT Ev) mx d 150 125 ls (.ref a :: .ref a :: st) h Q := x_dup rfl rfl
theorem s_150_124_i {x : Int32} : wp V (cdT Ev) mx d 150 124 ls (.int x :: st) h Q = wp V (cdT Ev) mx d 150 125 ls (.int x :: .int x :: st) h Q := x_dup rfl rfl
theorem s_150_125 {a : Nat} : wp V (cdT Ev) mx d 150 125 ls (.ref a :: st) h Q = gf [12] 14 h a (fun v => wp V (cdT Ev) mx d 150 128 ls (v :: st) h Q) := x_getf rfl
theorem s_150_128 {x : Int32} : wp V (cdT Ev) mx d 150 128 [l0, l1, l2, some (.int x)] st h Q = wp V (cdT Ev) mx d 150 129 [l0, l1, l2, some (.int x)] (.int x :: st) h Q := x_iload (len := 1) rfl rfl
theorem s_150_129 {x : Int32} : wp V (cdT Ev) mx d 150 129 ls (.int x :: st) h Q = (if ¬ x = 0 then wp V (cdT Ev) mx d 150 136 ls st h Q else wp V (cdT Ev) mx d 150 132 ls st h Q) := x_if1 (c := fun x => ¬ x = 0) rfl
theorem s_150_132 : wp V (cdT Ev) mx d 150 132 ls st h Q = wp V (cdT Ev) mx d 150 133 ls ((.int (0)) :: st) h Q := x_push (v := (.int (0))) (len := 1) rfl
theorem s_150_133 : wp V (cdT Ev) mx d 150 133 ls st h Q = wp V (cdT Ev) mx d 150 146 ls st h Q := x_goto rfl
theorem s_150_136 {x : Int32} : wp V (cdT Ev) mx d 150 136 [l0, some (.int x), l2, l3] st h Q = wp V (cdT Ev) mx d 150 137 [l0, some (.int x), l2, l3] (.int x :: st) h Q := x_iload (len := 1) rfl rfl
theorem s_150_137 {x : Int32} : wp V (cdT Ev) mx d 150 137 ls (.int x :: st) h Q = (if ¬ x = 0 then wp V (cdT Ev) mx d 150 144 ls st h Q else wp V (cdT Ev) mx d 150 140 ls st h Q) := x_if1 (c := fun x => ¬ x = 0) rfl
theorem s_150_140 {x : Int32} : wp V (cdT Ev) mx d 150 140 [l0, l1, some (.int x), l3] st h Q = wp V (cdT Ev) mx d 150 141 [l0, l1, some (.int x), l3] (.int x :: st) h Q := x_iload (len := 1) rfl rfl
theorem s_150_141 : wp V (cdT Ev) mx d 150 141 ls st h Q = wp V (cdT Ev) mx d 150 146 ls st h Q := x_goto rfl
theorem s_150_144 {x : Int32} : wp V (cdT Ev) mx d 150 144 [l0, l1, some (.int x), l3] st h Q = wp V (cdT Ev) mx d 150 145 [l0, l1, some (.int x), l3] (.int x :: st) h Q := x_iload (len := 1) rfl rfl
theorem s_150_145 {x : Int32} : wp V (cdT Ev) mx d 150 145 ls (.int x :: st) h Q = wp V (cdT Ev) mx d 150 146 ls (.int (-x) :: st) h Q := x_iu (f := fun x => -x) rfl
theorem s_150_146 {x z : Int32} : wp V (cdT Ev) mx d 150 146 ls (.int z :: .int x :: st) h Q = wp V (cdT Ev) mx d 150 147 ls (.int (x + z) :: st) h Q := x_ib (f := fun x z => x + z) rfl
theorem s_150_147 {w : Value} {a : Nat} : wp V (cdT Ev) mx d 150 147 ls (w :: .ref a :: st) h Q = pf [12] 14 0 w h a (fun hh => wp V (cdT Ev) mx d 150 150 ls st hh Q) := x_putf rfl
theorem s_150_150 : wp V (cdT Ev) mx d 150 150 ls [] h Q = Q none h := x_retv rfl
theorem e_150 {a : Nat} : WP V (cdT Ev) mx (d + 1) 150 [.ref a] h Q = wp V (cdT Ev) mx d 150 0 [some (.ref a), none, none, none] [] h Q := propext (WP_eq (Nat.le_of_ble_eq_true rfl))
theorem s_151_0 {a : Nat} : wp V (cdT Ev) mx d 151 0 [some (.ref a), l1] st h Q = wp V (cdT Ev) mx d 151 1 [some (.ref a), l1] (.ref a :: st) h Q := x_aload (len := 1) rfl rfl
theorem s_151_0_n : wp V (cdT Ev) mx d 151 0 [some .null, l1] st h Q = wp V (cdT Ev) mx d 151 1 [some .null, l1] (.null :: st) h Q := x_aloadN (len := 1) rfl rfl
theorem s_151_1 : wp V (cdT Ev) mx d 151 1 ls st h Q = wp V (cdT Ev) mx d 151 2 ls ((.int (0)) :: st) h Q := x_push (v := (.int (0))) (len := 1) rfl
theorem s_151_2 {w : Value} {a : Nat} : wp V (cdT Ev) mx d 151 2 ls (w :: .ref a :: st) h Q = pf [12] 11 0 w h a (fun hh => wp V (cdT Ev) mx d 151 5 ls st hh Q) := x_putf rfl
theorem s_151_5 {a : Nat} : wp V (cdT Ev) mx d 151 5 [some (.ref a), l1] st h Q = wp V (cdT Ev) mx d 151 6 [some (.ref a), l1] (.ref a :: st) h Q := x_aload (len := 1) rfl rfl
theorem s_151_5_n : wp V (cdT Ev) mx d 151 5 [some .null, l1] st h Q = wp V (cdT Ev) mx d 151 6 [some .null, l1] (.null :: st) h Q := x_aloadN (len := 1) rfl rfl
theorem s_151_6 : wp V (cdT Ev) mx d 151 6 ls st h Q = wp V (cdT Ev) mx d 151 7 ls ((.int (1)) :: st) h Q := x_push (v := (.int (1))) (len := 1) rfl
theorem s_151_7 {w : Value} {a : Nat} : wp V (cdT Ev) mx d 151 7 ls (w :: .ref a :: st) h Q = pf [12] 12 1 w h a (fun hh => wp V (cdT Ev) mx d 151 10 ls st hh Q) := x_putf rfl
theorem s_151_10 {a : Nat} : wp V (cdT Ev) mx d 151 10 [some (.ref a), l1] st h Q = wp V (cdT Ev) mx d 151 11 [some (.ref a), l1] (.ref a :: st) h Q := x_aload (len := 1) rfl rfl
theorem s_151_10_n : wp V (cdT Ev) mx d 151 10 [some .null, l1] st h Q = wp V (cdT Ev) mx d 151 11 [some .null, l1] (.null :: st) h Q := x_aloadN (len := 1) rfl rfl
theorem s_151_11 {a : Nat} : wp V (cdT Ev) mx d 151 11 [some (.ref a), l1] st h Q = wp V (cdT Ev) mx d 151 12 [some (.ref a), l1] (.ref a :: st) h Q := x_aload (len := 1) rfl rfl
theorem s_151_11_n : wp V (cdT Ev) mx d 151 11 [some .null, l1] st h Q = wp V (cdT Ev) mx d 151 12 [some .null, l1] (.null :: st) h Q := x_aloadN (len := 1) rfl rfl
theorem s_151_12 {a : Nat} : wp V (cdT Ev) mx d 151 12 ls (.ref a :: st) h Q = gf [12] 16 h a (fun v => wp V (cdT Ev) mx d 151 15 ls (v :: st) h Q) := x_getf rfl
theorem s_151_15 : wp V (cdT Ev) mx d 151 15 ls st h Q = wp V (cdT Ev) mx d 151 16 ls ((.int (4)) :: st) h Q := x_push (v := (.int (4))) (len := 1) rfl
theorem s_151_16 {i : Int32} {a : Nat} : wp V (cdT Ev) mx d 151 16 ls (.int i :: .ref a :: st) h Q = ai 2 i V h a (fun x => wp V (cdT Ev) mx d 151 17 ls (.int x :: st) h Q) := x_iald rfl
theorem s_151_17 {w : Value} {a : Nat} : wp V (cdT Ev) mx d 151 17 ls (w :: .ref a :: st) h Q = pf [12] 14 0 w h a (fun hh => wp V (cdT Ev) mx d 151 20 ls st hh Q) := x_putf rfl
theorem s_151_20 {a : Nat} : wp V (cdT Ev) mx d 151 20 [some (.ref a), l1] st h Q = wp V (cdT Ev) mx d 151 21 [some (.ref a), l1] (.ref a :: st) h Q := x_aload (len := 1) rfl rfl
theorem s_151_20_n : wp V (cdT Ev) mx d 151 20 [some .null, l1] st h Q = wp V (cdT Ev) mx d 151 21 [some .null, l1] (.null :: st) h Q := x_aloadN (len := 1) rfl rfl
theorem s_151_21 : wp V (cdT Ev) mx d 151 21 ls st h Q = wp V (cdT Ev) mx d 151 22 ls ((.int (0)) :: st) h Q := x_push (v := (.int (0))) (len := 1) rfl
theorem s_151_22 {w : Value} {a : Nat} : wp V (cdT Ev) mx d 151 22 ls (w :: .ref a :: st) h Q = pf [12] 15 0 w h a (fun hh => wp V (cdT Ev) mx d 151 25 ls st hh Q) := x_putf rfl
theorem s_151_25 : wp V (cdT Ev) mx d 151 25 ls st h Q = wp V (cdT Ev) mx d 151 26 ls ((.int (1)) :: st) h Q := x_push (v := (.int (1))) (len := 1) rfl
theorem s_151_26 {x : Int32} (hn : nl l0 = true) : wp V (cdT Ev) mx d 151 26 [l0, l1] (.int x :: st) h Q = wp V (cdT Ev) mx d 151 27 [l0, some (.int x)] st h Q := x_istore (len := 1) rfl (Nat.le_of_ble_eq_true rfl) (okp_nl rfl hn) rfl
theorem s_151_27 {a : Nat} : wp V (cdT Ev) mx d 151 27 [some (.ref a), l1] st h Q = wp V (cdT Ev) mx d 151 28 [some (.ref a), l1] (.ref a :: st) h Q := x_aload (len := 1) rfl rfl
theorem s_151_27_n : wp V (cdT Ev) mx d 151 27 [some .null, l1] st h Q = wp V (cdT Ev) mx d 151 28 [some .null, l1] (.null :: st) h Q := x_aloadN (len := 1) rfl rfl
theorem s_151_28 {b : Nat} (hst : st.length ≤ 4) : wp V (cdT Ev) mx d 151 28 ls (.ref b :: st) h Q = cv [(12, 150)] h b (fun y' => WP V (cdT Ev) mx d y' [.ref b] h (fun r h' => wp V (cdT Ev) mx d 151 31 ls (rts r st) h' Q)) := x_cv (sg := []) rfl hst rfl rfl
theorem s_151_31 {x : Int32} : wp V (cdT Ev) mx d 151 31 [l0, some (.int x)] st h Q = wp V (cdT Ev) mx d 151 32 [l0, some (.int x)] (.int x :: st) h Q := x_iload (len := 1) rfl rfl
theorem s_151_32 : wp V (cdT Ev) mx d 151 32 ls st h Q = wp V (cdT Ev) mx d 151 34 ls ((.int (10)) :: st) h Q := x_push (v := (.int (10))) (len := 2) rfl
theorem s_151_34 {x z : Int32} : wp V (cdT Ev) mx d 151 34 ls (.int z :: .int x :: st) h Q = (if z ≤ x then wp V (cdT Ev) mx d 151 66 ls st h Q else wp V (cdT Ev) mx d 151 37 ls st h Q) := x_if2 (c := fun x z => z ≤ x) rfl
theorem s_151_37 {a : Nat} : wp V (cdT Ev) mx d 151 37 [some (.ref a), l1] st h Q = wp V (cdT Ev) mx d 151 38 [some (.ref a), l1] (.ref a :: st) h Q := x_aload (len := 1) rfl rfl
theorem s_151_37_n : wp V (cdT Ev) mx d 151 37 [some .null, l1] st h Q = wp V (cdT Ev) mx d 151 38 [some .null, l1] (.null :: st) h Q := x_aloadN (len := 1) rfl rfl
theorem s_151_38 : wp V (cdT Ev) mx d 151 38 ls st h Q = wp V (cdT Ev) mx d 151 40 ls ((.int (59)) :: st) h Q := x_push (v := (.int (59))) (len := 2) rfl
theorem s_151_40 {b : Nat} {v0 : Value} (hst : st.length ≤ 4) : wp V (cdT Ev) mx d 151 40 ls (v0 :: .ref b :: st) h Q = cv [(12, 142)] h b (fun y' => WP V (cdT Ev) mx d y' [.ref b, v0] h (fun r h' => wp V (cdT Ev) mx d 151 43 ls (rts r st) h' Q)) := x_cv (sg := [v0]) rfl hst rfl rfl
theorem s_151_43 {x : Int32} : wp V (cdT Ev) mx d 151 43 ls (.int x :: st) h Q = (if x = 0 then wp V (cdT Ev) mx d 151 66 ls st h Q else wp V (cdT Ev) mx d 151 46 ls st h Q) := x_if1 (c := fun x => x = 0) rfl
theorem s_151_46 {a : Nat} : wp V (cdT Ev) mx d 151 46 [some (.ref a), l1] st h Q = wp V (cdT Ev) mx d 151 47 [some (.ref a), l1] (.ref a :: st) h Q := x_aload (len := 1) rfl rfl
theorem s_151_46_n : wp V (cdT Ev) mx d 151 46 [some .null, l1] st h Q = wp V (cdT Ev) mx d 151 47 [some .null, l1] (.null :: st) h Q := x_aloadN (len := 1) rfl rfl
theorem s_151_47 {a : Nat} : wp V (cdT Ev) mx d 151 47 ls (.ref a :: st) h Q = wp V (cdT Ev) mx d 151 48 ls (.ref a :: .ref a :: st) h Q := x_dup rfl rfl
theorem s_151_47_i {x : Int32} : wp V (cdT Ev) mx d 151 47 ls (.int x :: st) h Q = wp V (cdT Ev) mx d 151 48 ls (.int x :: .int x :: st) h Q := x_dup rfl rfl
theorem s_151_48 {a : Nat} : wp V (cdT Ev) mx d 151 48 ls (.ref a :: st) h Q = gf [12] 11 h a (fun v => wp V (cdT Ev) mx d 151 51 ls (v :: st) h Q) := x_getf rfl
theorem s_151_51 : wp V (cdT Ev) mx d 151 51 ls st h Q = wp V (cdT Ev) mx d 151 52 ls ((.int (1)) :: st) h Q := x_push (v := (.int (1))) (len := 1) rfl
theorem s_151_52 {x z : Int32} : wp V (cdT Ev) mx d 151 52 ls (.int z :: .int x :: st) h Q = wp V (cdT Ev) mx d 151 53 ls (.int (x + z) :: st) h Q := x_ib (f := fun x z => x + z) rfl
theorem s_151_53 {w : Value} {a : Nat} : wp V (cdT Ev) mx d 151 53 ls (w :: .ref a :: st) h Q = pf [12] 11 0 w h a (fun hh => wp V (cdT Ev) mx d 151 56 ls st hh Q) := x_putf rfl
theorem s_151_56 {a : Nat} : wp V (cdT Ev) mx d 151 56 [some (.ref a), l1] st h Q = wp V (cdT Ev) mx d 151 57 [some (.ref a), l1] (.ref a :: st) h Q := x_aload (len := 1) rfl rfl
theorem s_151_56_n : wp V (cdT Ev) mx d 151 56 [some .null, l1] st h Q = wp V (cdT Ev) mx d 151 57 [some .null, l1] (.null :: st) h Q := x_aloadN (len := 1) rfl rfl
theorem s_151_57 {b : Nat} (hst : st.length ≤ 4) : wp V (cdT Ev) mx d 151 57 ls (.ref b :: st) h Q = cv [(12, 150)] h b (fun y' => WP V (cdT Ev) mx d y' [.ref b] h (fun r h' => wp V (cdT Ev) mx d 151 60 ls (rts r st) h' Q)) := x_cv (sg := []) rfl hst rfl rfl
theorem s_151_60 {x : Int32} : wp V (cdT Ev) mx d 151 60 [l0, some (.int x)] st h Q = wp V (cdT Ev) mx d 151 63 [l0, some (.int (x + (1)))] st h Q := x_iinc rfl rfl rfl
theorem s_151_63 : wp V (cdT Ev) mx d 151 63 ls st h Q = wp V (cdT Ev) mx d 151 31 ls st h Q := x_goto rfl
theorem s_151_66 {a : Nat} : wp V (cdT Ev) mx d 151 66 [some (.ref a), l1] st h Q = wp V (cdT Ev) mx d 151 67 [some (.ref a), l1] (.ref a :: st) h Q := x_aload (len := 1) rfl rfl
theorem s_151_66_n : wp V (cdT Ev) mx d 151 66 [some .null, l1] st h Q = wp V (cdT Ev) mx d 151 67 [some .null, l1] (.null :: st) h Q := x_aloadN (len := 1) rfl rfl
theorem s_151_67 {a : Nat} : wp V (cdT Ev) mx d 151 67 ls (.ref a :: st) h Q = gf [12] 12 h a (fun v => wp V (cdT Ev) mx d 151 70 ls (v :: st) h Q) := x_getf rfl
theorem s_151_70 {x : Int32} : wp V (cdT Ev) mx d 151 70 ls (.int x :: st) h Q = (if x = 0 then wp V (cdT Ev) mx d 151 88 ls st h Q else wp V (cdT Ev) mx d 151 73 ls st h Q) := x_if1 (c := fun x => x = 0) rfl
theorem s_151_73 {a : Nat} : wp V (cdT Ev) mx d 151 73 [some (.ref a), l1] st h Q = wp V (cdT Ev) mx d 151 74 [some (.ref a), l1] (.ref a :: st) h Q := x_aload (len := 1) rfl rfl
theorem s_151_73_n : wp V (cdT Ev) mx d 151 73 [some .null, l1] st h Q = wp V (cdT Ev) mx d 151 74 [some .null, l1] (.null :: st) h Q := x_aloadN (len := 1) rfl rfl
theorem s_151_74 {a : Nat} : wp V (cdT Ev) mx d 151 74 ls (.ref a :: st) h Q = gf [12] 11 h a (fun v => wp V (cdT Ev) mx d 151 77 ls (v :: st) h Q) := x_getf rfl
theorem s_151_77 {a : Nat} : wp V (cdT Ev) mx d 151 77 [some (.ref a), l1] st h Q = wp V (cdT Ev) mx d 151 78 [some (.ref a), l1] (.ref a :: st) h Q := x_aload (len := 1) rfl rfl
theorem s_151_77_n : wp V (cdT Ev) mx d 151 77 [some .null, l1] st h Q = wp V (cdT Ev) mx d 151 78 [some .null, l1] (.null :: st) h Q := x_aloadN (len := 1) rfl rfl
theorem s_151_78 {a : Nat} : wp V (cdT Ev) mx d 151 78 ls (.ref a :: st) h Q = gf [12] 10 h a (fun v => wp V (cdT Ev) mx d 151 81 ls (v :: st) h Q) := x_getf rfl
theorem s_151_81 {x z : Int32} : wp V (cdT Ev) mx d 151 81 ls (.int z :: .int x :: st) h Q = (if ¬ x = z then wp V (cdT Ev) mx d 151 88 ls st h Q else wp V (cdT Ev) mx d 151 84 ls st h Q) := x_if2 (c := fun x z => ¬ x = z) rfl
theorem s_151_84 : wp V (cdT Ev) mx d 151 84 ls st h Q = wp V (cdT Ev) mx d 151 85 ls ((.int (1)) :: st) h Q := x_push (v := (.int (1))) (len := 1) rfl
theorem s_151_85 : wp V (cdT Ev) mx d 151 85 ls st h Q = wp V (cdT Ev) mx d 151 89 ls st h Q := x_goto rfl
theorem s_151_88 : wp V (cdT Ev) mx d 151 88 ls st h Q = wp V (cdT Ev) mx d 151 89 ls ((.int (0)) :: st) h Q := x_push (v := (.int (0))) (len := 1) rfl
theorem s_151_89 {x : Int32} (hx : okr 1 (.int x) = true) : wp V (cdT Ev) mx d 151 89 ls [.int x] h Q = Q (some (.int x)) h := x_ret rfl hx
theorem e_151 {a : Nat} : WP V (cdT Ev) mx (d + 1) 151 [.ref a] h Q = wp V (cdT Ev) mx d 151 0 [some (.ref a), none] [] h Q := propext (WP_eq (Nat.le_of_ble_eq_true rfl))
theorem s_152_0 {a : Nat} : wp V (cdT Ev) mx d 152 0 [some (.ref a), l1, l2, l3, l4] st h Q = wp V (cdT Ev) mx d 152 1 [some (.ref a), l1, l2, l3, l4] (.ref a :: st) h Q := x_aload (len := 1) rfl rfl
theorem s_152_0_n : wp V (cdT Ev) mx d 152 0 [some .null, l1, l2, l3, l4] st h Q = wp V (cdT Ev) mx d 152 1 [some .null, l1, l2, l3, l4] (.null :: st) h Q := x_aloadN (len := 1) rfl rfl
theorem s_152_1 {a : Nat} : wp V (cdT Ev) mx d 152 1 ls (.ref a :: st) h Q = gf [12] 16 h a (fun v => wp V (cdT Ev) mx d 152 4 ls (v :: st) h Q) := x_getf rfl
theorem s_152_4 : wp V (cdT Ev) mx d 152 4 ls st h Q = wp V (cdT Ev) mx d 152 5 ls ((.int (0)) :: st) h Q := x_push (v := (.int (0))) (len := 1) rfl
theorem s_152_5 {x : Int32} : wp V (cdT Ev) mx d 152 5 [l0, some (.int x), l2, l3, l4] st h Q = wp V (cdT Ev) mx d 152 6 [l0, some (.int x), l2, l3, l4] (.int x :: st) h Q := x_iload (len := 1) rfl rfl
theorem s_152_6 {x i : Int32} {a : Nat} : wp V (cdT Ev) mx d 152 6 ls (.int x :: .int i :: .ref a :: st) h Q = si 2 i (x) h a (fun hh => wp V (cdT Ev) mx d 152 7 ls st hh Q) := x_iast (nw := fun x => x) rfl
theorem s_152_7 {a : Nat} : wp V (cdT Ev) mx d 152 7 [some (.ref a), l1, l2, l3, l4] st h Q = wp V (cdT Ev) mx d 152 8 [some (.ref a), l1, l2, l3, l4] (.ref a :: st) h Q := x_aload (len := 1) rfl rfl
theorem s_152_7_n : wp V (cdT Ev) mx d 152 7 [some .null, l1, l2, l3, l4] st h Q = wp V (cdT Ev) mx d 152 8 [some .null, l1, l2, l3, l4] (.null :: st) h Q := x_aloadN (len := 1) rfl rfl
theorem s_152_8 {a : Nat} : wp V (cdT Ev) mx d 152 8 ls (.ref a :: st) h Q = gf [12] 16 h a (fun v => wp V (cdT Ev) mx d 152 11 ls (v :: st) h Q) := x_getf rfl
theorem s_152_11 : wp V (cdT Ev) mx d 152 11 ls st h Q = wp V (cdT Ev) mx d 152 12 ls ((.int (1)) :: st) h Q := x_push (v := (.int (1))) (len := 1) rfl
theorem s_152_12 {a : Nat} : wp V (cdT Ev) mx d 152 12 [some (.ref a), l1, l2, l3, l4] st h Q = wp V (cdT Ev) mx d 152 13 [some (.ref a), l1, l2, l3, l4] (.ref a :: st) h Q := x_aload (len := 1) rfl rfl
theorem s_152_12_n : wp V (cdT Ev) mx d 152 12 [some .null, l1, l2, l3, l4] st h Q = wp V (cdT Ev) mx d 152 13 [some .null, l1, l2, l3, l4] (.null :: st) h Q := x_aloadN (len := 1) rfl rfl
theorem s_152_13 {x : Int32} : wp V (cdT Ev) mx d 152 13 [l0, some (.int x), l2, l3, l4] st h Q = wp V (cdT Ev) mx d 152 14 [l0, some (.int x), l2, l3, l4] (.int x :: st) h Q := x_iload (len := 1) rfl rfl
theorem s_152_14 : wp V (cdT Ev) mx d 152 14 ls st h Q = wp V (cdT Ev) mx d 152 15 ls ((.int (0)) :: st) h Q := x_push (v := (.int (0))) (len := 1) rfl
theorem s_152_15 {b : Nat} {v0 v1 : Value} (hst : st.length ≤ 4) : wp V (cdT Ev) mx d 152 15 ls (v1 :: v0 :: .ref b :: st) h Q = cv [(12, 132)] h b (fun y' => WP V (cdT Ev) mx d y' [.ref b, v0, v1] h (fun r h' => wp V (cdT Ev) mx d 152 18 ls (rts r st) h' Q)) := x_cv (sg := [v1, v0]) rfl hst rfl rfl
theorem s_152_18 {x i : Int32} {a : Nat} : wp V (cdT Ev) mx d 152 18 ls (.int x :: .int i :: .ref a :: st) h Q = si 2 i (x) h a (fun hh => wp V (cdT Ev) mx d 152 19 ls st hh Q) := x_iast (nw := fun x => x) rfl
theorem s_152_19 {a : Nat} : wp V (cdT Ev) mx d 152 19 [some (.ref a), l1, l2, l3, l4] st h Q = wp V (cdT Ev) mx d 152 20 [some (.ref a), l1, l2, l3, l4] (.ref a :: st) h Q := x_aload (len := 1) rfl rfl
theorem s_152_19_n : wp V (cdT Ev) mx d 152 19 [some .null, l1, l2, l3, l4] st h Q = wp V (cdT Ev) mx d 152 20 [some .null, l1, l2, l3, l4] (.null :: st) h Q := x_aloadN (len := 1) rfl rfl
theorem s_152_20 {a : Nat} : wp V (cdT Ev) mx d 152 20 ls (.ref a :: st) h Q = gf [12] 16 h a (fun v => wp V (cdT Ev) mx d 152 23 ls (v :: st) h Q) := x_getf rfl
theorem s_152_23 : wp V (cdT Ev) mx d 152 23 ls st h Q = wp V (cdT Ev) mx d 152 24 ls ((.int (2)) :: st) h Q := x_push (v := (.int (2))) (len := 1) rfl
theorem s_152_24 {a : Nat} : wp V (cdT Ev) mx d 152 24 [some (.ref a), l1, l2, l3, l4] st h Q = wp V (cdT Ev) mx d 152 25 [some (.ref a), l1, l2, l3, l4] (.ref a :: st) h Q := x_aload (len := 1) rfl rfl
theorem s_152_24_n : wp V (cdT Ev) mx d 152 24 [some .null, l1, l2, l3, l4] st h Q = wp V (cdT Ev) mx d 152 25 [some .null, l1, l2, l3, l4] (.null :: st) h Q := x_aloadN (len := 1) rfl rfl
theorem s_152_25 {x : Int32} : wp V (cdT Ev) mx d 152 25 [l0, some (.int x), l2, l3, l4] st h Q = wp V (cdT Ev) mx d 152 26 [l0, some (.int x), l2, l3, l4] (.int x :: st) h Q := x_iload (len := 1) rfl rfl
theorem s_152_26 : wp V (cdT Ev) mx d 152 26 ls st h Q = wp V (cdT Ev) mx d 152 27 ls ((.int (1)) :: st) h Q := x_push (v := (.int (1))) (len := 1) rfl
theorem s_152_27 {b : Nat} {v0 v1 : Value} (hst : st.length ≤ 4) : wp V (cdT Ev) mx d 152 27 ls (v1 :: v0 :: .ref b :: st) h Q = cv [(12, 132)] h b (fun y' => WP V (cdT Ev) mx d y' [.ref b, v0, v1] h (fun r h' => wp V (cdT Ev) mx d 152 30 ls (rts r st) h' Q)) := x_cv (sg := [v1, v0]) rfl hst rfl rfl
theorem s_152_30 {x i : Int32} {a : Nat} : wp V (cdT Ev) mx d 152 30 ls (.int x :: .int i :: .ref a :: st) h Q = si 2 i (x) h a (fun hh => wp V (cdT Ev) mx d 152 31 ls st hh Q) := x_iast (nw := fun x => x) rfl
theorem s_152_31 {a : Nat} : wp V (cdT Ev) mx d 152 31 [some (.ref a), l1, l2, l3, l4] st h Q = wp V (cdT Ev) mx d 152 32 [some (.ref a), l1, l2, l3, l4] (.ref a :: st) h Q := x_aload (len := 1) rfl rfl
theorem s_152_31_n : wp V (cdT Ev) mx d 152 31 [some .null, l1, l2, l3, l4] st h Q = wp V (cdT Ev) mx d 152 32 [some .null, l1, l2, l3, l4] (.null :: st) h Q := x_aloadN (len := 1) rfl rfl
theorem s_152_32 {a : Nat} : wp V (cdT Ev) mx d 152 32 ls (.ref a :: st) h Q = gf [12] 16 h a (fun v => wp V (cdT Ev) mx d 152 35 ls (v :: st) h Q) := x_getf rfl
theorem s_152_35 : wp V (cdT Ev) mx d 152 35 ls st h Q = wp V (cdT Ev) mx d 152 36 ls ((.int (3)) :: st) h Q := x_push (v := (.int (3))) (len := 1) rfl
theorem s_152_36 {x : Int32} : wp V (cdT Ev) mx d 152 36 [l0, l1, some (.int x), l3, l4] st h Q = wp V (cdT Ev) mx d 152 37 [l0, l1, some (.int x), l3, l4] (.int x :: st) h Q := x_iload (len := 1) rfl rfl
theorem s_152_37 {x i : Int32} {a : Nat} : wp V (cdT Ev) mx d 152 37 ls (.int x :: .int i :: .ref a :: st) h Q = si 2 i (x) h a (fun hh => wp V (cdT Ev) mx d 152 38 ls st hh Q) := x_iast (nw := fun x => x) rfl
theorem s_152_38 {a : Nat} : wp V (cdT Ev) mx d 152 38 [some (.ref a), l1, l2, l3, l4] st h Q = wp V (cdT Ev) mx d 152 39 [some (.ref a), l1, l2, l3, l4] (.ref a :: st) h Q := x_aload (len := 1) rfl rfl
theorem s_152_38_n : wp V (cdT Ev) mx d 152 38 [some .null, l1, l2, l3, l4] st h Q = wp V (cdT Ev) mx d 152 39 [some .null, l1, l2, l3, l4] (.null :: st) h Q := x_aloadN (len := 1) rfl rfl
theorem s_152_39 {a : Nat} : wp V (cdT Ev) mx d 152 39 ls (.ref a :: st) h Q = gf [12] 16 h a (fun v => wp V (cdT Ev) mx d 152 42 ls (v :: st) h Q) := x_getf rfl
theorem s_152_42 : wp V (cdT Ev) mx d 152 42 ls st h Q = wp V (cdT Ev) mx d 152 43 ls ((.int (4)) :: st) h Q := x_push (v := (.int (4))) (len := 1) rfl
theorem s_152_43 {a : Nat} : wp V (cdT Ev) mx d 152 43 [some (.ref a), l1, l2, l3, l4] st h Q = wp V (cdT Ev) mx d 152 44 [some (.ref a), l1, l2, l3, l4] (.ref a :: st) h Q := x_aload (len := 1) rfl rfl
theorem s_152_43_n : wp V (cdT Ev) mx d 152 43 [some .null, l1, l2, l3, l4] st h Q = wp V (cdT Ev) mx d 152 44 [some .null, l1, l2, l3, l4] (.null :: st) h Q := x_aloadN (len := 1) rfl rfl
theorem s_152_44 {a : Nat} : wp V (cdT Ev) mx d 152 44 ls (.ref a :: st) h Q = gf [12] 0 h a (fun v => wp V (cdT Ev) mx d 152 47 ls (v :: st) h Q) := x_getf rfl
theorem s_152_47 {x : Int32} : wp V (cdT Ev) mx d 152 47 [l0, l1, some (.int x), l3, l4] st h Q = wp V (cdT Ev) mx d 152 48 [l0, l1, some (.int x), l3, l4] (.int x :: st) h Q := x_iload (len := 1) rfl rfl
theorem s_152_48 {i : Int32} {a : Nat} : wp V (cdT Ev) mx d 152 48 ls (.int i :: .ref a :: st) h Q = ai 2 i V h a (fun x => wp V (cdT Ev) mx d 152 49 ls (.int x :: st) h Q) := x_iald rfl
theorem s_152_49 {x i : Int32} {a : Nat} : wp V (cdT Ev) mx d 152 49 ls (.int x :: .int i :: .ref a :: st) h Q = si 2 i (x) h a (fun hh => wp V (cdT Ev) mx d 152 50 ls st hh Q) := x_iast (nw := fun x => x) rfl
theorem s_152_50 {a : Nat} : wp V (cdT Ev) mx d 152 50 [some (.ref a), l1, l2, l3, l4] st h Q = wp V (cdT Ev) mx d 152 51 [some (.ref a), l1, l2, l3, l4] (.ref a :: st) h Q := x_aload (len := 1) rfl rfl
theorem s_152_50_n : wp V (cdT Ev) mx d 152 50 [some .null, l1, l2, l3, l4] st h Q = wp V (cdT Ev) mx d 152 51 [some .null, l1, l2, l3, l4] (.null :: st) h Q := x_aloadN (len := 1) rfl rfl
theorem s_152_51 {a : Nat} : wp V (cdT Ev) mx d 152 51 ls (.ref a :: st) h Q = gf [12] 16 h a (fun v => wp V (cdT Ev) mx d 152 54 ls (v :: st) h Q) := x_getf rfl
theorem s_152_54 : wp V (cdT Ev) mx d 152 54 ls st h Q = wp V (cdT Ev) mx d 152 55 ls ((.int (5)) :: st) h Q := x_push (v := (.int (5))) (len := 1) rfl
theorem s_152_55 {a : Nat} : wp V (cdT Ev) mx d 152 55 [some (.ref a), l1, l2, l3, l4] st h Q = wp V (cdT Ev) mx d 152 56 [some (.ref a), l1, l2, l3, l4] (.ref a :: st) h Q := x_aload (len := 1) rfl rfl
theorem s_152_55_n : wp V (cdT Ev) mx d 152 55 [some .null, l1, l2, l3, l4] st h Q = wp V (cdT Ev) mx d 152 56 [some .null, l1, l2, l3, l4] (.null :: st) h Q := x_aloadN (len := 1) rfl rfl
theorem s_152_56 {a : Nat} : wp V (cdT Ev) mx d 152 56 ls (.ref a :: st) h Q = gf [12] 0 h a (fun v => wp V (cdT Ev) mx d 152 59 ls (v :: st) h Q) := x_getf rfl
theorem s_152_59 : wp V (cdT Ev) mx d 152 59 ls st h Q = wp V (cdT Ev) mx d 152 61 ls ((.int (69)) :: st) h Q := x_push (v := (.int (69))) (len := 2) rfl
theorem s_152_61 {i : Int32} {a : Nat} : wp V (cdT Ev) mx d 152 61 ls (.int i :: .ref a :: st) h Q = ai 2 i V h a (fun x => wp V (cdT Ev) mx d 152 62 ls (.int x :: st) h Q) := x_iald rfl
theorem s_152_62 : wp V (cdT Ev) mx d 152 62 ls st h Q = wp V (cdT Ev) mx d 152 64 ls ((.int (10)) :: st) h Q := x_push (v := (.int (10))) (len := 2) rfl
theorem s_152_64 {x z : Int32} : wp V (cdT Ev) mx d 152 64 ls (.int z :: .int x :: st) h Q = (¬ z = 0 ∧ wp V (cdT Ev) mx d 152 65 ls (.int (x - x / z * z) :: st) h Q) := x_ibz (f := fun x z => x - x / z * z) rfl
theorem s_152_65 {x i : Int32} {a : Nat} : wp V (cdT Ev) mx d 152 65 ls (.int x :: .int i :: .ref a :: st) h Q = si 2 i (x) h a (fun hh => wp V (cdT Ev) mx d 152 66 ls st hh Q) := x_iast (nw := fun x => x) rfl
theorem s_152_66 {a : Nat} : wp V (cdT Ev) mx d 152 66 [some (.ref a), l1, l2, l3, l4] st h Q = wp V (cdT Ev) mx d 152 67 [some (.ref a), l1, l2, l3, l4] (.ref a :: st) h Q := x_aload (len := 1) rfl rfl
theorem s_152_66_n : wp V (cdT Ev) mx d 152 66 [some .null, l1, l2, l3, l4] st h Q = wp V (cdT Ev) mx d 152 67 [some .null, l1, l2, l3, l4] (.null :: st) h Q := x_aloadN (len := 1) rfl rfl
theorem s_152_67 {a : Nat} : wp V (cdT Ev) mx d 152 67 ls (.ref a :: st) h Q = gf [12] 0 h a (fun v => wp V (cdT Ev) mx d 152 70 ls (v :: st) h Q) := x_getf rfl
theorem s_152_70 : wp V (cdT Ev) mx d 152 70 ls st h Q = wp V (cdT Ev) mx d 152 72 ls ((.int (70)) :: st) h Q := x_push (v := (.int (70))) (len := 2) rfl
theorem s_152_72 {i : Int32} {a : Nat} : wp V (cdT Ev) mx d 152 72 ls (.int i :: .ref a :: st) h Q = ai 2 i V h a (fun x => wp V (cdT Ev) mx d 152 73 ls (.int x :: st) h Q) := x_iald rfl
theorem s_152_73 {x : Int32} : wp V (cdT Ev) mx d 152 73 ls (.int x :: st) h Q = (if ¬ x = 0 then wp V (cdT Ev) mx d 152 92 ls st h Q else wp V (cdT Ev) mx d 152 76 ls st h Q) := x_if1 (c := fun x => ¬ x = 0) rfl
theorem s_152_76 {a : Nat} : wp V (cdT Ev) mx d 152 76 [some (.ref a), l1, l2, l3, l4] st h Q = wp V (cdT Ev) mx d 152 77 [some (.ref a), l1, l2, l3, l4] (.ref a :: st) h Q := x_aload (len := 1) rfl rfl
theorem s_152_76_n : wp V (cdT Ev) mx d 152 76 [some .null, l1, l2, l3, l4] st h Q = wp V (cdT Ev) mx d 152 77 [some .null, l1, l2, l3, l4] (.null :: st) h Q := x_aloadN (len := 1) rfl rfl
theorem s_152_77 {a : Nat} : wp V (cdT Ev) mx d 152 77 [some (.ref a), l1, l2, l3, l4] st h Q = wp V (cdT Ev) mx d 152 78 [some (.ref a), l1, l2, l3, l4] (.ref a :: st) h Q := x_aload (len := 1) rfl rfl
theorem s_152_77_n : wp V (cdT Ev) mx d 152 77 [some .null, l1, l2, l3, l4] st h Q = wp V (cdT Ev) mx d 152 78 [some .null, l1, l2, l3, l4] (.null :: st) h Q := x_aloadN (len := 1) rfl rfl
theorem s_152_78 {a : Nat} : wp V (cdT Ev) mx d 152 78 ls (.ref a :: st) h Q = gf [12] 16 h a (fun v => wp V (cdT Ev) mx d 152 81 ls (v :: st) h Q) := x_getf rfl
theorem s_152_81 : wp V (cdT Ev) mx d 152 81 ls st h Q = wp V (cdT Ev) mx d 152 82 ls ((.int (4)) :: st) h Q := x_push (v := (.int (4))) (len := 1) rfl
theorem s_152_82 {i : Int32} {a : Nat} : wp V (cdT Ev) mx d 152 82 ls (.int i :: .ref a :: st) h Q = ai 2 i V h a (fun x => wp V (cdT Ev) mx d 152 83 ls (.int x :: st) h Q) := x_iald rfl
theorem s_152_83 {w : Value} {a : Nat} : wp V (cdT Ev) mx d 152 83 ls (w :: .ref a :: st) h Q = pf [12] 14 0 w h a (fun hh => wp V (cdT Ev) mx d 152 86 ls st hh Q) := x_putf rfl
theorem s_152_86 {a : Nat} : wp V (cdT Ev) mx d 152 86 [some (.ref a), l1, l2, l3, l4] st h Q = wp V (cdT Ev) mx d 152 87 [some (.ref a), l1, l2, l3, l4] (.ref a :: st) h Q := x_aload (len := 1) rfl rfl
theorem s_152_86_n : wp V (cdT Ev) mx d 152 86 [some .null, l1, l2, l3, l4] st h Q = wp V (cdT Ev) mx d 152 87 [some .null, l1, l2, l3, l4] (.null :: st) h Q := x_aloadN (len := 1) rfl rfl
theorem s_152_87 : wp V (cdT Ev) mx d 152 87 ls st h Q = wp V (cdT Ev) mx d 152 88 ls ((.int (0)) :: st) h Q := x_push (v := (.int (0))) (len := 1) rfl
theorem s_152_88 {w : Value} {a : Nat} : wp V (cdT Ev) mx d 152 88 ls (w :: .ref a :: st) h Q = pf [12] 15 0 w h a (fun hh => wp V (cdT Ev) mx d 152 91 ls st hh Q) := x_putf rfl
theorem s_152_91 : wp V (cdT Ev) mx d 152 91 ls [] h Q = Q none h := x_retv rfl
theorem s_152_92 {a : Nat} : wp V (cdT Ev) mx d 152 92 [some (.ref a), l1, l2, l3, l4] st h Q = wp V (cdT Ev) mx d 152 93 [some (.ref a), l1, l2, l3, l4] (.ref a :: st) h Q := x_aload (len := 1) rfl rfl
theorem s_152_92_n : wp V (cdT Ev) mx d 152 92 [some .null, l1, l2, l3, l4] st h Q = wp V (cdT Ev) mx d 152 93 [some .null, l1, l2, l3, l4] (.null :: st) h Q := x_aloadN (len := 1) rfl rfl
theorem s_152_93 {a : Nat} : wp V (cdT Ev) mx d 152 93 ls (.ref a :: st) h Q = gf [12] 0 h a (fun v => wp V (cdT Ev) mx d 152 96 ls (v :: st) h Q) := x_getf rfl
theorem s_152_96 : wp V (cdT Ev) mx d 152 96 ls st h Q = wp V (cdT Ev) mx d 152 98 ls ((.int (70)) :: st) h Q := x_push (v := (.int (70))) (len := 2) rfl
theorem s_152_98 {i : Int32} {a : Nat} : wp V (cdT Ev) mx d 152 98 ls (.int i :: .ref a :: st) h Q = ai 2 i V h a (fun x => wp V (cdT Ev) mx d 152 99 ls (.int x :: st) h Q) := x_iald rfl
theorem s_152_99 : wp V (cdT Ev) mx d 152 99 ls st h Q = wp V (cdT Ev) mx d 152 100 ls ((.int (1)) :: st) h Q := x_push (v := (.int (1))) (len := 1) rfl
theorem s_152_100 {x z : Int32} : wp V (cdT Ev) mx d 152 100 ls (.int z :: .int x :: st) h Q = wp V (cdT Ev) mx d 152 101 ls (.int (x - z) :: st) h Q := x_ib (f := fun x z => x - z) rfl
theorem s_152_101 {x : Int32} (hn : nl l2 = true) : wp V (cdT Ev) mx d 152 101 [l0, l1, l2, l3, l4] (.int x :: st) h Q = wp V (cdT Ev) mx d 152 102 [l0, l1, l2, some (.int x), l4] st h Q := x_istore (len := 1) rfl (Nat.le_of_ble_eq_true rfl) (okp_nl rfl hn) rfl
theorem s_152_102 {a : Nat} : wp V (cdT Ev) mx d 152 102 [some (.ref a), l1, l2, l3, l4] st h Q = wp V (cdT Ev) mx d 152 103 [some (.ref a), l1, l2, l3, l4] (.ref a :: st) h Q := x_aload (len := 1) rfl rfl
theorem s_152_102_n : wp V (cdT Ev) mx d 152 102 [some .null, l1, l2, l3, l4] st h Q = wp V (cdT Ev) mx d 152 103 [some .null, l1, l2, l3, l4] (.null :: st) h Q := x_aloadN (len := 1) rfl rfl
theorem s_152_103 {a : Nat} : wp V (cdT Ev) mx d 152 103 [some (.ref a), l1, l2, l3, l4] st h Q = wp V (cdT Ev) mx d 152 104 [some (.ref a), l1, l2, l3, l4] (.ref a :: st) h Q := x_aload (len := 1) rfl rfl
theorem s_152_103_n : wp V (cdT Ev) mx d 152 103 [some .null, l1, l2, l3, l4] st h Q = wp V (cdT Ev) mx d 152 104 [some .null, l1, l2, l3, l4] (.null :: st) h Q := x_aloadN (len := 1) rfl rfl
theorem s_152_104 {a : Nat} : wp V (cdT Ev) mx d 152 104 ls (.ref a :: st) h Q = gf [12] 7 h a (fun v => wp V (cdT Ev) mx d 152 107 ls (v :: st) h Q) := x_getf rfl
theorem s_152_107 {x : Int32} : wp V (cdT Ev) mx d 152 107 [l0, l1, l2, some (.int x), l4] st h Q = wp V (cdT Ev) mx d 152 108 [l0, l1, l2, some (.int x), l4] (.int x :: st) h Q := x_iload (len := 1) rfl rfl
theorem s_152_108 {i : Int32} {a : Nat} : wp V (cdT Ev) mx d 152 108 ls (.int i :: .ref a :: st) h Q = ai 2 i V h a (fun x => wp V (cdT Ev) mx d 152 109 ls (.int x :: st) h Q) := x_iald rfl
theorem s_152_109 {w : Value} {a : Nat} : wp V (cdT Ev) mx d 152 109 ls (w :: .ref a :: st) h Q = pf [12] 10 0 w h a (fun hh => wp V (cdT Ev) mx d 152 112 ls st hh Q) := x_putf rfl
theorem s_152_112 : wp V (cdT Ev) mx d 152 112 ls st h Q = wp V (cdT Ev) mx d 152 113 ls ((.int (0)) :: st) h Q := x_push (v := (.int (0))) (len := 1) rfl
theorem s_152_113 {x : Int32} (hn : nl l3 = true) : wp V (cdT Ev) mx d 152 113 [l0, l1, l2, l3, l4] (.int x :: st) h Q = wp V (cdT Ev) mx d 152 115 [l0, l1, l2, l3, some (.int x)] st h Q := x_istore (len := 2) rfl (Nat.le_of_ble_eq_true rfl) (okp_nl rfl hn) rfl
theorem s_152_115 {x : Int32} : wp V (cdT Ev) mx d 152 115 [l0, l1, l2, l3, some (.int x)] st h Q = wp V (cdT Ev) mx d 152 117 [l0, l1, l2, l3, some (.int x)] (.int x :: st) h Q := x_iload (len := 2) rfl rfl
theorem s_152_117 {a : Nat} : wp V (cdT Ev) mx d 152 117 [some (.ref a), l1, l2, l3, l4] st h Q = wp V (cdT Ev) mx d 152 118 [some (.ref a), l1, l2, l3, l4] (.ref a :: st) h Q := x_aload (len := 1) rfl rfl
theorem s_152_117_n : wp V (cdT Ev) mx d 152 117 [some .null, l1, l2, l3, l4] st h Q = wp V (cdT Ev) mx d 152 118 [some .null, l1, l2, l3, l4] (.null :: st) h Q := x_aloadN (len := 1) rfl rfl
theorem s_152_118 {a : Nat} : wp V (cdT Ev) mx d 152 118 ls (.ref a :: st) h Q = gf [12] 10 h a (fun v => wp V (cdT Ev) mx d 152 121 ls (v :: st) h Q) := x_getf rfl
theorem s_152_121 {x z : Int32} : wp V (cdT Ev) mx d 152 121 ls (.int z :: .int x :: st) h Q = (if z ≤ x then wp V (cdT Ev) mx d 152 149 ls st h Q else wp V (cdT Ev) mx d 152 124 ls st h Q) := x_if2 (c := fun x z => z ≤ x) rfl
theorem s_152_124 {a : Nat} : wp V (cdT Ev) mx d 152 124 [some (.ref a), l1, l2, l3, l4] st h Q = wp V (cdT Ev) mx d 152 125 [some (.ref a), l1, l2, l3, l4] (.ref a :: st) h Q := x_aload (len := 1) rfl rfl
theorem s_152_124_n : wp V (cdT Ev) mx d 152 124 [some .null, l1, l2, l3, l4] st h Q = wp V (cdT Ev) mx d 152 125 [some .null, l1, l2, l3, l4] (.null :: st) h Q := x_aloadN (len := 1) rfl rfl
theorem s_152_125 {a : Nat} : wp V (cdT Ev) mx d 152 125 ls (.ref a :: st) h Q = gf [12] 9 h a (fun v => wp V (cdT Ev) mx d 152 128 ls (v :: st) h Q) := x_getf rfl
theorem s_152_128 {x : Int32} : wp V (cdT Ev) mx d 152 128 [l0, l1, l2, l3, some (.int x)] st h Q = wp V (cdT Ev) mx d 152 130 [l0, l1, l2, l3, some (.int x)] (.int x :: st) h Q := x_iload (len := 2) rfl rfl
theorem s_152_130 {a : Nat} : wp V (cdT Ev) mx d 152 130 [some (.ref a), l1, l2, l3, l4] st h Q = wp V (cdT Ev) mx d 152 131 [some (.ref a), l1, l2, l3, l4] (.ref a :: st) h Q := x_aload (len := 1) rfl rfl
theorem s_152_130_n : wp V (cdT Ev) mx d 152 130 [some .null, l1, l2, l3, l4] st h Q = wp V (cdT Ev) mx d 152 131 [some .null, l1, l2, l3, l4] (.null :: st) h Q := x_aloadN (len := 1) rfl rfl
theorem s_152_131 {a : Nat} : wp V (cdT Ev) mx d 152 131 ls (.ref a :: st) h Q = gf [12] 6 h a (fun v => wp V (cdT Ev) mx d 152 134 ls (v :: st) h Q) := x_getf rfl
theorem s_152_134 : wp V (cdT Ev) mx d 152 134 ls st h Q = wp V (cdT Ev) mx d 152 136 ls ((.int (100)) :: st) h Q := x_push (v := (.int (100))) (len := 2) rfl
theorem s_152_136 {x : Int32} : wp V (cdT Ev) mx d 152 136 [l0, l1, l2, some (.int x), l4] st h Q = wp V (cdT Ev) mx d 152 137 [l0, l1, l2, some (.int x), l4] (.int x :: st) h Q := x_iload (len := 1) rfl rfl
theorem s_152_137 {x z : Int32} : wp V (cdT Ev) mx d 152 137 ls (.int z :: .int x :: st) h Q = wp V (cdT Ev) mx d 152 138 ls (.int (x * z) :: st) h Q := x_ib (f := fun x z => x * z) rfl
theorem s_152_138 {x : Int32} : wp V (cdT Ev) mx d 152 138 [l0, l1, l2, l3, some (.int x)] st h Q = wp V (cdT Ev) mx d 152 140 [l0, l1, l2, l3, some (.int x)] (.int x :: st) h Q := x_iload (len := 2) rfl rfl
theorem s_152_140 {x z : Int32} : wp V (cdT Ev) mx d 152 140 ls (.int z :: .int x :: st) h Q = wp V (cdT Ev) mx d 152 141 ls (.int (x + z) :: st) h Q := x_ib (f := fun x z => x + z) rfl
theorem s_152_141 {i : Int32} {a : Nat} : wp V (cdT Ev) mx d 152 141 ls (.int i :: .ref a :: st) h Q = ai 2 i V h a (fun x => wp V (cdT Ev) mx d 152 142 ls (.int x :: st) h Q) := x_iald rfl
theorem s_152_142 {x i : Int32} {a : Nat} : wp V (cdT Ev) mx d 152 142 ls (.int x :: .int i :: .ref a :: st) h Q = si 2 i (x) h a (fun hh => wp V (cdT Ev) mx d 152 143 ls st hh Q) := x_iast (nw := fun x => x) rfl
theorem s_152_143 {x : Int32} : wp V (cdT Ev) mx d 152 143 [l0, l1, l2, l3, some (.int x)] st h Q = wp V (cdT Ev) mx d 152 146 [l0, l1, l2, l3, some (.int (x + (1)))] st h Q := x_iinc rfl rfl rfl
theorem s_152_146 : wp V (cdT Ev) mx d 152 146 ls st h Q = wp V (cdT Ev) mx d 152 115 ls st h Q := x_goto rfl
theorem s_152_149 {a : Nat} : wp V (cdT Ev) mx d 152 149 [some (.ref a), l1, l2, l3, l4] st h Q = wp V (cdT Ev) mx d 152 150 [some (.ref a), l1, l2, l3, l4] (.ref a :: st) h Q := x_aload (len := 1) rfl rfl
theorem s_152_149_n : wp V (cdT Ev) mx d 152 149 [some .null, l1, l2, l3, l4] st h Q = wp V (cdT Ev) mx d 152 150 [some .null, l1, l2, l3, l4] (.null :: st) h Q := x_aloadN (len := 1) rfl rfl
theorem s_152_150 {b : Nat} (hst : st.length ≤ 4) : wp V (cdT Ev) mx d 152 150 ls (.ref b :: st) h Q = cv [(12, 151)] h b (fun y' => WP V (cdT Ev) mx d y' [.ref b] h (fun r h' => wp V (cdT Ev) mx d 152 153 ls (rts r st) h' Q)) := x_cv (sg := []) rfl hst rfl rfl
theorem s_152_153 {a : Nat} : wp V (cdT Ev) mx d 152 153 ls (.ref a :: st) h Q = wp V (cdT Ev) mx d 152 154 ls st h Q := x_pop rfl rfl
theorem s_152_153_i {x : Int32} : wp V (cdT Ev) mx d 152 153 ls (.int x :: st) h Q = wp V (cdT Ev) mx d 152 154 ls st h Q := x_pop rfl rfl
theorem s_152_154 : wp V (cdT Ev) mx d 152 154 ls [] h Q = Q none h := x_retv rfl
theorem e_152 {a : Nat} {p0 : Int32} {p1 : Int32} : WP V (cdT Ev) mx (d + 1) 152 [.ref a, .int p0, .int p1] h Q = wp V (cdT Ev) mx d 152 0 [some (.ref a), some (.int p0), some (.int p1), none, none] [] h Q := propext (WP_eq (Nat.le_of_ble_eq_true rfl))
end
