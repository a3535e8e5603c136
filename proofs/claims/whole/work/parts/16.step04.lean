/-! Steps, by program. -/
section
variable {V : Nat → Option AE} {Ev : Nat → Value} {d : Nat} {ls : Lc} {st : List Value} {h : HS} {Q : Option Value → HS → Prop}
variable {l0 l1 l2 l3 l4 l5 l6 l7 l8 l9 l10 l11 l12 l13 l14 l15 : Option Value}
theorem s_195_0 {x : Int32} : wp V (cdT Ev) mx d 195 0 [some (.int x)] st h Q = wp V (cdT Ev) mx d 195 1 [some (.int x)] (.int x :: st) h Q := x_iload (len := 1) rfl rfl
theorem s_195_1 {x : Int32} : wp V (cdT Ev) mx d 195 1 [some (.int x)] st h Q = wp V (cdT Ev) mx d 195 2 [some (.int x)] (.int x :: st) h Q := x_iload (len := 1) rfl rfl
theorem s_195_2 : wp V (cdT Ev) mx d 195 2 ls st h Q = wp V (cdT Ev) mx d 195 3 ls ((.int (1)) :: st) h Q := x_push (v := (.int (1))) (len := 1) rfl
theorem s_195_3 {x z : Int32} : wp V (cdT Ev) mx d 195 3 ls (.int z :: .int x :: st) h Q = wp V (cdT Ev) mx d 195 4 ls (.int ((x.toUInt32 >>> (z.toUInt32 &&& Int32.toUInt32 31)).toInt32) :: st) h Q := x_ib (f := fun x z => (x.toUInt32 >>> (z.toUInt32 &&& Int32.toUInt32 31)).toInt32) rfl
theorem s_195_4 : wp V (cdT Ev) mx d 195 4 ls st h Q = wp V (cdT Ev) mx d 195 7 ls ((.int (1431655765)) :: st) h Q := x_push (v := (.int (1431655765))) (len := 3) rfl
theorem s_195_7 {x z : Int32} : wp V (cdT Ev) mx d 195 7 ls (.int z :: .int x :: st) h Q = wp V (cdT Ev) mx d 195 8 ls (.int (x &&& z) :: st) h Q := x_ib (f := fun x z => x &&& z) rfl
theorem s_195_8 {x z : Int32} : wp V (cdT Ev) mx d 195 8 ls (.int z :: .int x :: st) h Q = wp V (cdT Ev) mx d 195 9 ls (.int (x - z) :: st) h Q := x_ib (f := fun x z => x - z) rfl
theorem s_195_9 {x : Int32} : wp V (cdT Ev) mx d 195 9 [l0] (.int x :: st) h Q = wp V (cdT Ev) mx d 195 10 [some (.int x)] st h Q := x_istore (len := 1) rfl (Nat.le_of_ble_eq_true rfl) rfl rfl
theorem s_195_10 {x : Int32} : wp V (cdT Ev) mx d 195 10 [some (.int x)] st h Q = wp V (cdT Ev) mx d 195 11 [some (.int x)] (.int x :: st) h Q := x_iload (len := 1) rfl rfl
theorem s_195_11 : wp V (cdT Ev) mx d 195 11 ls st h Q = wp V (cdT Ev) mx d 195 14 ls ((.int (858993459)) :: st) h Q := x_push (v := (.int (858993459))) (len := 3) rfl
theorem s_195_14 {x z : Int32} : wp V (cdT Ev) mx d 195 14 ls (.int z :: .int x :: st) h Q = wp V (cdT Ev) mx d 195 15 ls (.int (x &&& z) :: st) h Q := x_ib (f := fun x z => x &&& z) rfl
theorem s_195_15 {x : Int32} : wp V (cdT Ev) mx d 195 15 [some (.int x)] st h Q = wp V (cdT Ev) mx d 195 16 [some (.int x)] (.int x :: st) h Q := x_iload (len := 1) rfl rfl
theorem s_195_16 : wp V (cdT Ev) mx d 195 16 ls st h Q = wp V (cdT Ev) mx d 195 17 ls ((.int (2)) :: st) h Q := x_push (v := (.int (2))) (len := 1) rfl
theorem s_195_17 {x z : Int32} : wp V (cdT Ev) mx d 195 17 ls (.int z :: .int x :: st) h Q = wp V (cdT Ev) mx d 195 18 ls (.int ((x.toUInt32 >>> (z.toUInt32 &&& Int32.toUInt32 31)).toInt32) :: st) h Q := x_ib (f := fun x z => (x.toUInt32 >>> (z.toUInt32 &&& Int32.toUInt32 31)).toInt32) rfl
theorem s_195_18 : wp V (cdT Ev) mx d 195 18 ls st h Q = wp V (cdT Ev) mx d 195 21 ls ((.int (858993459)) :: st) h Q := x_push (v := (.int (858993459))) (len := 3) rfl
theorem s_195_21 {x z : Int32} : wp V (cdT Ev) mx d 195 21 ls (.int z :: .int x :: st) h Q = wp V (cdT Ev) mx d 195 22 ls (.int (x &&& z) :: st) h Q := x_ib (f := fun x z => x &&& z) rfl
theorem s_195_22 {x z : Int32} : wp V (cdT Ev) mx d 195 22 ls (.int z :: .int x :: st) h Q = wp V (cdT Ev) mx d 195 23 ls (.int (x + z) :: st) h Q := x_ib (f := fun x z => x + z) rfl
theorem s_195_23 {x : Int32} : wp V (cdT Ev) mx d 195 23 [l0] (.int x :: st) h Q = wp V (cdT Ev) mx d 195 24 [some (.int x)] st h Q := x_istore (len := 1) rfl (Nat.le_of_ble_eq_true rfl) rfl rfl
theorem s_195_24 {x : Int32} : wp V (cdT Ev) mx d 195 24 [some (.int x)] st h Q = wp V (cdT Ev) mx d 195 25 [some (.int x)] (.int x :: st) h Q := x_iload (len := 1) rfl rfl
theorem s_195_25 {x : Int32} : wp V (cdT Ev) mx d 195 25 [some (.int x)] st h Q = wp V (cdT Ev) mx d 195 26 [some (.int x)] (.int x :: st) h Q := x_iload (len := 1) rfl rfl
theorem s_195_26 : wp V (cdT Ev) mx d 195 26 ls st h Q = wp V (cdT Ev) mx d 195 27 ls ((.int (4)) :: st) h Q := x_push (v := (.int (4))) (len := 1) rfl
theorem s_195_27 {x z : Int32} : wp V (cdT Ev) mx d 195 27 ls (.int z :: .int x :: st) h Q = wp V (cdT Ev) mx d 195 28 ls (.int ((x.toUInt32 >>> (z.toUInt32 &&& Int32.toUInt32 31)).toInt32) :: st) h Q := x_ib (f := fun x z => (x.toUInt32 >>> (z.toUInt32 &&& Int32.toUInt32 31)).toInt32) rfl
theorem s_195_28 {x z : Int32} : wp V (cdT Ev) mx d 195 28 ls (.int z :: .int x :: st) h Q = wp V (cdT Ev) mx d 195 29 ls (.int (x + z) :: st) h Q := x_ib (f := fun x z => x + z) rfl
theorem s_195_29 : wp V (cdT Ev) mx d 195 29 ls st h Q = wp V (cdT Ev) mx d 195 32 ls ((.int (252645135)) :: st) h Q := x_push (v := (.int (252645135))) (len := 3) rfl
theorem s_195_32 {x z : Int32} : wp V (cdT Ev) mx d 195 32 ls (.int z :: .int x :: st) h Q = wp V (cdT Ev) mx d 195 33 ls (.int (x &&& z) :: st) h Q := x_ib (f := fun x z => x &&& z) rfl
theorem s_195_33 {x : Int32} : wp V (cdT Ev) mx d 195 33 [l0] (.int x :: st) h Q = wp V (cdT Ev) mx d 195 34 [some (.int x)] st h Q := x_istore (len := 1) rfl (Nat.le_of_ble_eq_true rfl) rfl rfl
theorem s_195_34 {x : Int32} : wp V (cdT Ev) mx d 195 34 [some (.int x)] st h Q = wp V (cdT Ev) mx d 195 35 [some (.int x)] (.int x :: st) h Q := x_iload (len := 1) rfl rfl
theorem s_195_35 {x : Int32} : wp V (cdT Ev) mx d 195 35 [some (.int x)] st h Q = wp V (cdT Ev) mx d 195 36 [some (.int x)] (.int x :: st) h Q := x_iload (len := 1) rfl rfl
theorem s_195_36 : wp V (cdT Ev) mx d 195 36 ls st h Q = wp V (cdT Ev) mx d 195 38 ls ((.int (8)) :: st) h Q := x_push (v := (.int (8))) (len := 2) rfl
theorem s_195_38 {x z : Int32} : wp V (cdT Ev) mx d 195 38 ls (.int z :: .int x :: st) h Q = wp V (cdT Ev) mx d 195 39 ls (.int ((x.toUInt32 >>> (z.toUInt32 &&& Int32.toUInt32 31)).toInt32) :: st) h Q := x_ib (f := fun x z => (x.toUInt32 >>> (z.toUInt32 &&& Int32.toUInt32 31)).toInt32) rfl
theorem s_195_39 {x z : Int32} : wp V (cdT Ev) mx d 195 39 ls (.int z :: .int x :: st) h Q = wp V (cdT Ev) mx d 195 40 ls (.int (x + z) :: st) h Q := x_ib (f := fun x z => x + z) rfl
theorem s_195_40 {x : Int32} : wp V (cdT Ev) mx d 195 40 [l0] (.int x :: st) h Q = wp V (cdT Ev) mx d 195 41 [some (.int x)] st h Q := x_istore (len := 1) rfl (Nat.le_of_ble_eq_true rfl) rfl rfl
theorem s_195_41 {x : Int32} : wp V (cdT Ev) mx d 195 41 [some (.int x)] st h Q = wp V (cdT Ev) mx d 195 42 [some (.int x)] (.int x :: st) h Q := x_iload (len := 1) rfl rfl
theorem s_195_42 {x : Int32} : wp V (cdT Ev) mx d 195 42 [some (.int x)] st h Q = wp V (cdT Ev) mx d 195 43 [some (.int x)] (.int x :: st) h Q := x_iload (len := 1) rfl rfl
theorem s_195_43 : wp V (cdT Ev) mx d 195 43 ls st h Q = wp V (cdT Ev) mx d 195 45 ls ((.int (16)) :: st) h Q := x_push (v := (.int (16))) (len := 2) rfl
theorem s_195_45 {x z : Int32} : wp V (cdT Ev) mx d 195 45 ls (.int z :: .int x :: st) h Q = wp V (cdT Ev) mx d 195 46 ls (.int ((x.toUInt32 >>> (z.toUInt32 &&& Int32.toUInt32 31)).toInt32) :: st) h Q := x_ib (f := fun x z => (x.toUInt32 >>> (z.toUInt32 &&& Int32.toUInt32 31)).toInt32) rfl
theorem s_195_46 {x z : Int32} : wp V (cdT Ev) mx d 195 46 ls (.int z :: .int x :: st) h Q = wp V (cdT Ev) mx d 195 47 ls (.int (x + z) :: st) h Q := x_ib (f := fun x z => x + z) rfl
theorem s_195_47 {x : Int32} : wp V (cdT Ev) mx d 195 47 [l0] (.int x :: st) h Q = wp V (cdT Ev) mx d 195 48 [some (.int x)] st h Q := x_istore (len := 1) rfl (Nat.le_of_ble_eq_true rfl) rfl rfl
theorem s_195_48 {x : Int32} : wp V (cdT Ev) mx d 195 48 [some (.int x)] st h Q = wp V (cdT Ev) mx d 195 49 [some (.int x)] (.int x :: st) h Q := x_iload (len := 1) rfl rfl
theorem s_195_49 : wp V (cdT Ev) mx d 195 49 ls st h Q = wp V (cdT Ev) mx d 195 51 ls ((.int (63)) :: st) h Q := x_push (v := (.int (63))) (len := 2) rfl
theorem s_195_51 {x z : Int32} : wp V (cdT Ev) mx d 195 51 ls (.int z :: .int x :: st) h Q = wp V (cdT Ev) mx d 195 52 ls (.int (x &&& z) :: st) h Q := x_ib (f := fun x z => x &&& z) rfl
theorem s_195_52 {x : Int32} : wp V (cdT Ev) mx d 195 52 ls [.int x] h Q = Q (some (.int x)) h := x_ret rfl rfl
theorem e_195 {p0 : Int32} : WP V (cdT Ev) mx (d + 1) 195 [.int p0] h Q = wp V (cdT Ev) mx d 195 0 [some (.int p0)] [] h Q := propext (WP_eq (Nat.le_of_ble_eq_true rfl))
theorem s_196_0 {x : Int32} : wp V (cdT Ev) mx d 196 0 [some (.int x), l1] st h Q = wp V (cdT Ev) mx d 196 1 [some (.int x), l1] (.int x :: st) h Q := x_iload (len := 1) rfl rfl
theorem s_196_1 {x : Int32} : wp V (cdT Ev) mx d 196 1 [l0, some (.int x)] st h Q = wp V (cdT Ev) mx d 196 2 [l0, some (.int x)] (.int x :: st) h Q := x_iload (len := 1) rfl rfl
theorem s_196_2 {x z : Int32} : wp V (cdT Ev) mx d 196 2 ls (.int z :: .int x :: st) h Q = (if x < z then wp V (cdT Ev) mx d 196 9 ls st h Q else wp V (cdT Ev) mx d 196 5 ls st h Q) := x_if2 (c := fun x z => x < z) rfl
theorem s_196_5 {x : Int32} : wp V (cdT Ev) mx d 196 5 [some (.int x), l1] st h Q = wp V (cdT Ev) mx d 196 6 [some (.int x), l1] (.int x :: st) h Q := x_iload (len := 1) rfl rfl
theorem s_196_6 : wp V (cdT Ev) mx d 196 6 ls st h Q = wp V (cdT Ev) mx d 196 10 ls st h Q := x_goto rfl
theorem s_196_9 {x : Int32} : wp V (cdT Ev) mx d 196 9 [l0, some (.int x)] st h Q = wp V (cdT Ev) mx d 196 10 [l0, some (.int x)] (.int x :: st) h Q := x_iload (len := 1) rfl rfl
theorem s_196_10 {x : Int32} : wp V (cdT Ev) mx d 196 10 ls [.int x] h Q = Q (some (.int x)) h := x_ret rfl rfl
theorem e_196 {p0 : Int32} {p1 : Int32} : WP V (cdT Ev) mx (d + 1) 196 [.int p0, .int p1] h Q = wp V (cdT Ev) mx d 196 0 [some (.int p0), some (.int p1)] [] h Q := propext (WP_eq (Nat.le_of_ble_eq_true rfl))
theorem s_197_0 {x : Int32} : wp V (cdT Ev) mx d 197 0 [some (.int x), l1] st h Q = wp V (cdT Ev) mx d 197 1 [some (.int x), l1] (.int x :: st) h Q := x_iload (len := 1) rfl rfl
theorem s_197_1 {x : Int32} : wp V (cdT Ev) mx d 197 1 [l0, some (.int x)] st h Q = wp V (cdT Ev) mx d 197 2 [l0, some (.int x)] (.int x :: st) h Q := x_iload (len := 1) rfl rfl
theorem s_197_2 {x z : Int32} : wp V (cdT Ev) mx d 197 2 ls (.int z :: .int x :: st) h Q = (if z < x then wp V (cdT Ev) mx d 197 9 ls st h Q else wp V (cdT Ev) mx d 197 5 ls st h Q) := x_if2 (c := fun x z => z < x) rfl
theorem s_197_5 {x : Int32} : wp V (cdT Ev) mx d 197 5 [some (.int x), l1] st h Q = wp V (cdT Ev) mx d 197 6 [some (.int x), l1] (.int x :: st) h Q := x_iload (len := 1) rfl rfl
theorem s_197_6 : wp V (cdT Ev) mx d 197 6 ls st h Q = wp V (cdT Ev) mx d 197 10 ls st h Q := x_goto rfl
theorem s_197_9 {x : Int32} : wp V (cdT Ev) mx d 197 9 [l0, some (.int x)] st h Q = wp V (cdT Ev) mx d 197 10 [l0, some (.int x)] (.int x :: st) h Q := x_iload (len := 1) rfl rfl
theorem s_197_10 {x : Int32} : wp V (cdT Ev) mx d 197 10 ls [.int x] h Q = Q (some (.int x)) h := x_ret rfl rfl
theorem e_197 {p0 : Int32} {p1 : Int32} : WP V (cdT Ev) mx (d + 1) 197 [.int p0, .int p1] h Q = wp V (cdT Ev) mx d 197 0 [some (.int p0), some (.int p1)] [] h Q := propext (WP_eq (Nat.le_of_ble_eq_true rfl))
theorem s_198_0 {a : Nat} : wp V (cdT Ev) mx d 198 0 [some (.ref a)] st h Q = wp V (cdT Ev) mx d 198 1 [some (.ref a)] (.ref a :: st) h Q := x_aload (len := 1) rfl rfl
theorem s_198_0_n : wp V (cdT Ev) mx d 198 0 [some .null] st h Q = wp V (cdT Ev) mx d 198 1 [some .null] (.null :: st) h Q := x_aloadN (len := 1) rfl rfl
theorem s_198_1 {a : Nat} : wp V (cdT Ev) mx d 198 1 ls (.ref a :: st) h Q = gs 0 V a (fun v => wp V (cdT Ev) mx d 198 4 ls (v :: st) h Q) := x_gets rfl
theorem s_198_4 {a : Nat} : wp V (cdT Ev) mx d 198 4 ls (.ref a :: st) h Q = ln V h a (fun x => wp V (cdT Ev) mx d 198 5 ls (.int x :: st) h Q) := x_alen rfl
theorem s_198_5 {a : Nat} : wp V (cdT Ev) mx d 198 5 [some (.ref a)] st h Q = wp V (cdT Ev) mx d 198 6 [some (.ref a)] (.ref a :: st) h Q := x_aload (len := 1) rfl rfl
theorem s_198_5_n : wp V (cdT Ev) mx d 198 5 [some .null] st h Q = wp V (cdT Ev) mx d 198 6 [some .null] (.null :: st) h Q := x_aloadN (len := 1) rfl rfl
theorem s_198_6 {b : Nat} (hst : st.length ≤ 4) : wp V (cdT Ev) mx d 198 6 ls (.ref b :: st) h Q = cstr V b (WP V (cdT Ev) mx d 202 [.ref b] h (fun r h' => wp V (cdT Ev) mx d 198 9 ls (rts r st) h' Q)) := x_cstr (sg := []) rfl hst rfl rfl
theorem s_198_9 {x z : Int32} : wp V (cdT Ev) mx d 198 9 ls (.int z :: .int x :: st) h Q = wp V (cdT Ev) mx d 198 10 ls (.int (x >>> (z &&& 31)) :: st) h Q := x_ib (f := fun x z => x >>> (z &&& 31)) rfl
theorem s_198_10 {x : Int32} : wp V (cdT Ev) mx d 198 10 ls [.int x] h Q = Q (some (.int x)) h := x_ret rfl rfl
theorem e_198 {a : Nat} : WP V (cdT Ev) mx (d + 1) 198 [.ref a] h Q = wp V (cdT Ev) mx d 198 0 [some (.ref a)] [] h Q := propext (WP_eq (Nat.le_of_ble_eq_true rfl))
theorem s_199_0 {a : Nat} : wp V (cdT Ev) mx d 199 0 [some (.ref a), l1] st h Q = wp V (cdT Ev) mx d 199 1 [some (.ref a), l1] (.ref a :: st) h Q := x_aload (len := 1) rfl rfl
theorem s_199_0_n : wp V (cdT Ev) mx d 199 0 [some .null, l1] st h Q = wp V (cdT Ev) mx d 199 1 [some .null, l1] (.null :: st) h Q := x_aloadN (len := 1) rfl rfl
theorem s_199_1 {b : Nat} (hst : st.length ≤ 4) : wp V (cdT Ev) mx d 199 1 ls (.ref b :: st) h Q = cstr V b (WP V (cdT Ev) mx d 203 [.ref b] h (fun r h' => wp V (cdT Ev) mx d 199 4 ls (rts r st) h' Q)) := x_cstr (sg := []) rfl hst rfl rfl
theorem s_199_4 {x : Int32} : wp V (cdT Ev) mx d 199 4 ls (.int x :: st) h Q = (if x = 0 then wp V (cdT Ev) mx d 199 16 ls st h Q else wp V (cdT Ev) mx d 199 7 ls st h Q) := x_if1 (c := fun x => x = 0) rfl
theorem s_199_7 {a : Nat} : wp V (cdT Ev) mx d 199 7 [some (.ref a), l1] st h Q = wp V (cdT Ev) mx d 199 8 [some (.ref a), l1] (.ref a :: st) h Q := x_aload (len := 1) rfl rfl
theorem s_199_7_n : wp V (cdT Ev) mx d 199 7 [some .null, l1] st h Q = wp V (cdT Ev) mx d 199 8 [some .null, l1] (.null :: st) h Q := x_aloadN (len := 1) rfl rfl
theorem s_199_8 {a : Nat} : wp V (cdT Ev) mx d 199 8 ls (.ref a :: st) h Q = gs 0 V a (fun v => wp V (cdT Ev) mx d 199 11 ls (v :: st) h Q) := x_gets rfl
theorem s_199_11 {x : Int32} : wp V (cdT Ev) mx d 199 11 [l0, some (.int x)] st h Q = wp V (cdT Ev) mx d 199 12 [l0, some (.int x)] (.int x :: st) h Q := x_iload (len := 1) rfl rfl
theorem s_199_12 {v0 v1 : Value} (hst : st.length ≤ 4) : wp V (cdT Ev) mx d 199 12 ls (v1 :: v0 :: st) h Q = WP V (cdT Ev) mx d 205 [v0, v1] h (fun r h' => wp V (cdT Ev) mx d 199 15 ls (rts r st) h' Q) := x_cs (sg := [v1, v0]) rfl hst rfl rfl
theorem s_199_15 {x : Int32} (hx : okr 4 (.int x) = true) : wp V (cdT Ev) mx d 199 15 ls [.int x] h Q = Q (some (.int x)) h := x_ret rfl hx
theorem s_199_16 {a : Nat} : wp V (cdT Ev) mx d 199 16 [some (.ref a), l1] st h Q = wp V (cdT Ev) mx d 199 17 [some (.ref a), l1] (.ref a :: st) h Q := x_aload (len := 1) rfl rfl
theorem s_199_16_n : wp V (cdT Ev) mx d 199 16 [some .null, l1] st h Q = wp V (cdT Ev) mx d 199 17 [some .null, l1] (.null :: st) h Q := x_aloadN (len := 1) rfl rfl
theorem s_199_17 {a : Nat} : wp V (cdT Ev) mx d 199 17 ls (.ref a :: st) h Q = gs 0 V a (fun v => wp V (cdT Ev) mx d 199 20 ls (v :: st) h Q) := x_gets rfl
theorem s_199_20 {x : Int32} : wp V (cdT Ev) mx d 199 20 [l0, some (.int x)] st h Q = wp V (cdT Ev) mx d 199 21 [l0, some (.int x)] (.int x :: st) h Q := x_iload (len := 1) rfl rfl
theorem s_199_24 {x : Int32} (hx : okr 4 (.int x) = true) : wp V (cdT Ev) mx d 199 24 ls [.int x] h Q = Q (some (.int x)) h := x_ret rfl hx
theorem e_199 {a : Nat} {p0 : Int32} : WP V (cdT Ev) mx (d + 1) 199 [.ref a, .int p0] h Q = wp V (cdT Ev) mx d 199 0 [some (.ref a), some (.int p0)] [] h Q := propext (WP_eq (Nat.le_of_ble_eq_true rfl))
theorem s_200_0 {a : Nat} : wp V (cdT Ev) mx d 200 0 [some (.ref a), l1] st h Q = wp V (cdT Ev) mx d 200 1 [some (.ref a), l1] (.ref a :: st) h Q := x_aload (len := 1) rfl rfl
theorem s_200_0_n : wp V (cdT Ev) mx d 200 0 [some .null, l1] st h Q = wp V (cdT Ev) mx d 200 1 [some .null, l1] (.null :: st) h Q := x_aloadN (len := 1) rfl rfl
theorem s_200_1 {x : Int32} : wp V (cdT Ev) mx d 200 1 [l0, some (.int x)] st h Q = wp V (cdT Ev) mx d 200 2 [l0, some (.int x)] (.int x :: st) h Q := x_iload (len := 1) rfl rfl
theorem s_200_2 : wp V (cdT Ev) mx d 200 2 ls st h Q = wp V (cdT Ev) mx d 200 3 ls ((.int (0)) :: st) h Q := x_push (v := (.int (0))) (len := 1) rfl
theorem s_200_3 {b : Nat} {v0 v1 : Value} (hst : st.length ≤ 4) : wp V (cdT Ev) mx d 200 3 ls (v1 :: v0 :: .ref b :: st) h Q = cstr V b (WP V (cdT Ev) mx d 201 [.ref b, v0, v1] h (fun r h' => wp V (cdT Ev) mx d 200 6 ls (rts r st) h' Q)) := x_cstr (sg := [v1, v0]) rfl hst rfl rfl
theorem s_200_6 {x : Int32} : wp V (cdT Ev) mx d 200 6 ls [.int x] h Q = Q (some (.int x)) h := x_ret rfl rfl
theorem e_200 {a : Nat} {p0 : Int32} : WP V (cdT Ev) mx (d + 1) 200 [.ref a, .int p0] h Q = wp V (cdT Ev) mx d 200 0 [some (.ref a), some (.int p0)] [] h Q := propext (WP_eq (Nat.le_of_ble_eq_true rfl))
theorem s_201_0 {a : Nat} : wp V (cdT Ev) mx d 201 0 [some (.ref a), l1, l2] st h Q = wp V (cdT Ev) mx d 201 1 [some (.ref a), l1, l2] (.ref a :: st) h Q := x_aload (len := 1) rfl rfl
theorem s_201_0_n : wp V (cdT Ev) mx d 201 0 [some .null, l1, l2] st h Q = wp V (cdT Ev) mx d 201 1 [some .null, l1, l2] (.null :: st) h Q := x_aloadN (len := 1) rfl rfl
theorem s_201_1 {b : Nat} (hst : st.length ≤ 4) : wp V (cdT Ev) mx d 201 1 ls (.ref b :: st) h Q = cstr V b (WP V (cdT Ev) mx d 203 [.ref b] h (fun r h' => wp V (cdT Ev) mx d 201 4 ls (rts r st) h' Q)) := x_cstr (sg := []) rfl hst rfl rfl
theorem s_201_4 {x : Int32} : wp V (cdT Ev) mx d 201 4 ls (.int x :: st) h Q = (if x = 0 then wp V (cdT Ev) mx d 201 23 ls st h Q else wp V (cdT Ev) mx d 201 7 ls st h Q) := x_if1 (c := fun x => x = 0) rfl
theorem s_201_7 {a : Nat} : wp V (cdT Ev) mx d 201 7 [some (.ref a), l1, l2] st h Q = wp V (cdT Ev) mx d 201 8 [some (.ref a), l1, l2] (.ref a :: st) h Q := x_aload (len := 1) rfl rfl
theorem s_201_7_n : wp V (cdT Ev) mx d 201 7 [some .null, l1, l2] st h Q = wp V (cdT Ev) mx d 201 8 [some .null, l1, l2] (.null :: st) h Q := x_aloadN (len := 1) rfl rfl
theorem s_201_8 {a : Nat} : wp V (cdT Ev) mx d 201 8 ls (.ref a :: st) h Q = gs 0 V a (fun v => wp V (cdT Ev) mx d 201 11 ls (v :: st) h Q) := x_gets rfl
theorem s_201_11 {x : Int32} : wp V (cdT Ev) mx d 201 11 [l0, some (.int x), l2] st h Q = wp V (cdT Ev) mx d 201 12 [l0, some (.int x), l2] (.int x :: st) h Q := x_iload (len := 1) rfl rfl
theorem s_201_12 {x : Int32} : wp V (cdT Ev) mx d 201 12 [l0, l1, some (.int x)] st h Q = wp V (cdT Ev) mx d 201 13 [l0, l1, some (.int x)] (.int x :: st) h Q := x_iload (len := 1) rfl rfl
theorem s_201_13 {a : Nat} : wp V (cdT Ev) mx d 201 13 [some (.ref a), l1, l2] st h Q = wp V (cdT Ev) mx d 201 14 [some (.ref a), l1, l2] (.ref a :: st) h Q := x_aload (len := 1) rfl rfl
theorem s_201_13_n : wp V (cdT Ev) mx d 201 13 [some .null, l1, l2] st h Q = wp V (cdT Ev) mx d 201 14 [some .null, l1, l2] (.null :: st) h Q := x_aloadN (len := 1) rfl rfl
theorem s_201_14 {b : Nat} (hst : st.length ≤ 4) : wp V (cdT Ev) mx d 201 14 ls (.ref b :: st) h Q = cstr V b (WP V (cdT Ev) mx d 198 [.ref b] h (fun r h' => wp V (cdT Ev) mx d 201 17 ls (rts r st) h' Q)) := x_cstr (sg := []) rfl hst rfl rfl
theorem s_201_17 {v0 v1 v2 v3 : Value} (hst : st.length ≤ 4) : wp V (cdT Ev) mx d 201 17 ls (v3 :: v2 :: v1 :: v0 :: st) h Q = WP V (cdT Ev) mx d 207 [v0, v1, v2, v3] h (fun r h' => wp V (cdT Ev) mx d 201 20 ls (rts r st) h' Q) := x_cs (sg := [v3, v2, v1, v0]) rfl hst rfl rfl
theorem s_201_20 : wp V (cdT Ev) mx d 201 20 ls st h Q = wp V (cdT Ev) mx d 201 36 ls st h Q := x_goto rfl
theorem s_201_23 {a : Nat} : wp V (cdT Ev) mx d 201 23 [some (.ref a), l1, l2] st h Q = wp V (cdT Ev) mx d 201 24 [some (.ref a), l1, l2] (.ref a :: st) h Q := x_aload (len := 1) rfl rfl
theorem s_201_23_n : wp V (cdT Ev) mx d 201 23 [some .null, l1, l2] st h Q = wp V (cdT Ev) mx d 201 24 [some .null, l1, l2] (.null :: st) h Q := x_aloadN (len := 1) rfl rfl
theorem s_201_24 {a : Nat} : wp V (cdT Ev) mx d 201 24 ls (.ref a :: st) h Q = gs 0 V a (fun v => wp V (cdT Ev) mx d 201 27 ls (v :: st) h Q) := x_gets rfl
theorem s_201_27 {x : Int32} : wp V (cdT Ev) mx d 201 27 [l0, some (.int x), l2] st h Q = wp V (cdT Ev) mx d 201 28 [l0, some (.int x), l2] (.int x :: st) h Q := x_iload (len := 1) rfl rfl
theorem s_201_28 {x : Int32} : wp V (cdT Ev) mx d 201 28 [l0, l1, some (.int x)] st h Q = wp V (cdT Ev) mx d 201 29 [l0, l1, some (.int x)] (.int x :: st) h Q := x_iload (len := 1) rfl rfl
theorem s_201_29 {a : Nat} : wp V (cdT Ev) mx d 201 29 [some (.ref a), l1, l2] st h Q = wp V (cdT Ev) mx d 201 30 [some (.ref a), l1, l2] (.ref a :: st) h Q := x_aload (len := 1) rfl rfl
theorem s_201_29_n : wp V (cdT Ev) mx d 201 29 [some .null, l1, l2] st h Q = wp V (cdT Ev) mx d 201 30 [some .null, l1, l2] (.null :: st) h Q := x_aloadN (len := 1) rfl rfl
theorem s_201_30 {b : Nat} (hst : st.length ≤ 4) : wp V (cdT Ev) mx d 201 30 ls (.ref b :: st) h Q = cstr V b (WP V (cdT Ev) mx d 198 [.ref b] h (fun r h' => wp V (cdT Ev) mx d 201 33 ls (rts r st) h' Q)) := x_cstr (sg := []) rfl hst rfl rfl
theorem s_201_36 {x : Int32} : wp V (cdT Ev) mx d 201 36 ls [.int x] h Q = Q (some (.int x)) h := x_ret rfl rfl
theorem e_201 {a : Nat} {p0 : Int32} {p1 : Int32} : WP V (cdT Ev) mx (d + 1) 201 [.ref a, .int p0, .int p1] h Q = wp V (cdT Ev) mx d 201 0 [some (.ref a), some (.int p0), some (.int p1)] [] h Q := propext (WP_eq (Nat.le_of_ble_eq_true rfl))
theorem s_202_0 : wp V (cdT Ev) mx d 202 0 ls st h Q = wp V (cdT Ev) mx d 202 3 ls ((.int 1) :: st) h Q := x_push (v := (.int 1)) (len := 3) rfl
theorem s_202_3 {x : Int32} : wp V (cdT Ev) mx d 202 3 ls (.int x :: st) h Q = (if x = 0 then wp V (cdT Ev) mx d 202 13 ls st h Q else wp V (cdT Ev) mx d 202 6 ls st h Q) := x_if1 (c := fun x => x = 0) rfl
theorem s_202_6 {a : Nat} : wp V (cdT Ev) mx d 202 6 [some (.ref a)] st h Q = wp V (cdT Ev) mx d 202 7 [some (.ref a)] (.ref a :: st) h Q := x_aload (len := 1) rfl rfl
theorem s_202_6_n : wp V (cdT Ev) mx d 202 6 [some .null] st h Q = wp V (cdT Ev) mx d 202 7 [some .null] (.null :: st) h Q := x_aloadN (len := 1) rfl rfl
theorem s_202_7 {a : Nat} : wp V (cdT Ev) mx d 202 7 ls (.ref a :: st) h Q = gs 1 V a (fun v => wp V (cdT Ev) mx d 202 10 ls (v :: st) h Q) := x_gets rfl
theorem s_202_10 : wp V (cdT Ev) mx d 202 10 ls st h Q = wp V (cdT Ev) mx d 202 14 ls st h Q := x_goto rfl
theorem s_202_13 : wp V (cdT Ev) mx d 202 13 ls st h Q = wp V (cdT Ev) mx d 202 14 ls ((.int (1)) :: st) h Q := x_push (v := (.int (1))) (len := 1) rfl
theorem s_202_14 {x : Int32} (hx : okr 5 (.int x) = true) : wp V (cdT Ev) mx d 202 14 ls [.int x] h Q = Q (some (.int x)) h := x_ret rfl hx
theorem e_202 {a : Nat} : WP V (cdT Ev) mx (d + 1) 202 [.ref a] h Q = wp V (cdT Ev) mx d 202 0 [some (.ref a)] [] h Q := propext (WP_eq (Nat.le_of_ble_eq_true rfl))
theorem s_203_0 : wp V (cdT Ev) mx d 203 0 ls st h Q = wp V (cdT Ev) mx d 203 3 ls ((.int 1) :: st) h Q := x_push (v := (.int 1)) (len := 3) rfl
theorem s_203_3 {x : Int32} : wp V (cdT Ev) mx d 203 3 ls (.int x :: st) h Q = (if x = 0 then wp V (cdT Ev) mx d 203 17 ls st h Q else wp V (cdT Ev) mx d 203 6 ls st h Q) := x_if1 (c := fun x => x = 0) rfl
theorem s_203_6 {a : Nat} : wp V (cdT Ev) mx d 203 6 [some (.ref a)] st h Q = wp V (cdT Ev) mx d 203 7 [some (.ref a)] (.ref a :: st) h Q := x_aload (len := 1) rfl rfl
theorem s_203_6_n : wp V (cdT Ev) mx d 203 6 [some .null] st h Q = wp V (cdT Ev) mx d 203 7 [some .null] (.null :: st) h Q := x_aloadN (len := 1) rfl rfl
theorem s_203_7 {a : Nat} : wp V (cdT Ev) mx d 203 7 ls (.ref a :: st) h Q = gs 1 V a (fun v => wp V (cdT Ev) mx d 203 10 ls (v :: st) h Q) := x_gets rfl
theorem s_203_10 {x : Int32} : wp V (cdT Ev) mx d 203 10 ls (.int x :: st) h Q = (if ¬ x = 0 then wp V (cdT Ev) mx d 203 17 ls st h Q else wp V (cdT Ev) mx d 203 13 ls st h Q) := x_if1 (c := fun x => ¬ x = 0) rfl
theorem s_203_13 : wp V (cdT Ev) mx d 203 13 ls st h Q = wp V (cdT Ev) mx d 203 14 ls ((.int (1)) :: st) h Q := x_push (v := (.int (1))) (len := 1) rfl
theorem s_203_14 : wp V (cdT Ev) mx d 203 14 ls st h Q = wp V (cdT Ev) mx d 203 18 ls st h Q := x_goto rfl
theorem s_203_17 : wp V (cdT Ev) mx d 203 17 ls st h Q = wp V (cdT Ev) mx d 203 18 ls ((.int (0)) :: st) h Q := x_push (v := (.int (0))) (len := 1) rfl
theorem s_203_18 {x : Int32} (hx : okr 1 (.int x) = true) : wp V (cdT Ev) mx d 203 18 ls [.int x] h Q = Q (some (.int x)) h := x_ret rfl hx
theorem e_203 {a : Nat} : WP V (cdT Ev) mx (d + 1) 203 [.ref a] h Q = wp V (cdT Ev) mx d 203 0 [some (.ref a)] [] h Q := propext (WP_eq (Nat.le_of_ble_eq_true rfl))
theorem s_204_0 {x : Int32} : wp V (cdT Ev) mx d 204 0 [some (.int x), l1] st h Q = wp V (cdT Ev) mx d 204 1 [some (.int x), l1] (.int x :: st) h Q := x_iload (len := 1) rfl rfl
theorem s_204_1 {x : Int32} : wp V (cdT Ev) mx d 204 1 [l0, some (.int x)] st h Q = wp V (cdT Ev) mx d 204 2 [l0, some (.int x)] (.int x :: st) h Q := x_iload (len := 1) rfl rfl
theorem s_204_2 : wp V (cdT Ev) mx d 204 2 ls st h Q = wp V (cdT Ev) mx d 204 5 ls ((Ev 6) :: st) h Q := x_push (v := (Ev 6)) (len := 3) rfl
theorem s_204_5 {v0 v1 v2 : Value} (hst : st.length ≤ 4) : wp V (cdT Ev) mx d 204 5 ls (v2 :: v1 :: v0 :: st) h Q = WP V (cdT Ev) mx d 209 [v0, v1, v2] h (fun r h' => wp V (cdT Ev) mx d 204 8 ls (rts r st) h' Q) := x_cs (sg := [v2, v1, v0]) rfl hst rfl rfl
theorem s_204_8 {a : Nat} : wp V (cdT Ev) mx d 204 8 ls (.ref a :: st) h Q = wp V (cdT Ev) mx d 204 9 ls st h Q := x_pop rfl rfl
theorem s_204_8_i {x : Int32} : wp V (cdT Ev) mx d 204 8 ls (.int x :: st) h Q = wp V (cdT Ev) mx d 204 9 ls st h Q := x_pop rfl rfl
theorem s_204_9 : wp V (cdT Ev) mx d 204 9 ls [] h Q = Q none h := x_retv rfl
theorem e_204 {p0 : Int32} {p1 : Int32} : WP V (cdT Ev) mx (d + 1) 204 [.int p0, .int p1] h Q = wp V (cdT Ev) mx d 204 0 [some (.int p0), some (.int p1)] [] h Q := propext (WP_eq (Nat.le_of_ble_eq_true rfl))
theorem s_205_0 {x : Int32} : wp V (cdT Ev) mx d 205 0 [l0, some (.int x)] st h Q = wp V (cdT Ev) mx d 205 1 [l0, some (.int x)] (.int x :: st) h Q := x_iload (len := 1) rfl rfl
theorem s_205_1 {a : Nat} : wp V (cdT Ev) mx d 205 1 [some (.ref a), l1] st h Q = wp V (cdT Ev) mx d 205 2 [some (.ref a), l1] (.ref a :: st) h Q := x_aload (len := 1) rfl rfl
theorem s_205_1_n : wp V (cdT Ev) mx d 205 1 [some .null, l1] st h Q = wp V (cdT Ev) mx d 205 2 [some .null, l1] (.null :: st) h Q := x_aloadN (len := 1) rfl rfl
theorem s_205_2 {a : Nat} : wp V (cdT Ev) mx d 205 2 ls (.ref a :: st) h Q = ln V h a (fun x => wp V (cdT Ev) mx d 205 3 ls (.int x :: st) h Q) := x_alen rfl
theorem s_205_3 {v0 v1 : Value} (hst : st.length ≤ 4) : wp V (cdT Ev) mx d 205 3 ls (v1 :: v0 :: st) h Q = WP V (cdT Ev) mx d 204 [v0, v1] h (fun r h' => wp V (cdT Ev) mx d 205 6 ls (rts r st) h' Q) := x_cs (sg := [v1, v0]) rfl hst rfl rfl
theorem s_205_6 {a : Nat} : wp V (cdT Ev) mx d 205 6 [some (.ref a), l1] st h Q = wp V (cdT Ev) mx d 205 7 [some (.ref a), l1] (.ref a :: st) h Q := x_aload (len := 1) rfl rfl
theorem s_205_6_n : wp V (cdT Ev) mx d 205 6 [some .null, l1] st h Q = wp V (cdT Ev) mx d 205 7 [some .null, l1] (.null :: st) h Q := x_aloadN (len := 1) rfl rfl
theorem s_205_7 {x : Int32} : wp V (cdT Ev) mx d 205 7 [l0, some (.int x)] st h Q = wp V (cdT Ev) mx d 205 8 [l0, some (.int x)] (.int x :: st) h Q := x_iload (len := 1) rfl rfl
theorem s_205_8 {i : Int32} {a : Nat} : wp V (cdT Ev) mx d 205 8 ls (.int i :: .ref a :: st) h Q = ai 0 i V h a (fun x => wp V (cdT Ev) mx d 205 9 ls (.int x :: st) h Q) := x_iald rfl
theorem s_205_9 : wp V (cdT Ev) mx d 205 9 ls st h Q = wp V (cdT Ev) mx d 205 12 ls ((.int (255)) :: st) h Q := x_push (v := (.int (255))) (len := 3) rfl
theorem s_205_12 {x z : Int32} : wp V (cdT Ev) mx d 205 12 ls (.int z :: .int x :: st) h Q = wp V (cdT Ev) mx d 205 13 ls (.int (x &&& z) :: st) h Q := x_ib (f := fun x z => x &&& z) rfl
theorem s_205_13 {x : Int32} : wp V (cdT Ev) mx d 205 13 ls (.int x :: st) h Q = wp V (cdT Ev) mx d 205 14 ls (.int ((x.toUInt32 % 65536).toInt32) :: st) h Q := x_iu (f := fun x => (x.toUInt32 % 65536).toInt32) rfl
theorem s_205_14 {x : Int32} (hx : okr 4 (.int x) = true) : wp V (cdT Ev) mx d 205 14 ls [.int x] h Q = Q (some (.int x)) h := x_ret rfl hx
theorem e_205 {p0 : Nat} {p1 : Int32} : WP V (cdT Ev) mx (d + 1) 205 [.ref p0, .int p1] h Q = wp V (cdT Ev) mx d 205 0 [some (.ref p0), some (.int p1)] [] h Q := propext (WP_eq (Nat.le_of_ble_eq_true rfl))
theorem s_206_0 {x : Int32} : wp V (cdT Ev) mx d 206 0 [some (.int x)] st h Q = wp V (cdT Ev) mx d 206 1 [some (.int x)] (.int x :: st) h Q := x_iload (len := 1) rfl rfl
theorem s_206_1 {x : Int32} : wp V (cdT Ev) mx d 206 1 ls (.int x :: st) h Q = (if x < 0 then wp V (cdT Ev) mx d 206 15 ls st h Q else wp V (cdT Ev) mx d 206 4 ls st h Q) := x_if1 (c := fun x => x < 0) rfl
theorem s_206_4 {x : Int32} : wp V (cdT Ev) mx d 206 4 [some (.int x)] st h Q = wp V (cdT Ev) mx d 206 5 [some (.int x)] (.int x :: st) h Q := x_iload (len := 1) rfl rfl
theorem s_206_5 : wp V (cdT Ev) mx d 206 5 ls st h Q = wp V (cdT Ev) mx d 206 8 ls ((.int (255)) :: st) h Q := x_push (v := (.int (255))) (len := 3) rfl
theorem s_206_8 {x z : Int32} : wp V (cdT Ev) mx d 206 8 ls (.int z :: .int x :: st) h Q = (if z < x then wp V (cdT Ev) mx d 206 15 ls st h Q else wp V (cdT Ev) mx d 206 11 ls st h Q) := x_if2 (c := fun x z => z < x) rfl
theorem s_206_11 : wp V (cdT Ev) mx d 206 11 ls st h Q = wp V (cdT Ev) mx d 206 12 ls ((.int (1)) :: st) h Q := x_push (v := (.int (1))) (len := 1) rfl
theorem s_206_12 : wp V (cdT Ev) mx d 206 12 ls st h Q = wp V (cdT Ev) mx d 206 16 ls st h Q := x_goto rfl
theorem s_206_15 : wp V (cdT Ev) mx d 206 15 ls st h Q = wp V (cdT Ev) mx d 206 16 ls ((.int (0)) :: st) h Q := x_push (v := (.int (0))) (len := 1) rfl
theorem s_206_16 {x : Int32} (hx : okr 1 (.int x) = true) : wp V (cdT Ev) mx d 206 16 ls [.int x] h Q = Q (some (.int x)) h := x_ret rfl hx
theorem e_206 {p0 : Int32} : WP V (cdT Ev) mx (d + 1) 206 [.int p0] h Q = wp V (cdT Ev) mx d 206 0 [some (.int p0)] [] h Q := propext (WP_eq (Nat.le_of_ble_eq_true rfl))
theorem s_207_0 {x : Int32} : wp V (cdT Ev) mx d 207 0 [l0, some (.int x), l2, l3] st h Q = wp V (cdT Ev) mx d 207 1 [l0, some (.int x), l2, l3] (.int x :: st) h Q := x_iload (len := 1) rfl rfl
theorem s_207_1 {v0 : Value} (hst : st.length ≤ 4) : wp V (cdT Ev) mx d 207 1 ls (v0 :: st) h Q = WP V (cdT Ev) mx d 206 [v0] h (fun r h' => wp V (cdT Ev) mx d 207 4 ls (rts r st) h' Q) := x_cs (sg := [v0]) rfl hst rfl rfl
theorem s_207_4 {x : Int32} : wp V (cdT Ev) mx d 207 4 ls (.int x :: st) h Q = (if ¬ x = 0 then wp V (cdT Ev) mx d 207 9 ls st h Q else wp V (cdT Ev) mx d 207 7 ls st h Q) := x_if1 (c := fun x => ¬ x = 0) rfl
theorem s_207_7 : wp V (cdT Ev) mx d 207 7 ls st h Q = wp V (cdT Ev) mx d 207 8 ls ((.int (-1)) :: st) h Q := x_push (v := (.int (-1))) (len := 1) rfl
theorem s_207_8 {x : Int32} : wp V (cdT Ev) mx d 207 8 ls [.int x] h Q = Q (some (.int x)) h := x_ret rfl rfl
theorem s_207_9 {x : Int32} : wp V (cdT Ev) mx d 207 9 [l0, l1, some (.int x), l3] st h Q = wp V (cdT Ev) mx d 207 10 [l0, l1, some (.int x), l3] (.int x :: st) h Q := x_iload (len := 1) rfl rfl
theorem s_207_10 : wp V (cdT Ev) mx d 207 10 ls st h Q = wp V (cdT Ev) mx d 207 11 ls ((.int (0)) :: st) h Q := x_push (v := (.int (0))) (len := 1) rfl
theorem s_207_11 {v0 v1 : Value} (hst : st.length ≤ 4) : wp V (cdT Ev) mx d 207 11 ls (v1 :: v0 :: st) h Q = WP V (cdT Ev) mx d 196 [v0, v1] h (fun r h' => wp V (cdT Ev) mx d 207 14 ls (rts r st) h' Q) := x_cs (sg := [v1, v0]) rfl hst rfl rfl
theorem s_207_14 {x : Int32} (hn : nl l1 = true) : wp V (cdT Ev) mx d 207 14 [l0, l1, l2, l3] (.int x :: st) h Q = wp V (cdT Ev) mx d 207 15 [l0, l1, some (.int x), l3] st h Q := x_istore (len := 1) rfl (Nat.le_of_ble_eq_true rfl) (okp_nl rfl hn) rfl
theorem s_207_15 {x : Int32} : wp V (cdT Ev) mx d 207 15 [l0, l1, l2, some (.int x)] st h Q = wp V (cdT Ev) mx d 207 16 [l0, l1, l2, some (.int x)] (.int x :: st) h Q := x_iload (len := 1) rfl rfl
theorem s_207_16 {a : Nat} : wp V (cdT Ev) mx d 207 16 [some (.ref a), l1, l2, l3] st h Q = wp V (cdT Ev) mx d 207 17 [some (.ref a), l1, l2, l3] (.ref a :: st) h Q := x_aload (len := 1) rfl rfl
theorem s_207_16_n : wp V (cdT Ev) mx d 207 16 [some .null, l1, l2, l3] st h Q = wp V (cdT Ev) mx d 207 17 [some .null, l1, l2, l3] (.null :: st) h Q := x_aloadN (len := 1) rfl rfl
theorem s_207_17 {a : Nat} : wp V (cdT Ev) mx d 207 17 ls (.ref a :: st) h Q = ln V h a (fun x => wp V (cdT Ev) mx d 207 18 ls (.int x :: st) h Q) := x_alen rfl
theorem s_207_18 {v0 v1 : Value} (hst : st.length ≤ 4) : wp V (cdT Ev) mx d 207 18 ls (v1 :: v0 :: st) h Q = WP V (cdT Ev) mx d 197 [v0, v1] h (fun r h' => wp V (cdT Ev) mx d 207 21 ls (rts r st) h' Q) := x_cs (sg := [v1, v0]) rfl hst rfl rfl
theorem s_207_21 {x : Int32} (hn : nl l2 = true) : wp V (cdT Ev) mx d 207 21 [l0, l1, l2, l3] (.int x :: st) h Q = wp V (cdT Ev) mx d 207 22 [l0, l1, l2, some (.int x)] st h Q := x_istore (len := 1) rfl (Nat.le_of_ble_eq_true rfl) (okp_nl rfl hn) rfl
theorem s_207_22 {x : Int32} : wp V (cdT Ev) mx d 207 22 [l0, l1, some (.int x), l3] st h Q = wp V (cdT Ev) mx d 207 23 [l0, l1, some (.int x), l3] (.int x :: st) h Q := x_iload (len := 1) rfl rfl
theorem s_207_23 {x : Int32} : wp V (cdT Ev) mx d 207 23 [l0, l1, l2, some (.int x)] st h Q = wp V (cdT Ev) mx d 207 24 [l0, l1, l2, some (.int x)] (.int x :: st) h Q := x_iload (len := 1) rfl rfl
theorem s_207_24 {x z : Int32} : wp V (cdT Ev) mx d 207 24 ls (.int z :: .int x :: st) h Q = (if x < z then wp V (cdT Ev) mx d 207 29 ls st h Q else wp V (cdT Ev) mx d 207 27 ls st h Q) := x_if2 (c := fun x z => x < z) rfl
theorem s_207_27 : wp V (cdT Ev) mx d 207 27 ls st h Q = wp V (cdT Ev) mx d 207 28 ls ((.int (-1)) :: st) h Q := x_push (v := (.int (-1))) (len := 1) rfl
theorem s_207_28 {x : Int32} : wp V (cdT Ev) mx d 207 28 ls [.int x] h Q = Q (some (.int x)) h := x_ret rfl rfl
theorem s_207_29 {a : Nat} : wp V (cdT Ev) mx d 207 29 [some (.ref a), l1, l2, l3] st h Q = wp V (cdT Ev) mx d 207 30 [some (.ref a), l1, l2, l3] (.ref a :: st) h Q := x_aload (len := 1) rfl rfl
theorem s_207_29_n : wp V (cdT Ev) mx d 207 29 [some .null, l1, l2, l3] st h Q = wp V (cdT Ev) mx d 207 30 [some .null, l1, l2, l3] (.null :: st) h Q := x_aloadN (len := 1) rfl rfl
theorem s_207_30 {x : Int32} : wp V (cdT Ev) mx d 207 30 [l0, some (.int x), l2, l3] st h Q = wp V (cdT Ev) mx d 207 31 [l0, some (.int x), l2, l3] (.int x :: st) h Q := x_iload (len := 1) rfl rfl
theorem s_207_31 {x : Int32} : wp V (cdT Ev) mx d 207 31 [l0, l1, some (.int x), l3] st h Q = wp V (cdT Ev) mx d 207 32 [l0, l1, some (.int x), l3] (.int x :: st) h Q := x_iload (len := 1) rfl rfl
theorem s_207_32 {x : Int32} : wp V (cdT Ev) mx d 207 32 [l0, l1, l2, some (.int x)] st h Q = wp V (cdT Ev) mx d 207 33 [l0, l1, l2, some (.int x)] (.int x :: st) h Q := x_iload (len := 1) rfl rfl
theorem s_207_33 {v0 v1 v2 v3 : Value} (hst : st.length ≤ 4) : wp V (cdT Ev) mx d 207 33 ls (v3 :: v2 :: v1 :: v0 :: st) h Q = WP V (cdT Ev) mx d 208 [v0, v1, v2, v3] h (fun r h' => wp V (cdT Ev) mx d 207 36 ls (rts r st) h' Q) := x_cs (sg := [v3, v2, v1, v0]) rfl hst rfl rfl
theorem s_207_36 {x : Int32} : wp V (cdT Ev) mx d 207 36 ls [.int x] h Q = Q (some (.int x)) h := x_ret rfl rfl
theorem e_207 {p0 : Nat} {p1 : Int32} {p2 : Int32} {p3 : Int32} : WP V (cdT Ev) mx (d + 1) 207 [.ref p0, .int p1, .int p2, .int p3] h Q = wp V (cdT Ev) mx d 207 0 [some (.ref p0), some (.int p1), some (.int p2), some (.int p3)] [] h Q := propext (WP_eq (Nat.le_of_ble_eq_true rfl))
theorem s_208_0 {x : Int32} : wp V (cdT Ev) mx d 208 0 [l0, some (.int x), l2, l3, l4, l5] st h Q = wp V (cdT Ev) mx d 208 1 [l0, some (.int x), l2, l3, l4, l5] (.int x :: st) h Q := x_iload (len := 1) rfl rfl
theorem s_208_1 {x : Int32} : wp V (cdT Ev) mx d 208 1 ls (.int x :: st) h Q = wp V (cdT Ev) mx d 208 2 ls (.int (x.toInt8.toInt32) :: st) h Q := x_iu (f := fun x => x.toInt8.toInt32) rfl
theorem s_208_2 {x : Int32} (hn : nl l3 = true) : wp V (cdT Ev) mx d 208 2 [l0, l1, l2, l3, l4, l5] (.int x :: st) h Q = wp V (cdT Ev) mx d 208 4 [l0, l1, l2, l3, some (.int x), l5] st h Q := x_istore (len := 2) rfl (Nat.le_of_ble_eq_true rfl) (okp_nl rfl hn) rfl
theorem s_208_4 {x : Int32} : wp V (cdT Ev) mx d 208 4 [l0, l1, some (.int x), l3, l4, l5] st h Q = wp V (cdT Ev) mx d 208 5 [l0, l1, some (.int x), l3, l4, l5] (.int x :: st) h Q := x_iload (len := 1) rfl rfl
theorem s_208_5 {x : Int32} (hn : nl l4 = true) : wp V (cdT Ev) mx d 208 5 [l0, l1, l2, l3, l4, l5] (.int x :: st) h Q = wp V (cdT Ev) mx d 208 7 [l0, l1, l2, l3, l4, some (.int x)] st h Q := x_istore (len := 2) rfl (Nat.le_of_ble_eq_true rfl) (okp_nl rfl hn) rfl
theorem s_208_7 {x : Int32} : wp V (cdT Ev) mx d 208 7 [l0, l1, l2, l3, l4, some (.int x)] st h Q = wp V (cdT Ev) mx d 208 9 [l0, l1, l2, l3, l4, some (.int x)] (.int x :: st) h Q := x_iload (len := 2) rfl rfl
theorem s_208_9 {x : Int32} : wp V (cdT Ev) mx d 208 9 [l0, l1, l2, some (.int x), l4, l5] st h Q = wp V (cdT Ev) mx d 208 10 [l0, l1, l2, some (.int x), l4, l5] (.int x :: st) h Q := x_iload (len := 1) rfl rfl
theorem s_208_10 {x z : Int32} : wp V (cdT Ev) mx d 208 10 ls (.int z :: .int x :: st) h Q = (if z ≤ x then wp V (cdT Ev) mx d 208 31 ls st h Q else wp V (cdT Ev) mx d 208 13 ls st h Q) := x_if2 (c := fun x z => z ≤ x) rfl
theorem s_208_13 {a : Nat} : wp V (cdT Ev) mx d 208 13 [some (.ref a), l1, l2, l3, l4, l5] st h Q = wp V (cdT Ev) mx d 208 14 [some (.ref a), l1, l2, l3, l4, l5] (.ref a :: st) h Q := x_aload (len := 1) rfl rfl
theorem s_208_13_n : wp V (cdT Ev) mx d 208 13 [some .null, l1, l2, l3, l4, l5] st h Q = wp V (cdT Ev) mx d 208 14 [some .null, l1, l2, l3, l4, l5] (.null :: st) h Q := x_aloadN (len := 1) rfl rfl
theorem s_208_14 {x : Int32} : wp V (cdT Ev) mx d 208 14 [l0, l1, l2, l3, l4, some (.int x)] st h Q = wp V (cdT Ev) mx d 208 16 [l0, l1, l2, l3, l4, some (.int x)] (.int x :: st) h Q := x_iload (len := 2) rfl rfl
theorem s_208_16 {i : Int32} {a : Nat} : wp V (cdT Ev) mx d 208 16 ls (.int i :: .ref a :: st) h Q = ai 0 i V h a (fun x => wp V (cdT Ev) mx d 208 17 ls (.int x :: st) h Q) := x_iald rfl
theorem s_208_17 {x : Int32} : wp V (cdT Ev) mx d 208 17 [l0, l1, l2, l3, some (.int x), l5] st h Q = wp V (cdT Ev) mx d 208 19 [l0, l1, l2, l3, some (.int x), l5] (.int x :: st) h Q := x_iload (len := 2) rfl rfl
theorem s_208_19 {x z : Int32} : wp V (cdT Ev) mx d 208 19 ls (.int z :: .int x :: st) h Q = (if ¬ x = z then wp V (cdT Ev) mx d 208 25 ls st h Q else wp V (cdT Ev) mx d 208 22 ls st h Q) := x_if2 (c := fun x z => ¬ x = z) rfl
theorem s_208_22 {x : Int32} : wp V (cdT Ev) mx d 208 22 [l0, l1, l2, l3, l4, some (.int x)] st h Q = wp V (cdT Ev) mx d 208 24 [l0, l1, l2, l3, l4, some (.int x)] (.int x :: st) h Q := x_iload (len := 2) rfl rfl
theorem s_208_24 {x : Int32} : wp V (cdT Ev) mx d 208 24 ls [.int x] h Q = Q (some (.int x)) h := x_ret rfl rfl
theorem s_208_25 {x : Int32} : wp V (cdT Ev) mx d 208 25 [l0, l1, l2, l3, l4, some (.int x)] st h Q = wp V (cdT Ev) mx d 208 28 [l0, l1, l2, l3, l4, some (.int (x + (1)))] st h Q := x_iinc rfl rfl rfl
theorem s_208_28 : wp V (cdT Ev) mx d 208 28 ls st h Q = wp V (cdT Ev) mx d 208 7 ls st h Q := x_goto rfl
theorem s_208_31 : wp V (cdT Ev) mx d 208 31 ls st h Q = wp V (cdT Ev) mx d 208 32 ls ((.int (-1)) :: st) h Q := x_push (v := (.int (-1))) (len := 1) rfl
theorem s_208_32 {x : Int32} : wp V (cdT Ev) mx d 208 32 ls [.int x] h Q = Q (some (.int x)) h := x_ret rfl rfl
theorem e_208 {p0 : Nat} {p1 : Int32} {p2 : Int32} {p3 : Int32} : WP V (cdT Ev) mx (d + 1) 208 [.ref p0, .int p1, .int p2, .int p3] h Q = wp V (cdT Ev) mx d 208 0 [some (.ref p0), some (.int p1), some (.int p2), some (.int p3), none, none] [] h Q := propext (WP_eq (Nat.le_of_ble_eq_true rfl))
theorem s_209_0 {x : Int32} : wp V (cdT Ev) mx d 209 0 [some (.int x), l1, l2] st h Q = wp V (cdT Ev) mx d 209 1 [some (.int x), l1, l2] (.int x :: st) h Q := x_iload (len := 1) rfl rfl
theorem s_209_1 {x : Int32} : wp V (cdT Ev) mx d 209 1 ls (.int x :: st) h Q = (if x < 0 then wp V (cdT Ev) mx d 209 9 ls st h Q else wp V (cdT Ev) mx d 209 4 ls st h Q) := x_if1 (c := fun x => x < 0) rfl
theorem s_209_4 {x : Int32} : wp V (cdT Ev) mx d 209 4 [some (.int x), l1, l2] st h Q = wp V (cdT Ev) mx d 209 5 [some (.int x), l1, l2] (.int x :: st) h Q := x_iload (len := 1) rfl rfl
theorem s_209_5 {x : Int32} : wp V (cdT Ev) mx d 209 5 [l0, some (.int x), l2] st h Q = wp V (cdT Ev) mx d 209 6 [l0, some (.int x), l2] (.int x :: st) h Q := x_iload (len := 1) rfl rfl
theorem s_209_6 {x z : Int32} : wp V (cdT Ev) mx d 209 6 ls (.int z :: .int x :: st) h Q = (if x < z then wp V (cdT Ev) mx d 209 16 ls st h Q else wp V (cdT Ev) mx d 209 9 ls st h Q) := x_if2 (c := fun x z => x < z) rfl
theorem s_209_9 {a : Nat} : wp V (cdT Ev) mx d 209 9 [l0, l1, some (.ref a)] st h Q = wp V (cdT Ev) mx d 209 10 [l0, l1, some (.ref a)] (.ref a :: st) h Q := x_aload (len := 1) rfl rfl
theorem s_209_9_n : wp V (cdT Ev) mx d 209 9 [l0, l1, some .null] st h Q = wp V (cdT Ev) mx d 209 10 [l0, l1, some .null] (.null :: st) h Q := x_aloadN (len := 1) rfl rfl
theorem s_209_10 {x : Int32} : wp V (cdT Ev) mx d 209 10 [some (.int x), l1, l2] st h Q = wp V (cdT Ev) mx d 209 11 [some (.int x), l1, l2] (.int x :: st) h Q := x_iload (len := 1) rfl rfl
theorem s_209_11 {x : Int32} : wp V (cdT Ev) mx d 209 11 [l0, some (.int x), l2] st h Q = wp V (cdT Ev) mx d 209 12 [l0, some (.int x), l2] (.int x :: st) h Q := x_iload (len := 1) rfl rfl
theorem s_209_16 {x : Int32} : wp V (cdT Ev) mx d 209 16 [some (.int x), l1, l2] st h Q = wp V (cdT Ev) mx d 209 17 [some (.int x), l1, l2] (.int x :: st) h Q := x_iload (len := 1) rfl rfl
theorem s_209_17 {x : Int32} : wp V (cdT Ev) mx d 209 17 ls [.int x] h Q = Q (some (.int x)) h := x_ret rfl rfl
theorem e_209 {p0 : Int32} {p1 : Int32} {p2 : Nat} : WP V (cdT Ev) mx (d + 1) 209 [.int p0, .int p1, .ref p2] h Q = wp V (cdT Ev) mx d 209 0 [some (.int p0), some (.int p1), some (.ref p2)] [] h Q := propext (WP_eq (Nat.le_of_ble_eq_true rfl))
end
