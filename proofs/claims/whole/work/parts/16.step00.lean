/-! Steps, by program. -/
section
variable {V : Nat → Option AE} {Ev : Nat → Value} {d : Nat} {ls : Lc} {st : List Value} {h : HS} {Q : Option Value → HS → Prop}
variable {l0 l1 l2 l3 l4 l5 l6 l7 l8 l9 l10 l11 l12 l13 l14 l15 : Option Value}
theorem s_0_0 : wp V (cdT Ev) mx d 0 0 ls st h Q = wp V (cdT Ev) mx d 0 3 ls (.ref h.2.1 :: st) (hnew h (.inr (11, [.null, .null, .null, .int 0, .null, .int 0, .null, .null, .null, .null])) 10) Q := x_new rfl
theorem s_0_3 {a : Nat} : wp V (cdT Ev) mx d 0 3 ls (.ref a :: st) h Q = wp V (cdT Ev) mx d 0 4 ls (.ref a :: .ref a :: st) h Q := x_dup rfl rfl
theorem s_0_3_i {x : Int32} : wp V (cdT Ev) mx d 0 3 ls (.int x :: st) h Q = wp V (cdT Ev) mx d 0 4 ls (.int x :: .int x :: st) h Q := x_dup rfl rfl
theorem s_0_4 {b : Nat} (hst : st.length ≤ 4) : wp V (cdT Ev) mx d 0 4 ls (.ref b :: st) h Q = WP V (cdT Ev) mx d 68 [.ref b] h (fun r h' => wp V (cdT Ev) mx d 0 7 ls (rts r st) h' Q) := x_ci (sg := []) rfl hst rfl rfl
theorem s_0_7 {a : Nat} (hn : nl l0 = true) : wp V (cdT Ev) mx d 0 7 [l0, l1, l2, l3] (.ref a :: st) h Q = wp V (cdT Ev) mx d 0 8 [l0, some (.ref a), l2, l3] st h Q := x_astore (len := 1) rfl (Nat.le_of_ble_eq_true rfl) (okp_nl rfl hn) rfl
theorem s_0_7_n (hn : nl l0 = true) : wp V (cdT Ev) mx d 0 7 [l0, l1, l2, l3] (.null :: st) h Q = wp V (cdT Ev) mx d 0 8 [l0, some .null, l2, l3] st h Q := x_astoreN (len := 1) rfl (Nat.le_of_ble_eq_true rfl) (okp_nl rfl hn) rfl
theorem s_0_8 : wp V (cdT Ev) mx d 0 8 ls st h Q = wp V (cdT Ev) mx d 0 11 ls (.ref h.2.1 :: st) (hnew h (.inr (12, [.null, .null, .null, .int 0, .null, .int 0, .null, .null, .int 0, .null, .int 0, .int 0, .int 0, .int 0, .int 0, .int 0, .null, .null, .null, .null, .null, .null, .null, .null, .int 0, .null, .null, .null, .null])) 29) Q := x_new rfl
theorem s_0_11 {a : Nat} : wp V (cdT Ev) mx d 0 11 ls (.ref a :: st) h Q = wp V (cdT Ev) mx d 0 12 ls (.ref a :: .ref a :: st) h Q := x_dup rfl rfl
theorem s_0_11_i {x : Int32} : wp V (cdT Ev) mx d 0 11 ls (.int x :: st) h Q = wp V (cdT Ev) mx d 0 12 ls (.int x :: .int x :: st) h Q := x_dup rfl rfl
theorem s_0_12 {b : Nat} (hst : st.length ≤ 4) : wp V (cdT Ev) mx d 0 12 ls (.ref b :: st) h Q = WP V (cdT Ev) mx d 122 [.ref b] h (fun r h' => wp V (cdT Ev) mx d 0 15 ls (rts r st) h' Q) := x_ci (sg := []) rfl hst rfl rfl
theorem s_0_15 {a : Nat} (hn : nl l1 = true) : wp V (cdT Ev) mx d 0 15 [l0, l1, l2, l3] (.ref a :: st) h Q = wp V (cdT Ev) mx d 0 16 [l0, l1, some (.ref a), l3] st h Q := x_astore (len := 1) rfl (Nat.le_of_ble_eq_true rfl) (okp_nl rfl hn) rfl
theorem s_0_15_n (hn : nl l1 = true) : wp V (cdT Ev) mx d 0 15 [l0, l1, l2, l3] (.null :: st) h Q = wp V (cdT Ev) mx d 0 16 [l0, l1, some .null, l3] st h Q := x_astoreN (len := 1) rfl (Nat.le_of_ble_eq_true rfl) (okp_nl rfl hn) rfl
theorem s_0_16 : wp V (cdT Ev) mx d 0 16 ls st h Q = wp V (cdT Ev) mx d 0 17 ls ((.int (0)) :: st) h Q := x_push (v := (.int (0))) (len := 1) rfl
theorem s_0_17 {x : Int32} (hn : nl l2 = true) : wp V (cdT Ev) mx d 0 17 [l0, l1, l2, l3] (.int x :: st) h Q = wp V (cdT Ev) mx d 0 18 [l0, l1, l2, some (.int x)] st h Q := x_istore (len := 1) rfl (Nat.le_of_ble_eq_true rfl) (okp_nl rfl hn) rfl
theorem s_0_18 {x : Int32} : wp V (cdT Ev) mx d 0 18 [l0, l1, l2, some (.int x)] st h Q = wp V (cdT Ev) mx d 0 19 [l0, l1, l2, some (.int x)] (.int x :: st) h Q := x_iload (len := 1) rfl rfl
theorem s_0_19 {a : Nat} : wp V (cdT Ev) mx d 0 19 [some (.ref a), l1, l2, l3] st h Q = wp V (cdT Ev) mx d 0 20 [some (.ref a), l1, l2, l3] (.ref a :: st) h Q := x_aload (len := 1) rfl rfl
theorem s_0_19_n : wp V (cdT Ev) mx d 0 19 [some .null, l1, l2, l3] st h Q = wp V (cdT Ev) mx d 0 20 [some .null, l1, l2, l3] (.null :: st) h Q := x_aloadN (len := 1) rfl rfl
theorem s_0_20 {a : Nat} : wp V (cdT Ev) mx d 0 20 ls (.ref a :: st) h Q = ln V h a (fun x => wp V (cdT Ev) mx d 0 21 ls (.int x :: st) h Q) := x_alen rfl
theorem s_0_21 : wp V (cdT Ev) mx d 0 21 ls st h Q = wp V (cdT Ev) mx d 0 23 ls ((.int (6)) :: st) h Q := x_push (v := (.int (6))) (len := 2) rfl
theorem s_0_23 {x z : Int32} : wp V (cdT Ev) mx d 0 23 ls (.int z :: .int x :: st) h Q = wp V (cdT Ev) mx d 0 24 ls (.int (x - z) :: st) h Q := x_ib (f := fun x z => x - z) rfl
theorem s_0_24 {x z : Int32} : wp V (cdT Ev) mx d 0 24 ls (.int z :: .int x :: st) h Q = (if z < x then wp V (cdT Ev) mx d 0 1227 ls st h Q else wp V (cdT Ev) mx d 0 27 ls st h Q) := x_if2 (c := fun x z => z < x) rfl
theorem s_0_27 {a : Nat} : wp V (cdT Ev) mx d 0 27 [some (.ref a), l1, l2, l3] st h Q = wp V (cdT Ev) mx d 0 28 [some (.ref a), l1, l2, l3] (.ref a :: st) h Q := x_aload (len := 1) rfl rfl
theorem s_0_27_n : wp V (cdT Ev) mx d 0 27 [some .null, l1, l2, l3] st h Q = wp V (cdT Ev) mx d 0 28 [some .null, l1, l2, l3] (.null :: st) h Q := x_aloadN (len := 1) rfl rfl
theorem s_0_28 {x : Int32} : wp V (cdT Ev) mx d 0 28 [l0, l1, l2, some (.int x)] st h Q = wp V (cdT Ev) mx d 0 29 [l0, l1, l2, some (.int x)] (.int x :: st) h Q := x_iload (len := 1) rfl rfl
theorem s_0_29 {i : Int32} {a : Nat} : wp V (cdT Ev) mx d 0 29 ls (.int i :: .ref a :: st) h Q = ai 2 i V h a (fun x => wp V (cdT Ev) mx d 0 30 ls (.int x :: st) h Q) := x_iald rfl
theorem s_0_30 : wp V (cdT Ev) mx d 0 30 ls st h Q = wp V (cdT Ev) mx d 0 32 ls ((.int (31)) :: st) h Q := x_push (v := (.int (31))) (len := 2) rfl
theorem s_0_32 {x z : Int32} : wp V (cdT Ev) mx d 0 32 ls (.int z :: .int x :: st) h Q = wp V (cdT Ev) mx d 0 33 ls (.int (x &&& z) :: st) h Q := x_ib (f := fun x z => x &&& z) rfl
theorem s_0_33 {x : Int32} : wp V (cdT Ev) mx d 0 33 ls (.int x :: st) h Q = (if x = 0 then wp V (cdT Ev) mx d 0 176 ls st h Q else (if x = 1 then wp V (cdT Ev) mx d 0 219 ls st h Q else (if x = 2 then wp V (cdT Ev) mx d 0 252 ls st h Q else (if x = 3 then wp V (cdT Ev) mx d 0 285 ls st h Q else (if x = 4 then wp V (cdT Ev) mx d 0 318 ls st h Q else (if x = 5 then wp V (cdT Ev) mx d 0 367 ls st h Q else (if x = 6 then wp V (cdT Ev) mx d 0 400 ls st h Q else (if x = 7 then wp V (cdT Ev) mx d 0 443 ls st h Q else (if x = 8 then wp V (cdT Ev) mx d 0 466 ls st h Q else (if x = 9 then wp V (cdT Ev) mx d 0 479 ls st h Q else (if x = 10 then wp V (cdT Ev) mx d 0 502 ls st h Q else (if x = 11 then wp V (cdT Ev) mx d 0 525 ls st h Q else (if x = 12 then wp V (cdT Ev) mx d 0 558 ls st h Q else (if x = 13 then wp V (cdT Ev) mx d 0 591 ls st h Q else (if x = 14 then wp V (cdT Ev) mx d 0 624 ls st h Q else (if x = 15 then wp V (cdT Ev) mx d 0 657 ls st h Q else (if x = 16 then wp V (cdT Ev) mx d 0 691 ls st h Q else (if x = 17 then wp V (cdT Ev) mx d 0 725 ls st h Q else (if x = 18 then wp V (cdT Ev) mx d 0 758 ls st h Q else (if x = 19 then wp V (cdT Ev) mx d 0 781 ls st h Q else (if x = 20 then wp V (cdT Ev) mx d 0 814 ls st h Q else (if x = 21 then wp V (cdT Ev) mx d 0 827 ls st h Q else (if x = 22 then wp V (cdT Ev) mx d 0 860 ls st h Q else (if x = 23 then wp V (cdT Ev) mx d 0 873 ls st h Q else (if x = 24 then wp V (cdT Ev) mx d 0 886 ls st h Q else (if x = 25 then wp V (cdT Ev) mx d 0 929 ls st h Q else (if x = 26 then wp V (cdT Ev) mx d 0 952 ls st h Q else (if x = 27 then wp V (cdT Ev) mx d 0 985 ls st h Q else (if x = 28 then wp V (cdT Ev) mx d 0 1008 ls st h Q else (if x = 29 then wp V (cdT Ev) mx d 0 1051 ls st h Q else (if x = 30 then wp V (cdT Ev) mx d 0 1124 ls st h Q else (if x = 31 then wp V (cdT Ev) mx d 0 1158 ls st h Q else wp V (cdT Ev) mx d 0 1221 ls st h Q)))))))))))))))))))))))))))))))) := x_sw (t := 1221) (l := [(0, 176), (1, 219), (2, 252), (3, 285), (4, 318), (5, 367), (6, 400), (7, 443), (8, 466), (9, 479), (10, 502), (11, 525), (12, 558), (13, 591), (14, 624), (15, 657), (16, 691), (17, 725), (18, 758), (19, 781), (20, 814), (21, 827), (22, 860), (23, 873), (24, 886), (25, 929), (26, 952), (27, 985), (28, 1008), (29, 1051), (30, 1124), (31, 1158)]) rfl
theorem s_0_176 {a : Nat} : wp V (cdT Ev) mx d 0 176 [l0, some (.ref a), l2, l3] st h Q = wp V (cdT Ev) mx d 0 177 [l0, some (.ref a), l2, l3] (.ref a :: st) h Q := x_aload (len := 1) rfl rfl
theorem s_0_176_n : wp V (cdT Ev) mx d 0 176 [l0, some .null, l2, l3] st h Q = wp V (cdT Ev) mx d 0 177 [l0, some .null, l2, l3] (.null :: st) h Q := x_aloadN (len := 1) rfl rfl
theorem s_0_177 {a : Nat} : wp V (cdT Ev) mx d 0 177 [some (.ref a), l1, l2, l3] st h Q = wp V (cdT Ev) mx d 0 178 [some (.ref a), l1, l2, l3] (.ref a :: st) h Q := x_aload (len := 1) rfl rfl
theorem s_0_177_n : wp V (cdT Ev) mx d 0 177 [some .null, l1, l2, l3] st h Q = wp V (cdT Ev) mx d 0 178 [some .null, l1, l2, l3] (.null :: st) h Q := x_aloadN (len := 1) rfl rfl
theorem s_0_178 {x : Int32} : wp V (cdT Ev) mx d 0 178 [l0, l1, l2, some (.int x)] st h Q = wp V (cdT Ev) mx d 0 179 [l0, l1, l2, some (.int x)] (.int x :: st) h Q := x_iload (len := 1) rfl rfl
theorem s_0_179 : wp V (cdT Ev) mx d 0 179 ls st h Q = wp V (cdT Ev) mx d 0 180 ls ((.int (1)) :: st) h Q := x_push (v := (.int (1))) (len := 1) rfl
theorem s_0_180 {x z : Int32} : wp V (cdT Ev) mx d 0 180 ls (.int z :: .int x :: st) h Q = wp V (cdT Ev) mx d 0 181 ls (.int (x + z) :: st) h Q := x_ib (f := fun x z => x + z) rfl
theorem s_0_181 {i : Int32} {a : Nat} : wp V (cdT Ev) mx d 0 181 ls (.int i :: .ref a :: st) h Q = ai 2 i V h a (fun x => wp V (cdT Ev) mx d 0 182 ls (.int x :: st) h Q) := x_iald rfl
theorem s_0_182 {a : Nat} : wp V (cdT Ev) mx d 0 182 [some (.ref a), l1, l2, l3] st h Q = wp V (cdT Ev) mx d 0 183 [some (.ref a), l1, l2, l3] (.ref a :: st) h Q := x_aload (len := 1) rfl rfl
theorem s_0_182_n : wp V (cdT Ev) mx d 0 182 [some .null, l1, l2, l3] st h Q = wp V (cdT Ev) mx d 0 183 [some .null, l1, l2, l3] (.null :: st) h Q := x_aloadN (len := 1) rfl rfl
theorem s_0_183 {x : Int32} : wp V (cdT Ev) mx d 0 183 [l0, l1, l2, some (.int x)] st h Q = wp V (cdT Ev) mx d 0 184 [l0, l1, l2, some (.int x)] (.int x :: st) h Q := x_iload (len := 1) rfl rfl
theorem s_0_184 : wp V (cdT Ev) mx d 0 184 ls st h Q = wp V (cdT Ev) mx d 0 185 ls ((.int (2)) :: st) h Q := x_push (v := (.int (2))) (len := 1) rfl
theorem s_0_185 {x z : Int32} : wp V (cdT Ev) mx d 0 185 ls (.int z :: .int x :: st) h Q = wp V (cdT Ev) mx d 0 186 ls (.int (x + z) :: st) h Q := x_ib (f := fun x z => x + z) rfl
theorem s_0_186 {i : Int32} {a : Nat} : wp V (cdT Ev) mx d 0 186 ls (.int i :: .ref a :: st) h Q = ai 2 i V h a (fun x => wp V (cdT Ev) mx d 0 187 ls (.int x :: st) h Q) := x_iald rfl
theorem s_0_187 {a : Nat} : wp V (cdT Ev) mx d 0 187 [some (.ref a), l1, l2, l3] st h Q = wp V (cdT Ev) mx d 0 188 [some (.ref a), l1, l2, l3] (.ref a :: st) h Q := x_aload (len := 1) rfl rfl
theorem s_0_187_n : wp V (cdT Ev) mx d 0 187 [some .null, l1, l2, l3] st h Q = wp V (cdT Ev) mx d 0 188 [some .null, l1, l2, l3] (.null :: st) h Q := x_aloadN (len := 1) rfl rfl
theorem s_0_188 {x : Int32} : wp V (cdT Ev) mx d 0 188 [l0, l1, l2, some (.int x)] st h Q = wp V (cdT Ev) mx d 0 189 [l0, l1, l2, some (.int x)] (.int x :: st) h Q := x_iload (len := 1) rfl rfl
theorem s_0_189 : wp V (cdT Ev) mx d 0 189 ls st h Q = wp V (cdT Ev) mx d 0 190 ls ((.int (3)) :: st) h Q := x_push (v := (.int (3))) (len := 1) rfl
theorem s_0_190 {x z : Int32} : wp V (cdT Ev) mx d 0 190 ls (.int z :: .int x :: st) h Q = wp V (cdT Ev) mx d 0 191 ls (.int (x + z) :: st) h Q := x_ib (f := fun x z => x + z) rfl
theorem s_0_191 {i : Int32} {a : Nat} : wp V (cdT Ev) mx d 0 191 ls (.int i :: .ref a :: st) h Q = ai 2 i V h a (fun x => wp V (cdT Ev) mx d 0 192 ls (.int x :: st) h Q) := x_iald rfl
theorem s_0_192 {b : Nat} {v0 v1 v2 : Value} (hst : st.length ≤ 4) : wp V (cdT Ev) mx d 0 192 ls (v2 :: v1 :: v0 :: .ref b :: st) h Q = cv [(11, 69)] h b (fun y' => WP V (cdT Ev) mx d y' [.ref b, v0, v1, v2] h (fun r h' => wp V (cdT Ev) mx d 0 195 ls (rts r st) h' Q)) := x_cv (sg := [v2, v1, v0]) rfl hst rfl rfl
theorem s_0_195 {a : Nat} : wp V (cdT Ev) mx d 0 195 [l0, l1, some (.ref a), l3] st h Q = wp V (cdT Ev) mx d 0 196 [l0, l1, some (.ref a), l3] (.ref a :: st) h Q := x_aload (len := 1) rfl rfl
theorem s_0_195_n : wp V (cdT Ev) mx d 0 195 [l0, l1, some .null, l3] st h Q = wp V (cdT Ev) mx d 0 196 [l0, l1, some .null, l3] (.null :: st) h Q := x_aloadN (len := 1) rfl rfl
theorem s_0_196 {a : Nat} : wp V (cdT Ev) mx d 0 196 [some (.ref a), l1, l2, l3] st h Q = wp V (cdT Ev) mx d 0 197 [some (.ref a), l1, l2, l3] (.ref a :: st) h Q := x_aload (len := 1) rfl rfl
theorem s_0_196_n : wp V (cdT Ev) mx d 0 196 [some .null, l1, l2, l3] st h Q = wp V (cdT Ev) mx d 0 197 [some .null, l1, l2, l3] (.null :: st) h Q := x_aloadN (len := 1) rfl rfl
theorem s_0_197 {x : Int32} : wp V (cdT Ev) mx d 0 197 [l0, l1, l2, some (.int x)] st h Q = wp V (cdT Ev) mx d 0 198 [l0, l1, l2, some (.int x)] (.int x :: st) h Q := x_iload (len := 1) rfl rfl
theorem s_0_198 : wp V (cdT Ev) mx d 0 198 ls st h Q = wp V (cdT Ev) mx d 0 199 ls ((.int (1)) :: st) h Q := x_push (v := (.int (1))) (len := 1) rfl
theorem s_0_199 {x z : Int32} : wp V (cdT Ev) mx d 0 199 ls (.int z :: .int x :: st) h Q = wp V (cdT Ev) mx d 0 200 ls (.int (x + z) :: st) h Q := x_ib (f := fun x z => x + z) rfl
theorem s_0_200 {i : Int32} {a : Nat} : wp V (cdT Ev) mx d 0 200 ls (.int i :: .ref a :: st) h Q = ai 2 i V h a (fun x => wp V (cdT Ev) mx d 0 201 ls (.int x :: st) h Q) := x_iald rfl
theorem s_0_201 {a : Nat} : wp V (cdT Ev) mx d 0 201 [some (.ref a), l1, l2, l3] st h Q = wp V (cdT Ev) mx d 0 202 [some (.ref a), l1, l2, l3] (.ref a :: st) h Q := x_aload (len := 1) rfl rfl
theorem s_0_201_n : wp V (cdT Ev) mx d 0 201 [some .null, l1, l2, l3] st h Q = wp V (cdT Ev) mx d 0 202 [some .null, l1, l2, l3] (.null :: st) h Q := x_aloadN (len := 1) rfl rfl
theorem s_0_202 {x : Int32} : wp V (cdT Ev) mx d 0 202 [l0, l1, l2, some (.int x)] st h Q = wp V (cdT Ev) mx d 0 203 [l0, l1, l2, some (.int x)] (.int x :: st) h Q := x_iload (len := 1) rfl rfl
theorem s_0_203 : wp V (cdT Ev) mx d 0 203 ls st h Q = wp V (cdT Ev) mx d 0 204 ls ((.int (2)) :: st) h Q := x_push (v := (.int (2))) (len := 1) rfl
theorem s_0_204 {x z : Int32} : wp V (cdT Ev) mx d 0 204 ls (.int z :: .int x :: st) h Q = wp V (cdT Ev) mx d 0 205 ls (.int (x + z) :: st) h Q := x_ib (f := fun x z => x + z) rfl
theorem s_0_205 {i : Int32} {a : Nat} : wp V (cdT Ev) mx d 0 205 ls (.int i :: .ref a :: st) h Q = ai 2 i V h a (fun x => wp V (cdT Ev) mx d 0 206 ls (.int x :: st) h Q) := x_iald rfl
theorem s_0_206 {a : Nat} : wp V (cdT Ev) mx d 0 206 [some (.ref a), l1, l2, l3] st h Q = wp V (cdT Ev) mx d 0 207 [some (.ref a), l1, l2, l3] (.ref a :: st) h Q := x_aload (len := 1) rfl rfl
theorem s_0_206_n : wp V (cdT Ev) mx d 0 206 [some .null, l1, l2, l3] st h Q = wp V (cdT Ev) mx d 0 207 [some .null, l1, l2, l3] (.null :: st) h Q := x_aloadN (len := 1) rfl rfl
theorem s_0_207 {x : Int32} : wp V (cdT Ev) mx d 0 207 [l0, l1, l2, some (.int x)] st h Q = wp V (cdT Ev) mx d 0 208 [l0, l1, l2, some (.int x)] (.int x :: st) h Q := x_iload (len := 1) rfl rfl
theorem s_0_208 : wp V (cdT Ev) mx d 0 208 ls st h Q = wp V (cdT Ev) mx d 0 209 ls ((.int (3)) :: st) h Q := x_push (v := (.int (3))) (len := 1) rfl
theorem s_0_209 {x z : Int32} : wp V (cdT Ev) mx d 0 209 ls (.int z :: .int x :: st) h Q = wp V (cdT Ev) mx d 0 210 ls (.int (x + z) :: st) h Q := x_ib (f := fun x z => x + z) rfl
theorem s_0_210 {i : Int32} {a : Nat} : wp V (cdT Ev) mx d 0 210 ls (.int i :: .ref a :: st) h Q = ai 2 i V h a (fun x => wp V (cdT Ev) mx d 0 211 ls (.int x :: st) h Q) := x_iald rfl
theorem s_0_211 {b : Nat} {v0 v1 v2 : Value} (hst : st.length ≤ 4) : wp V (cdT Ev) mx d 0 211 ls (v2 :: v1 :: v0 :: .ref b :: st) h Q = cv [(12, 134)] h b (fun y' => WP V (cdT Ev) mx d y' [.ref b, v0, v1, v2] h (fun r h' => wp V (cdT Ev) mx d 0 214 ls (rts r st) h' Q)) := x_cv (sg := [v2, v1, v0]) rfl hst rfl rfl
theorem s_0_214 {x z : Int32} : wp V (cdT Ev) mx d 0 214 ls (.int z :: .int x :: st) h Q = (if x = z then wp V (cdT Ev) mx d 0 1221 ls st h Q else wp V (cdT Ev) mx d 0 217 ls st h Q) := x_if2 (c := fun x z => x = z) rfl
theorem s_0_217 : wp V (cdT Ev) mx d 0 217 ls st h Q = wp V (cdT Ev) mx d 0 218 ls ((.int (0)) :: st) h Q := x_push (v := (.int (0))) (len := 1) rfl
theorem s_0_218 {x : Int32} (hx : okr 1 (.int x) = true) : wp V (cdT Ev) mx d 0 218 ls [.int x] h Q = Q (some (.int x)) h := x_ret rfl hx
theorem s_0_219 {a : Nat} : wp V (cdT Ev) mx d 0 219 [l0, some (.ref a), l2, l3] st h Q = wp V (cdT Ev) mx d 0 220 [l0, some (.ref a), l2, l3] (.ref a :: st) h Q := x_aload (len := 1) rfl rfl
theorem s_0_219_n : wp V (cdT Ev) mx d 0 219 [l0, some .null, l2, l3] st h Q = wp V (cdT Ev) mx d 0 220 [l0, some .null, l2, l3] (.null :: st) h Q := x_aloadN (len := 1) rfl rfl
theorem s_0_220 {a : Nat} : wp V (cdT Ev) mx d 0 220 [some (.ref a), l1, l2, l3] st h Q = wp V (cdT Ev) mx d 0 221 [some (.ref a), l1, l2, l3] (.ref a :: st) h Q := x_aload (len := 1) rfl rfl
theorem s_0_220_n : wp V (cdT Ev) mx d 0 220 [some .null, l1, l2, l3] st h Q = wp V (cdT Ev) mx d 0 221 [some .null, l1, l2, l3] (.null :: st) h Q := x_aloadN (len := 1) rfl rfl
theorem s_0_221 {x : Int32} : wp V (cdT Ev) mx d 0 221 [l0, l1, l2, some (.int x)] st h Q = wp V (cdT Ev) mx d 0 222 [l0, l1, l2, some (.int x)] (.int x :: st) h Q := x_iload (len := 1) rfl rfl
theorem s_0_222 : wp V (cdT Ev) mx d 0 222 ls st h Q = wp V (cdT Ev) mx d 0 223 ls ((.int (1)) :: st) h Q := x_push (v := (.int (1))) (len := 1) rfl
theorem s_0_223 {x z : Int32} : wp V (cdT Ev) mx d 0 223 ls (.int z :: .int x :: st) h Q = wp V (cdT Ev) mx d 0 224 ls (.int (x + z) :: st) h Q := x_ib (f := fun x z => x + z) rfl
theorem s_0_224 {i : Int32} {a : Nat} : wp V (cdT Ev) mx d 0 224 ls (.int i :: .ref a :: st) h Q = ai 2 i V h a (fun x => wp V (cdT Ev) mx d 0 225 ls (.int x :: st) h Q) := x_iald rfl
theorem s_0_225 {a : Nat} : wp V (cdT Ev) mx d 0 225 [some (.ref a), l1, l2, l3] st h Q = wp V (cdT Ev) mx d 0 226 [some (.ref a), l1, l2, l3] (.ref a :: st) h Q := x_aload (len := 1) rfl rfl
theorem s_0_225_n : wp V (cdT Ev) mx d 0 225 [some .null, l1, l2, l3] st h Q = wp V (cdT Ev) mx d 0 226 [some .null, l1, l2, l3] (.null :: st) h Q := x_aloadN (len := 1) rfl rfl
theorem s_0_226 {x : Int32} : wp V (cdT Ev) mx d 0 226 [l0, l1, l2, some (.int x)] st h Q = wp V (cdT Ev) mx d 0 227 [l0, l1, l2, some (.int x)] (.int x :: st) h Q := x_iload (len := 1) rfl rfl
theorem s_0_227 : wp V (cdT Ev) mx d 0 227 ls st h Q = wp V (cdT Ev) mx d 0 228 ls ((.int (2)) :: st) h Q := x_push (v := (.int (2))) (len := 1) rfl
theorem s_0_228 {x z : Int32} : wp V (cdT Ev) mx d 0 228 ls (.int z :: .int x :: st) h Q = wp V (cdT Ev) mx d 0 229 ls (.int (x + z) :: st) h Q := x_ib (f := fun x z => x + z) rfl
theorem s_0_229 {i : Int32} {a : Nat} : wp V (cdT Ev) mx d 0 229 ls (.int i :: .ref a :: st) h Q = ai 2 i V h a (fun x => wp V (cdT Ev) mx d 0 230 ls (.int x :: st) h Q) := x_iald rfl
theorem s_0_230 {b : Nat} {v0 v1 : Value} (hst : st.length ≤ 4) : wp V (cdT Ev) mx d 0 230 ls (v1 :: v0 :: .ref b :: st) h Q = cv [(11, 70)] h b (fun y' => WP V (cdT Ev) mx d y' [.ref b, v0, v1] h (fun r h' => wp V (cdT Ev) mx d 0 233 ls (rts r st) h' Q)) := x_cv (sg := [v1, v0]) rfl hst rfl rfl
theorem s_0_233 {a : Nat} : wp V (cdT Ev) mx d 0 233 [l0, l1, some (.ref a), l3] st h Q = wp V (cdT Ev) mx d 0 234 [l0, l1, some (.ref a), l3] (.ref a :: st) h Q := x_aload (len := 1) rfl rfl
theorem s_0_233_n : wp V (cdT Ev) mx d 0 233 [l0, l1, some .null, l3] st h Q = wp V (cdT Ev) mx d 0 234 [l0, l1, some .null, l3] (.null :: st) h Q := x_aloadN (len := 1) rfl rfl
theorem s_0_234 {a : Nat} : wp V (cdT Ev) mx d 0 234 [some (.ref a), l1, l2, l3] st h Q = wp V (cdT Ev) mx d 0 235 [some (.ref a), l1, l2, l3] (.ref a :: st) h Q := x_aload (len := 1) rfl rfl
theorem s_0_234_n : wp V (cdT Ev) mx d 0 234 [some .null, l1, l2, l3] st h Q = wp V (cdT Ev) mx d 0 235 [some .null, l1, l2, l3] (.null :: st) h Q := x_aloadN (len := 1) rfl rfl
theorem s_0_235 {x : Int32} : wp V (cdT Ev) mx d 0 235 [l0, l1, l2, some (.int x)] st h Q = wp V (cdT Ev) mx d 0 236 [l0, l1, l2, some (.int x)] (.int x :: st) h Q := x_iload (len := 1) rfl rfl
theorem s_0_236 : wp V (cdT Ev) mx d 0 236 ls st h Q = wp V (cdT Ev) mx d 0 237 ls ((.int (1)) :: st) h Q := x_push (v := (.int (1))) (len := 1) rfl
theorem s_0_237 {x z : Int32} : wp V (cdT Ev) mx d 0 237 ls (.int z :: .int x :: st) h Q = wp V (cdT Ev) mx d 0 238 ls (.int (x + z) :: st) h Q := x_ib (f := fun x z => x + z) rfl
theorem s_0_238 {i : Int32} {a : Nat} : wp V (cdT Ev) mx d 0 238 ls (.int i :: .ref a :: st) h Q = ai 2 i V h a (fun x => wp V (cdT Ev) mx d 0 239 ls (.int x :: st) h Q) := x_iald rfl
theorem s_0_239 {a : Nat} : wp V (cdT Ev) mx d 0 239 [some (.ref a), l1, l2, l3] st h Q = wp V (cdT Ev) mx d 0 240 [some (.ref a), l1, l2, l3] (.ref a :: st) h Q := x_aload (len := 1) rfl rfl
theorem s_0_239_n : wp V (cdT Ev) mx d 0 239 [some .null, l1, l2, l3] st h Q = wp V (cdT Ev) mx d 0 240 [some .null, l1, l2, l3] (.null :: st) h Q := x_aloadN (len := 1) rfl rfl
theorem s_0_240 {x : Int32} : wp V (cdT Ev) mx d 0 240 [l0, l1, l2, some (.int x)] st h Q = wp V (cdT Ev) mx d 0 241 [l0, l1, l2, some (.int x)] (.int x :: st) h Q := x_iload (len := 1) rfl rfl
theorem s_0_241 : wp V (cdT Ev) mx d 0 241 ls st h Q = wp V (cdT Ev) mx d 0 242 ls ((.int (2)) :: st) h Q := x_push (v := (.int (2))) (len := 1) rfl
theorem s_0_242 {x z : Int32} : wp V (cdT Ev) mx d 0 242 ls (.int z :: .int x :: st) h Q = wp V (cdT Ev) mx d 0 243 ls (.int (x + z) :: st) h Q := x_ib (f := fun x z => x + z) rfl
theorem s_0_243 {i : Int32} {a : Nat} : wp V (cdT Ev) mx d 0 243 ls (.int i :: .ref a :: st) h Q = ai 2 i V h a (fun x => wp V (cdT Ev) mx d 0 244 ls (.int x :: st) h Q) := x_iald rfl
theorem s_0_244 {b : Nat} {v0 v1 : Value} (hst : st.length ≤ 4) : wp V (cdT Ev) mx d 0 244 ls (v1 :: v0 :: .ref b :: st) h Q = cv [(12, 135)] h b (fun y' => WP V (cdT Ev) mx d y' [.ref b, v0, v1] h (fun r h' => wp V (cdT Ev) mx d 0 247 ls (rts r st) h' Q)) := x_cv (sg := [v1, v0]) rfl hst rfl rfl
theorem s_0_247 {x z : Int32} : wp V (cdT Ev) mx d 0 247 ls (.int z :: .int x :: st) h Q = (if x = z then wp V (cdT Ev) mx d 0 1221 ls st h Q else wp V (cdT Ev) mx d 0 250 ls st h Q) := x_if2 (c := fun x z => x = z) rfl
theorem s_0_250 : wp V (cdT Ev) mx d 0 250 ls st h Q = wp V (cdT Ev) mx d 0 251 ls ((.int (0)) :: st) h Q := x_push (v := (.int (0))) (len := 1) rfl
theorem s_0_251 {x : Int32} (hx : okr 1 (.int x) = true) : wp V (cdT Ev) mx d 0 251 ls [.int x] h Q = Q (some (.int x)) h := x_ret rfl hx
theorem s_0_252 {a : Nat} : wp V (cdT Ev) mx d 0 252 [l0, some (.ref a), l2, l3] st h Q = wp V (cdT Ev) mx d 0 253 [l0, some (.ref a), l2, l3] (.ref a :: st) h Q := x_aload (len := 1) rfl rfl
theorem s_0_252_n : wp V (cdT Ev) mx d 0 252 [l0, some .null, l2, l3] st h Q = wp V (cdT Ev) mx d 0 253 [l0, some .null, l2, l3] (.null :: st) h Q := x_aloadN (len := 1) rfl rfl
theorem s_0_253 {a : Nat} : wp V (cdT Ev) mx d 0 253 [some (.ref a), l1, l2, l3] st h Q = wp V (cdT Ev) mx d 0 254 [some (.ref a), l1, l2, l3] (.ref a :: st) h Q := x_aload (len := 1) rfl rfl
theorem s_0_253_n : wp V (cdT Ev) mx d 0 253 [some .null, l1, l2, l3] st h Q = wp V (cdT Ev) mx d 0 254 [some .null, l1, l2, l3] (.null :: st) h Q := x_aloadN (len := 1) rfl rfl
theorem s_0_254 {x : Int32} : wp V (cdT Ev) mx d 0 254 [l0, l1, l2, some (.int x)] st h Q = wp V (cdT Ev) mx d 0 255 [l0, l1, l2, some (.int x)] (.int x :: st) h Q := x_iload (len := 1) rfl rfl
theorem s_0_255 : wp V (cdT Ev) mx d 0 255 ls st h Q = wp V (cdT Ev) mx d 0 256 ls ((.int (1)) :: st) h Q := x_push (v := (.int (1))) (len := 1) rfl
theorem s_0_256 {x z : Int32} : wp V (cdT Ev) mx d 0 256 ls (.int z :: .int x :: st) h Q = wp V (cdT Ev) mx d 0 257 ls (.int (x + z) :: st) h Q := x_ib (f := fun x z => x + z) rfl
theorem s_0_257 {i : Int32} {a : Nat} : wp V (cdT Ev) mx d 0 257 ls (.int i :: .ref a :: st) h Q = ai 2 i V h a (fun x => wp V (cdT Ev) mx d 0 258 ls (.int x :: st) h Q) := x_iald rfl
theorem s_0_258 {a : Nat} : wp V (cdT Ev) mx d 0 258 [some (.ref a), l1, l2, l3] st h Q = wp V (cdT Ev) mx d 0 259 [some (.ref a), l1, l2, l3] (.ref a :: st) h Q := x_aload (len := 1) rfl rfl
theorem s_0_258_n : wp V (cdT Ev) mx d 0 258 [some .null, l1, l2, l3] st h Q = wp V (cdT Ev) mx d 0 259 [some .null, l1, l2, l3] (.null :: st) h Q := x_aloadN (len := 1) rfl rfl
theorem s_0_259 {x : Int32} : wp V (cdT Ev) mx d 0 259 [l0, l1, l2, some (.int x)] st h Q = wp V (cdT Ev) mx d 0 260 [l0, l1, l2, some (.int x)] (.int x :: st) h Q := x_iload (len := 1) rfl rfl
theorem s_0_260 : wp V (cdT Ev) mx d 0 260 ls st h Q = wp V (cdT Ev) mx d 0 261 ls ((.int (2)) :: st) h Q := x_push (v := (.int (2))) (len := 1) rfl
theorem s_0_261 {x z : Int32} : wp V (cdT Ev) mx d 0 261 ls (.int z :: .int x :: st) h Q = wp V (cdT Ev) mx d 0 262 ls (.int (x + z) :: st) h Q := x_ib (f := fun x z => x + z) rfl
theorem s_0_262 {i : Int32} {a : Nat} : wp V (cdT Ev) mx d 0 262 ls (.int i :: .ref a :: st) h Q = ai 2 i V h a (fun x => wp V (cdT Ev) mx d 0 263 ls (.int x :: st) h Q) := x_iald rfl
theorem s_0_263 {b : Nat} {v0 v1 : Value} (hst : st.length ≤ 4) : wp V (cdT Ev) mx d 0 263 ls (v1 :: v0 :: .ref b :: st) h Q = cv [(11, 71)] h b (fun y' => WP V (cdT Ev) mx d y' [.ref b, v0, v1] h (fun r h' => wp V (cdT Ev) mx d 0 266 ls (rts r st) h' Q)) := x_cv (sg := [v1, v0]) rfl hst rfl rfl
theorem s_0_266 {a : Nat} : wp V (cdT Ev) mx d 0 266 [l0, l1, some (.ref a), l3] st h Q = wp V (cdT Ev) mx d 0 267 [l0, l1, some (.ref a), l3] (.ref a :: st) h Q := x_aload (len := 1) rfl rfl
theorem s_0_266_n : wp V (cdT Ev) mx d 0 266 [l0, l1, some .null, l3] st h Q = wp V (cdT Ev) mx d 0 267 [l0, l1, some .null, l3] (.null :: st) h Q := x_aloadN (len := 1) rfl rfl
theorem s_0_267 {a : Nat} : wp V (cdT Ev) mx d 0 267 [some (.ref a), l1, l2, l3] st h Q = wp V (cdT Ev) mx d 0 268 [some (.ref a), l1, l2, l3] (.ref a :: st) h Q := x_aload (len := 1) rfl rfl
theorem s_0_267_n : wp V (cdT Ev) mx d 0 267 [some .null, l1, l2, l3] st h Q = wp V (cdT Ev) mx d 0 268 [some .null, l1, l2, l3] (.null :: st) h Q := x_aloadN (len := 1) rfl rfl
theorem s_0_268 {x : Int32} : wp V (cdT Ev) mx d 0 268 [l0, l1, l2, some (.int x)] st h Q = wp V (cdT Ev) mx d 0 269 [l0, l1, l2, some (.int x)] (.int x :: st) h Q := x_iload (len := 1) rfl rfl
theorem s_0_269 : wp V (cdT Ev) mx d 0 269 ls st h Q = wp V (cdT Ev) mx d 0 270 ls ((.int (1)) :: st) h Q := x_push (v := (.int (1))) (len := 1) rfl
theorem s_0_270 {x z : Int32} : wp V (cdT Ev) mx d 0 270 ls (.int z :: .int x :: st) h Q = wp V (cdT Ev) mx d 0 271 ls (.int (x + z) :: st) h Q := x_ib (f := fun x z => x + z) rfl
theorem s_0_271 {i : Int32} {a : Nat} : wp V (cdT Ev) mx d 0 271 ls (.int i :: .ref a :: st) h Q = ai 2 i V h a (fun x => wp V (cdT Ev) mx d 0 272 ls (.int x :: st) h Q) := x_iald rfl
theorem s_0_272 {a : Nat} : wp V (cdT Ev) mx d 0 272 [some (.ref a), l1, l2, l3] st h Q = wp V (cdT Ev) mx d 0 273 [some (.ref a), l1, l2, l3] (.ref a :: st) h Q := x_aload (len := 1) rfl rfl
theorem s_0_272_n : wp V (cdT Ev) mx d 0 272 [some .null, l1, l2, l3] st h Q = wp V (cdT Ev) mx d 0 273 [some .null, l1, l2, l3] (.null :: st) h Q := x_aloadN (len := 1) rfl rfl
theorem s_0_273 {x : Int32} : wp V (cdT Ev) mx d 0 273 [l0, l1, l2, some (.int x)] st h Q = wp V (cdT Ev) mx d 0 274 [l0, l1, l2, some (.int x)] (.int x :: st) h Q := x_iload (len := 1) rfl rfl
theorem s_0_274 : wp V (cdT Ev) mx d 0 274 ls st h Q = wp V (cdT Ev) mx d 0 275 ls ((.int (2)) :: st) h Q := x_push (v := (.int (2))) (len := 1) rfl
theorem s_0_275 {x z : Int32} : wp V (cdT Ev) mx d 0 275 ls (.int z :: .int x :: st) h Q = wp V (cdT Ev) mx d 0 276 ls (.int (x + z) :: st) h Q := x_ib (f := fun x z => x + z) rfl
theorem s_0_276 {i : Int32} {a : Nat} : wp V (cdT Ev) mx d 0 276 ls (.int i :: .ref a :: st) h Q = ai 2 i V h a (fun x => wp V (cdT Ev) mx d 0 277 ls (.int x :: st) h Q) := x_iald rfl
theorem s_0_277 {b : Nat} {v0 v1 : Value} (hst : st.length ≤ 4) : wp V (cdT Ev) mx d 0 277 ls (v1 :: v0 :: .ref b :: st) h Q = cv [(12, 136)] h b (fun y' => WP V (cdT Ev) mx d y' [.ref b, v0, v1] h (fun r h' => wp V (cdT Ev) mx d 0 280 ls (rts r st) h' Q)) := x_cv (sg := [v1, v0]) rfl hst rfl rfl
theorem s_0_280 {x z : Int32} : wp V (cdT Ev) mx d 0 280 ls (.int z :: .int x :: st) h Q = (if x = z then wp V (cdT Ev) mx d 0 1221 ls st h Q else wp V (cdT Ev) mx d 0 283 ls st h Q) := x_if2 (c := fun x z => x = z) rfl
theorem s_0_283 : wp V (cdT Ev) mx d 0 283 ls st h Q = wp V (cdT Ev) mx d 0 284 ls ((.int (0)) :: st) h Q := x_push (v := (.int (0))) (len := 1) rfl
theorem s_0_284 {x : Int32} (hx : okr 1 (.int x) = true) : wp V (cdT Ev) mx d 0 284 ls [.int x] h Q = Q (some (.int x)) h := x_ret rfl hx
theorem s_0_285 {a : Nat} : wp V (cdT Ev) mx d 0 285 [l0, some (.ref a), l2, l3] st h Q = wp V (cdT Ev) mx d 0 286 [l0, some (.ref a), l2, l3] (.ref a :: st) h Q := x_aload (len := 1) rfl rfl
theorem s_0_285_n : wp V (cdT Ev) mx d 0 285 [l0, some .null, l2, l3] st h Q = wp V (cdT Ev) mx d 0 286 [l0, some .null, l2, l3] (.null :: st) h Q := x_aloadN (len := 1) rfl rfl
theorem s_0_286 {a : Nat} : wp V (cdT Ev) mx d 0 286 [some (.ref a), l1, l2, l3] st h Q = wp V (cdT Ev) mx d 0 287 [some (.ref a), l1, l2, l3] (.ref a :: st) h Q := x_aload (len := 1) rfl rfl
theorem s_0_286_n : wp V (cdT Ev) mx d 0 286 [some .null, l1, l2, l3] st h Q = wp V (cdT Ev) mx d 0 287 [some .null, l1, l2, l3] (.null :: st) h Q := x_aloadN (len := 1) rfl rfl
theorem s_0_287 {x : Int32} : wp V (cdT Ev) mx d 0 287 [l0, l1, l2, some (.int x)] st h Q = wp V (cdT Ev) mx d 0 288 [l0, l1, l2, some (.int x)] (.int x :: st) h Q := x_iload (len := 1) rfl rfl
theorem s_0_288 : wp V (cdT Ev) mx d 0 288 ls st h Q = wp V (cdT Ev) mx d 0 289 ls ((.int (1)) :: st) h Q := x_push (v := (.int (1))) (len := 1) rfl
theorem s_0_289 {x z : Int32} : wp V (cdT Ev) mx d 0 289 ls (.int z :: .int x :: st) h Q = wp V (cdT Ev) mx d 0 290 ls (.int (x + z) :: st) h Q := x_ib (f := fun x z => x + z) rfl
theorem s_0_290 {i : Int32} {a : Nat} : wp V (cdT Ev) mx d 0 290 ls (.int i :: .ref a :: st) h Q = ai 2 i V h a (fun x => wp V (cdT Ev) mx d 0 291 ls (.int x :: st) h Q) := x_iald rfl
theorem s_0_291 {a : Nat} : wp V (cdT Ev) mx d 0 291 [some (.ref a), l1, l2, l3] st h Q = wp V (cdT Ev) mx d 0 292 [some (.ref a), l1, l2, l3] (.ref a :: st) h Q := x_aload (len := 1) rfl rfl
theorem s_0_291_n : wp V (cdT Ev) mx d 0 291 [some .null, l1, l2, l3] st h Q = wp V (cdT Ev) mx d 0 292 [some .null, l1, l2, l3] (.null :: st) h Q := x_aloadN (len := 1) rfl rfl
theorem s_0_292 {x : Int32} : wp V (cdT Ev) mx d 0 292 [l0, l1, l2, some (.int x)] st h Q = wp V (cdT Ev) mx d 0 293 [l0, l1, l2, some (.int x)] (.int x :: st) h Q := x_iload (len := 1) rfl rfl
theorem s_0_293 : wp V (cdT Ev) mx d 0 293 ls st h Q = wp V (cdT Ev) mx d 0 294 ls ((.int (2)) :: st) h Q := x_push (v := (.int (2))) (len := 1) rfl
theorem s_0_294 {x z : Int32} : wp V (cdT Ev) mx d 0 294 ls (.int z :: .int x :: st) h Q = wp V (cdT Ev) mx d 0 295 ls (.int (x + z) :: st) h Q := x_ib (f := fun x z => x + z) rfl
theorem s_0_295 {i : Int32} {a : Nat} : wp V (cdT Ev) mx d 0 295 ls (.int i :: .ref a :: st) h Q = ai 2 i V h a (fun x => wp V (cdT Ev) mx d 0 296 ls (.int x :: st) h Q) := x_iald rfl
theorem s_0_296 {b : Nat} {v0 v1 : Value} (hst : st.length ≤ 4) : wp V (cdT Ev) mx d 0 296 ls (v1 :: v0 :: .ref b :: st) h Q = cv [(11, 72)] h b (fun y' => WP V (cdT Ev) mx d y' [.ref b, v0, v1] h (fun r h' => wp V (cdT Ev) mx d 0 299 ls (rts r st) h' Q)) := x_cv (sg := [v1, v0]) rfl hst rfl rfl
theorem s_0_299 {a : Nat} : wp V (cdT Ev) mx d 0 299 [l0, l1, some (.ref a), l3] st h Q = wp V (cdT Ev) mx d 0 300 [l0, l1, some (.ref a), l3] (.ref a :: st) h Q := x_aload (len := 1) rfl rfl
theorem s_0_299_n : wp V (cdT Ev) mx d 0 299 [l0, l1, some .null, l3] st h Q = wp V (cdT Ev) mx d 0 300 [l0, l1, some .null, l3] (.null :: st) h Q := x_aloadN (len := 1) rfl rfl
theorem s_0_300 {a : Nat} : wp V (cdT Ev) mx d 0 300 [some (.ref a), l1, l2, l3] st h Q = wp V (cdT Ev) mx d 0 301 [some (.ref a), l1, l2, l3] (.ref a :: st) h Q := x_aload (len := 1) rfl rfl
theorem s_0_300_n : wp V (cdT Ev) mx d 0 300 [some .null, l1, l2, l3] st h Q = wp V (cdT Ev) mx d 0 301 [some .null, l1, l2, l3] (.null :: st) h Q := x_aloadN (len := 1) rfl rfl
theorem s_0_301 {x : Int32} : wp V (cdT Ev) mx d 0 301 [l0, l1, l2, some (.int x)] st h Q = wp V (cdT Ev) mx d 0 302 [l0, l1, l2, some (.int x)] (.int x :: st) h Q := x_iload (len := 1) rfl rfl
theorem s_0_302 : wp V (cdT Ev) mx d 0 302 ls st h Q = wp V (cdT Ev) mx d 0 303 ls ((.int (1)) :: st) h Q := x_push (v := (.int (1))) (len := 1) rfl
theorem s_0_303 {x z : Int32} : wp V (cdT Ev) mx d 0 303 ls (.int z :: .int x :: st) h Q = wp V (cdT Ev) mx d 0 304 ls (.int (x + z) :: st) h Q := x_ib (f := fun x z => x + z) rfl
theorem s_0_304 {i : Int32} {a : Nat} : wp V (cdT Ev) mx d 0 304 ls (.int i :: .ref a :: st) h Q = ai 2 i V h a (fun x => wp V (cdT Ev) mx d 0 305 ls (.int x :: st) h Q) := x_iald rfl
theorem s_0_305 {a : Nat} : wp V (cdT Ev) mx d 0 305 [some (.ref a), l1, l2, l3] st h Q = wp V (cdT Ev) mx d 0 306 [some (.ref a), l1, l2, l3] (.ref a :: st) h Q := x_aload (len := 1) rfl rfl
theorem s_0_305_n : wp V (cdT Ev) mx d 0 305 [some .null, l1, l2, l3] st h Q = wp V (cdT Ev) mx d 0 306 [some .null, l1, l2, l3] (.null :: st) h Q := x_aloadN (len := 1) rfl rfl
theorem s_0_306 {x : Int32} : wp V (cdT Ev) mx d 0 306 [l0, l1, l2, some (.int x)] st h Q = wp V (cdT Ev) mx d 0 307 [l0, l1, l2, some (.int x)] (.int x :: st) h Q := x_iload (len := 1) rfl rfl
theorem s_0_307 : wp V (cdT Ev) mx d 0 307 ls st h Q = wp V (cdT Ev) mx d 0 308 ls ((.int (2)) :: st) h Q := x_push (v := (.int (2))) (len := 1) rfl
theorem s_0_308 {x z : Int32} : wp V (cdT Ev) mx d 0 308 ls (.int z :: .int x :: st) h Q = wp V (cdT Ev) mx d 0 309 ls (.int (x + z) :: st) h Q := x_ib (f := fun x z => x + z) rfl
theorem s_0_309 {i : Int32} {a : Nat} : wp V (cdT Ev) mx d 0 309 ls (.int i :: .ref a :: st) h Q = ai 2 i V h a (fun x => wp V (cdT Ev) mx d 0 310 ls (.int x :: st) h Q) := x_iald rfl
theorem s_0_310 {b : Nat} {v0 v1 : Value} (hst : st.length ≤ 4) : wp V (cdT Ev) mx d 0 310 ls (v1 :: v0 :: .ref b :: st) h Q = cv [(12, 137)] h b (fun y' => WP V (cdT Ev) mx d y' [.ref b, v0, v1] h (fun r h' => wp V (cdT Ev) mx d 0 313 ls (rts r st) h' Q)) := x_cv (sg := [v1, v0]) rfl hst rfl rfl
theorem s_0_313 {x z : Int32} : wp V (cdT Ev) mx d 0 313 ls (.int z :: .int x :: st) h Q = (if x = z then wp V (cdT Ev) mx d 0 1221 ls st h Q else wp V (cdT Ev) mx d 0 316 ls st h Q) := x_if2 (c := fun x z => x = z) rfl
theorem s_0_316 : wp V (cdT Ev) mx d 0 316 ls st h Q = wp V (cdT Ev) mx d 0 317 ls ((.int (0)) :: st) h Q := x_push (v := (.int (0))) (len := 1) rfl
theorem s_0_317 {x : Int32} (hx : okr 1 (.int x) = true) : wp V (cdT Ev) mx d 0 317 ls [.int x] h Q = Q (some (.int x)) h := x_ret rfl hx
theorem s_0_318 {a : Nat} : wp V (cdT Ev) mx d 0 318 [l0, some (.ref a), l2, l3] st h Q = wp V (cdT Ev) mx d 0 319 [l0, some (.ref a), l2, l3] (.ref a :: st) h Q := x_aload (len := 1) rfl rfl
theorem s_0_318_n : wp V (cdT Ev) mx d 0 318 [l0, some .null, l2, l3] st h Q = wp V (cdT Ev) mx d 0 319 [l0, some .null, l2, l3] (.null :: st) h Q := x_aloadN (len := 1) rfl rfl
theorem s_0_319 {a : Nat} : wp V (cdT Ev) mx d 0 319 [some (.ref a), l1, l2, l3] st h Q = wp V (cdT Ev) mx d 0 320 [some (.ref a), l1, l2, l3] (.ref a :: st) h Q := x_aload (len := 1) rfl rfl
theorem s_0_319_n : wp V (cdT Ev) mx d 0 319 [some .null, l1, l2, l3] st h Q = wp V (cdT Ev) mx d 0 320 [some .null, l1, l2, l3] (.null :: st) h Q := x_aloadN (len := 1) rfl rfl
theorem s_0_320 {x : Int32} : wp V (cdT Ev) mx d 0 320 [l0, l1, l2, some (.int x)] st h Q = wp V (cdT Ev) mx d 0 321 [l0, l1, l2, some (.int x)] (.int x :: st) h Q := x_iload (len := 1) rfl rfl
theorem s_0_321 : wp V (cdT Ev) mx d 0 321 ls st h Q = wp V (cdT Ev) mx d 0 322 ls ((.int (1)) :: st) h Q := x_push (v := (.int (1))) (len := 1) rfl
theorem s_0_322 {x z : Int32} : wp V (cdT Ev) mx d 0 322 ls (.int z :: .int x :: st) h Q = wp V (cdT Ev) mx d 0 323 ls (.int (x + z) :: st) h Q := x_ib (f := fun x z => x + z) rfl
theorem s_0_323 {i : Int32} {a : Nat} : wp V (cdT Ev) mx d 0 323 ls (.int i :: .ref a :: st) h Q = ai 2 i V h a (fun x => wp V (cdT Ev) mx d 0 324 ls (.int x :: st) h Q) := x_iald rfl
theorem s_0_324 {a : Nat} : wp V (cdT Ev) mx d 0 324 [some (.ref a), l1, l2, l3] st h Q = wp V (cdT Ev) mx d 0 325 [some (.ref a), l1, l2, l3] (.ref a :: st) h Q := x_aload (len := 1) rfl rfl
theorem s_0_324_n : wp V (cdT Ev) mx d 0 324 [some .null, l1, l2, l3] st h Q = wp V (cdT Ev) mx d 0 325 [some .null, l1, l2, l3] (.null :: st) h Q := x_aloadN (len := 1) rfl rfl
theorem s_0_325 {x : Int32} : wp V (cdT Ev) mx d 0 325 [l0, l1, l2, some (.int x)] st h Q = wp V (cdT Ev) mx d 0 326 [l0, l1, l2, some (.int x)] (.int x :: st) h Q := x_iload (len := 1) rfl rfl
theorem s_0_326 : wp V (cdT Ev) mx d 0 326 ls st h Q = wp V (cdT Ev) mx d 0 327 ls ((.int (2)) :: st) h Q := x_push (v := (.int (2))) (len := 1) rfl
theorem s_0_327 {x z : Int32} : wp V (cdT Ev) mx d 0 327 ls (.int z :: .int x :: st) h Q = wp V (cdT Ev) mx d 0 328 ls (.int (x + z) :: st) h Q := x_ib (f := fun x z => x + z) rfl
theorem s_0_328 {i : Int32} {a : Nat} : wp V (cdT Ev) mx d 0 328 ls (.int i :: .ref a :: st) h Q = ai 2 i V h a (fun x => wp V (cdT Ev) mx d 0 329 ls (.int x :: st) h Q) := x_iald rfl
theorem s_0_329 {x : Int32} : wp V (cdT Ev) mx d 0 329 ls (.int x :: st) h Q = (if x = 0 then wp V (cdT Ev) mx d 0 336 ls st h Q else wp V (cdT Ev) mx d 0 332 ls st h Q) := x_if1 (c := fun x => x = 0) rfl
theorem s_0_332 : wp V (cdT Ev) mx d 0 332 ls st h Q = wp V (cdT Ev) mx d 0 333 ls ((.int (1)) :: st) h Q := x_push (v := (.int (1))) (len := 1) rfl
theorem s_0_333 : wp V (cdT Ev) mx d 0 333 ls st h Q = wp V (cdT Ev) mx d 0 337 ls st h Q := x_goto rfl
theorem s_0_336 : wp V (cdT Ev) mx d 0 336 ls st h Q = wp V (cdT Ev) mx d 0 337 ls ((.int (0)) :: st) h Q := x_push (v := (.int (0))) (len := 1) rfl
theorem s_0_337 {b : Nat} {v0 v1 : Value} (hst : st.length ≤ 4) : wp V (cdT Ev) mx d 0 337 ls (v1 :: v0 :: .ref b :: st) h Q = cv [(11, 73)] h b (fun y' => WP V (cdT Ev) mx d y' [.ref b, v0, v1] h (fun r h' => wp V (cdT Ev) mx d 0 340 ls (rts r st) h' Q)) := x_cv (sg := [v1, v0]) rfl hst rfl rfl
theorem s_0_340 {a : Nat} : wp V (cdT Ev) mx d 0 340 [l0, l1, some (.ref a), l3] st h Q = wp V (cdT Ev) mx d 0 341 [l0, l1, some (.ref a), l3] (.ref a :: st) h Q := x_aload (len := 1) rfl rfl
theorem s_0_340_n : wp V (cdT Ev) mx d 0 340 [l0, l1, some .null, l3] st h Q = wp V (cdT Ev) mx d 0 341 [l0, l1, some .null, l3] (.null :: st) h Q := x_aloadN (len := 1) rfl rfl
theorem s_0_341 {a : Nat} : wp V (cdT Ev) mx d 0 341 [some (.ref a), l1, l2, l3] st h Q = wp V (cdT Ev) mx d 0 342 [some (.ref a), l1, l2, l3] (.ref a :: st) h Q := x_aload (len := 1) rfl rfl
theorem s_0_341_n : wp V (cdT Ev) mx d 0 341 [some .null, l1, l2, l3] st h Q = wp V (cdT Ev) mx d 0 342 [some .null, l1, l2, l3] (.null :: st) h Q := x_aloadN (len := 1) rfl rfl
theorem s_0_342 {x : Int32} : wp V (cdT Ev) mx d 0 342 [l0, l1, l2, some (.int x)] st h Q = wp V (cdT Ev) mx d 0 343 [l0, l1, l2, some (.int x)] (.int x :: st) h Q := x_iload (len := 1) rfl rfl
theorem s_0_343 : wp V (cdT Ev) mx d 0 343 ls st h Q = wp V (cdT Ev) mx d 0 344 ls ((.int (1)) :: st) h Q := x_push (v := (.int (1))) (len := 1) rfl
theorem s_0_344 {x z : Int32} : wp V (cdT Ev) mx d 0 344 ls (.int z :: .int x :: st) h Q = wp V (cdT Ev) mx d 0 345 ls (.int (x + z) :: st) h Q := x_ib (f := fun x z => x + z) rfl
theorem s_0_345 {i : Int32} {a : Nat} : wp V (cdT Ev) mx d 0 345 ls (.int i :: .ref a :: st) h Q = ai 2 i V h a (fun x => wp V (cdT Ev) mx d 0 346 ls (.int x :: st) h Q) := x_iald rfl
theorem s_0_346 {a : Nat} : wp V (cdT Ev) mx d 0 346 [some (.ref a), l1, l2, l3] st h Q = wp V (cdT Ev) mx d 0 347 [some (.ref a), l1, l2, l3] (.ref a :: st) h Q := x_aload (len := 1) rfl rfl
theorem s_0_346_n : wp V (cdT Ev) mx d 0 346 [some .null, l1, l2, l3] st h Q = wp V (cdT Ev) mx d 0 347 [some .null, l1, l2, l3] (.null :: st) h Q := x_aloadN (len := 1) rfl rfl
theorem s_0_347 {x : Int32} : wp V (cdT Ev) mx d 0 347 [l0, l1, l2, some (.int x)] st h Q = wp V (cdT Ev) mx d 0 348 [l0, l1, l2, some (.int x)] (.int x :: st) h Q := x_iload (len := 1) rfl rfl
theorem s_0_348 : wp V (cdT Ev) mx d 0 348 ls st h Q = wp V (cdT Ev) mx d 0 349 ls ((.int (2)) :: st) h Q := x_push (v := (.int (2))) (len := 1) rfl
theorem s_0_349 {x z : Int32} : wp V (cdT Ev) mx d 0 349 ls (.int z :: .int x :: st) h Q = wp V (cdT Ev) mx d 0 350 ls (.int (x + z) :: st) h Q := x_ib (f := fun x z => x + z) rfl
theorem s_0_350 {i : Int32} {a : Nat} : wp V (cdT Ev) mx d 0 350 ls (.int i :: .ref a :: st) h Q = ai 2 i V h a (fun x => wp V (cdT Ev) mx d 0 351 ls (.int x :: st) h Q) := x_iald rfl
theorem s_0_351 {x : Int32} : wp V (cdT Ev) mx d 0 351 ls (.int x :: st) h Q = (if x = 0 then wp V (cdT Ev) mx d 0 358 ls st h Q else wp V (cdT Ev) mx d 0 354 ls st h Q) := x_if1 (c := fun x => x = 0) rfl
theorem s_0_354 : wp V (cdT Ev) mx d 0 354 ls st h Q = wp V (cdT Ev) mx d 0 355 ls ((.int (1)) :: st) h Q := x_push (v := (.int (1))) (len := 1) rfl
theorem s_0_355 : wp V (cdT Ev) mx d 0 355 ls st h Q = wp V (cdT Ev) mx d 0 359 ls st h Q := x_goto rfl
theorem s_0_358 : wp V (cdT Ev) mx d 0 358 ls st h Q = wp V (cdT Ev) mx d 0 359 ls ((.int (0)) :: st) h Q := x_push (v := (.int (0))) (len := 1) rfl
theorem s_0_359 {b : Nat} {v0 v1 : Value} (hst : st.length ≤ 4) : wp V (cdT Ev) mx d 0 359 ls (v1 :: v0 :: .ref b :: st) h Q = cv [(12, 138)] h b (fun y' => WP V (cdT Ev) mx d y' [.ref b, v0, v1] h (fun r h' => wp V (cdT Ev) mx d 0 362 ls (rts r st) h' Q)) := x_cv (sg := [v1, v0]) rfl hst rfl rfl
theorem s_0_362 {x z : Int32} : wp V (cdT Ev) mx d 0 362 ls (.int z :: .int x :: st) h Q = (if x = z then wp V (cdT Ev) mx d 0 1221 ls st h Q else wp V (cdT Ev) mx d 0 365 ls st h Q) := x_if2 (c := fun x z => x = z) rfl
theorem s_0_365 : wp V (cdT Ev) mx d 0 365 ls st h Q = wp V (cdT Ev) mx d 0 366 ls ((.int (0)) :: st) h Q := x_push (v := (.int (0))) (len := 1) rfl
theorem s_0_366 {x : Int32} (hx : okr 1 (.int x) = true) : wp V (cdT Ev) mx d 0 366 ls [.int x] h Q = Q (some (.int x)) h := x_ret rfl hx
theorem s_0_367 {a : Nat} : wp V (cdT Ev) mx d 0 367 [l0, some (.ref a), l2, l3] st h Q = wp V (cdT Ev) mx d 0 368 [l0, some (.ref a), l2, l3] (.ref a :: st) h Q := x_aload (len := 1) rfl rfl
theorem s_0_367_n : wp V (cdT Ev) mx d 0 367 [l0, some .null, l2, l3] st h Q = wp V (cdT Ev) mx d 0 368 [l0, some .null, l2, l3] (.null :: st) h Q := x_aloadN (len := 1) rfl rfl
theorem s_0_368 {a : Nat} : wp V (cdT Ev) mx d 0 368 [some (.ref a), l1, l2, l3] st h Q = wp V (cdT Ev) mx d 0 369 [some (.ref a), l1, l2, l3] (.ref a :: st) h Q := x_aload (len := 1) rfl rfl
theorem s_0_368_n : wp V (cdT Ev) mx d 0 368 [some .null, l1, l2, l3] st h Q = wp V (cdT Ev) mx d 0 369 [some .null, l1, l2, l3] (.null :: st) h Q := x_aloadN (len := 1) rfl rfl
theorem s_0_369 {x : Int32} : wp V (cdT Ev) mx d 0 369 [l0, l1, l2, some (.int x)] st h Q = wp V (cdT Ev) mx d 0 370 [l0, l1, l2, some (.int x)] (.int x :: st) h Q := x_iload (len := 1) rfl rfl
theorem s_0_370 : wp V (cdT Ev) mx d 0 370 ls st h Q = wp V (cdT Ev) mx d 0 371 ls ((.int (1)) :: st) h Q := x_push (v := (.int (1))) (len := 1) rfl
theorem s_0_371 {x z : Int32} : wp V (cdT Ev) mx d 0 371 ls (.int z :: .int x :: st) h Q = wp V (cdT Ev) mx d 0 372 ls (.int (x + z) :: st) h Q := x_ib (f := fun x z => x + z) rfl
theorem s_0_372 {i : Int32} {a : Nat} : wp V (cdT Ev) mx d 0 372 ls (.int i :: .ref a :: st) h Q = ai 2 i V h a (fun x => wp V (cdT Ev) mx d 0 373 ls (.int x :: st) h Q) := x_iald rfl
theorem s_0_373 {a : Nat} : wp V (cdT Ev) mx d 0 373 [some (.ref a), l1, l2, l3] st h Q = wp V (cdT Ev) mx d 0 374 [some (.ref a), l1, l2, l3] (.ref a :: st) h Q := x_aload (len := 1) rfl rfl
theorem s_0_373_n : wp V (cdT Ev) mx d 0 373 [some .null, l1, l2, l3] st h Q = wp V (cdT Ev) mx d 0 374 [some .null, l1, l2, l3] (.null :: st) h Q := x_aloadN (len := 1) rfl rfl
theorem s_0_374 {x : Int32} : wp V (cdT Ev) mx d 0 374 [l0, l1, l2, some (.int x)] st h Q = wp V (cdT Ev) mx d 0 375 [l0, l1, l2, some (.int x)] (.int x :: st) h Q := x_iload (len := 1) rfl rfl
theorem s_0_375 : wp V (cdT Ev) mx d 0 375 ls st h Q = wp V (cdT Ev) mx d 0 376 ls ((.int (2)) :: st) h Q := x_push (v := (.int (2))) (len := 1) rfl
theorem s_0_376 {x z : Int32} : wp V (cdT Ev) mx d 0 376 ls (.int z :: .int x :: st) h Q = wp V (cdT Ev) mx d 0 377 ls (.int (x + z) :: st) h Q := x_ib (f := fun x z => x + z) rfl
theorem s_0_377 {i : Int32} {a : Nat} : wp V (cdT Ev) mx d 0 377 ls (.int i :: .ref a :: st) h Q = ai 2 i V h a (fun x => wp V (cdT Ev) mx d 0 378 ls (.int x :: st) h Q) := x_iald rfl
theorem s_0_378 {b : Nat} {v0 v1 : Value} (hst : st.length ≤ 4) : wp V (cdT Ev) mx d 0 378 ls (v1 :: v0 :: .ref b :: st) h Q = cv [(11, 74)] h b (fun y' => WP V (cdT Ev) mx d y' [.ref b, v0, v1] h (fun r h' => wp V (cdT Ev) mx d 0 381 ls (rts r st) h' Q)) := x_cv (sg := [v1, v0]) rfl hst rfl rfl
theorem s_0_381 {a : Nat} : wp V (cdT Ev) mx d 0 381 [l0, l1, some (.ref a), l3] st h Q = wp V (cdT Ev) mx d 0 382 [l0, l1, some (.ref a), l3] (.ref a :: st) h Q := x_aload (len := 1) rfl rfl
theorem s_0_381_n : wp V (cdT Ev) mx d 0 381 [l0, l1, some .null, l3] st h Q = wp V (cdT Ev) mx d 0 382 [l0, l1, some .null, l3] (.null :: st) h Q := x_aloadN (len := 1) rfl rfl
theorem s_0_382 {a : Nat} : wp V (cdT Ev) mx d 0 382 [some (.ref a), l1, l2, l3] st h Q = wp V (cdT Ev) mx d 0 383 [some (.ref a), l1, l2, l3] (.ref a :: st) h Q := x_aload (len := 1) rfl rfl
theorem s_0_382_n : wp V (cdT Ev) mx d 0 382 [some .null, l1, l2, l3] st h Q = wp V (cdT Ev) mx d 0 383 [some .null, l1, l2, l3] (.null :: st) h Q := x_aloadN (len := 1) rfl rfl
theorem s_0_383 {x : Int32} : wp V (cdT Ev) mx d 0 383 [l0, l1, l2, some (.int x)] st h Q = wp V (cdT Ev) mx d 0 384 [l0, l1, l2, some (.int x)] (.int x :: st) h Q := x_iload (len := 1) rfl rfl
theorem s_0_384 : wp V (cdT Ev) mx d 0 384 ls st h Q = wp V (cdT Ev) mx d 0 385 ls ((.int (1)) :: st) h Q := x_push (v := (.int (1))) (len := 1) rfl
theorem s_0_385 {x z : Int32} : wp V (cdT Ev) mx d 0 385 ls (.int z :: .int x :: st) h Q = wp V (cdT Ev) mx d 0 386 ls (.int (x + z) :: st) h Q := x_ib (f := fun x z => x + z) rfl
theorem s_0_386 {i : Int32} {a : Nat} : wp V (cdT Ev) mx d 0 386 ls (.int i :: .ref a :: st) h Q = ai 2 i V h a (fun x => wp V (cdT Ev) mx d 0 387 ls (.int x :: st) h Q) := x_iald rfl
theorem s_0_387 {a : Nat} : wp V (cdT Ev) mx d 0 387 [some (.ref a), l1, l2, l3] st h Q = wp V (cdT Ev) mx d 0 388 [some (.ref a), l1, l2, l3] (.ref a :: st) h Q := x_aload (len := 1) rfl rfl
theorem s_0_387_n : wp V (cdT Ev) mx d 0 387 [some .null, l1, l2, l3] st h Q = wp V (cdT Ev) mx d 0 388 [some .null, l1, l2, l3] (.null :: st) h Q := x_aloadN (len := 1) rfl rfl
theorem s_0_388 {x : Int32} : wp V (cdT Ev) mx d 0 388 [l0, l1, l2, some (.int x)] st h Q = wp V (cdT Ev) mx d 0 389 [l0, l1, l2, some (.int x)] (.int x :: st) h Q := x_iload (len := 1) rfl rfl
theorem s_0_389 : wp V (cdT Ev) mx d 0 389 ls st h Q = wp V (cdT Ev) mx d 0 390 ls ((.int (2)) :: st) h Q := x_push (v := (.int (2))) (len := 1) rfl
theorem s_0_390 {x z : Int32} : wp V (cdT Ev) mx d 0 390 ls (.int z :: .int x :: st) h Q = wp V (cdT Ev) mx d 0 391 ls (.int (x + z) :: st) h Q := x_ib (f := fun x z => x + z) rfl
theorem s_0_391 {i : Int32} {a : Nat} : wp V (cdT Ev) mx d 0 391 ls (.int i :: .ref a :: st) h Q = ai 2 i V h a (fun x => wp V (cdT Ev) mx d 0 392 ls (.int x :: st) h Q) := x_iald rfl
theorem s_0_392 {b : Nat} {v0 v1 : Value} (hst : st.length ≤ 4) : wp V (cdT Ev) mx d 0 392 ls (v1 :: v0 :: .ref b :: st) h Q = cv [(12, 139)] h b (fun y' => WP V (cdT Ev) mx d y' [.ref b, v0, v1] h (fun r h' => wp V (cdT Ev) mx d 0 395 ls (rts r st) h' Q)) := x_cv (sg := [v1, v0]) rfl hst rfl rfl
theorem s_0_395 {x z : Int32} : wp V (cdT Ev) mx d 0 395 ls (.int z :: .int x :: st) h Q = (if x = z then wp V (cdT Ev) mx d 0 1221 ls st h Q else wp V (cdT Ev) mx d 0 398 ls st h Q) := x_if2 (c := fun x z => x = z) rfl
theorem s_0_398 : wp V (cdT Ev) mx d 0 398 ls st h Q = wp V (cdT Ev) mx d 0 399 ls ((.int (0)) :: st) h Q := x_push (v := (.int (0))) (len := 1) rfl
theorem s_0_399 {x : Int32} (hx : okr 1 (.int x) = true) : wp V (cdT Ev) mx d 0 399 ls [.int x] h Q = Q (some (.int x)) h := x_ret rfl hx
theorem s_0_400 {a : Nat} : wp V (cdT Ev) mx d 0 400 [l0, some (.ref a), l2, l3] st h Q = wp V (cdT Ev) mx d 0 401 [l0, some (.ref a), l2, l3] (.ref a :: st) h Q := x_aload (len := 1) rfl rfl
theorem s_0_400_n : wp V (cdT Ev) mx d 0 400 [l0, some .null, l2, l3] st h Q = wp V (cdT Ev) mx d 0 401 [l0, some .null, l2, l3] (.null :: st) h Q := x_aloadN (len := 1) rfl rfl
theorem s_0_401 {a : Nat} : wp V (cdT Ev) mx d 0 401 [some (.ref a), l1, l2, l3] st h Q = wp V (cdT Ev) mx d 0 402 [some (.ref a), l1, l2, l3] (.ref a :: st) h Q := x_aload (len := 1) rfl rfl
theorem s_0_401_n : wp V (cdT Ev) mx d 0 401 [some .null, l1, l2, l3] st h Q = wp V (cdT Ev) mx d 0 402 [some .null, l1, l2, l3] (.null :: st) h Q := x_aloadN (len := 1) rfl rfl
theorem s_0_402 {x : Int32} : wp V (cdT Ev) mx d 0 402 [l0, l1, l2, some (.int x)] st h Q = wp V (cdT Ev) mx d 0 403 [l0, l1, l2, some (.int x)] (.int x :: st) h Q := x_iload (len := 1) rfl rfl
theorem s_0_403 : wp V (cdT Ev) mx d 0 403 ls st h Q = wp V (cdT Ev) mx d 0 404 ls ((.int (1)) :: st) h Q := x_push (v := (.int (1))) (len := 1) rfl
theorem s_0_404 {x z : Int32} : wp V (cdT Ev) mx d 0 404 ls (.int z :: .int x :: st) h Q = wp V (cdT Ev) mx d 0 405 ls (.int (x + z) :: st) h Q := x_ib (f := fun x z => x + z) rfl
theorem s_0_405 {i : Int32} {a : Nat} : wp V (cdT Ev) mx d 0 405 ls (.int i :: .ref a :: st) h Q = ai 2 i V h a (fun x => wp V (cdT Ev) mx d 0 406 ls (.int x :: st) h Q) := x_iald rfl
theorem s_0_406 {a : Nat} : wp V (cdT Ev) mx d 0 406 [some (.ref a), l1, l2, l3] st h Q = wp V (cdT Ev) mx d 0 407 [some (.ref a), l1, l2, l3] (.ref a :: st) h Q := x_aload (len := 1) rfl rfl
theorem s_0_406_n : wp V (cdT Ev) mx d 0 406 [some .null, l1, l2, l3] st h Q = wp V (cdT Ev) mx d 0 407 [some .null, l1, l2, l3] (.null :: st) h Q := x_aloadN (len := 1) rfl rfl
theorem s_0_407 {x : Int32} : wp V (cdT Ev) mx d 0 407 [l0, l1, l2, some (.int x)] st h Q = wp V (cdT Ev) mx d 0 408 [l0, l1, l2, some (.int x)] (.int x :: st) h Q := x_iload (len := 1) rfl rfl
theorem s_0_408 : wp V (cdT Ev) mx d 0 408 ls st h Q = wp V (cdT Ev) mx d 0 409 ls ((.int (2)) :: st) h Q := x_push (v := (.int (2))) (len := 1) rfl
theorem s_0_409 {x z : Int32} : wp V (cdT Ev) mx d 0 409 ls (.int z :: .int x :: st) h Q = wp V (cdT Ev) mx d 0 410 ls (.int (x + z) :: st) h Q := x_ib (f := fun x z => x + z) rfl
theorem s_0_410 {i : Int32} {a : Nat} : wp V (cdT Ev) mx d 0 410 ls (.int i :: .ref a :: st) h Q = ai 2 i V h a (fun x => wp V (cdT Ev) mx d 0 411 ls (.int x :: st) h Q) := x_iald rfl
theorem s_0_411 {a : Nat} : wp V (cdT Ev) mx d 0 411 [some (.ref a), l1, l2, l3] st h Q = wp V (cdT Ev) mx d 0 412 [some (.ref a), l1, l2, l3] (.ref a :: st) h Q := x_aload (len := 1) rfl rfl
theorem s_0_411_n : wp V (cdT Ev) mx d 0 411 [some .null, l1, l2, l3] st h Q = wp V (cdT Ev) mx d 0 412 [some .null, l1, l2, l3] (.null :: st) h Q := x_aloadN (len := 1) rfl rfl
theorem s_0_412 {x : Int32} : wp V (cdT Ev) mx d 0 412 [l0, l1, l2, some (.int x)] st h Q = wp V (cdT Ev) mx d 0 413 [l0, l1, l2, some (.int x)] (.int x :: st) h Q := x_iload (len := 1) rfl rfl
theorem s_0_413 : wp V (cdT Ev) mx d 0 413 ls st h Q = wp V (cdT Ev) mx d 0 414 ls ((.int (3)) :: st) h Q := x_push (v := (.int (3))) (len := 1) rfl
theorem s_0_414 {x z : Int32} : wp V (cdT Ev) mx d 0 414 ls (.int z :: .int x :: st) h Q = wp V (cdT Ev) mx d 0 415 ls (.int (x + z) :: st) h Q := x_ib (f := fun x z => x + z) rfl
theorem s_0_415 {i : Int32} {a : Nat} : wp V (cdT Ev) mx d 0 415 ls (.int i :: .ref a :: st) h Q = ai 2 i V h a (fun x => wp V (cdT Ev) mx d 0 416 ls (.int x :: st) h Q) := x_iald rfl
theorem s_0_416 {b : Nat} {v0 v1 v2 : Value} (hst : st.length ≤ 4) : wp V (cdT Ev) mx d 0 416 ls (v2 :: v1 :: v0 :: .ref b :: st) h Q = cv [(11, 75)] h b (fun y' => WP V (cdT Ev) mx d y' [.ref b, v0, v1, v2] h (fun r h' => wp V (cdT Ev) mx d 0 419 ls (rts r st) h' Q)) := x_cv (sg := [v2, v1, v0]) rfl hst rfl rfl
theorem s_0_419 {a : Nat} : wp V (cdT Ev) mx d 0 419 [l0, l1, some (.ref a), l3] st h Q = wp V (cdT Ev) mx d 0 420 [l0, l1, some (.ref a), l3] (.ref a :: st) h Q := x_aload (len := 1) rfl rfl
theorem s_0_419_n : wp V (cdT Ev) mx d 0 419 [l0, l1, some .null, l3] st h Q = wp V (cdT Ev) mx d 0 420 [l0, l1, some .null, l3] (.null :: st) h Q := x_aloadN (len := 1) rfl rfl
theorem s_0_420 {a : Nat} : wp V (cdT Ev) mx d 0 420 [some (.ref a), l1, l2, l3] st h Q = wp V (cdT Ev) mx d 0 421 [some (.ref a), l1, l2, l3] (.ref a :: st) h Q := x_aload (len := 1) rfl rfl
theorem s_0_420_n : wp V (cdT Ev) mx d 0 420 [some .null, l1, l2, l3] st h Q = wp V (cdT Ev) mx d 0 421 [some .null, l1, l2, l3] (.null :: st) h Q := x_aloadN (len := 1) rfl rfl
theorem s_0_421 {x : Int32} : wp V (cdT Ev) mx d 0 421 [l0, l1, l2, some (.int x)] st h Q = wp V (cdT Ev) mx d 0 422 [l0, l1, l2, some (.int x)] (.int x :: st) h Q := x_iload (len := 1) rfl rfl
theorem s_0_422 : wp V (cdT Ev) mx d 0 422 ls st h Q = wp V (cdT Ev) mx d 0 423 ls ((.int (1)) :: st) h Q := x_push (v := (.int (1))) (len := 1) rfl
theorem s_0_423 {x z : Int32} : wp V (cdT Ev) mx d 0 423 ls (.int z :: .int x :: st) h Q = wp V (cdT Ev) mx d 0 424 ls (.int (x + z) :: st) h Q := x_ib (f := fun x z => x + z) rfl
theorem s_0_424 {i : Int32} {a : Nat} : wp V (cdT Ev) mx d 0 424 ls (.int i :: .ref a :: st) h Q = ai 2 i V h a (fun x => wp V (cdT Ev) mx d 0 425 ls (.int x :: st) h Q) := x_iald rfl
theorem s_0_425 {a : Nat} : wp V (cdT Ev) mx d 0 425 [some (.ref a), l1, l2, l3] st h Q = wp V (cdT Ev) mx d 0 426 [some (.ref a), l1, l2, l3] (.ref a :: st) h Q := x_aload (len := 1) rfl rfl
theorem s_0_425_n : wp V (cdT Ev) mx d 0 425 [some .null, l1, l2, l3] st h Q = wp V (cdT Ev) mx d 0 426 [some .null, l1, l2, l3] (.null :: st) h Q := x_aloadN (len := 1) rfl rfl
theorem s_0_426 {x : Int32} : wp V (cdT Ev) mx d 0 426 [l0, l1, l2, some (.int x)] st h Q = wp V (cdT Ev) mx d 0 427 [l0, l1, l2, some (.int x)] (.int x :: st) h Q := x_iload (len := 1) rfl rfl
theorem s_0_427 : wp V (cdT Ev) mx d 0 427 ls st h Q = wp V (cdT Ev) mx d 0 428 ls ((.int (2)) :: st) h Q := x_push (v := (.int (2))) (len := 1) rfl
theorem s_0_428 {x z : Int32} : wp V (cdT Ev) mx d 0 428 ls (.int z :: .int x :: st) h Q = wp V (cdT Ev) mx d 0 429 ls (.int (x + z) :: st) h Q := x_ib (f := fun x z => x + z) rfl
theorem s_0_429 {i : Int32} {a : Nat} : wp V (cdT Ev) mx d 0 429 ls (.int i :: .ref a :: st) h Q = ai 2 i V h a (fun x => wp V (cdT Ev) mx d 0 430 ls (.int x :: st) h Q) := x_iald rfl
theorem s_0_430 {a : Nat} : wp V (cdT Ev) mx d 0 430 [some (.ref a), l1, l2, l3] st h Q = wp V (cdT Ev) mx d 0 431 [some (.ref a), l1, l2, l3] (.ref a :: st) h Q := x_aload (len := 1) rfl rfl
theorem s_0_430_n : wp V (cdT Ev) mx d 0 430 [some .null, l1, l2, l3] st h Q = wp V (cdT Ev) mx d 0 431 [some .null, l1, l2, l3] (.null :: st) h Q := x_aloadN (len := 1) rfl rfl
theorem s_0_431 {x : Int32} : wp V (cdT Ev) mx d 0 431 [l0, l1, l2, some (.int x)] st h Q = wp V (cdT Ev) mx d 0 432 [l0, l1, l2, some (.int x)] (.int x :: st) h Q := x_iload (len := 1) rfl rfl
theorem s_0_432 : wp V (cdT Ev) mx d 0 432 ls st h Q = wp V (cdT Ev) mx d 0 433 ls ((.int (3)) :: st) h Q := x_push (v := (.int (3))) (len := 1) rfl
theorem s_0_433 {x z : Int32} : wp V (cdT Ev) mx d 0 433 ls (.int z :: .int x :: st) h Q = wp V (cdT Ev) mx d 0 434 ls (.int (x + z) :: st) h Q := x_ib (f := fun x z => x + z) rfl
theorem s_0_434 {i : Int32} {a : Nat} : wp V (cdT Ev) mx d 0 434 ls (.int i :: .ref a :: st) h Q = ai 2 i V h a (fun x => wp V (cdT Ev) mx d 0 435 ls (.int x :: st) h Q) := x_iald rfl
theorem s_0_435 {b : Nat} {v0 v1 v2 : Value} (hst : st.length ≤ 4) : wp V (cdT Ev) mx d 0 435 ls (v2 :: v1 :: v0 :: .ref b :: st) h Q = cv [(12, 140)] h b (fun y' => WP V (cdT Ev) mx d y' [.ref b, v0, v1, v2] h (fun r h' => wp V (cdT Ev) mx d 0 438 ls (rts r st) h' Q)) := x_cv (sg := [v2, v1, v0]) rfl hst rfl rfl
theorem s_0_438 {x z : Int32} : wp V (cdT Ev) mx d 0 438 ls (.int z :: .int x :: st) h Q = (if x = z then wp V (cdT Ev) mx d 0 1221 ls st h Q else wp V (cdT Ev) mx d 0 441 ls st h Q) := x_if2 (c := fun x z => x = z) rfl
theorem s_0_441 : wp V (cdT Ev) mx d 0 441 ls st h Q = wp V (cdT Ev) mx d 0 442 ls ((.int (0)) :: st) h Q := x_push (v := (.int (0))) (len := 1) rfl
theorem s_0_442 {x : Int32} (hx : okr 1 (.int x) = true) : wp V (cdT Ev) mx d 0 442 ls [.int x] h Q = Q (some (.int x)) h := x_ret rfl hx
theorem s_0_443 {a : Nat} : wp V (cdT Ev) mx d 0 443 [l0, some (.ref a), l2, l3] st h Q = wp V (cdT Ev) mx d 0 444 [l0, some (.ref a), l2, l3] (.ref a :: st) h Q := x_aload (len := 1) rfl rfl
theorem s_0_443_n : wp V (cdT Ev) mx d 0 443 [l0, some .null, l2, l3] st h Q = wp V (cdT Ev) mx d 0 444 [l0, some .null, l2, l3] (.null :: st) h Q := x_aloadN (len := 1) rfl rfl
theorem s_0_444 {a : Nat} : wp V (cdT Ev) mx d 0 444 [some (.ref a), l1, l2, l3] st h Q = wp V (cdT Ev) mx d 0 445 [some (.ref a), l1, l2, l3] (.ref a :: st) h Q := x_aload (len := 1) rfl rfl
theorem s_0_444_n : wp V (cdT Ev) mx d 0 444 [some .null, l1, l2, l3] st h Q = wp V (cdT Ev) mx d 0 445 [some .null, l1, l2, l3] (.null :: st) h Q := x_aloadN (len := 1) rfl rfl
theorem s_0_445 {x : Int32} : wp V (cdT Ev) mx d 0 445 [l0, l1, l2, some (.int x)] st h Q = wp V (cdT Ev) mx d 0 446 [l0, l1, l2, some (.int x)] (.int x :: st) h Q := x_iload (len := 1) rfl rfl
theorem s_0_446 : wp V (cdT Ev) mx d 0 446 ls st h Q = wp V (cdT Ev) mx d 0 447 ls ((.int (1)) :: st) h Q := x_push (v := (.int (1))) (len := 1) rfl
theorem s_0_447 {x z : Int32} : wp V (cdT Ev) mx d 0 447 ls (.int z :: .int x :: st) h Q = wp V (cdT Ev) mx d 0 448 ls (.int (x + z) :: st) h Q := x_ib (f := fun x z => x + z) rfl
theorem s_0_448 {i : Int32} {a : Nat} : wp V (cdT Ev) mx d 0 448 ls (.int i :: .ref a :: st) h Q = ai 2 i V h a (fun x => wp V (cdT Ev) mx d 0 449 ls (.int x :: st) h Q) := x_iald rfl
theorem s_0_449 {b : Nat} {v0 : Value} (hst : st.length ≤ 4) : wp V (cdT Ev) mx d 0 449 ls (v0 :: .ref b :: st) h Q = cv [(11, 76)] h b (fun y' => WP V (cdT Ev) mx d y' [.ref b, v0] h (fun r h' => wp V (cdT Ev) mx d 0 452 ls (rts r st) h' Q)) := x_cv (sg := [v0]) rfl hst rfl rfl
theorem s_0_452 {a : Nat} : wp V (cdT Ev) mx d 0 452 [l0, l1, some (.ref a), l3] st h Q = wp V (cdT Ev) mx d 0 453 [l0, l1, some (.ref a), l3] (.ref a :: st) h Q := x_aload (len := 1) rfl rfl
theorem s_0_452_n : wp V (cdT Ev) mx d 0 452 [l0, l1, some .null, l3] st h Q = wp V (cdT Ev) mx d 0 453 [l0, l1, some .null, l3] (.null :: st) h Q := x_aloadN (len := 1) rfl rfl
theorem s_0_453 {a : Nat} : wp V (cdT Ev) mx d 0 453 [some (.ref a), l1, l2, l3] st h Q = wp V (cdT Ev) mx d 0 454 [some (.ref a), l1, l2, l3] (.ref a :: st) h Q := x_aload (len := 1) rfl rfl
theorem s_0_453_n : wp V (cdT Ev) mx d 0 453 [some .null, l1, l2, l3] st h Q = wp V (cdT Ev) mx d 0 454 [some .null, l1, l2, l3] (.null :: st) h Q := x_aloadN (len := 1) rfl rfl
theorem s_0_454 {x : Int32} : wp V (cdT Ev) mx d 0 454 [l0, l1, l2, some (.int x)] st h Q = wp V (cdT Ev) mx d 0 455 [l0, l1, l2, some (.int x)] (.int x :: st) h Q := x_iload (len := 1) rfl rfl
theorem s_0_455 : wp V (cdT Ev) mx d 0 455 ls st h Q = wp V (cdT Ev) mx d 0 456 ls ((.int (1)) :: st) h Q := x_push (v := (.int (1))) (len := 1) rfl
theorem s_0_456 {x z : Int32} : wp V (cdT Ev) mx d 0 456 ls (.int z :: .int x :: st) h Q = wp V (cdT Ev) mx d 0 457 ls (.int (x + z) :: st) h Q := x_ib (f := fun x z => x + z) rfl
theorem s_0_457 {i : Int32} {a : Nat} : wp V (cdT Ev) mx d 0 457 ls (.int i :: .ref a :: st) h Q = ai 2 i V h a (fun x => wp V (cdT Ev) mx d 0 458 ls (.int x :: st) h Q) := x_iald rfl
theorem s_0_458 {b : Nat} {v0 : Value} (hst : st.length ≤ 4) : wp V (cdT Ev) mx d 0 458 ls (v0 :: .ref b :: st) h Q = cv [(12, 141)] h b (fun y' => WP V (cdT Ev) mx d y' [.ref b, v0] h (fun r h' => wp V (cdT Ev) mx d 0 461 ls (rts r st) h' Q)) := x_cv (sg := [v0]) rfl hst rfl rfl
theorem s_0_461 {x z : Int32} : wp V (cdT Ev) mx d 0 461 ls (.int z :: .int x :: st) h Q = (if x = z then wp V (cdT Ev) mx d 0 1221 ls st h Q else wp V (cdT Ev) mx d 0 464 ls st h Q) := x_if2 (c := fun x z => x = z) rfl
theorem s_0_464 : wp V (cdT Ev) mx d 0 464 ls st h Q = wp V (cdT Ev) mx d 0 465 ls ((.int (0)) :: st) h Q := x_push (v := (.int (0))) (len := 1) rfl
theorem s_0_465 {x : Int32} (hx : okr 1 (.int x) = true) : wp V (cdT Ev) mx d 0 465 ls [.int x] h Q = Q (some (.int x)) h := x_ret rfl hx
theorem s_0_466 {a : Nat} : wp V (cdT Ev) mx d 0 466 [l0, some (.ref a), l2, l3] st h Q = wp V (cdT Ev) mx d 0 467 [l0, some (.ref a), l2, l3] (.ref a :: st) h Q := x_aload (len := 1) rfl rfl
theorem s_0_466_n : wp V (cdT Ev) mx d 0 466 [l0, some .null, l2, l3] st h Q = wp V (cdT Ev) mx d 0 467 [l0, some .null, l2, l3] (.null :: st) h Q := x_aloadN (len := 1) rfl rfl
theorem s_0_467 {b : Nat} (hst : st.length ≤ 4) : wp V (cdT Ev) mx d 0 467 ls (.ref b :: st) h Q = cv [(11, 77)] h b (fun y' => WP V (cdT Ev) mx d y' [.ref b] h (fun r h' => wp V (cdT Ev) mx d 0 470 ls (rts r st) h' Q)) := x_cv (sg := []) rfl hst rfl rfl
theorem s_0_470 {a : Nat} : wp V (cdT Ev) mx d 0 470 [l0, l1, some (.ref a), l3] st h Q = wp V (cdT Ev) mx d 0 471 [l0, l1, some (.ref a), l3] (.ref a :: st) h Q := x_aload (len := 1) rfl rfl
theorem s_0_470_n : wp V (cdT Ev) mx d 0 470 [l0, l1, some .null, l3] st h Q = wp V (cdT Ev) mx d 0 471 [l0, l1, some .null, l3] (.null :: st) h Q := x_aloadN (len := 1) rfl rfl
theorem s_0_471 {b : Nat} (hst : st.length ≤ 4) : wp V (cdT Ev) mx d 0 471 ls (.ref b :: st) h Q = cv [(12, 153)] h b (fun y' => WP V (cdT Ev) mx d y' [.ref b] h (fun r h' => wp V (cdT Ev) mx d 0 474 ls (rts r st) h' Q)) := x_cv (sg := []) rfl hst rfl rfl
theorem s_0_474 {x z : Int32} : wp V (cdT Ev) mx d 0 474 ls (.int z :: .int x :: st) h Q = (if x = z then wp V (cdT Ev) mx d 0 1221 ls st h Q else wp V (cdT Ev) mx d 0 477 ls st h Q) := x_if2 (c := fun x z => x = z) rfl
theorem s_0_477 : wp V (cdT Ev) mx d 0 477 ls st h Q = wp V (cdT Ev) mx d 0 478 ls ((.int (0)) :: st) h Q := x_push (v := (.int (0))) (len := 1) rfl
theorem s_0_478 {x : Int32} (hx : okr 1 (.int x) = true) : wp V (cdT Ev) mx d 0 478 ls [.int x] h Q = Q (some (.int x)) h := x_ret rfl hx
theorem s_0_479 {a : Nat} : wp V (cdT Ev) mx d 0 479 [l0, some (.ref a), l2, l3] st h Q = wp V (cdT Ev) mx d 0 480 [l0, some (.ref a), l2, l3] (.ref a :: st) h Q := x_aload (len := 1) rfl rfl
theorem s_0_479_n : wp V (cdT Ev) mx d 0 479 [l0, some .null, l2, l3] st h Q = wp V (cdT Ev) mx d 0 480 [l0, some .null, l2, l3] (.null :: st) h Q := x_aloadN (len := 1) rfl rfl
theorem s_0_480 {a : Nat} : wp V (cdT Ev) mx d 0 480 [some (.ref a), l1, l2, l3] st h Q = wp V (cdT Ev) mx d 0 481 [some (.ref a), l1, l2, l3] (.ref a :: st) h Q := x_aload (len := 1) rfl rfl
theorem s_0_480_n : wp V (cdT Ev) mx d 0 480 [some .null, l1, l2, l3] st h Q = wp V (cdT Ev) mx d 0 481 [some .null, l1, l2, l3] (.null :: st) h Q := x_aloadN (len := 1) rfl rfl
theorem s_0_481 {x : Int32} : wp V (cdT Ev) mx d 0 481 [l0, l1, l2, some (.int x)] st h Q = wp V (cdT Ev) mx d 0 482 [l0, l1, l2, some (.int x)] (.int x :: st) h Q := x_iload (len := 1) rfl rfl
theorem s_0_482 : wp V (cdT Ev) mx d 0 482 ls st h Q = wp V (cdT Ev) mx d 0 483 ls ((.int (1)) :: st) h Q := x_push (v := (.int (1))) (len := 1) rfl
theorem s_0_483 {x z : Int32} : wp V (cdT Ev) mx d 0 483 ls (.int z :: .int x :: st) h Q = wp V (cdT Ev) mx d 0 484 ls (.int (x + z) :: st) h Q := x_ib (f := fun x z => x + z) rfl
theorem s_0_484 {i : Int32} {a : Nat} : wp V (cdT Ev) mx d 0 484 ls (.int i :: .ref a :: st) h Q = ai 2 i V h a (fun x => wp V (cdT Ev) mx d 0 485 ls (.int x :: st) h Q) := x_iald rfl
theorem s_0_485 {b : Nat} {v0 : Value} (hst : st.length ≤ 4) : wp V (cdT Ev) mx d 0 485 ls (v0 :: .ref b :: st) h Q = cv [(11, 78)] h b (fun y' => WP V (cdT Ev) mx d y' [.ref b, v0] h (fun r h' => wp V (cdT Ev) mx d 0 488 ls (rts r st) h' Q)) := x_cv (sg := [v0]) rfl hst rfl rfl
theorem s_0_488 {a : Nat} : wp V (cdT Ev) mx d 0 488 [l0, l1, some (.ref a), l3] st h Q = wp V (cdT Ev) mx d 0 489 [l0, l1, some (.ref a), l3] (.ref a :: st) h Q := x_aload (len := 1) rfl rfl
theorem s_0_488_n : wp V (cdT Ev) mx d 0 488 [l0, l1, some .null, l3] st h Q = wp V (cdT Ev) mx d 0 489 [l0, l1, some .null, l3] (.null :: st) h Q := x_aloadN (len := 1) rfl rfl
theorem s_0_489 {a : Nat} : wp V (cdT Ev) mx d 0 489 [some (.ref a), l1, l2, l3] st h Q = wp V (cdT Ev) mx d 0 490 [some (.ref a), l1, l2, l3] (.ref a :: st) h Q := x_aload (len := 1) rfl rfl
theorem s_0_489_n : wp V (cdT Ev) mx d 0 489 [some .null, l1, l2, l3] st h Q = wp V (cdT Ev) mx d 0 490 [some .null, l1, l2, l3] (.null :: st) h Q := x_aloadN (len := 1) rfl rfl
theorem s_0_490 {x : Int32} : wp V (cdT Ev) mx d 0 490 [l0, l1, l2, some (.int x)] st h Q = wp V (cdT Ev) mx d 0 491 [l0, l1, l2, some (.int x)] (.int x :: st) h Q := x_iload (len := 1) rfl rfl
theorem s_0_491 : wp V (cdT Ev) mx d 0 491 ls st h Q = wp V (cdT Ev) mx d 0 492 ls ((.int (1)) :: st) h Q := x_push (v := (.int (1))) (len := 1) rfl
theorem s_0_492 {x z : Int32} : wp V (cdT Ev) mx d 0 492 ls (.int z :: .int x :: st) h Q = wp V (cdT Ev) mx d 0 493 ls (.int (x + z) :: st) h Q := x_ib (f := fun x z => x + z) rfl
theorem s_0_493 {i : Int32} {a : Nat} : wp V (cdT Ev) mx d 0 493 ls (.int i :: .ref a :: st) h Q = ai 2 i V h a (fun x => wp V (cdT Ev) mx d 0 494 ls (.int x :: st) h Q) := x_iald rfl
theorem s_0_494 {b : Nat} {v0 : Value} (hst : st.length ≤ 4) : wp V (cdT Ev) mx d 0 494 ls (v0 :: .ref b :: st) h Q = cv [(12, 166)] h b (fun y' => WP V (cdT Ev) mx d y' [.ref b, v0] h (fun r h' => wp V (cdT Ev) mx d 0 497 ls (rts r st) h' Q)) := x_cv (sg := [v0]) rfl hst rfl rfl
theorem s_0_497 {x z : Int32} : wp V (cdT Ev) mx d 0 497 ls (.int z :: .int x :: st) h Q = (if x = z then wp V (cdT Ev) mx d 0 1221 ls st h Q else wp V (cdT Ev) mx d 0 500 ls st h Q) := x_if2 (c := fun x z => x = z) rfl
theorem s_0_500 : wp V (cdT Ev) mx d 0 500 ls st h Q = wp V (cdT Ev) mx d 0 501 ls ((.int (0)) :: st) h Q := x_push (v := (.int (0))) (len := 1) rfl
theorem s_0_501 {x : Int32} (hx : okr 1 (.int x) = true) : wp V (cdT Ev) mx d 0 501 ls [.int x] h Q = Q (some (.int x)) h := x_ret rfl hx
theorem s_0_502 {a : Nat} : wp V (cdT Ev) mx d 0 502 [l0, some (.ref a), l2, l3] st h Q = wp V (cdT Ev) mx d 0 503 [l0, some (.ref a), l2, l3] (.ref a :: st) h Q := x_aload (len := 1) rfl rfl
theorem s_0_502_n : wp V (cdT Ev) mx d 0 502 [l0, some .null, l2, l3] st h Q = wp V (cdT Ev) mx d 0 503 [l0, some .null, l2, l3] (.null :: st) h Q := x_aloadN (len := 1) rfl rfl
theorem s_0_503 {a : Nat} : wp V (cdT Ev) mx d 0 503 [some (.ref a), l1, l2, l3] st h Q = wp V (cdT Ev) mx d 0 504 [some (.ref a), l1, l2, l3] (.ref a :: st) h Q := x_aload (len := 1) rfl rfl
theorem s_0_503_n : wp V (cdT Ev) mx d 0 503 [some .null, l1, l2, l3] st h Q = wp V (cdT Ev) mx d 0 504 [some .null, l1, l2, l3] (.null :: st) h Q := x_aloadN (len := 1) rfl rfl
theorem s_0_504 {x : Int32} : wp V (cdT Ev) mx d 0 504 [l0, l1, l2, some (.int x)] st h Q = wp V (cdT Ev) mx d 0 505 [l0, l1, l2, some (.int x)] (.int x :: st) h Q := x_iload (len := 1) rfl rfl
theorem s_0_505 : wp V (cdT Ev) mx d 0 505 ls st h Q = wp V (cdT Ev) mx d 0 506 ls ((.int (1)) :: st) h Q := x_push (v := (.int (1))) (len := 1) rfl
theorem s_0_506 {x z : Int32} : wp V (cdT Ev) mx d 0 506 ls (.int z :: .int x :: st) h Q = wp V (cdT Ev) mx d 0 507 ls (.int (x + z) :: st) h Q := x_ib (f := fun x z => x + z) rfl
theorem s_0_507 {i : Int32} {a : Nat} : wp V (cdT Ev) mx d 0 507 ls (.int i :: .ref a :: st) h Q = ai 2 i V h a (fun x => wp V (cdT Ev) mx d 0 508 ls (.int x :: st) h Q) := x_iald rfl
theorem s_0_508 {b : Nat} {v0 : Value} (hst : st.length ≤ 4) : wp V (cdT Ev) mx d 0 508 ls (v0 :: .ref b :: st) h Q = cv [(11, 79)] h b (fun y' => WP V (cdT Ev) mx d y' [.ref b, v0] h (fun r h' => wp V (cdT Ev) mx d 0 511 ls (rts r st) h' Q)) := x_cv (sg := [v0]) rfl hst rfl rfl
theorem s_0_511 {a : Nat} : wp V (cdT Ev) mx d 0 511 [l0, l1, some (.ref a), l3] st h Q = wp V (cdT Ev) mx d 0 512 [l0, l1, some (.ref a), l3] (.ref a :: st) h Q := x_aload (len := 1) rfl rfl
theorem s_0_511_n : wp V (cdT Ev) mx d 0 511 [l0, l1, some .null, l3] st h Q = wp V (cdT Ev) mx d 0 512 [l0, l1, some .null, l3] (.null :: st) h Q := x_aloadN (len := 1) rfl rfl
theorem s_0_512 {a : Nat} : wp V (cdT Ev) mx d 0 512 [some (.ref a), l1, l2, l3] st h Q = wp V (cdT Ev) mx d 0 513 [some (.ref a), l1, l2, l3] (.ref a :: st) h Q := x_aload (len := 1) rfl rfl
theorem s_0_512_n : wp V (cdT Ev) mx d 0 512 [some .null, l1, l2, l3] st h Q = wp V (cdT Ev) mx d 0 513 [some .null, l1, l2, l3] (.null :: st) h Q := x_aloadN (len := 1) rfl rfl
theorem s_0_513 {x : Int32} : wp V (cdT Ev) mx d 0 513 [l0, l1, l2, some (.int x)] st h Q = wp V (cdT Ev) mx d 0 514 [l0, l1, l2, some (.int x)] (.int x :: st) h Q := x_iload (len := 1) rfl rfl
theorem s_0_514 : wp V (cdT Ev) mx d 0 514 ls st h Q = wp V (cdT Ev) mx d 0 515 ls ((.int (1)) :: st) h Q := x_push (v := (.int (1))) (len := 1) rfl
theorem s_0_515 {x z : Int32} : wp V (cdT Ev) mx d 0 515 ls (.int z :: .int x :: st) h Q = wp V (cdT Ev) mx d 0 516 ls (.int (x + z) :: st) h Q := x_ib (f := fun x z => x + z) rfl
theorem s_0_516 {i : Int32} {a : Nat} : wp V (cdT Ev) mx d 0 516 ls (.int i :: .ref a :: st) h Q = ai 2 i V h a (fun x => wp V (cdT Ev) mx d 0 517 ls (.int x :: st) h Q) := x_iald rfl
theorem s_0_517 {b : Nat} {v0 : Value} (hst : st.length ≤ 4) : wp V (cdT Ev) mx d 0 517 ls (v0 :: .ref b :: st) h Q = cv [(12, 167)] h b (fun y' => WP V (cdT Ev) mx d y' [.ref b, v0] h (fun r h' => wp V (cdT Ev) mx d 0 520 ls (rts r st) h' Q)) := x_cv (sg := [v0]) rfl hst rfl rfl
theorem s_0_520 {x z : Int32} : wp V (cdT Ev) mx d 0 520 ls (.int z :: .int x :: st) h Q = (if x = z then wp V (cdT Ev) mx d 0 1221 ls st h Q else wp V (cdT Ev) mx d 0 523 ls st h Q) := x_if2 (c := fun x z => x = z) rfl
theorem s_0_523 : wp V (cdT Ev) mx d 0 523 ls st h Q = wp V (cdT Ev) mx d 0 524 ls ((.int (0)) :: st) h Q := x_push (v := (.int (0))) (len := 1) rfl
theorem s_0_524 {x : Int32} (hx : okr 1 (.int x) = true) : wp V (cdT Ev) mx d 0 524 ls [.int x] h Q = Q (some (.int x)) h := x_ret rfl hx
theorem s_0_525 {a : Nat} : wp V (cdT Ev) mx d 0 525 [l0, some (.ref a), l2, l3] st h Q = wp V (cdT Ev) mx d 0 526 [l0, some (.ref a), l2, l3] (.ref a :: st) h Q := x_aload (len := 1) rfl rfl
theorem s_0_525_n : wp V (cdT Ev) mx d 0 525 [l0, some .null, l2, l3] st h Q = wp V (cdT Ev) mx d 0 526 [l0, some .null, l2, l3] (.null :: st) h Q := x_aloadN (len := 1) rfl rfl
theorem s_0_526 {a : Nat} : wp V (cdT Ev) mx d 0 526 [some (.ref a), l1, l2, l3] st h Q = wp V (cdT Ev) mx d 0 527 [some (.ref a), l1, l2, l3] (.ref a :: st) h Q := x_aload (len := 1) rfl rfl
theorem s_0_526_n : wp V (cdT Ev) mx d 0 526 [some .null, l1, l2, l3] st h Q = wp V (cdT Ev) mx d 0 527 [some .null, l1, l2, l3] (.null :: st) h Q := x_aloadN (len := 1) rfl rfl
theorem s_0_527 {x : Int32} : wp V (cdT Ev) mx d 0 527 [l0, l1, l2, some (.int x)] st h Q = wp V (cdT Ev) mx d 0 528 [l0, l1, l2, some (.int x)] (.int x :: st) h Q := x_iload (len := 1) rfl rfl
theorem s_0_528 : wp V (cdT Ev) mx d 0 528 ls st h Q = wp V (cdT Ev) mx d 0 529 ls ((.int (1)) :: st) h Q := x_push (v := (.int (1))) (len := 1) rfl
theorem s_0_529 {x z : Int32} : wp V (cdT Ev) mx d 0 529 ls (.int z :: .int x :: st) h Q = wp V (cdT Ev) mx d 0 530 ls (.int (x + z) :: st) h Q := x_ib (f := fun x z => x + z) rfl
theorem s_0_530 {i : Int32} {a : Nat} : wp V (cdT Ev) mx d 0 530 ls (.int i :: .ref a :: st) h Q = ai 2 i V h a (fun x => wp V (cdT Ev) mx d 0 531 ls (.int x :: st) h Q) := x_iald rfl
theorem s_0_531 {a : Nat} : wp V (cdT Ev) mx d 0 531 [some (.ref a), l1, l2, l3] st h Q = wp V (cdT Ev) mx d 0 532 [some (.ref a), l1, l2, l3] (.ref a :: st) h Q := x_aload (len := 1) rfl rfl
theorem s_0_531_n : wp V (cdT Ev) mx d 0 531 [some .null, l1, l2, l3] st h Q = wp V (cdT Ev) mx d 0 532 [some .null, l1, l2, l3] (.null :: st) h Q := x_aloadN (len := 1) rfl rfl
theorem s_0_532 {x : Int32} : wp V (cdT Ev) mx d 0 532 [l0, l1, l2, some (.int x)] st h Q = wp V (cdT Ev) mx d 0 533 [l0, l1, l2, some (.int x)] (.int x :: st) h Q := x_iload (len := 1) rfl rfl
theorem s_0_533 : wp V (cdT Ev) mx d 0 533 ls st h Q = wp V (cdT Ev) mx d 0 534 ls ((.int (2)) :: st) h Q := x_push (v := (.int (2))) (len := 1) rfl
theorem s_0_534 {x z : Int32} : wp V (cdT Ev) mx d 0 534 ls (.int z :: .int x :: st) h Q = wp V (cdT Ev) mx d 0 535 ls (.int (x + z) :: st) h Q := x_ib (f := fun x z => x + z) rfl
theorem s_0_535 {i : Int32} {a : Nat} : wp V (cdT Ev) mx d 0 535 ls (.int i :: .ref a :: st) h Q = ai 2 i V h a (fun x => wp V (cdT Ev) mx d 0 536 ls (.int x :: st) h Q) := x_iald rfl
theorem s_0_536 {b : Nat} {v0 v1 : Value} (hst : st.length ≤ 4) : wp V (cdT Ev) mx d 0 536 ls (v1 :: v0 :: .ref b :: st) h Q = cv [(11, 80)] h b (fun y' => WP V (cdT Ev) mx d y' [.ref b, v0, v1] h (fun r h' => wp V (cdT Ev) mx d 0 539 ls (rts r st) h' Q)) := x_cv (sg := [v1, v0]) rfl hst rfl rfl
theorem s_0_539 {a : Nat} : wp V (cdT Ev) mx d 0 539 [l0, l1, some (.ref a), l3] st h Q = wp V (cdT Ev) mx d 0 540 [l0, l1, some (.ref a), l3] (.ref a :: st) h Q := x_aload (len := 1) rfl rfl
theorem s_0_539_n : wp V (cdT Ev) mx d 0 539 [l0, l1, some .null, l3] st h Q = wp V (cdT Ev) mx d 0 540 [l0, l1, some .null, l3] (.null :: st) h Q := x_aloadN (len := 1) rfl rfl
theorem s_0_540 {a : Nat} : wp V (cdT Ev) mx d 0 540 [some (.ref a), l1, l2, l3] st h Q = wp V (cdT Ev) mx d 0 541 [some (.ref a), l1, l2, l3] (.ref a :: st) h Q := x_aload (len := 1) rfl rfl
theorem s_0_540_n : wp V (cdT Ev) mx d 0 540 [some .null, l1, l2, l3] st h Q = wp V (cdT Ev) mx d 0 541 [some .null, l1, l2, l3] (.null :: st) h Q := x_aloadN (len := 1) rfl rfl
theorem s_0_541 {x : Int32} : wp V (cdT Ev) mx d 0 541 [l0, l1, l2, some (.int x)] st h Q = wp V (cdT Ev) mx d 0 542 [l0, l1, l2, some (.int x)] (.int x :: st) h Q := x_iload (len := 1) rfl rfl
theorem s_0_542 : wp V (cdT Ev) mx d 0 542 ls st h Q = wp V (cdT Ev) mx d 0 543 ls ((.int (1)) :: st) h Q := x_push (v := (.int (1))) (len := 1) rfl
theorem s_0_543 {x z : Int32} : wp V (cdT Ev) mx d 0 543 ls (.int z :: .int x :: st) h Q = wp V (cdT Ev) mx d 0 544 ls (.int (x + z) :: st) h Q := x_ib (f := fun x z => x + z) rfl
theorem s_0_544 {i : Int32} {a : Nat} : wp V (cdT Ev) mx d 0 544 ls (.int i :: .ref a :: st) h Q = ai 2 i V h a (fun x => wp V (cdT Ev) mx d 0 545 ls (.int x :: st) h Q) := x_iald rfl
theorem s_0_545 {a : Nat} : wp V (cdT Ev) mx d 0 545 [some (.ref a), l1, l2, l3] st h Q = wp V (cdT Ev) mx d 0 546 [some (.ref a), l1, l2, l3] (.ref a :: st) h Q := x_aload (len := 1) rfl rfl
theorem s_0_545_n : wp V (cdT Ev) mx d 0 545 [some .null, l1, l2, l3] st h Q = wp V (cdT Ev) mx d 0 546 [some .null, l1, l2, l3] (.null :: st) h Q := x_aloadN (len := 1) rfl rfl
theorem s_0_546 {x : Int32} : wp V (cdT Ev) mx d 0 546 [l0, l1, l2, some (.int x)] st h Q = wp V (cdT Ev) mx d 0 547 [l0, l1, l2, some (.int x)] (.int x :: st) h Q := x_iload (len := 1) rfl rfl
theorem s_0_547 : wp V (cdT Ev) mx d 0 547 ls st h Q = wp V (cdT Ev) mx d 0 548 ls ((.int (2)) :: st) h Q := x_push (v := (.int (2))) (len := 1) rfl
theorem s_0_548 {x z : Int32} : wp V (cdT Ev) mx d 0 548 ls (.int z :: .int x :: st) h Q = wp V (cdT Ev) mx d 0 549 ls (.int (x + z) :: st) h Q := x_ib (f := fun x z => x + z) rfl
theorem s_0_549 {i : Int32} {a : Nat} : wp V (cdT Ev) mx d 0 549 ls (.int i :: .ref a :: st) h Q = ai 2 i V h a (fun x => wp V (cdT Ev) mx d 0 550 ls (.int x :: st) h Q) := x_iald rfl
theorem s_0_550 {b : Nat} {v0 v1 : Value} (hst : st.length ≤ 4) : wp V (cdT Ev) mx d 0 550 ls (v1 :: v0 :: .ref b :: st) h Q = cv [(12, 168)] h b (fun y' => WP V (cdT Ev) mx d y' [.ref b, v0, v1] h (fun r h' => wp V (cdT Ev) mx d 0 553 ls (rts r st) h' Q)) := x_cv (sg := [v1, v0]) rfl hst rfl rfl
theorem s_0_553 {x z : Int32} : wp V (cdT Ev) mx d 0 553 ls (.int z :: .int x :: st) h Q = (if x = z then wp V (cdT Ev) mx d 0 1221 ls st h Q else wp V (cdT Ev) mx d 0 556 ls st h Q) := x_if2 (c := fun x z => x = z) rfl
theorem s_0_556 : wp V (cdT Ev) mx d 0 556 ls st h Q = wp V (cdT Ev) mx d 0 557 ls ((.int (0)) :: st) h Q := x_push (v := (.int (0))) (len := 1) rfl
theorem s_0_557 {x : Int32} (hx : okr 1 (.int x) = true) : wp V (cdT Ev) mx d 0 557 ls [.int x] h Q = Q (some (.int x)) h := x_ret rfl hx
theorem s_0_558 {a : Nat} : wp V (cdT Ev) mx d 0 558 [l0, some (.ref a), l2, l3] st h Q = wp V (cdT Ev) mx d 0 559 [l0, some (.ref a), l2, l3] (.ref a :: st) h Q := x_aload (len := 1) rfl rfl
theorem s_0_558_n : wp V (cdT Ev) mx d 0 558 [l0, some .null, l2, l3] st h Q = wp V (cdT Ev) mx d 0 559 [l0, some .null, l2, l3] (.null :: st) h Q := x_aloadN (len := 1) rfl rfl
theorem s_0_559 {a : Nat} : wp V (cdT Ev) mx d 0 559 [some (.ref a), l1, l2, l3] st h Q = wp V (cdT Ev) mx d 0 560 [some (.ref a), l1, l2, l3] (.ref a :: st) h Q := x_aload (len := 1) rfl rfl
theorem s_0_559_n : wp V (cdT Ev) mx d 0 559 [some .null, l1, l2, l3] st h Q = wp V (cdT Ev) mx d 0 560 [some .null, l1, l2, l3] (.null :: st) h Q := x_aloadN (len := 1) rfl rfl
theorem s_0_560 {x : Int32} : wp V (cdT Ev) mx d 0 560 [l0, l1, l2, some (.int x)] st h Q = wp V (cdT Ev) mx d 0 561 [l0, l1, l2, some (.int x)] (.int x :: st) h Q := x_iload (len := 1) rfl rfl
theorem s_0_561 : wp V (cdT Ev) mx d 0 561 ls st h Q = wp V (cdT Ev) mx d 0 562 ls ((.int (1)) :: st) h Q := x_push (v := (.int (1))) (len := 1) rfl
theorem s_0_562 {x z : Int32} : wp V (cdT Ev) mx d 0 562 ls (.int z :: .int x :: st) h Q = wp V (cdT Ev) mx d 0 563 ls (.int (x + z) :: st) h Q := x_ib (f := fun x z => x + z) rfl
theorem s_0_563 {i : Int32} {a : Nat} : wp V (cdT Ev) mx d 0 563 ls (.int i :: .ref a :: st) h Q = ai 2 i V h a (fun x => wp V (cdT Ev) mx d 0 564 ls (.int x :: st) h Q) := x_iald rfl
theorem s_0_564 {a : Nat} : wp V (cdT Ev) mx d 0 564 [some (.ref a), l1, l2, l3] st h Q = wp V (cdT Ev) mx d 0 565 [some (.ref a), l1, l2, l3] (.ref a :: st) h Q := x_aload (len := 1) rfl rfl
theorem s_0_564_n : wp V (cdT Ev) mx d 0 564 [some .null, l1, l2, l3] st h Q = wp V (cdT Ev) mx d 0 565 [some .null, l1, l2, l3] (.null :: st) h Q := x_aloadN (len := 1) rfl rfl
theorem s_0_565 {x : Int32} : wp V (cdT Ev) mx d 0 565 [l0, l1, l2, some (.int x)] st h Q = wp V (cdT Ev) mx d 0 566 [l0, l1, l2, some (.int x)] (.int x :: st) h Q := x_iload (len := 1) rfl rfl
theorem s_0_566 : wp V (cdT Ev) mx d 0 566 ls st h Q = wp V (cdT Ev) mx d 0 567 ls ((.int (2)) :: st) h Q := x_push (v := (.int (2))) (len := 1) rfl
theorem s_0_567 {x z : Int32} : wp V (cdT Ev) mx d 0 567 ls (.int z :: .int x :: st) h Q = wp V (cdT Ev) mx d 0 568 ls (.int (x + z) :: st) h Q := x_ib (f := fun x z => x + z) rfl
theorem s_0_568 {i : Int32} {a : Nat} : wp V (cdT Ev) mx d 0 568 ls (.int i :: .ref a :: st) h Q = ai 2 i V h a (fun x => wp V (cdT Ev) mx d 0 569 ls (.int x :: st) h Q) := x_iald rfl
theorem s_0_569 {b : Nat} {v0 v1 : Value} (hst : st.length ≤ 4) : wp V (cdT Ev) mx d 0 569 ls (v1 :: v0 :: .ref b :: st) h Q = cv [(11, 81)] h b (fun y' => WP V (cdT Ev) mx d y' [.ref b, v0, v1] h (fun r h' => wp V (cdT Ev) mx d 0 572 ls (rts r st) h' Q)) := x_cv (sg := [v1, v0]) rfl hst rfl rfl
theorem s_0_572 {a : Nat} : wp V (cdT Ev) mx d 0 572 [l0, l1, some (.ref a), l3] st h Q = wp V (cdT Ev) mx d 0 573 [l0, l1, some (.ref a), l3] (.ref a :: st) h Q := x_aload (len := 1) rfl rfl
theorem s_0_572_n : wp V (cdT Ev) mx d 0 572 [l0, l1, some .null, l3] st h Q = wp V (cdT Ev) mx d 0 573 [l0, l1, some .null, l3] (.null :: st) h Q := x_aloadN (len := 1) rfl rfl
theorem s_0_573 {a : Nat} : wp V (cdT Ev) mx d 0 573 [some (.ref a), l1, l2, l3] st h Q = wp V (cdT Ev) mx d 0 574 [some (.ref a), l1, l2, l3] (.ref a :: st) h Q := x_aload (len := 1) rfl rfl
theorem s_0_573_n : wp V (cdT Ev) mx d 0 573 [some .null, l1, l2, l3] st h Q = wp V (cdT Ev) mx d 0 574 [some .null, l1, l2, l3] (.null :: st) h Q := x_aloadN (len := 1) rfl rfl
theorem s_0_574 {x : Int32} : wp V (cdT Ev) mx d 0 574 [l0, l1, l2, some (.int x)] st h Q = wp V (cdT Ev) mx d 0 575 [l0, l1, l2, some (.int x)] (.int x :: st) h Q := x_iload (len := 1) rfl rfl
theorem s_0_575 : wp V (cdT Ev) mx d 0 575 ls st h Q = wp V (cdT Ev) mx d 0 576 ls ((.int (1)) :: st) h Q := x_push (v := (.int (1))) (len := 1) rfl
theorem s_0_576 {x z : Int32} : wp V (cdT Ev) mx d 0 576 ls (.int z :: .int x :: st) h Q = wp V (cdT Ev) mx d 0 577 ls (.int (x + z) :: st) h Q := x_ib (f := fun x z => x + z) rfl
theorem s_0_577 {i : Int32} {a : Nat} : wp V (cdT Ev) mx d 0 577 ls (.int i :: .ref a :: st) h Q = ai 2 i V h a (fun x => wp V (cdT Ev) mx d 0 578 ls (.int x :: st) h Q) := x_iald rfl
theorem s_0_578 {a : Nat} : wp V (cdT Ev) mx d 0 578 [some (.ref a), l1, l2, l3] st h Q = wp V (cdT Ev) mx d 0 579 [some (.ref a), l1, l2, l3] (.ref a :: st) h Q := x_aload (len := 1) rfl rfl
theorem s_0_578_n : wp V (cdT Ev) mx d 0 578 [some .null, l1, l2, l3] st h Q = wp V (cdT Ev) mx d 0 579 [some .null, l1, l2, l3] (.null :: st) h Q := x_aloadN (len := 1) rfl rfl
theorem s_0_579 {x : Int32} : wp V (cdT Ev) mx d 0 579 [l0, l1, l2, some (.int x)] st h Q = wp V (cdT Ev) mx d 0 580 [l0, l1, l2, some (.int x)] (.int x :: st) h Q := x_iload (len := 1) rfl rfl
theorem s_0_580 : wp V (cdT Ev) mx d 0 580 ls st h Q = wp V (cdT Ev) mx d 0 581 ls ((.int (2)) :: st) h Q := x_push (v := (.int (2))) (len := 1) rfl
theorem s_0_581 {x z : Int32} : wp V (cdT Ev) mx d 0 581 ls (.int z :: .int x :: st) h Q = wp V (cdT Ev) mx d 0 582 ls (.int (x + z) :: st) h Q := x_ib (f := fun x z => x + z) rfl
theorem s_0_582 {i : Int32} {a : Nat} : wp V (cdT Ev) mx d 0 582 ls (.int i :: .ref a :: st) h Q = ai 2 i V h a (fun x => wp V (cdT Ev) mx d 0 583 ls (.int x :: st) h Q) := x_iald rfl
theorem s_0_583 {b : Nat} {v0 v1 : Value} (hst : st.length ≤ 4) : wp V (cdT Ev) mx d 0 583 ls (v1 :: v0 :: .ref b :: st) h Q = cv [(12, 169)] h b (fun y' => WP V (cdT Ev) mx d y' [.ref b, v0, v1] h (fun r h' => wp V (cdT Ev) mx d 0 586 ls (rts r st) h' Q)) := x_cv (sg := [v1, v0]) rfl hst rfl rfl
theorem s_0_586 {x z : Int32} : wp V (cdT Ev) mx d 0 586 ls (.int z :: .int x :: st) h Q = (if x = z then wp V (cdT Ev) mx d 0 1221 ls st h Q else wp V (cdT Ev) mx d 0 589 ls st h Q) := x_if2 (c := fun x z => x = z) rfl
theorem s_0_589 : wp V (cdT Ev) mx d 0 589 ls st h Q = wp V (cdT Ev) mx d 0 590 ls ((.int (0)) :: st) h Q := x_push (v := (.int (0))) (len := 1) rfl
theorem s_0_590 {x : Int32} (hx : okr 1 (.int x) = true) : wp V (cdT Ev) mx d 0 590 ls [.int x] h Q = Q (some (.int x)) h := x_ret rfl hx
theorem s_0_591 {a : Nat} : wp V (cdT Ev) mx d 0 591 [l0, some (.ref a), l2, l3] st h Q = wp V (cdT Ev) mx d 0 592 [l0, some (.ref a), l2, l3] (.ref a :: st) h Q := x_aload (len := 1) rfl rfl
theorem s_0_591_n : wp V (cdT Ev) mx d 0 591 [l0, some .null, l2, l3] st h Q = wp V (cdT Ev) mx d 0 592 [l0, some .null, l2, l3] (.null :: st) h Q := x_aloadN (len := 1) rfl rfl
theorem s_0_592 {a : Nat} : wp V (cdT Ev) mx d 0 592 [some (.ref a), l1, l2, l3] st h Q = wp V (cdT Ev) mx d 0 593 [some (.ref a), l1, l2, l3] (.ref a :: st) h Q := x_aload (len := 1) rfl rfl
theorem s_0_592_n : wp V (cdT Ev) mx d 0 592 [some .null, l1, l2, l3] st h Q = wp V (cdT Ev) mx d 0 593 [some .null, l1, l2, l3] (.null :: st) h Q := x_aloadN (len := 1) rfl rfl
theorem s_0_593 {x : Int32} : wp V (cdT Ev) mx d 0 593 [l0, l1, l2, some (.int x)] st h Q = wp V (cdT Ev) mx d 0 594 [l0, l1, l2, some (.int x)] (.int x :: st) h Q := x_iload (len := 1) rfl rfl
theorem s_0_594 : wp V (cdT Ev) mx d 0 594 ls st h Q = wp V (cdT Ev) mx d 0 595 ls ((.int (1)) :: st) h Q := x_push (v := (.int (1))) (len := 1) rfl
theorem s_0_595 {x z : Int32} : wp V (cdT Ev) mx d 0 595 ls (.int z :: .int x :: st) h Q = wp V (cdT Ev) mx d 0 596 ls (.int (x + z) :: st) h Q := x_ib (f := fun x z => x + z) rfl
theorem s_0_596 {i : Int32} {a : Nat} : wp V (cdT Ev) mx d 0 596 ls (.int i :: .ref a :: st) h Q = ai 2 i V h a (fun x => wp V (cdT Ev) mx d 0 597 ls (.int x :: st) h Q) := x_iald rfl
theorem s_0_597 {a : Nat} : wp V (cdT Ev) mx d 0 597 [some (.ref a), l1, l2, l3] st h Q = wp V (cdT Ev) mx d 0 598 [some (.ref a), l1, l2, l3] (.ref a :: st) h Q := x_aload (len := 1) rfl rfl
theorem s_0_597_n : wp V (cdT Ev) mx d 0 597 [some .null, l1, l2, l3] st h Q = wp V (cdT Ev) mx d 0 598 [some .null, l1, l2, l3] (.null :: st) h Q := x_aloadN (len := 1) rfl rfl
theorem s_0_598 {x : Int32} : wp V (cdT Ev) mx d 0 598 [l0, l1, l2, some (.int x)] st h Q = wp V (cdT Ev) mx d 0 599 [l0, l1, l2, some (.int x)] (.int x :: st) h Q := x_iload (len := 1) rfl rfl
theorem s_0_599 : wp V (cdT Ev) mx d 0 599 ls st h Q = wp V (cdT Ev) mx d 0 600 ls ((.int (2)) :: st) h Q := x_push (v := (.int (2))) (len := 1) rfl
theorem s_0_600 {x z : Int32} : wp V (cdT Ev) mx d 0 600 ls (.int z :: .int x :: st) h Q = wp V (cdT Ev) mx d 0 601 ls (.int (x + z) :: st) h Q := x_ib (f := fun x z => x + z) rfl
theorem s_0_601 {i : Int32} {a : Nat} : wp V (cdT Ev) mx d 0 601 ls (.int i :: .ref a :: st) h Q = ai 2 i V h a (fun x => wp V (cdT Ev) mx d 0 602 ls (.int x :: st) h Q) := x_iald rfl
theorem s_0_602 {b : Nat} {v0 v1 : Value} (hst : st.length ≤ 4) : wp V (cdT Ev) mx d 0 602 ls (v1 :: v0 :: .ref b :: st) h Q = cv [(11, 82)] h b (fun y' => WP V (cdT Ev) mx d y' [.ref b, v0, v1] h (fun r h' => wp V (cdT Ev) mx d 0 605 ls (rts r st) h' Q)) := x_cv (sg := [v1, v0]) rfl hst rfl rfl
theorem s_0_605 {a : Nat} : wp V (cdT Ev) mx d 0 605 [l0, l1, some (.ref a), l3] st h Q = wp V (cdT Ev) mx d 0 606 [l0, l1, some (.ref a), l3] (.ref a :: st) h Q := x_aload (len := 1) rfl rfl
theorem s_0_605_n : wp V (cdT Ev) mx d 0 605 [l0, l1, some .null, l3] st h Q = wp V (cdT Ev) mx d 0 606 [l0, l1, some .null, l3] (.null :: st) h Q := x_aloadN (len := 1) rfl rfl
theorem s_0_606 {a : Nat} : wp V (cdT Ev) mx d 0 606 [some (.ref a), l1, l2, l3] st h Q = wp V (cdT Ev) mx d 0 607 [some (.ref a), l1, l2, l3] (.ref a :: st) h Q := x_aload (len := 1) rfl rfl
theorem s_0_606_n : wp V (cdT Ev) mx d 0 606 [some .null, l1, l2, l3] st h Q = wp V (cdT Ev) mx d 0 607 [some .null, l1, l2, l3] (.null :: st) h Q := x_aloadN (len := 1) rfl rfl
theorem s_0_607 {x : Int32} : wp V (cdT Ev) mx d 0 607 [l0, l1, l2, some (.int x)] st h Q = wp V (cdT Ev) mx d 0 608 [l0, l1, l2, some (.int x)] (.int x :: st) h Q := x_iload (len := 1) rfl rfl
theorem s_0_608 : wp V (cdT Ev) mx d 0 608 ls st h Q = wp V (cdT Ev) mx d 0 609 ls ((.int (1)) :: st) h Q := x_push (v := (.int (1))) (len := 1) rfl
theorem s_0_609 {x z : Int32} : wp V (cdT Ev) mx d 0 609 ls (.int z :: .int x :: st) h Q = wp V (cdT Ev) mx d 0 610 ls (.int (x + z) :: st) h Q := x_ib (f := fun x z => x + z) rfl
theorem s_0_610 {i : Int32} {a : Nat} : wp V (cdT Ev) mx d 0 610 ls (.int i :: .ref a :: st) h Q = ai 2 i V h a (fun x => wp V (cdT Ev) mx d 0 611 ls (.int x :: st) h Q) := x_iald rfl
theorem s_0_611 {a : Nat} : wp V (cdT Ev) mx d 0 611 [some (.ref a), l1, l2, l3] st h Q = wp V (cdT Ev) mx d 0 612 [some (.ref a), l1, l2, l3] (.ref a :: st) h Q := x_aload (len := 1) rfl rfl
theorem s_0_611_n : wp V (cdT Ev) mx d 0 611 [some .null, l1, l2, l3] st h Q = wp V (cdT Ev) mx d 0 612 [some .null, l1, l2, l3] (.null :: st) h Q := x_aloadN (len := 1) rfl rfl
theorem s_0_612 {x : Int32} : wp V (cdT Ev) mx d 0 612 [l0, l1, l2, some (.int x)] st h Q = wp V (cdT Ev) mx d 0 613 [l0, l1, l2, some (.int x)] (.int x :: st) h Q := x_iload (len := 1) rfl rfl
theorem s_0_613 : wp V (cdT Ev) mx d 0 613 ls st h Q = wp V (cdT Ev) mx d 0 614 ls ((.int (2)) :: st) h Q := x_push (v := (.int (2))) (len := 1) rfl
theorem s_0_614 {x z : Int32} : wp V (cdT Ev) mx d 0 614 ls (.int z :: .int x :: st) h Q = wp V (cdT Ev) mx d 0 615 ls (.int (x + z) :: st) h Q := x_ib (f := fun x z => x + z) rfl
theorem s_0_615 {i : Int32} {a : Nat} : wp V (cdT Ev) mx d 0 615 ls (.int i :: .ref a :: st) h Q = ai 2 i V h a (fun x => wp V (cdT Ev) mx d 0 616 ls (.int x :: st) h Q) := x_iald rfl
theorem s_0_616 {b : Nat} {v0 v1 : Value} (hst : st.length ≤ 4) : wp V (cdT Ev) mx d 0 616 ls (v1 :: v0 :: .ref b :: st) h Q = cv [(12, 170)] h b (fun y' => WP V (cdT Ev) mx d y' [.ref b, v0, v1] h (fun r h' => wp V (cdT Ev) mx d 0 619 ls (rts r st) h' Q)) := x_cv (sg := [v1, v0]) rfl hst rfl rfl
theorem s_0_619 {x z : Int32} : wp V (cdT Ev) mx d 0 619 ls (.int z :: .int x :: st) h Q = (if x = z then wp V (cdT Ev) mx d 0 1221 ls st h Q else wp V (cdT Ev) mx d 0 622 ls st h Q) := x_if2 (c := fun x z => x = z) rfl
theorem s_0_622 : wp V (cdT Ev) mx d 0 622 ls st h Q = wp V (cdT Ev) mx d 0 623 ls ((.int (0)) :: st) h Q := x_push (v := (.int (0))) (len := 1) rfl
theorem s_0_623 {x : Int32} (hx : okr 1 (.int x) = true) : wp V (cdT Ev) mx d 0 623 ls [.int x] h Q = Q (some (.int x)) h := x_ret rfl hx
theorem s_0_624 {a : Nat} : wp V (cdT Ev) mx d 0 624 [l0, some (.ref a), l2, l3] st h Q = wp V (cdT Ev) mx d 0 625 [l0, some (.ref a), l2, l3] (.ref a :: st) h Q := x_aload (len := 1) rfl rfl
theorem s_0_624_n : wp V (cdT Ev) mx d 0 624 [l0, some .null, l2, l3] st h Q = wp V (cdT Ev) mx d 0 625 [l0, some .null, l2, l3] (.null :: st) h Q := x_aloadN (len := 1) rfl rfl
theorem s_0_625 {a : Nat} : wp V (cdT Ev) mx d 0 625 [some (.ref a), l1, l2, l3] st h Q = wp V (cdT Ev) mx d 0 626 [some (.ref a), l1, l2, l3] (.ref a :: st) h Q := x_aload (len := 1) rfl rfl
theorem s_0_625_n : wp V (cdT Ev) mx d 0 625 [some .null, l1, l2, l3] st h Q = wp V (cdT Ev) mx d 0 626 [some .null, l1, l2, l3] (.null :: st) h Q := x_aloadN (len := 1) rfl rfl
theorem s_0_626 {x : Int32} : wp V (cdT Ev) mx d 0 626 [l0, l1, l2, some (.int x)] st h Q = wp V (cdT Ev) mx d 0 627 [l0, l1, l2, some (.int x)] (.int x :: st) h Q := x_iload (len := 1) rfl rfl
theorem s_0_627 : wp V (cdT Ev) mx d 0 627 ls st h Q = wp V (cdT Ev) mx d 0 628 ls ((.int (1)) :: st) h Q := x_push (v := (.int (1))) (len := 1) rfl
theorem s_0_628 {x z : Int32} : wp V (cdT Ev) mx d 0 628 ls (.int z :: .int x :: st) h Q = wp V (cdT Ev) mx d 0 629 ls (.int (x + z) :: st) h Q := x_ib (f := fun x z => x + z) rfl
theorem s_0_629 {i : Int32} {a : Nat} : wp V (cdT Ev) mx d 0 629 ls (.int i :: .ref a :: st) h Q = ai 2 i V h a (fun x => wp V (cdT Ev) mx d 0 630 ls (.int x :: st) h Q) := x_iald rfl
theorem s_0_630 {a : Nat} : wp V (cdT Ev) mx d 0 630 [some (.ref a), l1, l2, l3] st h Q = wp V (cdT Ev) mx d 0 631 [some (.ref a), l1, l2, l3] (.ref a :: st) h Q := x_aload (len := 1) rfl rfl
theorem s_0_630_n : wp V (cdT Ev) mx d 0 630 [some .null, l1, l2, l3] st h Q = wp V (cdT Ev) mx d 0 631 [some .null, l1, l2, l3] (.null :: st) h Q := x_aloadN (len := 1) rfl rfl
theorem s_0_631 {x : Int32} : wp V (cdT Ev) mx d 0 631 [l0, l1, l2, some (.int x)] st h Q = wp V (cdT Ev) mx d 0 632 [l0, l1, l2, some (.int x)] (.int x :: st) h Q := x_iload (len := 1) rfl rfl
theorem s_0_632 : wp V (cdT Ev) mx d 0 632 ls st h Q = wp V (cdT Ev) mx d 0 633 ls ((.int (2)) :: st) h Q := x_push (v := (.int (2))) (len := 1) rfl
theorem s_0_633 {x z : Int32} : wp V (cdT Ev) mx d 0 633 ls (.int z :: .int x :: st) h Q = wp V (cdT Ev) mx d 0 634 ls (.int (x + z) :: st) h Q := x_ib (f := fun x z => x + z) rfl
theorem s_0_634 {i : Int32} {a : Nat} : wp V (cdT Ev) mx d 0 634 ls (.int i :: .ref a :: st) h Q = ai 2 i V h a (fun x => wp V (cdT Ev) mx d 0 635 ls (.int x :: st) h Q) := x_iald rfl
theorem s_0_635 {b : Nat} {v0 v1 : Value} (hst : st.length ≤ 4) : wp V (cdT Ev) mx d 0 635 ls (v1 :: v0 :: .ref b :: st) h Q = cv [(11, 83)] h b (fun y' => WP V (cdT Ev) mx d y' [.ref b, v0, v1] h (fun r h' => wp V (cdT Ev) mx d 0 638 ls (rts r st) h' Q)) := x_cv (sg := [v1, v0]) rfl hst rfl rfl
theorem s_0_638 {a : Nat} : wp V (cdT Ev) mx d 0 638 [l0, l1, some (.ref a), l3] st h Q = wp V (cdT Ev) mx d 0 639 [l0, l1, some (.ref a), l3] (.ref a :: st) h Q := x_aload (len := 1) rfl rfl
theorem s_0_638_n : wp V (cdT Ev) mx d 0 638 [l0, l1, some .null, l3] st h Q = wp V (cdT Ev) mx d 0 639 [l0, l1, some .null, l3] (.null :: st) h Q := x_aloadN (len := 1) rfl rfl
theorem s_0_639 {a : Nat} : wp V (cdT Ev) mx d 0 639 [some (.ref a), l1, l2, l3] st h Q = wp V (cdT Ev) mx d 0 640 [some (.ref a), l1, l2, l3] (.ref a :: st) h Q := x_aload (len := 1) rfl rfl
theorem s_0_639_n : wp V (cdT Ev) mx d 0 639 [some .null, l1, l2, l3] st h Q = wp V (cdT Ev) mx d 0 640 [some .null, l1, l2, l3] (.null :: st) h Q := x_aloadN (len := 1) rfl rfl
theorem s_0_640 {x : Int32} : wp V (cdT Ev) mx d 0 640 [l0, l1, l2, some (.int x)] st h Q = wp V (cdT Ev) mx d 0 641 [l0, l1, l2, some (.int x)] (.int x :: st) h Q := x_iload (len := 1) rfl rfl
theorem s_0_641 : wp V (cdT Ev) mx d 0 641 ls st h Q = wp V (cdT Ev) mx d 0 642 ls ((.int (1)) :: st) h Q := x_push (v := (.int (1))) (len := 1) rfl
theorem s_0_642 {x z : Int32} : wp V (cdT Ev) mx d 0 642 ls (.int z :: .int x :: st) h Q = wp V (cdT Ev) mx d 0 643 ls (.int (x + z) :: st) h Q := x_ib (f := fun x z => x + z) rfl
theorem s_0_643 {i : Int32} {a : Nat} : wp V (cdT Ev) mx d 0 643 ls (.int i :: .ref a :: st) h Q = ai 2 i V h a (fun x => wp V (cdT Ev) mx d 0 644 ls (.int x :: st) h Q) := x_iald rfl
theorem s_0_644 {a : Nat} : wp V (cdT Ev) mx d 0 644 [some (.ref a), l1, l2, l3] st h Q = wp V (cdT Ev) mx d 0 645 [some (.ref a), l1, l2, l3] (.ref a :: st) h Q := x_aload (len := 1) rfl rfl
theorem s_0_644_n : wp V (cdT Ev) mx d 0 644 [some .null, l1, l2, l3] st h Q = wp V (cdT Ev) mx d 0 645 [some .null, l1, l2, l3] (.null :: st) h Q := x_aloadN (len := 1) rfl rfl
theorem s_0_645 {x : Int32} : wp V (cdT Ev) mx d 0 645 [l0, l1, l2, some (.int x)] st h Q = wp V (cdT Ev) mx d 0 646 [l0, l1, l2, some (.int x)] (.int x :: st) h Q := x_iload (len := 1) rfl rfl
theorem s_0_646 : wp V (cdT Ev) mx d 0 646 ls st h Q = wp V (cdT Ev) mx d 0 647 ls ((.int (2)) :: st) h Q := x_push (v := (.int (2))) (len := 1) rfl
theorem s_0_647 {x z : Int32} : wp V (cdT Ev) mx d 0 647 ls (.int z :: .int x :: st) h Q = wp V (cdT Ev) mx d 0 648 ls (.int (x + z) :: st) h Q := x_ib (f := fun x z => x + z) rfl
theorem s_0_648 {i : Int32} {a : Nat} : wp V (cdT Ev) mx d 0 648 ls (.int i :: .ref a :: st) h Q = ai 2 i V h a (fun x => wp V (cdT Ev) mx d 0 649 ls (.int x :: st) h Q) := x_iald rfl
theorem s_0_649 {b : Nat} {v0 v1 : Value} (hst : st.length ≤ 4) : wp V (cdT Ev) mx d 0 649 ls (v1 :: v0 :: .ref b :: st) h Q = cv [(12, 174)] h b (fun y' => WP V (cdT Ev) mx d y' [.ref b, v0, v1] h (fun r h' => wp V (cdT Ev) mx d 0 652 ls (rts r st) h' Q)) := x_cv (sg := [v1, v0]) rfl hst rfl rfl
theorem s_0_652 {x z : Int32} : wp V (cdT Ev) mx d 0 652 ls (.int z :: .int x :: st) h Q = (if x = z then wp V (cdT Ev) mx d 0 1221 ls st h Q else wp V (cdT Ev) mx d 0 655 ls st h Q) := x_if2 (c := fun x z => x = z) rfl
theorem s_0_655 : wp V (cdT Ev) mx d 0 655 ls st h Q = wp V (cdT Ev) mx d 0 656 ls ((.int (0)) :: st) h Q := x_push (v := (.int (0))) (len := 1) rfl
theorem s_0_656 {x : Int32} (hx : okr 1 (.int x) = true) : wp V (cdT Ev) mx d 0 656 ls [.int x] h Q = Q (some (.int x)) h := x_ret rfl hx
theorem s_0_657 {a : Nat} : wp V (cdT Ev) mx d 0 657 [l0, some (.ref a), l2, l3] st h Q = wp V (cdT Ev) mx d 0 658 [l0, some (.ref a), l2, l3] (.ref a :: st) h Q := x_aload (len := 1) rfl rfl
theorem s_0_657_n : wp V (cdT Ev) mx d 0 657 [l0, some .null, l2, l3] st h Q = wp V (cdT Ev) mx d 0 658 [l0, some .null, l2, l3] (.null :: st) h Q := x_aloadN (len := 1) rfl rfl
theorem s_0_658 {a : Nat} : wp V (cdT Ev) mx d 0 658 [some (.ref a), l1, l2, l3] st h Q = wp V (cdT Ev) mx d 0 659 [some (.ref a), l1, l2, l3] (.ref a :: st) h Q := x_aload (len := 1) rfl rfl
theorem s_0_658_n : wp V (cdT Ev) mx d 0 658 [some .null, l1, l2, l3] st h Q = wp V (cdT Ev) mx d 0 659 [some .null, l1, l2, l3] (.null :: st) h Q := x_aloadN (len := 1) rfl rfl
theorem s_0_659 {x : Int32} : wp V (cdT Ev) mx d 0 659 [l0, l1, l2, some (.int x)] st h Q = wp V (cdT Ev) mx d 0 660 [l0, l1, l2, some (.int x)] (.int x :: st) h Q := x_iload (len := 1) rfl rfl
theorem s_0_660 : wp V (cdT Ev) mx d 0 660 ls st h Q = wp V (cdT Ev) mx d 0 661 ls ((.int (1)) :: st) h Q := x_push (v := (.int (1))) (len := 1) rfl
theorem s_0_661 {x z : Int32} : wp V (cdT Ev) mx d 0 661 ls (.int z :: .int x :: st) h Q = wp V (cdT Ev) mx d 0 662 ls (.int (x + z) :: st) h Q := x_ib (f := fun x z => x + z) rfl
theorem s_0_662 {i : Int32} {a : Nat} : wp V (cdT Ev) mx d 0 662 ls (.int i :: .ref a :: st) h Q = ai 2 i V h a (fun x => wp V (cdT Ev) mx d 0 663 ls (.int x :: st) h Q) := x_iald rfl
theorem s_0_663 {a : Nat} : wp V (cdT Ev) mx d 0 663 [some (.ref a), l1, l2, l3] st h Q = wp V (cdT Ev) mx d 0 664 [some (.ref a), l1, l2, l3] (.ref a :: st) h Q := x_aload (len := 1) rfl rfl
theorem s_0_663_n : wp V (cdT Ev) mx d 0 663 [some .null, l1, l2, l3] st h Q = wp V (cdT Ev) mx d 0 664 [some .null, l1, l2, l3] (.null :: st) h Q := x_aloadN (len := 1) rfl rfl
theorem s_0_664 {x : Int32} : wp V (cdT Ev) mx d 0 664 [l0, l1, l2, some (.int x)] st h Q = wp V (cdT Ev) mx d 0 665 [l0, l1, l2, some (.int x)] (.int x :: st) h Q := x_iload (len := 1) rfl rfl
theorem s_0_665 : wp V (cdT Ev) mx d 0 665 ls st h Q = wp V (cdT Ev) mx d 0 666 ls ((.int (2)) :: st) h Q := x_push (v := (.int (2))) (len := 1) rfl
theorem s_0_666 {x z : Int32} : wp V (cdT Ev) mx d 0 666 ls (.int z :: .int x :: st) h Q = wp V (cdT Ev) mx d 0 667 ls (.int (x + z) :: st) h Q := x_ib (f := fun x z => x + z) rfl
theorem s_0_667 {i : Int32} {a : Nat} : wp V (cdT Ev) mx d 0 667 ls (.int i :: .ref a :: st) h Q = ai 2 i V h a (fun x => wp V (cdT Ev) mx d 0 668 ls (.int x :: st) h Q) := x_iald rfl
theorem s_0_668 {b : Nat} {v0 v1 : Value} (hst : st.length ≤ 4) : wp V (cdT Ev) mx d 0 668 ls (v1 :: v0 :: .ref b :: st) h Q = cv [(11, 84)] h b (fun y' => WP V (cdT Ev) mx d y' [.ref b, v0, v1] h (fun r h' => wp V (cdT Ev) mx d 0 671 ls (rts r st) h' Q)) := x_cv (sg := [v1, v0]) rfl hst rfl rfl
theorem s_0_671 {a : Nat} : wp V (cdT Ev) mx d 0 671 [l0, l1, some (.ref a), l3] st h Q = wp V (cdT Ev) mx d 0 672 [l0, l1, some (.ref a), l3] (.ref a :: st) h Q := x_aload (len := 1) rfl rfl
theorem s_0_671_n : wp V (cdT Ev) mx d 0 671 [l0, l1, some .null, l3] st h Q = wp V (cdT Ev) mx d 0 672 [l0, l1, some .null, l3] (.null :: st) h Q := x_aloadN (len := 1) rfl rfl
theorem s_0_672 {a : Nat} : wp V (cdT Ev) mx d 0 672 [some (.ref a), l1, l2, l3] st h Q = wp V (cdT Ev) mx d 0 673 [some (.ref a), l1, l2, l3] (.ref a :: st) h Q := x_aload (len := 1) rfl rfl
theorem s_0_672_n : wp V (cdT Ev) mx d 0 672 [some .null, l1, l2, l3] st h Q = wp V (cdT Ev) mx d 0 673 [some .null, l1, l2, l3] (.null :: st) h Q := x_aloadN (len := 1) rfl rfl
theorem s_0_673 {x : Int32} : wp V (cdT Ev) mx d 0 673 [l0, l1, l2, some (.int x)] st h Q = wp V (cdT Ev) mx d 0 674 [l0, l1, l2, some (.int x)] (.int x :: st) h Q := x_iload (len := 1) rfl rfl
theorem s_0_674 : wp V (cdT Ev) mx d 0 674 ls st h Q = wp V (cdT Ev) mx d 0 675 ls ((.int (1)) :: st) h Q := x_push (v := (.int (1))) (len := 1) rfl
theorem s_0_675 {x z : Int32} : wp V (cdT Ev) mx d 0 675 ls (.int z :: .int x :: st) h Q = wp V (cdT Ev) mx d 0 676 ls (.int (x + z) :: st) h Q := x_ib (f := fun x z => x + z) rfl
theorem s_0_676 {i : Int32} {a : Nat} : wp V (cdT Ev) mx d 0 676 ls (.int i :: .ref a :: st) h Q = ai 2 i V h a (fun x => wp V (cdT Ev) mx d 0 677 ls (.int x :: st) h Q) := x_iald rfl
theorem s_0_677 {a : Nat} : wp V (cdT Ev) mx d 0 677 [some (.ref a), l1, l2, l3] st h Q = wp V (cdT Ev) mx d 0 678 [some (.ref a), l1, l2, l3] (.ref a :: st) h Q := x_aload (len := 1) rfl rfl
theorem s_0_677_n : wp V (cdT Ev) mx d 0 677 [some .null, l1, l2, l3] st h Q = wp V (cdT Ev) mx d 0 678 [some .null, l1, l2, l3] (.null :: st) h Q := x_aloadN (len := 1) rfl rfl
theorem s_0_678 {x : Int32} : wp V (cdT Ev) mx d 0 678 [l0, l1, l2, some (.int x)] st h Q = wp V (cdT Ev) mx d 0 679 [l0, l1, l2, some (.int x)] (.int x :: st) h Q := x_iload (len := 1) rfl rfl
theorem s_0_679 : wp V (cdT Ev) mx d 0 679 ls st h Q = wp V (cdT Ev) mx d 0 680 ls ((.int (2)) :: st) h Q := x_push (v := (.int (2))) (len := 1) rfl
theorem s_0_680 {x z : Int32} : wp V (cdT Ev) mx d 0 680 ls (.int z :: .int x :: st) h Q = wp V (cdT Ev) mx d 0 681 ls (.int (x + z) :: st) h Q := x_ib (f := fun x z => x + z) rfl
theorem s_0_681 {i : Int32} {a : Nat} : wp V (cdT Ev) mx d 0 681 ls (.int i :: .ref a :: st) h Q = ai 2 i V h a (fun x => wp V (cdT Ev) mx d 0 682 ls (.int x :: st) h Q) := x_iald rfl
theorem s_0_682 {b : Nat} {v0 v1 : Value} (hst : st.length ≤ 4) : wp V (cdT Ev) mx d 0 682 ls (v1 :: v0 :: .ref b :: st) h Q = cv [(12, 176)] h b (fun y' => WP V (cdT Ev) mx d y' [.ref b, v0, v1] h (fun r h' => wp V (cdT Ev) mx d 0 685 ls (rts r st) h' Q)) := x_cv (sg := [v1, v0]) rfl hst rfl rfl
theorem s_0_685 {x z : Int64} : wp V (cdT Ev) mx d 0 685 ls (.long z :: .long x :: st) h Q = wp V (cdT Ev) mx d 0 686 ls (.int (lg_cmp x z) :: st) h Q := x_lcmp rfl
theorem s_0_686 {x : Int32} : wp V (cdT Ev) mx d 0 686 ls (.int x :: st) h Q = (if x = 0 then wp V (cdT Ev) mx d 0 1221 ls st h Q else wp V (cdT Ev) mx d 0 689 ls st h Q) := x_if1 (c := fun x => x = 0) rfl
theorem s_0_689 : wp V (cdT Ev) mx d 0 689 ls st h Q = wp V (cdT Ev) mx d 0 690 ls ((.int (0)) :: st) h Q := x_push (v := (.int (0))) (len := 1) rfl
theorem s_0_690 {x : Int32} (hx : okr 1 (.int x) = true) : wp V (cdT Ev) mx d 0 690 ls [.int x] h Q = Q (some (.int x)) h := x_ret rfl hx
theorem s_0_691 {a : Nat} : wp V (cdT Ev) mx d 0 691 [l0, some (.ref a), l2, l3] st h Q = wp V (cdT Ev) mx d 0 692 [l0, some (.ref a), l2, l3] (.ref a :: st) h Q := x_aload (len := 1) rfl rfl
theorem s_0_691_n : wp V (cdT Ev) mx d 0 691 [l0, some .null, l2, l3] st h Q = wp V (cdT Ev) mx d 0 692 [l0, some .null, l2, l3] (.null :: st) h Q := x_aloadN (len := 1) rfl rfl
theorem s_0_692 {a : Nat} : wp V (cdT Ev) mx d 0 692 [some (.ref a), l1, l2, l3] st h Q = wp V (cdT Ev) mx d 0 693 [some (.ref a), l1, l2, l3] (.ref a :: st) h Q := x_aload (len := 1) rfl rfl
theorem s_0_692_n : wp V (cdT Ev) mx d 0 692 [some .null, l1, l2, l3] st h Q = wp V (cdT Ev) mx d 0 693 [some .null, l1, l2, l3] (.null :: st) h Q := x_aloadN (len := 1) rfl rfl
theorem s_0_693 {x : Int32} : wp V (cdT Ev) mx d 0 693 [l0, l1, l2, some (.int x)] st h Q = wp V (cdT Ev) mx d 0 694 [l0, l1, l2, some (.int x)] (.int x :: st) h Q := x_iload (len := 1) rfl rfl
theorem s_0_694 : wp V (cdT Ev) mx d 0 694 ls st h Q = wp V (cdT Ev) mx d 0 695 ls ((.int (1)) :: st) h Q := x_push (v := (.int (1))) (len := 1) rfl
theorem s_0_695 {x z : Int32} : wp V (cdT Ev) mx d 0 695 ls (.int z :: .int x :: st) h Q = wp V (cdT Ev) mx d 0 696 ls (.int (x + z) :: st) h Q := x_ib (f := fun x z => x + z) rfl
theorem s_0_696 {i : Int32} {a : Nat} : wp V (cdT Ev) mx d 0 696 ls (.int i :: .ref a :: st) h Q = ai 2 i V h a (fun x => wp V (cdT Ev) mx d 0 697 ls (.int x :: st) h Q) := x_iald rfl
theorem s_0_697 {a : Nat} : wp V (cdT Ev) mx d 0 697 [some (.ref a), l1, l2, l3] st h Q = wp V (cdT Ev) mx d 0 698 [some (.ref a), l1, l2, l3] (.ref a :: st) h Q := x_aload (len := 1) rfl rfl
theorem s_0_697_n : wp V (cdT Ev) mx d 0 697 [some .null, l1, l2, l3] st h Q = wp V (cdT Ev) mx d 0 698 [some .null, l1, l2, l3] (.null :: st) h Q := x_aloadN (len := 1) rfl rfl
theorem s_0_698 {x : Int32} : wp V (cdT Ev) mx d 0 698 [l0, l1, l2, some (.int x)] st h Q = wp V (cdT Ev) mx d 0 699 [l0, l1, l2, some (.int x)] (.int x :: st) h Q := x_iload (len := 1) rfl rfl
theorem s_0_699 : wp V (cdT Ev) mx d 0 699 ls st h Q = wp V (cdT Ev) mx d 0 700 ls ((.int (2)) :: st) h Q := x_push (v := (.int (2))) (len := 1) rfl
theorem s_0_700 {x z : Int32} : wp V (cdT Ev) mx d 0 700 ls (.int z :: .int x :: st) h Q = wp V (cdT Ev) mx d 0 701 ls (.int (x + z) :: st) h Q := x_ib (f := fun x z => x + z) rfl
theorem s_0_701 {i : Int32} {a : Nat} : wp V (cdT Ev) mx d 0 701 ls (.int i :: .ref a :: st) h Q = ai 2 i V h a (fun x => wp V (cdT Ev) mx d 0 702 ls (.int x :: st) h Q) := x_iald rfl
theorem s_0_702 {b : Nat} {v0 v1 : Value} (hst : st.length ≤ 4) : wp V (cdT Ev) mx d 0 702 ls (v1 :: v0 :: .ref b :: st) h Q = cv [(11, 85)] h b (fun y' => WP V (cdT Ev) mx d y' [.ref b, v0, v1] h (fun r h' => wp V (cdT Ev) mx d 0 705 ls (rts r st) h' Q)) := x_cv (sg := [v1, v0]) rfl hst rfl rfl
theorem s_0_705 {a : Nat} : wp V (cdT Ev) mx d 0 705 [l0, l1, some (.ref a), l3] st h Q = wp V (cdT Ev) mx d 0 706 [l0, l1, some (.ref a), l3] (.ref a :: st) h Q := x_aload (len := 1) rfl rfl
theorem s_0_705_n : wp V (cdT Ev) mx d 0 705 [l0, l1, some .null, l3] st h Q = wp V (cdT Ev) mx d 0 706 [l0, l1, some .null, l3] (.null :: st) h Q := x_aloadN (len := 1) rfl rfl
theorem s_0_706 {a : Nat} : wp V (cdT Ev) mx d 0 706 [some (.ref a), l1, l2, l3] st h Q = wp V (cdT Ev) mx d 0 707 [some (.ref a), l1, l2, l3] (.ref a :: st) h Q := x_aload (len := 1) rfl rfl
theorem s_0_706_n : wp V (cdT Ev) mx d 0 706 [some .null, l1, l2, l3] st h Q = wp V (cdT Ev) mx d 0 707 [some .null, l1, l2, l3] (.null :: st) h Q := x_aloadN (len := 1) rfl rfl
theorem s_0_707 {x : Int32} : wp V (cdT Ev) mx d 0 707 [l0, l1, l2, some (.int x)] st h Q = wp V (cdT Ev) mx d 0 708 [l0, l1, l2, some (.int x)] (.int x :: st) h Q := x_iload (len := 1) rfl rfl
theorem s_0_708 : wp V (cdT Ev) mx d 0 708 ls st h Q = wp V (cdT Ev) mx d 0 709 ls ((.int (1)) :: st) h Q := x_push (v := (.int (1))) (len := 1) rfl
theorem s_0_709 {x z : Int32} : wp V (cdT Ev) mx d 0 709 ls (.int z :: .int x :: st) h Q = wp V (cdT Ev) mx d 0 710 ls (.int (x + z) :: st) h Q := x_ib (f := fun x z => x + z) rfl
theorem s_0_710 {i : Int32} {a : Nat} : wp V (cdT Ev) mx d 0 710 ls (.int i :: .ref a :: st) h Q = ai 2 i V h a (fun x => wp V (cdT Ev) mx d 0 711 ls (.int x :: st) h Q) := x_iald rfl
theorem s_0_711 {a : Nat} : wp V (cdT Ev) mx d 0 711 [some (.ref a), l1, l2, l3] st h Q = wp V (cdT Ev) mx d 0 712 [some (.ref a), l1, l2, l3] (.ref a :: st) h Q := x_aload (len := 1) rfl rfl
theorem s_0_711_n : wp V (cdT Ev) mx d 0 711 [some .null, l1, l2, l3] st h Q = wp V (cdT Ev) mx d 0 712 [some .null, l1, l2, l3] (.null :: st) h Q := x_aloadN (len := 1) rfl rfl
theorem s_0_712 {x : Int32} : wp V (cdT Ev) mx d 0 712 [l0, l1, l2, some (.int x)] st h Q = wp V (cdT Ev) mx d 0 713 [l0, l1, l2, some (.int x)] (.int x :: st) h Q := x_iload (len := 1) rfl rfl
theorem s_0_713 : wp V (cdT Ev) mx d 0 713 ls st h Q = wp V (cdT Ev) mx d 0 714 ls ((.int (2)) :: st) h Q := x_push (v := (.int (2))) (len := 1) rfl
theorem s_0_714 {x z : Int32} : wp V (cdT Ev) mx d 0 714 ls (.int z :: .int x :: st) h Q = wp V (cdT Ev) mx d 0 715 ls (.int (x + z) :: st) h Q := x_ib (f := fun x z => x + z) rfl
theorem s_0_715 {i : Int32} {a : Nat} : wp V (cdT Ev) mx d 0 715 ls (.int i :: .ref a :: st) h Q = ai 2 i V h a (fun x => wp V (cdT Ev) mx d 0 716 ls (.int x :: st) h Q) := x_iald rfl
theorem s_0_716 {b : Nat} {v0 v1 : Value} (hst : st.length ≤ 4) : wp V (cdT Ev) mx d 0 716 ls (v1 :: v0 :: .ref b :: st) h Q = cv [(12, 177)] h b (fun y' => WP V (cdT Ev) mx d y' [.ref b, v0, v1] h (fun r h' => wp V (cdT Ev) mx d 0 719 ls (rts r st) h' Q)) := x_cv (sg := [v1, v0]) rfl hst rfl rfl
theorem s_0_719 {x z : Int64} : wp V (cdT Ev) mx d 0 719 ls (.long z :: .long x :: st) h Q = wp V (cdT Ev) mx d 0 720 ls (.int (lg_cmp x z) :: st) h Q := x_lcmp rfl
theorem s_0_720 {x : Int32} : wp V (cdT Ev) mx d 0 720 ls (.int x :: st) h Q = (if x = 0 then wp V (cdT Ev) mx d 0 1221 ls st h Q else wp V (cdT Ev) mx d 0 723 ls st h Q) := x_if1 (c := fun x => x = 0) rfl
theorem s_0_723 : wp V (cdT Ev) mx d 0 723 ls st h Q = wp V (cdT Ev) mx d 0 724 ls ((.int (0)) :: st) h Q := x_push (v := (.int (0))) (len := 1) rfl
theorem s_0_724 {x : Int32} (hx : okr 1 (.int x) = true) : wp V (cdT Ev) mx d 0 724 ls [.int x] h Q = Q (some (.int x)) h := x_ret rfl hx
theorem s_0_725 {a : Nat} : wp V (cdT Ev) mx d 0 725 [l0, some (.ref a), l2, l3] st h Q = wp V (cdT Ev) mx d 0 726 [l0, some (.ref a), l2, l3] (.ref a :: st) h Q := x_aload (len := 1) rfl rfl
theorem s_0_725_n : wp V (cdT Ev) mx d 0 725 [l0, some .null, l2, l3] st h Q = wp V (cdT Ev) mx d 0 726 [l0, some .null, l2, l3] (.null :: st) h Q := x_aloadN (len := 1) rfl rfl
theorem s_0_726 {a : Nat} : wp V (cdT Ev) mx d 0 726 [some (.ref a), l1, l2, l3] st h Q = wp V (cdT Ev) mx d 0 727 [some (.ref a), l1, l2, l3] (.ref a :: st) h Q := x_aload (len := 1) rfl rfl
theorem s_0_726_n : wp V (cdT Ev) mx d 0 726 [some .null, l1, l2, l3] st h Q = wp V (cdT Ev) mx d 0 727 [some .null, l1, l2, l3] (.null :: st) h Q := x_aloadN (len := 1) rfl rfl
theorem s_0_727 {x : Int32} : wp V (cdT Ev) mx d 0 727 [l0, l1, l2, some (.int x)] st h Q = wp V (cdT Ev) mx d 0 728 [l0, l1, l2, some (.int x)] (.int x :: st) h Q := x_iload (len := 1) rfl rfl
theorem s_0_728 : wp V (cdT Ev) mx d 0 728 ls st h Q = wp V (cdT Ev) mx d 0 729 ls ((.int (1)) :: st) h Q := x_push (v := (.int (1))) (len := 1) rfl
theorem s_0_729 {x z : Int32} : wp V (cdT Ev) mx d 0 729 ls (.int z :: .int x :: st) h Q = wp V (cdT Ev) mx d 0 730 ls (.int (x + z) :: st) h Q := x_ib (f := fun x z => x + z) rfl
theorem s_0_730 {i : Int32} {a : Nat} : wp V (cdT Ev) mx d 0 730 ls (.int i :: .ref a :: st) h Q = ai 2 i V h a (fun x => wp V (cdT Ev) mx d 0 731 ls (.int x :: st) h Q) := x_iald rfl
theorem s_0_731 {a : Nat} : wp V (cdT Ev) mx d 0 731 [some (.ref a), l1, l2, l3] st h Q = wp V (cdT Ev) mx d 0 732 [some (.ref a), l1, l2, l3] (.ref a :: st) h Q := x_aload (len := 1) rfl rfl
theorem s_0_731_n : wp V (cdT Ev) mx d 0 731 [some .null, l1, l2, l3] st h Q = wp V (cdT Ev) mx d 0 732 [some .null, l1, l2, l3] (.null :: st) h Q := x_aloadN (len := 1) rfl rfl
theorem s_0_732 {x : Int32} : wp V (cdT Ev) mx d 0 732 [l0, l1, l2, some (.int x)] st h Q = wp V (cdT Ev) mx d 0 733 [l0, l1, l2, some (.int x)] (.int x :: st) h Q := x_iload (len := 1) rfl rfl
theorem s_0_733 : wp V (cdT Ev) mx d 0 733 ls st h Q = wp V (cdT Ev) mx d 0 734 ls ((.int (2)) :: st) h Q := x_push (v := (.int (2))) (len := 1) rfl
theorem s_0_734 {x z : Int32} : wp V (cdT Ev) mx d 0 734 ls (.int z :: .int x :: st) h Q = wp V (cdT Ev) mx d 0 735 ls (.int (x + z) :: st) h Q := x_ib (f := fun x z => x + z) rfl
theorem s_0_735 {i : Int32} {a : Nat} : wp V (cdT Ev) mx d 0 735 ls (.int i :: .ref a :: st) h Q = ai 2 i V h a (fun x => wp V (cdT Ev) mx d 0 736 ls (.int x :: st) h Q) := x_iald rfl
theorem s_0_736 {b : Nat} {v0 v1 : Value} (hst : st.length ≤ 4) : wp V (cdT Ev) mx d 0 736 ls (v1 :: v0 :: .ref b :: st) h Q = cv [(11, 86)] h b (fun y' => WP V (cdT Ev) mx d y' [.ref b, v0, v1] h (fun r h' => wp V (cdT Ev) mx d 0 739 ls (rts r st) h' Q)) := x_cv (sg := [v1, v0]) rfl hst rfl rfl
theorem s_0_739 {a : Nat} : wp V (cdT Ev) mx d 0 739 [l0, l1, some (.ref a), l3] st h Q = wp V (cdT Ev) mx d 0 740 [l0, l1, some (.ref a), l3] (.ref a :: st) h Q := x_aload (len := 1) rfl rfl
theorem s_0_739_n : wp V (cdT Ev) mx d 0 739 [l0, l1, some .null, l3] st h Q = wp V (cdT Ev) mx d 0 740 [l0, l1, some .null, l3] (.null :: st) h Q := x_aloadN (len := 1) rfl rfl
theorem s_0_740 {a : Nat} : wp V (cdT Ev) mx d 0 740 [some (.ref a), l1, l2, l3] st h Q = wp V (cdT Ev) mx d 0 741 [some (.ref a), l1, l2, l3] (.ref a :: st) h Q := x_aload (len := 1) rfl rfl
theorem s_0_740_n : wp V (cdT Ev) mx d 0 740 [some .null, l1, l2, l3] st h Q = wp V (cdT Ev) mx d 0 741 [some .null, l1, l2, l3] (.null :: st) h Q := x_aloadN (len := 1) rfl rfl
theorem s_0_741 {x : Int32} : wp V (cdT Ev) mx d 0 741 [l0, l1, l2, some (.int x)] st h Q = wp V (cdT Ev) mx d 0 742 [l0, l1, l2, some (.int x)] (.int x :: st) h Q := x_iload (len := 1) rfl rfl
theorem s_0_742 : wp V (cdT Ev) mx d 0 742 ls st h Q = wp V (cdT Ev) mx d 0 743 ls ((.int (1)) :: st) h Q := x_push (v := (.int (1))) (len := 1) rfl
theorem s_0_743 {x z : Int32} : wp V (cdT Ev) mx d 0 743 ls (.int z :: .int x :: st) h Q = wp V (cdT Ev) mx d 0 744 ls (.int (x + z) :: st) h Q := x_ib (f := fun x z => x + z) rfl
theorem s_0_744 {i : Int32} {a : Nat} : wp V (cdT Ev) mx d 0 744 ls (.int i :: .ref a :: st) h Q = ai 2 i V h a (fun x => wp V (cdT Ev) mx d 0 745 ls (.int x :: st) h Q) := x_iald rfl
theorem s_0_745 {a : Nat} : wp V (cdT Ev) mx d 0 745 [some (.ref a), l1, l2, l3] st h Q = wp V (cdT Ev) mx d 0 746 [some (.ref a), l1, l2, l3] (.ref a :: st) h Q := x_aload (len := 1) rfl rfl
theorem s_0_745_n : wp V (cdT Ev) mx d 0 745 [some .null, l1, l2, l3] st h Q = wp V (cdT Ev) mx d 0 746 [some .null, l1, l2, l3] (.null :: st) h Q := x_aloadN (len := 1) rfl rfl
theorem s_0_746 {x : Int32} : wp V (cdT Ev) mx d 0 746 [l0, l1, l2, some (.int x)] st h Q = wp V (cdT Ev) mx d 0 747 [l0, l1, l2, some (.int x)] (.int x :: st) h Q := x_iload (len := 1) rfl rfl
theorem s_0_747 : wp V (cdT Ev) mx d 0 747 ls st h Q = wp V (cdT Ev) mx d 0 748 ls ((.int (2)) :: st) h Q := x_push (v := (.int (2))) (len := 1) rfl
theorem s_0_748 {x z : Int32} : wp V (cdT Ev) mx d 0 748 ls (.int z :: .int x :: st) h Q = wp V (cdT Ev) mx d 0 749 ls (.int (x + z) :: st) h Q := x_ib (f := fun x z => x + z) rfl
theorem s_0_749 {i : Int32} {a : Nat} : wp V (cdT Ev) mx d 0 749 ls (.int i :: .ref a :: st) h Q = ai 2 i V h a (fun x => wp V (cdT Ev) mx d 0 750 ls (.int x :: st) h Q) := x_iald rfl
theorem s_0_750 {b : Nat} {v0 v1 : Value} (hst : st.length ≤ 4) : wp V (cdT Ev) mx d 0 750 ls (v1 :: v0 :: .ref b :: st) h Q = cv [(12, 178)] h b (fun y' => WP V (cdT Ev) mx d y' [.ref b, v0, v1] h (fun r h' => wp V (cdT Ev) mx d 0 753 ls (rts r st) h' Q)) := x_cv (sg := [v1, v0]) rfl hst rfl rfl
theorem s_0_753 {x z : Int32} : wp V (cdT Ev) mx d 0 753 ls (.int z :: .int x :: st) h Q = (if x = z then wp V (cdT Ev) mx d 0 1221 ls st h Q else wp V (cdT Ev) mx d 0 756 ls st h Q) := x_if2 (c := fun x z => x = z) rfl
theorem s_0_756 : wp V (cdT Ev) mx d 0 756 ls st h Q = wp V (cdT Ev) mx d 0 757 ls ((.int (0)) :: st) h Q := x_push (v := (.int (0))) (len := 1) rfl
theorem s_0_757 {x : Int32} (hx : okr 1 (.int x) = true) : wp V (cdT Ev) mx d 0 757 ls [.int x] h Q = Q (some (.int x)) h := x_ret rfl hx
theorem s_0_758 {a : Nat} : wp V (cdT Ev) mx d 0 758 [l0, some (.ref a), l2, l3] st h Q = wp V (cdT Ev) mx d 0 759 [l0, some (.ref a), l2, l3] (.ref a :: st) h Q := x_aload (len := 1) rfl rfl
theorem s_0_758_n : wp V (cdT Ev) mx d 0 758 [l0, some .null, l2, l3] st h Q = wp V (cdT Ev) mx d 0 759 [l0, some .null, l2, l3] (.null :: st) h Q := x_aloadN (len := 1) rfl rfl
theorem s_0_759 {a : Nat} : wp V (cdT Ev) mx d 0 759 [some (.ref a), l1, l2, l3] st h Q = wp V (cdT Ev) mx d 0 760 [some (.ref a), l1, l2, l3] (.ref a :: st) h Q := x_aload (len := 1) rfl rfl
theorem s_0_759_n : wp V (cdT Ev) mx d 0 759 [some .null, l1, l2, l3] st h Q = wp V (cdT Ev) mx d 0 760 [some .null, l1, l2, l3] (.null :: st) h Q := x_aloadN (len := 1) rfl rfl
theorem s_0_760 {x : Int32} : wp V (cdT Ev) mx d 0 760 [l0, l1, l2, some (.int x)] st h Q = wp V (cdT Ev) mx d 0 761 [l0, l1, l2, some (.int x)] (.int x :: st) h Q := x_iload (len := 1) rfl rfl
theorem s_0_761 : wp V (cdT Ev) mx d 0 761 ls st h Q = wp V (cdT Ev) mx d 0 762 ls ((.int (1)) :: st) h Q := x_push (v := (.int (1))) (len := 1) rfl
theorem s_0_762 {x z : Int32} : wp V (cdT Ev) mx d 0 762 ls (.int z :: .int x :: st) h Q = wp V (cdT Ev) mx d 0 763 ls (.int (x + z) :: st) h Q := x_ib (f := fun x z => x + z) rfl
theorem s_0_763 {i : Int32} {a : Nat} : wp V (cdT Ev) mx d 0 763 ls (.int i :: .ref a :: st) h Q = ai 2 i V h a (fun x => wp V (cdT Ev) mx d 0 764 ls (.int x :: st) h Q) := x_iald rfl
theorem s_0_764 {b : Nat} {v0 : Value} (hst : st.length ≤ 4) : wp V (cdT Ev) mx d 0 764 ls (v0 :: .ref b :: st) h Q = cv [(11, 87)] h b (fun y' => WP V (cdT Ev) mx d y' [.ref b, v0] h (fun r h' => wp V (cdT Ev) mx d 0 767 ls (rts r st) h' Q)) := x_cv (sg := [v0]) rfl hst rfl rfl
theorem s_0_767 {a : Nat} : wp V (cdT Ev) mx d 0 767 [l0, l1, some (.ref a), l3] st h Q = wp V (cdT Ev) mx d 0 768 [l0, l1, some (.ref a), l3] (.ref a :: st) h Q := x_aload (len := 1) rfl rfl
theorem s_0_767_n : wp V (cdT Ev) mx d 0 767 [l0, l1, some .null, l3] st h Q = wp V (cdT Ev) mx d 0 768 [l0, l1, some .null, l3] (.null :: st) h Q := x_aloadN (len := 1) rfl rfl
theorem s_0_768 {a : Nat} : wp V (cdT Ev) mx d 0 768 [some (.ref a), l1, l2, l3] st h Q = wp V (cdT Ev) mx d 0 769 [some (.ref a), l1, l2, l3] (.ref a :: st) h Q := x_aload (len := 1) rfl rfl
theorem s_0_768_n : wp V (cdT Ev) mx d 0 768 [some .null, l1, l2, l3] st h Q = wp V (cdT Ev) mx d 0 769 [some .null, l1, l2, l3] (.null :: st) h Q := x_aloadN (len := 1) rfl rfl
theorem s_0_769 {x : Int32} : wp V (cdT Ev) mx d 0 769 [l0, l1, l2, some (.int x)] st h Q = wp V (cdT Ev) mx d 0 770 [l0, l1, l2, some (.int x)] (.int x :: st) h Q := x_iload (len := 1) rfl rfl
theorem s_0_770 : wp V (cdT Ev) mx d 0 770 ls st h Q = wp V (cdT Ev) mx d 0 771 ls ((.int (1)) :: st) h Q := x_push (v := (.int (1))) (len := 1) rfl
theorem s_0_771 {x z : Int32} : wp V (cdT Ev) mx d 0 771 ls (.int z :: .int x :: st) h Q = wp V (cdT Ev) mx d 0 772 ls (.int (x + z) :: st) h Q := x_ib (f := fun x z => x + z) rfl
theorem s_0_772 {i : Int32} {a : Nat} : wp V (cdT Ev) mx d 0 772 ls (.int i :: .ref a :: st) h Q = ai 2 i V h a (fun x => wp V (cdT Ev) mx d 0 773 ls (.int x :: st) h Q) := x_iald rfl
theorem s_0_773 {b : Nat} {v0 : Value} (hst : st.length ≤ 4) : wp V (cdT Ev) mx d 0 773 ls (v0 :: .ref b :: st) h Q = cv [(12, 179)] h b (fun y' => WP V (cdT Ev) mx d y' [.ref b, v0] h (fun r h' => wp V (cdT Ev) mx d 0 776 ls (rts r st) h' Q)) := x_cv (sg := [v0]) rfl hst rfl rfl
theorem s_0_776 {x z : Int32} : wp V (cdT Ev) mx d 0 776 ls (.int z :: .int x :: st) h Q = (if x = z then wp V (cdT Ev) mx d 0 1221 ls st h Q else wp V (cdT Ev) mx d 0 779 ls st h Q) := x_if2 (c := fun x z => x = z) rfl
theorem s_0_779 : wp V (cdT Ev) mx d 0 779 ls st h Q = wp V (cdT Ev) mx d 0 780 ls ((.int (0)) :: st) h Q := x_push (v := (.int (0))) (len := 1) rfl
theorem s_0_780 {x : Int32} (hx : okr 1 (.int x) = true) : wp V (cdT Ev) mx d 0 780 ls [.int x] h Q = Q (some (.int x)) h := x_ret rfl hx
theorem s_0_781 {a : Nat} : wp V (cdT Ev) mx d 0 781 [l0, some (.ref a), l2, l3] st h Q = wp V (cdT Ev) mx d 0 782 [l0, some (.ref a), l2, l3] (.ref a :: st) h Q := x_aload (len := 1) rfl rfl
theorem s_0_781_n : wp V (cdT Ev) mx d 0 781 [l0, some .null, l2, l3] st h Q = wp V (cdT Ev) mx d 0 782 [l0, some .null, l2, l3] (.null :: st) h Q := x_aloadN (len := 1) rfl rfl
theorem s_0_782 {a : Nat} : wp V (cdT Ev) mx d 0 782 [some (.ref a), l1, l2, l3] st h Q = wp V (cdT Ev) mx d 0 783 [some (.ref a), l1, l2, l3] (.ref a :: st) h Q := x_aload (len := 1) rfl rfl
theorem s_0_782_n : wp V (cdT Ev) mx d 0 782 [some .null, l1, l2, l3] st h Q = wp V (cdT Ev) mx d 0 783 [some .null, l1, l2, l3] (.null :: st) h Q := x_aloadN (len := 1) rfl rfl
theorem s_0_783 {x : Int32} : wp V (cdT Ev) mx d 0 783 [l0, l1, l2, some (.int x)] st h Q = wp V (cdT Ev) mx d 0 784 [l0, l1, l2, some (.int x)] (.int x :: st) h Q := x_iload (len := 1) rfl rfl
theorem s_0_784 : wp V (cdT Ev) mx d 0 784 ls st h Q = wp V (cdT Ev) mx d 0 785 ls ((.int (1)) :: st) h Q := x_push (v := (.int (1))) (len := 1) rfl
theorem s_0_785 {x z : Int32} : wp V (cdT Ev) mx d 0 785 ls (.int z :: .int x :: st) h Q = wp V (cdT Ev) mx d 0 786 ls (.int (x + z) :: st) h Q := x_ib (f := fun x z => x + z) rfl
theorem s_0_786 {i : Int32} {a : Nat} : wp V (cdT Ev) mx d 0 786 ls (.int i :: .ref a :: st) h Q = ai 2 i V h a (fun x => wp V (cdT Ev) mx d 0 787 ls (.int x :: st) h Q) := x_iald rfl
theorem s_0_787 {a : Nat} : wp V (cdT Ev) mx d 0 787 [some (.ref a), l1, l2, l3] st h Q = wp V (cdT Ev) mx d 0 788 [some (.ref a), l1, l2, l3] (.ref a :: st) h Q := x_aload (len := 1) rfl rfl
theorem s_0_787_n : wp V (cdT Ev) mx d 0 787 [some .null, l1, l2, l3] st h Q = wp V (cdT Ev) mx d 0 788 [some .null, l1, l2, l3] (.null :: st) h Q := x_aloadN (len := 1) rfl rfl
theorem s_0_788 {x : Int32} : wp V (cdT Ev) mx d 0 788 [l0, l1, l2, some (.int x)] st h Q = wp V (cdT Ev) mx d 0 789 [l0, l1, l2, some (.int x)] (.int x :: st) h Q := x_iload (len := 1) rfl rfl
theorem s_0_789 : wp V (cdT Ev) mx d 0 789 ls st h Q = wp V (cdT Ev) mx d 0 790 ls ((.int (2)) :: st) h Q := x_push (v := (.int (2))) (len := 1) rfl
theorem s_0_790 {x z : Int32} : wp V (cdT Ev) mx d 0 790 ls (.int z :: .int x :: st) h Q = wp V (cdT Ev) mx d 0 791 ls (.int (x + z) :: st) h Q := x_ib (f := fun x z => x + z) rfl
theorem s_0_791 {i : Int32} {a : Nat} : wp V (cdT Ev) mx d 0 791 ls (.int i :: .ref a :: st) h Q = ai 2 i V h a (fun x => wp V (cdT Ev) mx d 0 792 ls (.int x :: st) h Q) := x_iald rfl
theorem s_0_792 {b : Nat} {v0 v1 : Value} (hst : st.length ≤ 4) : wp V (cdT Ev) mx d 0 792 ls (v1 :: v0 :: .ref b :: st) h Q = cv [(11, 88)] h b (fun y' => WP V (cdT Ev) mx d y' [.ref b, v0, v1] h (fun r h' => wp V (cdT Ev) mx d 0 795 ls (rts r st) h' Q)) := x_cv (sg := [v1, v0]) rfl hst rfl rfl
theorem s_0_795 {a : Nat} : wp V (cdT Ev) mx d 0 795 [l0, l1, some (.ref a), l3] st h Q = wp V (cdT Ev) mx d 0 796 [l0, l1, some (.ref a), l3] (.ref a :: st) h Q := x_aload (len := 1) rfl rfl
theorem s_0_795_n : wp V (cdT Ev) mx d 0 795 [l0, l1, some .null, l3] st h Q = wp V (cdT Ev) mx d 0 796 [l0, l1, some .null, l3] (.null :: st) h Q := x_aloadN (len := 1) rfl rfl
theorem s_0_796 {a : Nat} : wp V (cdT Ev) mx d 0 796 [some (.ref a), l1, l2, l3] st h Q = wp V (cdT Ev) mx d 0 797 [some (.ref a), l1, l2, l3] (.ref a :: st) h Q := x_aload (len := 1) rfl rfl
theorem s_0_796_n : wp V (cdT Ev) mx d 0 796 [some .null, l1, l2, l3] st h Q = wp V (cdT Ev) mx d 0 797 [some .null, l1, l2, l3] (.null :: st) h Q := x_aloadN (len := 1) rfl rfl
theorem s_0_797 {x : Int32} : wp V (cdT Ev) mx d 0 797 [l0, l1, l2, some (.int x)] st h Q = wp V (cdT Ev) mx d 0 798 [l0, l1, l2, some (.int x)] (.int x :: st) h Q := x_iload (len := 1) rfl rfl
theorem s_0_798 : wp V (cdT Ev) mx d 0 798 ls st h Q = wp V (cdT Ev) mx d 0 799 ls ((.int (1)) :: st) h Q := x_push (v := (.int (1))) (len := 1) rfl
theorem s_0_799 {x z : Int32} : wp V (cdT Ev) mx d 0 799 ls (.int z :: .int x :: st) h Q = wp V (cdT Ev) mx d 0 800 ls (.int (x + z) :: st) h Q := x_ib (f := fun x z => x + z) rfl
theorem s_0_800 {i : Int32} {a : Nat} : wp V (cdT Ev) mx d 0 800 ls (.int i :: .ref a :: st) h Q = ai 2 i V h a (fun x => wp V (cdT Ev) mx d 0 801 ls (.int x :: st) h Q) := x_iald rfl
theorem s_0_801 {a : Nat} : wp V (cdT Ev) mx d 0 801 [some (.ref a), l1, l2, l3] st h Q = wp V (cdT Ev) mx d 0 802 [some (.ref a), l1, l2, l3] (.ref a :: st) h Q := x_aload (len := 1) rfl rfl
theorem s_0_801_n : wp V (cdT Ev) mx d 0 801 [some .null, l1, l2, l3] st h Q = wp V (cdT Ev) mx d 0 802 [some .null, l1, l2, l3] (.null :: st) h Q := x_aloadN (len := 1) rfl rfl
theorem s_0_802 {x : Int32} : wp V (cdT Ev) mx d 0 802 [l0, l1, l2, some (.int x)] st h Q = wp V (cdT Ev) mx d 0 803 [l0, l1, l2, some (.int x)] (.int x :: st) h Q := x_iload (len := 1) rfl rfl
theorem s_0_803 : wp V (cdT Ev) mx d 0 803 ls st h Q = wp V (cdT Ev) mx d 0 804 ls ((.int (2)) :: st) h Q := x_push (v := (.int (2))) (len := 1) rfl
theorem s_0_804 {x z : Int32} : wp V (cdT Ev) mx d 0 804 ls (.int z :: .int x :: st) h Q = wp V (cdT Ev) mx d 0 805 ls (.int (x + z) :: st) h Q := x_ib (f := fun x z => x + z) rfl
theorem s_0_805 {i : Int32} {a : Nat} : wp V (cdT Ev) mx d 0 805 ls (.int i :: .ref a :: st) h Q = ai 2 i V h a (fun x => wp V (cdT Ev) mx d 0 806 ls (.int x :: st) h Q) := x_iald rfl
theorem s_0_806 {b : Nat} {v0 v1 : Value} (hst : st.length ≤ 4) : wp V (cdT Ev) mx d 0 806 ls (v1 :: v0 :: .ref b :: st) h Q = cv [(12, 180)] h b (fun y' => WP V (cdT Ev) mx d y' [.ref b, v0, v1] h (fun r h' => wp V (cdT Ev) mx d 0 809 ls (rts r st) h' Q)) := x_cv (sg := [v1, v0]) rfl hst rfl rfl
theorem s_0_809 {x z : Int32} : wp V (cdT Ev) mx d 0 809 ls (.int z :: .int x :: st) h Q = (if x = z then wp V (cdT Ev) mx d 0 1221 ls st h Q else wp V (cdT Ev) mx d 0 812 ls st h Q) := x_if2 (c := fun x z => x = z) rfl
theorem s_0_812 : wp V (cdT Ev) mx d 0 812 ls st h Q = wp V (cdT Ev) mx d 0 813 ls ((.int (0)) :: st) h Q := x_push (v := (.int (0))) (len := 1) rfl
theorem s_0_813 {x : Int32} (hx : okr 1 (.int x) = true) : wp V (cdT Ev) mx d 0 813 ls [.int x] h Q = Q (some (.int x)) h := x_ret rfl hx
theorem s_0_814 {a : Nat} : wp V (cdT Ev) mx d 0 814 [l0, some (.ref a), l2, l3] st h Q = wp V (cdT Ev) mx d 0 815 [l0, some (.ref a), l2, l3] (.ref a :: st) h Q := x_aload (len := 1) rfl rfl
theorem s_0_814_n : wp V (cdT Ev) mx d 0 814 [l0, some .null, l2, l3] st h Q = wp V (cdT Ev) mx d 0 815 [l0, some .null, l2, l3] (.null :: st) h Q := x_aloadN (len := 1) rfl rfl
theorem s_0_815 {b : Nat} (hst : st.length ≤ 4) : wp V (cdT Ev) mx d 0 815 ls (.ref b :: st) h Q = cv [(11, 89)] h b (fun y' => WP V (cdT Ev) mx d y' [.ref b] h (fun r h' => wp V (cdT Ev) mx d 0 818 ls (rts r st) h' Q)) := x_cv (sg := []) rfl hst rfl rfl
theorem s_0_818 {a : Nat} : wp V (cdT Ev) mx d 0 818 [l0, l1, some (.ref a), l3] st h Q = wp V (cdT Ev) mx d 0 819 [l0, l1, some (.ref a), l3] (.ref a :: st) h Q := x_aload (len := 1) rfl rfl
theorem s_0_818_n : wp V (cdT Ev) mx d 0 818 [l0, l1, some .null, l3] st h Q = wp V (cdT Ev) mx d 0 819 [l0, l1, some .null, l3] (.null :: st) h Q := x_aloadN (len := 1) rfl rfl
theorem s_0_819 {b : Nat} (hst : st.length ≤ 4) : wp V (cdT Ev) mx d 0 819 ls (.ref b :: st) h Q = cv [(12, 181)] h b (fun y' => WP V (cdT Ev) mx d y' [.ref b] h (fun r h' => wp V (cdT Ev) mx d 0 822 ls (rts r st) h' Q)) := x_cv (sg := []) rfl hst rfl rfl
theorem s_0_822 {x z : Int32} : wp V (cdT Ev) mx d 0 822 ls (.int z :: .int x :: st) h Q = (if x = z then wp V (cdT Ev) mx d 0 1221 ls st h Q else wp V (cdT Ev) mx d 0 825 ls st h Q) := x_if2 (c := fun x z => x = z) rfl
theorem s_0_825 : wp V (cdT Ev) mx d 0 825 ls st h Q = wp V (cdT Ev) mx d 0 826 ls ((.int (0)) :: st) h Q := x_push (v := (.int (0))) (len := 1) rfl
theorem s_0_826 {x : Int32} (hx : okr 1 (.int x) = true) : wp V (cdT Ev) mx d 0 826 ls [.int x] h Q = Q (some (.int x)) h := x_ret rfl hx
theorem s_0_827 {a : Nat} : wp V (cdT Ev) mx d 0 827 [l0, some (.ref a), l2, l3] st h Q = wp V (cdT Ev) mx d 0 828 [l0, some (.ref a), l2, l3] (.ref a :: st) h Q := x_aload (len := 1) rfl rfl
theorem s_0_827_n : wp V (cdT Ev) mx d 0 827 [l0, some .null, l2, l3] st h Q = wp V (cdT Ev) mx d 0 828 [l0, some .null, l2, l3] (.null :: st) h Q := x_aloadN (len := 1) rfl rfl
theorem s_0_828 {a : Nat} : wp V (cdT Ev) mx d 0 828 [some (.ref a), l1, l2, l3] st h Q = wp V (cdT Ev) mx d 0 829 [some (.ref a), l1, l2, l3] (.ref a :: st) h Q := x_aload (len := 1) rfl rfl
theorem s_0_828_n : wp V (cdT Ev) mx d 0 828 [some .null, l1, l2, l3] st h Q = wp V (cdT Ev) mx d 0 829 [some .null, l1, l2, l3] (.null :: st) h Q := x_aloadN (len := 1) rfl rfl
theorem s_0_829 {x : Int32} : wp V (cdT Ev) mx d 0 829 [l0, l1, l2, some (.int x)] st h Q = wp V (cdT Ev) mx d 0 830 [l0, l1, l2, some (.int x)] (.int x :: st) h Q := x_iload (len := 1) rfl rfl
theorem s_0_830 : wp V (cdT Ev) mx d 0 830 ls st h Q = wp V (cdT Ev) mx d 0 831 ls ((.int (1)) :: st) h Q := x_push (v := (.int (1))) (len := 1) rfl
theorem s_0_831 {x z : Int32} : wp V (cdT Ev) mx d 0 831 ls (.int z :: .int x :: st) h Q = wp V (cdT Ev) mx d 0 832 ls (.int (x + z) :: st) h Q := x_ib (f := fun x z => x + z) rfl
theorem s_0_832 {i : Int32} {a : Nat} : wp V (cdT Ev) mx d 0 832 ls (.int i :: .ref a :: st) h Q = ai 2 i V h a (fun x => wp V (cdT Ev) mx d 0 833 ls (.int x :: st) h Q) := x_iald rfl
theorem s_0_833 {a : Nat} : wp V (cdT Ev) mx d 0 833 [some (.ref a), l1, l2, l3] st h Q = wp V (cdT Ev) mx d 0 834 [some (.ref a), l1, l2, l3] (.ref a :: st) h Q := x_aload (len := 1) rfl rfl
theorem s_0_833_n : wp V (cdT Ev) mx d 0 833 [some .null, l1, l2, l3] st h Q = wp V (cdT Ev) mx d 0 834 [some .null, l1, l2, l3] (.null :: st) h Q := x_aloadN (len := 1) rfl rfl
theorem s_0_834 {x : Int32} : wp V (cdT Ev) mx d 0 834 [l0, l1, l2, some (.int x)] st h Q = wp V (cdT Ev) mx d 0 835 [l0, l1, l2, some (.int x)] (.int x :: st) h Q := x_iload (len := 1) rfl rfl
theorem s_0_835 : wp V (cdT Ev) mx d 0 835 ls st h Q = wp V (cdT Ev) mx d 0 836 ls ((.int (2)) :: st) h Q := x_push (v := (.int (2))) (len := 1) rfl
theorem s_0_836 {x z : Int32} : wp V (cdT Ev) mx d 0 836 ls (.int z :: .int x :: st) h Q = wp V (cdT Ev) mx d 0 837 ls (.int (x + z) :: st) h Q := x_ib (f := fun x z => x + z) rfl
theorem s_0_837 {i : Int32} {a : Nat} : wp V (cdT Ev) mx d 0 837 ls (.int i :: .ref a :: st) h Q = ai 2 i V h a (fun x => wp V (cdT Ev) mx d 0 838 ls (.int x :: st) h Q) := x_iald rfl
theorem s_0_838 {b : Nat} {v0 v1 : Value} (hst : st.length ≤ 4) : wp V (cdT Ev) mx d 0 838 ls (v1 :: v0 :: .ref b :: st) h Q = cv [(11, 90)] h b (fun y' => WP V (cdT Ev) mx d y' [.ref b, v0, v1] h (fun r h' => wp V (cdT Ev) mx d 0 841 ls (rts r st) h' Q)) := x_cv (sg := [v1, v0]) rfl hst rfl rfl
theorem s_0_841 {a : Nat} : wp V (cdT Ev) mx d 0 841 [l0, l1, some (.ref a), l3] st h Q = wp V (cdT Ev) mx d 0 842 [l0, l1, some (.ref a), l3] (.ref a :: st) h Q := x_aload (len := 1) rfl rfl
theorem s_0_841_n : wp V (cdT Ev) mx d 0 841 [l0, l1, some .null, l3] st h Q = wp V (cdT Ev) mx d 0 842 [l0, l1, some .null, l3] (.null :: st) h Q := x_aloadN (len := 1) rfl rfl
theorem s_0_842 {a : Nat} : wp V (cdT Ev) mx d 0 842 [some (.ref a), l1, l2, l3] st h Q = wp V (cdT Ev) mx d 0 843 [some (.ref a), l1, l2, l3] (.ref a :: st) h Q := x_aload (len := 1) rfl rfl
theorem s_0_842_n : wp V (cdT Ev) mx d 0 842 [some .null, l1, l2, l3] st h Q = wp V (cdT Ev) mx d 0 843 [some .null, l1, l2, l3] (.null :: st) h Q := x_aloadN (len := 1) rfl rfl
theorem s_0_843 {x : Int32} : wp V (cdT Ev) mx d 0 843 [l0, l1, l2, some (.int x)] st h Q = wp V (cdT Ev) mx d 0 844 [l0, l1, l2, some (.int x)] (.int x :: st) h Q := x_iload (len := 1) rfl rfl
theorem s_0_844 : wp V (cdT Ev) mx d 0 844 ls st h Q = wp V (cdT Ev) mx d 0 845 ls ((.int (1)) :: st) h Q := x_push (v := (.int (1))) (len := 1) rfl
theorem s_0_845 {x z : Int32} : wp V (cdT Ev) mx d 0 845 ls (.int z :: .int x :: st) h Q = wp V (cdT Ev) mx d 0 846 ls (.int (x + z) :: st) h Q := x_ib (f := fun x z => x + z) rfl
theorem s_0_846 {i : Int32} {a : Nat} : wp V (cdT Ev) mx d 0 846 ls (.int i :: .ref a :: st) h Q = ai 2 i V h a (fun x => wp V (cdT Ev) mx d 0 847 ls (.int x :: st) h Q) := x_iald rfl
theorem s_0_847 {a : Nat} : wp V (cdT Ev) mx d 0 847 [some (.ref a), l1, l2, l3] st h Q = wp V (cdT Ev) mx d 0 848 [some (.ref a), l1, l2, l3] (.ref a :: st) h Q := x_aload (len := 1) rfl rfl
theorem s_0_847_n : wp V (cdT Ev) mx d 0 847 [some .null, l1, l2, l3] st h Q = wp V (cdT Ev) mx d 0 848 [some .null, l1, l2, l3] (.null :: st) h Q := x_aloadN (len := 1) rfl rfl
theorem s_0_848 {x : Int32} : wp V (cdT Ev) mx d 0 848 [l0, l1, l2, some (.int x)] st h Q = wp V (cdT Ev) mx d 0 849 [l0, l1, l2, some (.int x)] (.int x :: st) h Q := x_iload (len := 1) rfl rfl
theorem s_0_849 : wp V (cdT Ev) mx d 0 849 ls st h Q = wp V (cdT Ev) mx d 0 850 ls ((.int (2)) :: st) h Q := x_push (v := (.int (2))) (len := 1) rfl
theorem s_0_850 {x z : Int32} : wp V (cdT Ev) mx d 0 850 ls (.int z :: .int x :: st) h Q = wp V (cdT Ev) mx d 0 851 ls (.int (x + z) :: st) h Q := x_ib (f := fun x z => x + z) rfl
theorem s_0_851 {i : Int32} {a : Nat} : wp V (cdT Ev) mx d 0 851 ls (.int i :: .ref a :: st) h Q = ai 2 i V h a (fun x => wp V (cdT Ev) mx d 0 852 ls (.int x :: st) h Q) := x_iald rfl
theorem s_0_852 {b : Nat} {v0 v1 : Value} (hst : st.length ≤ 4) : wp V (cdT Ev) mx d 0 852 ls (v1 :: v0 :: .ref b :: st) h Q = cv [(12, 194)] h b (fun y' => WP V (cdT Ev) mx d y' [.ref b, v0, v1] h (fun r h' => wp V (cdT Ev) mx d 0 855 ls (rts r st) h' Q)) := x_cv (sg := [v1, v0]) rfl hst rfl rfl
theorem s_0_855 {x z : Int32} : wp V (cdT Ev) mx d 0 855 ls (.int z :: .int x :: st) h Q = (if x = z then wp V (cdT Ev) mx d 0 1221 ls st h Q else wp V (cdT Ev) mx d 0 858 ls st h Q) := x_if2 (c := fun x z => x = z) rfl
theorem s_0_858 : wp V (cdT Ev) mx d 0 858 ls st h Q = wp V (cdT Ev) mx d 0 859 ls ((.int (0)) :: st) h Q := x_push (v := (.int (0))) (len := 1) rfl
theorem s_0_859 {x : Int32} (hx : okr 1 (.int x) = true) : wp V (cdT Ev) mx d 0 859 ls [.int x] h Q = Q (some (.int x)) h := x_ret rfl hx
theorem s_0_860 {a : Nat} : wp V (cdT Ev) mx d 0 860 [l0, some (.ref a), l2, l3] st h Q = wp V (cdT Ev) mx d 0 861 [l0, some (.ref a), l2, l3] (.ref a :: st) h Q := x_aload (len := 1) rfl rfl
theorem s_0_860_n : wp V (cdT Ev) mx d 0 860 [l0, some .null, l2, l3] st h Q = wp V (cdT Ev) mx d 0 861 [l0, some .null, l2, l3] (.null :: st) h Q := x_aloadN (len := 1) rfl rfl
theorem s_0_861 {b : Nat} (hst : st.length ≤ 4) : wp V (cdT Ev) mx d 0 861 ls (.ref b :: st) h Q = cv [(11, 91)] h b (fun y' => WP V (cdT Ev) mx d y' [.ref b] h (fun r h' => wp V (cdT Ev) mx d 0 864 ls (rts r st) h' Q)) := x_cv (sg := []) rfl hst rfl rfl
theorem s_0_864 {a : Nat} : wp V (cdT Ev) mx d 0 864 [l0, l1, some (.ref a), l3] st h Q = wp V (cdT Ev) mx d 0 865 [l0, l1, some (.ref a), l3] (.ref a :: st) h Q := x_aload (len := 1) rfl rfl
theorem s_0_864_n : wp V (cdT Ev) mx d 0 864 [l0, l1, some .null, l3] st h Q = wp V (cdT Ev) mx d 0 865 [l0, l1, some .null, l3] (.null :: st) h Q := x_aloadN (len := 1) rfl rfl
theorem s_0_865 {b : Nat} (hst : st.length ≤ 4) : wp V (cdT Ev) mx d 0 865 ls (.ref b :: st) h Q = cv [(12, 126)] h b (fun y' => WP V (cdT Ev) mx d y' [.ref b] h (fun r h' => wp V (cdT Ev) mx d 0 868 ls (rts r st) h' Q)) := x_cv (sg := []) rfl hst rfl rfl
theorem s_0_868 {x z : Int32} : wp V (cdT Ev) mx d 0 868 ls (.int z :: .int x :: st) h Q = (if x = z then wp V (cdT Ev) mx d 0 1221 ls st h Q else wp V (cdT Ev) mx d 0 871 ls st h Q) := x_if2 (c := fun x z => x = z) rfl
theorem s_0_871 : wp V (cdT Ev) mx d 0 871 ls st h Q = wp V (cdT Ev) mx d 0 872 ls ((.int (0)) :: st) h Q := x_push (v := (.int (0))) (len := 1) rfl
theorem s_0_872 {x : Int32} (hx : okr 1 (.int x) = true) : wp V (cdT Ev) mx d 0 872 ls [.int x] h Q = Q (some (.int x)) h := x_ret rfl hx
theorem s_0_873 {a : Nat} : wp V (cdT Ev) mx d 0 873 [l0, some (.ref a), l2, l3] st h Q = wp V (cdT Ev) mx d 0 874 [l0, some (.ref a), l2, l3] (.ref a :: st) h Q := x_aload (len := 1) rfl rfl
theorem s_0_873_n : wp V (cdT Ev) mx d 0 873 [l0, some .null, l2, l3] st h Q = wp V (cdT Ev) mx d 0 874 [l0, some .null, l2, l3] (.null :: st) h Q := x_aloadN (len := 1) rfl rfl
theorem s_0_874 {b : Nat} (hst : st.length ≤ 4) : wp V (cdT Ev) mx d 0 874 ls (.ref b :: st) h Q = cv [(11, 92)] h b (fun y' => WP V (cdT Ev) mx d y' [.ref b] h (fun r h' => wp V (cdT Ev) mx d 0 877 ls (rts r st) h' Q)) := x_cv (sg := []) rfl hst rfl rfl
theorem s_0_877 {a : Nat} : wp V (cdT Ev) mx d 0 877 [l0, l1, some (.ref a), l3] st h Q = wp V (cdT Ev) mx d 0 878 [l0, l1, some (.ref a), l3] (.ref a :: st) h Q := x_aload (len := 1) rfl rfl
theorem s_0_877_n : wp V (cdT Ev) mx d 0 877 [l0, l1, some .null, l3] st h Q = wp V (cdT Ev) mx d 0 878 [l0, l1, some .null, l3] (.null :: st) h Q := x_aloadN (len := 1) rfl rfl
theorem s_0_878 {b : Nat} (hst : st.length ≤ 4) : wp V (cdT Ev) mx d 0 878 ls (.ref b :: st) h Q = cv [(12, 127)] h b (fun y' => WP V (cdT Ev) mx d y' [.ref b] h (fun r h' => wp V (cdT Ev) mx d 0 881 ls (rts r st) h' Q)) := x_cv (sg := []) rfl hst rfl rfl
theorem s_0_881 {x z : Int32} : wp V (cdT Ev) mx d 0 881 ls (.int z :: .int x :: st) h Q = (if x = z then wp V (cdT Ev) mx d 0 1221 ls st h Q else wp V (cdT Ev) mx d 0 884 ls st h Q) := x_if2 (c := fun x z => x = z) rfl
theorem s_0_884 : wp V (cdT Ev) mx d 0 884 ls st h Q = wp V (cdT Ev) mx d 0 885 ls ((.int (0)) :: st) h Q := x_push (v := (.int (0))) (len := 1) rfl
theorem s_0_885 {x : Int32} (hx : okr 1 (.int x) = true) : wp V (cdT Ev) mx d 0 885 ls [.int x] h Q = Q (some (.int x)) h := x_ret rfl hx
theorem s_0_886 {a : Nat} : wp V (cdT Ev) mx d 0 886 [l0, some (.ref a), l2, l3] st h Q = wp V (cdT Ev) mx d 0 887 [l0, some (.ref a), l2, l3] (.ref a :: st) h Q := x_aload (len := 1) rfl rfl
theorem s_0_886_n : wp V (cdT Ev) mx d 0 886 [l0, some .null, l2, l3] st h Q = wp V (cdT Ev) mx d 0 887 [l0, some .null, l2, l3] (.null :: st) h Q := x_aloadN (len := 1) rfl rfl
theorem s_0_887 {a : Nat} : wp V (cdT Ev) mx d 0 887 [some (.ref a), l1, l2, l3] st h Q = wp V (cdT Ev) mx d 0 888 [some (.ref a), l1, l2, l3] (.ref a :: st) h Q := x_aload (len := 1) rfl rfl
theorem s_0_887_n : wp V (cdT Ev) mx d 0 887 [some .null, l1, l2, l3] st h Q = wp V (cdT Ev) mx d 0 888 [some .null, l1, l2, l3] (.null :: st) h Q := x_aloadN (len := 1) rfl rfl
theorem s_0_888 {x : Int32} : wp V (cdT Ev) mx d 0 888 [l0, l1, l2, some (.int x)] st h Q = wp V (cdT Ev) mx d 0 889 [l0, l1, l2, some (.int x)] (.int x :: st) h Q := x_iload (len := 1) rfl rfl
theorem s_0_889 : wp V (cdT Ev) mx d 0 889 ls st h Q = wp V (cdT Ev) mx d 0 890 ls ((.int (1)) :: st) h Q := x_push (v := (.int (1))) (len := 1) rfl
theorem s_0_890 {x z : Int32} : wp V (cdT Ev) mx d 0 890 ls (.int z :: .int x :: st) h Q = wp V (cdT Ev) mx d 0 891 ls (.int (x + z) :: st) h Q := x_ib (f := fun x z => x + z) rfl
theorem s_0_891 {i : Int32} {a : Nat} : wp V (cdT Ev) mx d 0 891 ls (.int i :: .ref a :: st) h Q = ai 2 i V h a (fun x => wp V (cdT Ev) mx d 0 892 ls (.int x :: st) h Q) := x_iald rfl
theorem s_0_892 {a : Nat} : wp V (cdT Ev) mx d 0 892 [some (.ref a), l1, l2, l3] st h Q = wp V (cdT Ev) mx d 0 893 [some (.ref a), l1, l2, l3] (.ref a :: st) h Q := x_aload (len := 1) rfl rfl
theorem s_0_892_n : wp V (cdT Ev) mx d 0 892 [some .null, l1, l2, l3] st h Q = wp V (cdT Ev) mx d 0 893 [some .null, l1, l2, l3] (.null :: st) h Q := x_aloadN (len := 1) rfl rfl
theorem s_0_893 {x : Int32} : wp V (cdT Ev) mx d 0 893 [l0, l1, l2, some (.int x)] st h Q = wp V (cdT Ev) mx d 0 894 [l0, l1, l2, some (.int x)] (.int x :: st) h Q := x_iload (len := 1) rfl rfl
theorem s_0_894 : wp V (cdT Ev) mx d 0 894 ls st h Q = wp V (cdT Ev) mx d 0 895 ls ((.int (2)) :: st) h Q := x_push (v := (.int (2))) (len := 1) rfl
theorem s_0_895 {x z : Int32} : wp V (cdT Ev) mx d 0 895 ls (.int z :: .int x :: st) h Q = wp V (cdT Ev) mx d 0 896 ls (.int (x + z) :: st) h Q := x_ib (f := fun x z => x + z) rfl
theorem s_0_896 {i : Int32} {a : Nat} : wp V (cdT Ev) mx d 0 896 ls (.int i :: .ref a :: st) h Q = ai 2 i V h a (fun x => wp V (cdT Ev) mx d 0 897 ls (.int x :: st) h Q) := x_iald rfl
theorem s_0_897 {a : Nat} : wp V (cdT Ev) mx d 0 897 [some (.ref a), l1, l2, l3] st h Q = wp V (cdT Ev) mx d 0 898 [some (.ref a), l1, l2, l3] (.ref a :: st) h Q := x_aload (len := 1) rfl rfl
theorem s_0_897_n : wp V (cdT Ev) mx d 0 897 [some .null, l1, l2, l3] st h Q = wp V (cdT Ev) mx d 0 898 [some .null, l1, l2, l3] (.null :: st) h Q := x_aloadN (len := 1) rfl rfl
theorem s_0_898 {x : Int32} : wp V (cdT Ev) mx d 0 898 [l0, l1, l2, some (.int x)] st h Q = wp V (cdT Ev) mx d 0 899 [l0, l1, l2, some (.int x)] (.int x :: st) h Q := x_iload (len := 1) rfl rfl
theorem s_0_899 : wp V (cdT Ev) mx d 0 899 ls st h Q = wp V (cdT Ev) mx d 0 900 ls ((.int (3)) :: st) h Q := x_push (v := (.int (3))) (len := 1) rfl
theorem s_0_900 {x z : Int32} : wp V (cdT Ev) mx d 0 900 ls (.int z :: .int x :: st) h Q = wp V (cdT Ev) mx d 0 901 ls (.int (x + z) :: st) h Q := x_ib (f := fun x z => x + z) rfl
theorem s_0_901 {i : Int32} {a : Nat} : wp V (cdT Ev) mx d 0 901 ls (.int i :: .ref a :: st) h Q = ai 2 i V h a (fun x => wp V (cdT Ev) mx d 0 902 ls (.int x :: st) h Q) := x_iald rfl
theorem s_0_902 {b : Nat} {v0 v1 v2 : Value} (hst : st.length ≤ 4) : wp V (cdT Ev) mx d 0 902 ls (v2 :: v1 :: v0 :: .ref b :: st) h Q = cv [(11, 93)] h b (fun y' => WP V (cdT Ev) mx d y' [.ref b, v0, v1, v2] h (fun r h' => wp V (cdT Ev) mx d 0 905 ls (rts r st) h' Q)) := x_cv (sg := [v2, v1, v0]) rfl hst rfl rfl
theorem s_0_905 {a : Nat} : wp V (cdT Ev) mx d 0 905 [l0, l1, some (.ref a), l3] st h Q = wp V (cdT Ev) mx d 0 906 [l0, l1, some (.ref a), l3] (.ref a :: st) h Q := x_aload (len := 1) rfl rfl
theorem s_0_905_n : wp V (cdT Ev) mx d 0 905 [l0, l1, some .null, l3] st h Q = wp V (cdT Ev) mx d 0 906 [l0, l1, some .null, l3] (.null :: st) h Q := x_aloadN (len := 1) rfl rfl
theorem s_0_906 {a : Nat} : wp V (cdT Ev) mx d 0 906 [some (.ref a), l1, l2, l3] st h Q = wp V (cdT Ev) mx d 0 907 [some (.ref a), l1, l2, l3] (.ref a :: st) h Q := x_aload (len := 1) rfl rfl
theorem s_0_906_n : wp V (cdT Ev) mx d 0 906 [some .null, l1, l2, l3] st h Q = wp V (cdT Ev) mx d 0 907 [some .null, l1, l2, l3] (.null :: st) h Q := x_aloadN (len := 1) rfl rfl
theorem s_0_907 {x : Int32} : wp V (cdT Ev) mx d 0 907 [l0, l1, l2, some (.int x)] st h Q = wp V (cdT Ev) mx d 0 908 [l0, l1, l2, some (.int x)] (.int x :: st) h Q := x_iload (len := 1) rfl rfl
theorem s_0_908 : wp V (cdT Ev) mx d 0 908 ls st h Q = wp V (cdT Ev) mx d 0 909 ls ((.int (1)) :: st) h Q := x_push (v := (.int (1))) (len := 1) rfl
theorem s_0_909 {x z : Int32} : wp V (cdT Ev) mx d 0 909 ls (.int z :: .int x :: st) h Q = wp V (cdT Ev) mx d 0 910 ls (.int (x + z) :: st) h Q := x_ib (f := fun x z => x + z) rfl
theorem s_0_910 {i : Int32} {a : Nat} : wp V (cdT Ev) mx d 0 910 ls (.int i :: .ref a :: st) h Q = ai 2 i V h a (fun x => wp V (cdT Ev) mx d 0 911 ls (.int x :: st) h Q) := x_iald rfl
theorem s_0_911 {a : Nat} : wp V (cdT Ev) mx d 0 911 [some (.ref a), l1, l2, l3] st h Q = wp V (cdT Ev) mx d 0 912 [some (.ref a), l1, l2, l3] (.ref a :: st) h Q := x_aload (len := 1) rfl rfl
theorem s_0_911_n : wp V (cdT Ev) mx d 0 911 [some .null, l1, l2, l3] st h Q = wp V (cdT Ev) mx d 0 912 [some .null, l1, l2, l3] (.null :: st) h Q := x_aloadN (len := 1) rfl rfl
theorem s_0_912 {x : Int32} : wp V (cdT Ev) mx d 0 912 [l0, l1, l2, some (.int x)] st h Q = wp V (cdT Ev) mx d 0 913 [l0, l1, l2, some (.int x)] (.int x :: st) h Q := x_iload (len := 1) rfl rfl
theorem s_0_913 : wp V (cdT Ev) mx d 0 913 ls st h Q = wp V (cdT Ev) mx d 0 914 ls ((.int (2)) :: st) h Q := x_push (v := (.int (2))) (len := 1) rfl
theorem s_0_914 {x z : Int32} : wp V (cdT Ev) mx d 0 914 ls (.int z :: .int x :: st) h Q = wp V (cdT Ev) mx d 0 915 ls (.int (x + z) :: st) h Q := x_ib (f := fun x z => x + z) rfl
theorem s_0_915 {i : Int32} {a : Nat} : wp V (cdT Ev) mx d 0 915 ls (.int i :: .ref a :: st) h Q = ai 2 i V h a (fun x => wp V (cdT Ev) mx d 0 916 ls (.int x :: st) h Q) := x_iald rfl
theorem s_0_916 {a : Nat} : wp V (cdT Ev) mx d 0 916 [some (.ref a), l1, l2, l3] st h Q = wp V (cdT Ev) mx d 0 917 [some (.ref a), l1, l2, l3] (.ref a :: st) h Q := x_aload (len := 1) rfl rfl
theorem s_0_916_n : wp V (cdT Ev) mx d 0 916 [some .null, l1, l2, l3] st h Q = wp V (cdT Ev) mx d 0 917 [some .null, l1, l2, l3] (.null :: st) h Q := x_aloadN (len := 1) rfl rfl
theorem s_0_917 {x : Int32} : wp V (cdT Ev) mx d 0 917 [l0, l1, l2, some (.int x)] st h Q = wp V (cdT Ev) mx d 0 918 [l0, l1, l2, some (.int x)] (.int x :: st) h Q := x_iload (len := 1) rfl rfl
theorem s_0_918 : wp V (cdT Ev) mx d 0 918 ls st h Q = wp V (cdT Ev) mx d 0 919 ls ((.int (3)) :: st) h Q := x_push (v := (.int (3))) (len := 1) rfl
theorem s_0_919 {x z : Int32} : wp V (cdT Ev) mx d 0 919 ls (.int z :: .int x :: st) h Q = wp V (cdT Ev) mx d 0 920 ls (.int (x + z) :: st) h Q := x_ib (f := fun x z => x + z) rfl
theorem s_0_920 {i : Int32} {a : Nat} : wp V (cdT Ev) mx d 0 920 ls (.int i :: .ref a :: st) h Q = ai 2 i V h a (fun x => wp V (cdT Ev) mx d 0 921 ls (.int x :: st) h Q) := x_iald rfl
theorem s_0_921 {b : Nat} {v0 v1 v2 : Value} (hst : st.length ≤ 4) : wp V (cdT Ev) mx d 0 921 ls (v2 :: v1 :: v0 :: .ref b :: st) h Q = cv [(12, 185)] h b (fun y' => WP V (cdT Ev) mx d y' [.ref b, v0, v1, v2] h (fun r h' => wp V (cdT Ev) mx d 0 924 ls (rts r st) h' Q)) := x_cv (sg := [v2, v1, v0]) rfl hst rfl rfl
theorem s_0_924 {x z : Int32} : wp V (cdT Ev) mx d 0 924 ls (.int z :: .int x :: st) h Q = (if x = z then wp V (cdT Ev) mx d 0 1221 ls st h Q else wp V (cdT Ev) mx d 0 927 ls st h Q) := x_if2 (c := fun x z => x = z) rfl
theorem s_0_927 : wp V (cdT Ev) mx d 0 927 ls st h Q = wp V (cdT Ev) mx d 0 928 ls ((.int (0)) :: st) h Q := x_push (v := (.int (0))) (len := 1) rfl
theorem s_0_928 {x : Int32} (hx : okr 1 (.int x) = true) : wp V (cdT Ev) mx d 0 928 ls [.int x] h Q = Q (some (.int x)) h := x_ret rfl hx
theorem s_0_929 {a : Nat} : wp V (cdT Ev) mx d 0 929 [l0, some (.ref a), l2, l3] st h Q = wp V (cdT Ev) mx d 0 930 [l0, some (.ref a), l2, l3] (.ref a :: st) h Q := x_aload (len := 1) rfl rfl
theorem s_0_929_n : wp V (cdT Ev) mx d 0 929 [l0, some .null, l2, l3] st h Q = wp V (cdT Ev) mx d 0 930 [l0, some .null, l2, l3] (.null :: st) h Q := x_aloadN (len := 1) rfl rfl
theorem s_0_930 {a : Nat} : wp V (cdT Ev) mx d 0 930 [some (.ref a), l1, l2, l3] st h Q = wp V (cdT Ev) mx d 0 931 [some (.ref a), l1, l2, l3] (.ref a :: st) h Q := x_aload (len := 1) rfl rfl
theorem s_0_930_n : wp V (cdT Ev) mx d 0 930 [some .null, l1, l2, l3] st h Q = wp V (cdT Ev) mx d 0 931 [some .null, l1, l2, l3] (.null :: st) h Q := x_aloadN (len := 1) rfl rfl
theorem s_0_931 {x : Int32} : wp V (cdT Ev) mx d 0 931 [l0, l1, l2, some (.int x)] st h Q = wp V (cdT Ev) mx d 0 932 [l0, l1, l2, some (.int x)] (.int x :: st) h Q := x_iload (len := 1) rfl rfl
theorem s_0_932 : wp V (cdT Ev) mx d 0 932 ls st h Q = wp V (cdT Ev) mx d 0 933 ls ((.int (1)) :: st) h Q := x_push (v := (.int (1))) (len := 1) rfl
theorem s_0_933 {x z : Int32} : wp V (cdT Ev) mx d 0 933 ls (.int z :: .int x :: st) h Q = wp V (cdT Ev) mx d 0 934 ls (.int (x + z) :: st) h Q := x_ib (f := fun x z => x + z) rfl
theorem s_0_934 {i : Int32} {a : Nat} : wp V (cdT Ev) mx d 0 934 ls (.int i :: .ref a :: st) h Q = ai 2 i V h a (fun x => wp V (cdT Ev) mx d 0 935 ls (.int x :: st) h Q) := x_iald rfl
theorem s_0_935 {b : Nat} {v0 : Value} (hst : st.length ≤ 4) : wp V (cdT Ev) mx d 0 935 ls (v0 :: .ref b :: st) h Q = cv [(11, 94)] h b (fun y' => WP V (cdT Ev) mx d y' [.ref b, v0] h (fun r h' => wp V (cdT Ev) mx d 0 938 ls (rts r st) h' Q)) := x_cv (sg := [v0]) rfl hst rfl rfl
theorem s_0_938 {a : Nat} : wp V (cdT Ev) mx d 0 938 [l0, l1, some (.ref a), l3] st h Q = wp V (cdT Ev) mx d 0 939 [l0, l1, some (.ref a), l3] (.ref a :: st) h Q := x_aload (len := 1) rfl rfl
theorem s_0_938_n : wp V (cdT Ev) mx d 0 938 [l0, l1, some .null, l3] st h Q = wp V (cdT Ev) mx d 0 939 [l0, l1, some .null, l3] (.null :: st) h Q := x_aloadN (len := 1) rfl rfl
theorem s_0_939 {a : Nat} : wp V (cdT Ev) mx d 0 939 [some (.ref a), l1, l2, l3] st h Q = wp V (cdT Ev) mx d 0 940 [some (.ref a), l1, l2, l3] (.ref a :: st) h Q := x_aload (len := 1) rfl rfl
theorem s_0_939_n : wp V (cdT Ev) mx d 0 939 [some .null, l1, l2, l3] st h Q = wp V (cdT Ev) mx d 0 940 [some .null, l1, l2, l3] (.null :: st) h Q := x_aloadN (len := 1) rfl rfl
theorem s_0_940 {x : Int32} : wp V (cdT Ev) mx d 0 940 [l0, l1, l2, some (.int x)] st h Q = wp V (cdT Ev) mx d 0 941 [l0, l1, l2, some (.int x)] (.int x :: st) h Q := x_iload (len := 1) rfl rfl
theorem s_0_941 : wp V (cdT Ev) mx d 0 941 ls st h Q = wp V (cdT Ev) mx d 0 942 ls ((.int (1)) :: st) h Q := x_push (v := (.int (1))) (len := 1) rfl
theorem s_0_942 {x z : Int32} : wp V (cdT Ev) mx d 0 942 ls (.int z :: .int x :: st) h Q = wp V (cdT Ev) mx d 0 943 ls (.int (x + z) :: st) h Q := x_ib (f := fun x z => x + z) rfl
theorem s_0_943 {i : Int32} {a : Nat} : wp V (cdT Ev) mx d 0 943 ls (.int i :: .ref a :: st) h Q = ai 2 i V h a (fun x => wp V (cdT Ev) mx d 0 944 ls (.int x :: st) h Q) := x_iald rfl
theorem s_0_944 {b : Nat} {v0 : Value} (hst : st.length ≤ 4) : wp V (cdT Ev) mx d 0 944 ls (v0 :: .ref b :: st) h Q = cv [(12, 186)] h b (fun y' => WP V (cdT Ev) mx d y' [.ref b, v0] h (fun r h' => wp V (cdT Ev) mx d 0 947 ls (rts r st) h' Q)) := x_cv (sg := [v0]) rfl hst rfl rfl
theorem s_0_947 {x z : Int32} : wp V (cdT Ev) mx d 0 947 ls (.int z :: .int x :: st) h Q = (if x = z then wp V (cdT Ev) mx d 0 1221 ls st h Q else wp V (cdT Ev) mx d 0 950 ls st h Q) := x_if2 (c := fun x z => x = z) rfl
theorem s_0_950 : wp V (cdT Ev) mx d 0 950 ls st h Q = wp V (cdT Ev) mx d 0 951 ls ((.int (0)) :: st) h Q := x_push (v := (.int (0))) (len := 1) rfl
theorem s_0_951 {x : Int32} (hx : okr 1 (.int x) = true) : wp V (cdT Ev) mx d 0 951 ls [.int x] h Q = Q (some (.int x)) h := x_ret rfl hx
theorem s_0_952 {a : Nat} : wp V (cdT Ev) mx d 0 952 [l0, some (.ref a), l2, l3] st h Q = wp V (cdT Ev) mx d 0 953 [l0, some (.ref a), l2, l3] (.ref a :: st) h Q := x_aload (len := 1) rfl rfl
theorem s_0_952_n : wp V (cdT Ev) mx d 0 952 [l0, some .null, l2, l3] st h Q = wp V (cdT Ev) mx d 0 953 [l0, some .null, l2, l3] (.null :: st) h Q := x_aloadN (len := 1) rfl rfl
theorem s_0_953 {a : Nat} : wp V (cdT Ev) mx d 0 953 [some (.ref a), l1, l2, l3] st h Q = wp V (cdT Ev) mx d 0 954 [some (.ref a), l1, l2, l3] (.ref a :: st) h Q := x_aload (len := 1) rfl rfl
theorem s_0_953_n : wp V (cdT Ev) mx d 0 953 [some .null, l1, l2, l3] st h Q = wp V (cdT Ev) mx d 0 954 [some .null, l1, l2, l3] (.null :: st) h Q := x_aloadN (len := 1) rfl rfl
theorem s_0_954 {x : Int32} : wp V (cdT Ev) mx d 0 954 [l0, l1, l2, some (.int x)] st h Q = wp V (cdT Ev) mx d 0 955 [l0, l1, l2, some (.int x)] (.int x :: st) h Q := x_iload (len := 1) rfl rfl
theorem s_0_955 : wp V (cdT Ev) mx d 0 955 ls st h Q = wp V (cdT Ev) mx d 0 956 ls ((.int (1)) :: st) h Q := x_push (v := (.int (1))) (len := 1) rfl
theorem s_0_956 {x z : Int32} : wp V (cdT Ev) mx d 0 956 ls (.int z :: .int x :: st) h Q = wp V (cdT Ev) mx d 0 957 ls (.int (x + z) :: st) h Q := x_ib (f := fun x z => x + z) rfl
theorem s_0_957 {i : Int32} {a : Nat} : wp V (cdT Ev) mx d 0 957 ls (.int i :: .ref a :: st) h Q = ai 2 i V h a (fun x => wp V (cdT Ev) mx d 0 958 ls (.int x :: st) h Q) := x_iald rfl
theorem s_0_958 {a : Nat} : wp V (cdT Ev) mx d 0 958 [some (.ref a), l1, l2, l3] st h Q = wp V (cdT Ev) mx d 0 959 [some (.ref a), l1, l2, l3] (.ref a :: st) h Q := x_aload (len := 1) rfl rfl
theorem s_0_958_n : wp V (cdT Ev) mx d 0 958 [some .null, l1, l2, l3] st h Q = wp V (cdT Ev) mx d 0 959 [some .null, l1, l2, l3] (.null :: st) h Q := x_aloadN (len := 1) rfl rfl
theorem s_0_959 {x : Int32} : wp V (cdT Ev) mx d 0 959 [l0, l1, l2, some (.int x)] st h Q = wp V (cdT Ev) mx d 0 960 [l0, l1, l2, some (.int x)] (.int x :: st) h Q := x_iload (len := 1) rfl rfl
theorem s_0_960 : wp V (cdT Ev) mx d 0 960 ls st h Q = wp V (cdT Ev) mx d 0 961 ls ((.int (2)) :: st) h Q := x_push (v := (.int (2))) (len := 1) rfl
theorem s_0_961 {x z : Int32} : wp V (cdT Ev) mx d 0 961 ls (.int z :: .int x :: st) h Q = wp V (cdT Ev) mx d 0 962 ls (.int (x + z) :: st) h Q := x_ib (f := fun x z => x + z) rfl
theorem s_0_962 {i : Int32} {a : Nat} : wp V (cdT Ev) mx d 0 962 ls (.int i :: .ref a :: st) h Q = ai 2 i V h a (fun x => wp V (cdT Ev) mx d 0 963 ls (.int x :: st) h Q) := x_iald rfl
theorem s_0_963 {b : Nat} {v0 v1 : Value} (hst : st.length ≤ 4) : wp V (cdT Ev) mx d 0 963 ls (v1 :: v0 :: .ref b :: st) h Q = cv [(11, 95)] h b (fun y' => WP V (cdT Ev) mx d y' [.ref b, v0, v1] h (fun r h' => wp V (cdT Ev) mx d 0 966 ls (rts r st) h' Q)) := x_cv (sg := [v1, v0]) rfl hst rfl rfl
theorem s_0_966 {a : Nat} : wp V (cdT Ev) mx d 0 966 [l0, l1, some (.ref a), l3] st h Q = wp V (cdT Ev) mx d 0 967 [l0, l1, some (.ref a), l3] (.ref a :: st) h Q := x_aload (len := 1) rfl rfl
theorem s_0_966_n : wp V (cdT Ev) mx d 0 966 [l0, l1, some .null, l3] st h Q = wp V (cdT Ev) mx d 0 967 [l0, l1, some .null, l3] (.null :: st) h Q := x_aloadN (len := 1) rfl rfl
theorem s_0_967 {a : Nat} : wp V (cdT Ev) mx d 0 967 [some (.ref a), l1, l2, l3] st h Q = wp V (cdT Ev) mx d 0 968 [some (.ref a), l1, l2, l3] (.ref a :: st) h Q := x_aload (len := 1) rfl rfl
theorem s_0_967_n : wp V (cdT Ev) mx d 0 967 [some .null, l1, l2, l3] st h Q = wp V (cdT Ev) mx d 0 968 [some .null, l1, l2, l3] (.null :: st) h Q := x_aloadN (len := 1) rfl rfl
theorem s_0_968 {x : Int32} : wp V (cdT Ev) mx d 0 968 [l0, l1, l2, some (.int x)] st h Q = wp V (cdT Ev) mx d 0 969 [l0, l1, l2, some (.int x)] (.int x :: st) h Q := x_iload (len := 1) rfl rfl
theorem s_0_969 : wp V (cdT Ev) mx d 0 969 ls st h Q = wp V (cdT Ev) mx d 0 970 ls ((.int (1)) :: st) h Q := x_push (v := (.int (1))) (len := 1) rfl
theorem s_0_970 {x z : Int32} : wp V (cdT Ev) mx d 0 970 ls (.int z :: .int x :: st) h Q = wp V (cdT Ev) mx d 0 971 ls (.int (x + z) :: st) h Q := x_ib (f := fun x z => x + z) rfl
theorem s_0_971 {i : Int32} {a : Nat} : wp V (cdT Ev) mx d 0 971 ls (.int i :: .ref a :: st) h Q = ai 2 i V h a (fun x => wp V (cdT Ev) mx d 0 972 ls (.int x :: st) h Q) := x_iald rfl
theorem s_0_972 {a : Nat} : wp V (cdT Ev) mx d 0 972 [some (.ref a), l1, l2, l3] st h Q = wp V (cdT Ev) mx d 0 973 [some (.ref a), l1, l2, l3] (.ref a :: st) h Q := x_aload (len := 1) rfl rfl
theorem s_0_972_n : wp V (cdT Ev) mx d 0 972 [some .null, l1, l2, l3] st h Q = wp V (cdT Ev) mx d 0 973 [some .null, l1, l2, l3] (.null :: st) h Q := x_aloadN (len := 1) rfl rfl
theorem s_0_973 {x : Int32} : wp V (cdT Ev) mx d 0 973 [l0, l1, l2, some (.int x)] st h Q = wp V (cdT Ev) mx d 0 974 [l0, l1, l2, some (.int x)] (.int x :: st) h Q := x_iload (len := 1) rfl rfl
theorem s_0_974 : wp V (cdT Ev) mx d 0 974 ls st h Q = wp V (cdT Ev) mx d 0 975 ls ((.int (2)) :: st) h Q := x_push (v := (.int (2))) (len := 1) rfl
theorem s_0_975 {x z : Int32} : wp V (cdT Ev) mx d 0 975 ls (.int z :: .int x :: st) h Q = wp V (cdT Ev) mx d 0 976 ls (.int (x + z) :: st) h Q := x_ib (f := fun x z => x + z) rfl
theorem s_0_976 {i : Int32} {a : Nat} : wp V (cdT Ev) mx d 0 976 ls (.int i :: .ref a :: st) h Q = ai 2 i V h a (fun x => wp V (cdT Ev) mx d 0 977 ls (.int x :: st) h Q) := x_iald rfl
theorem s_0_977 {b : Nat} {v0 v1 : Value} (hst : st.length ≤ 4) : wp V (cdT Ev) mx d 0 977 ls (v1 :: v0 :: .ref b :: st) h Q = cv [(12, 187)] h b (fun y' => WP V (cdT Ev) mx d y' [.ref b, v0, v1] h (fun r h' => wp V (cdT Ev) mx d 0 980 ls (rts r st) h' Q)) := x_cv (sg := [v1, v0]) rfl hst rfl rfl
theorem s_0_980 {x z : Int32} : wp V (cdT Ev) mx d 0 980 ls (.int z :: .int x :: st) h Q = (if x = z then wp V (cdT Ev) mx d 0 1221 ls st h Q else wp V (cdT Ev) mx d 0 983 ls st h Q) := x_if2 (c := fun x z => x = z) rfl
theorem s_0_983 : wp V (cdT Ev) mx d 0 983 ls st h Q = wp V (cdT Ev) mx d 0 984 ls ((.int (0)) :: st) h Q := x_push (v := (.int (0))) (len := 1) rfl
theorem s_0_984 {x : Int32} (hx : okr 1 (.int x) = true) : wp V (cdT Ev) mx d 0 984 ls [.int x] h Q = Q (some (.int x)) h := x_ret rfl hx
theorem s_0_985 {a : Nat} : wp V (cdT Ev) mx d 0 985 [l0, some (.ref a), l2, l3] st h Q = wp V (cdT Ev) mx d 0 986 [l0, some (.ref a), l2, l3] (.ref a :: st) h Q := x_aload (len := 1) rfl rfl
theorem s_0_985_n : wp V (cdT Ev) mx d 0 985 [l0, some .null, l2, l3] st h Q = wp V (cdT Ev) mx d 0 986 [l0, some .null, l2, l3] (.null :: st) h Q := x_aloadN (len := 1) rfl rfl
theorem s_0_986 {a : Nat} : wp V (cdT Ev) mx d 0 986 [some (.ref a), l1, l2, l3] st h Q = wp V (cdT Ev) mx d 0 987 [some (.ref a), l1, l2, l3] (.ref a :: st) h Q := x_aload (len := 1) rfl rfl
theorem s_0_986_n : wp V (cdT Ev) mx d 0 986 [some .null, l1, l2, l3] st h Q = wp V (cdT Ev) mx d 0 987 [some .null, l1, l2, l3] (.null :: st) h Q := x_aloadN (len := 1) rfl rfl
theorem s_0_987 {x : Int32} : wp V (cdT Ev) mx d 0 987 [l0, l1, l2, some (.int x)] st h Q = wp V (cdT Ev) mx d 0 988 [l0, l1, l2, some (.int x)] (.int x :: st) h Q := x_iload (len := 1) rfl rfl
theorem s_0_988 : wp V (cdT Ev) mx d 0 988 ls st h Q = wp V (cdT Ev) mx d 0 989 ls ((.int (1)) :: st) h Q := x_push (v := (.int (1))) (len := 1) rfl
theorem s_0_989 {x z : Int32} : wp V (cdT Ev) mx d 0 989 ls (.int z :: .int x :: st) h Q = wp V (cdT Ev) mx d 0 990 ls (.int (x + z) :: st) h Q := x_ib (f := fun x z => x + z) rfl
theorem s_0_990 {i : Int32} {a : Nat} : wp V (cdT Ev) mx d 0 990 ls (.int i :: .ref a :: st) h Q = ai 2 i V h a (fun x => wp V (cdT Ev) mx d 0 991 ls (.int x :: st) h Q) := x_iald rfl
theorem s_0_991 {b : Nat} {v0 : Value} (hst : st.length ≤ 4) : wp V (cdT Ev) mx d 0 991 ls (v0 :: .ref b :: st) h Q = cv [(11, 96)] h b (fun y' => WP V (cdT Ev) mx d y' [.ref b, v0] h (fun r h' => wp V (cdT Ev) mx d 0 994 ls (rts r st) h' Q)) := x_cv (sg := [v0]) rfl hst rfl rfl
theorem s_0_994 {a : Nat} : wp V (cdT Ev) mx d 0 994 [l0, l1, some (.ref a), l3] st h Q = wp V (cdT Ev) mx d 0 995 [l0, l1, some (.ref a), l3] (.ref a :: st) h Q := x_aload (len := 1) rfl rfl
theorem s_0_994_n : wp V (cdT Ev) mx d 0 994 [l0, l1, some .null, l3] st h Q = wp V (cdT Ev) mx d 0 995 [l0, l1, some .null, l3] (.null :: st) h Q := x_aloadN (len := 1) rfl rfl
theorem s_0_995 {a : Nat} : wp V (cdT Ev) mx d 0 995 [some (.ref a), l1, l2, l3] st h Q = wp V (cdT Ev) mx d 0 996 [some (.ref a), l1, l2, l3] (.ref a :: st) h Q := x_aload (len := 1) rfl rfl
theorem s_0_995_n : wp V (cdT Ev) mx d 0 995 [some .null, l1, l2, l3] st h Q = wp V (cdT Ev) mx d 0 996 [some .null, l1, l2, l3] (.null :: st) h Q := x_aloadN (len := 1) rfl rfl
theorem s_0_996 {x : Int32} : wp V (cdT Ev) mx d 0 996 [l0, l1, l2, some (.int x)] st h Q = wp V (cdT Ev) mx d 0 997 [l0, l1, l2, some (.int x)] (.int x :: st) h Q := x_iload (len := 1) rfl rfl
theorem s_0_997 : wp V (cdT Ev) mx d 0 997 ls st h Q = wp V (cdT Ev) mx d 0 998 ls ((.int (1)) :: st) h Q := x_push (v := (.int (1))) (len := 1) rfl
theorem s_0_998 {x z : Int32} : wp V (cdT Ev) mx d 0 998 ls (.int z :: .int x :: st) h Q = wp V (cdT Ev) mx d 0 999 ls (.int (x + z) :: st) h Q := x_ib (f := fun x z => x + z) rfl
theorem s_0_999 {i : Int32} {a : Nat} : wp V (cdT Ev) mx d 0 999 ls (.int i :: .ref a :: st) h Q = ai 2 i V h a (fun x => wp V (cdT Ev) mx d 0 1000 ls (.int x :: st) h Q) := x_iald rfl
theorem s_0_1000 {b : Nat} {v0 : Value} (hst : st.length ≤ 4) : wp V (cdT Ev) mx d 0 1000 ls (v0 :: .ref b :: st) h Q = cv [(12, 188)] h b (fun y' => WP V (cdT Ev) mx d y' [.ref b, v0] h (fun r h' => wp V (cdT Ev) mx d 0 1003 ls (rts r st) h' Q)) := x_cv (sg := [v0]) rfl hst rfl rfl
theorem s_0_1003 {x z : Int32} : wp V (cdT Ev) mx d 0 1003 ls (.int z :: .int x :: st) h Q = (if x = z then wp V (cdT Ev) mx d 0 1221 ls st h Q else wp V (cdT Ev) mx d 0 1006 ls st h Q) := x_if2 (c := fun x z => x = z) rfl
theorem s_0_1006 : wp V (cdT Ev) mx d 0 1006 ls st h Q = wp V (cdT Ev) mx d 0 1007 ls ((.int (0)) :: st) h Q := x_push (v := (.int (0))) (len := 1) rfl
theorem s_0_1007 {x : Int32} (hx : okr 1 (.int x) = true) : wp V (cdT Ev) mx d 0 1007 ls [.int x] h Q = Q (some (.int x)) h := x_ret rfl hx
theorem s_0_1008 {a : Nat} : wp V (cdT Ev) mx d 0 1008 [l0, some (.ref a), l2, l3] st h Q = wp V (cdT Ev) mx d 0 1009 [l0, some (.ref a), l2, l3] (.ref a :: st) h Q := x_aload (len := 1) rfl rfl
theorem s_0_1008_n : wp V (cdT Ev) mx d 0 1008 [l0, some .null, l2, l3] st h Q = wp V (cdT Ev) mx d 0 1009 [l0, some .null, l2, l3] (.null :: st) h Q := x_aloadN (len := 1) rfl rfl
theorem s_0_1009 {a : Nat} : wp V (cdT Ev) mx d 0 1009 [some (.ref a), l1, l2, l3] st h Q = wp V (cdT Ev) mx d 0 1010 [some (.ref a), l1, l2, l3] (.ref a :: st) h Q := x_aload (len := 1) rfl rfl
theorem s_0_1009_n : wp V (cdT Ev) mx d 0 1009 [some .null, l1, l2, l3] st h Q = wp V (cdT Ev) mx d 0 1010 [some .null, l1, l2, l3] (.null :: st) h Q := x_aloadN (len := 1) rfl rfl
theorem s_0_1010 {x : Int32} : wp V (cdT Ev) mx d 0 1010 [l0, l1, l2, some (.int x)] st h Q = wp V (cdT Ev) mx d 0 1011 [l0, l1, l2, some (.int x)] (.int x :: st) h Q := x_iload (len := 1) rfl rfl
theorem s_0_1011 : wp V (cdT Ev) mx d 0 1011 ls st h Q = wp V (cdT Ev) mx d 0 1012 ls ((.int (1)) :: st) h Q := x_push (v := (.int (1))) (len := 1) rfl
theorem s_0_1012 {x z : Int32} : wp V (cdT Ev) mx d 0 1012 ls (.int z :: .int x :: st) h Q = wp V (cdT Ev) mx d 0 1013 ls (.int (x + z) :: st) h Q := x_ib (f := fun x z => x + z) rfl
theorem s_0_1013 {i : Int32} {a : Nat} : wp V (cdT Ev) mx d 0 1013 ls (.int i :: .ref a :: st) h Q = ai 2 i V h a (fun x => wp V (cdT Ev) mx d 0 1014 ls (.int x :: st) h Q) := x_iald rfl
theorem s_0_1014 {a : Nat} : wp V (cdT Ev) mx d 0 1014 [some (.ref a), l1, l2, l3] st h Q = wp V (cdT Ev) mx d 0 1015 [some (.ref a), l1, l2, l3] (.ref a :: st) h Q := x_aload (len := 1) rfl rfl
theorem s_0_1014_n : wp V (cdT Ev) mx d 0 1014 [some .null, l1, l2, l3] st h Q = wp V (cdT Ev) mx d 0 1015 [some .null, l1, l2, l3] (.null :: st) h Q := x_aloadN (len := 1) rfl rfl
theorem s_0_1015 {x : Int32} : wp V (cdT Ev) mx d 0 1015 [l0, l1, l2, some (.int x)] st h Q = wp V (cdT Ev) mx d 0 1016 [l0, l1, l2, some (.int x)] (.int x :: st) h Q := x_iload (len := 1) rfl rfl
theorem s_0_1016 : wp V (cdT Ev) mx d 0 1016 ls st h Q = wp V (cdT Ev) mx d 0 1017 ls ((.int (2)) :: st) h Q := x_push (v := (.int (2))) (len := 1) rfl
theorem s_0_1017 {x z : Int32} : wp V (cdT Ev) mx d 0 1017 ls (.int z :: .int x :: st) h Q = wp V (cdT Ev) mx d 0 1018 ls (.int (x + z) :: st) h Q := x_ib (f := fun x z => x + z) rfl
theorem s_0_1018 {i : Int32} {a : Nat} : wp V (cdT Ev) mx d 0 1018 ls (.int i :: .ref a :: st) h Q = ai 2 i V h a (fun x => wp V (cdT Ev) mx d 0 1019 ls (.int x :: st) h Q) := x_iald rfl
theorem s_0_1019 {a : Nat} : wp V (cdT Ev) mx d 0 1019 [some (.ref a), l1, l2, l3] st h Q = wp V (cdT Ev) mx d 0 1020 [some (.ref a), l1, l2, l3] (.ref a :: st) h Q := x_aload (len := 1) rfl rfl
theorem s_0_1019_n : wp V (cdT Ev) mx d 0 1019 [some .null, l1, l2, l3] st h Q = wp V (cdT Ev) mx d 0 1020 [some .null, l1, l2, l3] (.null :: st) h Q := x_aloadN (len := 1) rfl rfl
theorem s_0_1020 {x : Int32} : wp V (cdT Ev) mx d 0 1020 [l0, l1, l2, some (.int x)] st h Q = wp V (cdT Ev) mx d 0 1021 [l0, l1, l2, some (.int x)] (.int x :: st) h Q := x_iload (len := 1) rfl rfl
theorem s_0_1021 : wp V (cdT Ev) mx d 0 1021 ls st h Q = wp V (cdT Ev) mx d 0 1022 ls ((.int (3)) :: st) h Q := x_push (v := (.int (3))) (len := 1) rfl
theorem s_0_1022 {x z : Int32} : wp V (cdT Ev) mx d 0 1022 ls (.int z :: .int x :: st) h Q = wp V (cdT Ev) mx d 0 1023 ls (.int (x + z) :: st) h Q := x_ib (f := fun x z => x + z) rfl
theorem s_0_1023 {i : Int32} {a : Nat} : wp V (cdT Ev) mx d 0 1023 ls (.int i :: .ref a :: st) h Q = ai 2 i V h a (fun x => wp V (cdT Ev) mx d 0 1024 ls (.int x :: st) h Q) := x_iald rfl
theorem s_0_1024 {b : Nat} {v0 v1 v2 : Value} (hst : st.length ≤ 4) : wp V (cdT Ev) mx d 0 1024 ls (v2 :: v1 :: v0 :: .ref b :: st) h Q = cv [(11, 97)] h b (fun y' => WP V (cdT Ev) mx d y' [.ref b, v0, v1, v2] h (fun r h' => wp V (cdT Ev) mx d 0 1027 ls (rts r st) h' Q)) := x_cv (sg := [v2, v1, v0]) rfl hst rfl rfl
theorem s_0_1027 {a : Nat} : wp V (cdT Ev) mx d 0 1027 [l0, l1, some (.ref a), l3] st h Q = wp V (cdT Ev) mx d 0 1028 [l0, l1, some (.ref a), l3] (.ref a :: st) h Q := x_aload (len := 1) rfl rfl
theorem s_0_1027_n : wp V (cdT Ev) mx d 0 1027 [l0, l1, some .null, l3] st h Q = wp V (cdT Ev) mx d 0 1028 [l0, l1, some .null, l3] (.null :: st) h Q := x_aloadN (len := 1) rfl rfl
theorem s_0_1028 {a : Nat} : wp V (cdT Ev) mx d 0 1028 [some (.ref a), l1, l2, l3] st h Q = wp V (cdT Ev) mx d 0 1029 [some (.ref a), l1, l2, l3] (.ref a :: st) h Q := x_aload (len := 1) rfl rfl
theorem s_0_1028_n : wp V (cdT Ev) mx d 0 1028 [some .null, l1, l2, l3] st h Q = wp V (cdT Ev) mx d 0 1029 [some .null, l1, l2, l3] (.null :: st) h Q := x_aloadN (len := 1) rfl rfl
theorem s_0_1029 {x : Int32} : wp V (cdT Ev) mx d 0 1029 [l0, l1, l2, some (.int x)] st h Q = wp V (cdT Ev) mx d 0 1030 [l0, l1, l2, some (.int x)] (.int x :: st) h Q := x_iload (len := 1) rfl rfl
theorem s_0_1030 : wp V (cdT Ev) mx d 0 1030 ls st h Q = wp V (cdT Ev) mx d 0 1031 ls ((.int (1)) :: st) h Q := x_push (v := (.int (1))) (len := 1) rfl
theorem s_0_1031 {x z : Int32} : wp V (cdT Ev) mx d 0 1031 ls (.int z :: .int x :: st) h Q = wp V (cdT Ev) mx d 0 1032 ls (.int (x + z) :: st) h Q := x_ib (f := fun x z => x + z) rfl
theorem s_0_1032 {i : Int32} {a : Nat} : wp V (cdT Ev) mx d 0 1032 ls (.int i :: .ref a :: st) h Q = ai 2 i V h a (fun x => wp V (cdT Ev) mx d 0 1033 ls (.int x :: st) h Q) := x_iald rfl
theorem s_0_1033 {a : Nat} : wp V (cdT Ev) mx d 0 1033 [some (.ref a), l1, l2, l3] st h Q = wp V (cdT Ev) mx d 0 1034 [some (.ref a), l1, l2, l3] (.ref a :: st) h Q := x_aload (len := 1) rfl rfl
theorem s_0_1033_n : wp V (cdT Ev) mx d 0 1033 [some .null, l1, l2, l3] st h Q = wp V (cdT Ev) mx d 0 1034 [some .null, l1, l2, l3] (.null :: st) h Q := x_aloadN (len := 1) rfl rfl
theorem s_0_1034 {x : Int32} : wp V (cdT Ev) mx d 0 1034 [l0, l1, l2, some (.int x)] st h Q = wp V (cdT Ev) mx d 0 1035 [l0, l1, l2, some (.int x)] (.int x :: st) h Q := x_iload (len := 1) rfl rfl
theorem s_0_1035 : wp V (cdT Ev) mx d 0 1035 ls st h Q = wp V (cdT Ev) mx d 0 1036 ls ((.int (2)) :: st) h Q := x_push (v := (.int (2))) (len := 1) rfl
theorem s_0_1036 {x z : Int32} : wp V (cdT Ev) mx d 0 1036 ls (.int z :: .int x :: st) h Q = wp V (cdT Ev) mx d 0 1037 ls (.int (x + z) :: st) h Q := x_ib (f := fun x z => x + z) rfl
theorem s_0_1037 {i : Int32} {a : Nat} : wp V (cdT Ev) mx d 0 1037 ls (.int i :: .ref a :: st) h Q = ai 2 i V h a (fun x => wp V (cdT Ev) mx d 0 1038 ls (.int x :: st) h Q) := x_iald rfl
theorem s_0_1038 {a : Nat} : wp V (cdT Ev) mx d 0 1038 [some (.ref a), l1, l2, l3] st h Q = wp V (cdT Ev) mx d 0 1039 [some (.ref a), l1, l2, l3] (.ref a :: st) h Q := x_aload (len := 1) rfl rfl
theorem s_0_1038_n : wp V (cdT Ev) mx d 0 1038 [some .null, l1, l2, l3] st h Q = wp V (cdT Ev) mx d 0 1039 [some .null, l1, l2, l3] (.null :: st) h Q := x_aloadN (len := 1) rfl rfl
theorem s_0_1039 {x : Int32} : wp V (cdT Ev) mx d 0 1039 [l0, l1, l2, some (.int x)] st h Q = wp V (cdT Ev) mx d 0 1040 [l0, l1, l2, some (.int x)] (.int x :: st) h Q := x_iload (len := 1) rfl rfl
theorem s_0_1040 : wp V (cdT Ev) mx d 0 1040 ls st h Q = wp V (cdT Ev) mx d 0 1041 ls ((.int (3)) :: st) h Q := x_push (v := (.int (3))) (len := 1) rfl
theorem s_0_1041 {x z : Int32} : wp V (cdT Ev) mx d 0 1041 ls (.int z :: .int x :: st) h Q = wp V (cdT Ev) mx d 0 1042 ls (.int (x + z) :: st) h Q := x_ib (f := fun x z => x + z) rfl
theorem s_0_1042 {i : Int32} {a : Nat} : wp V (cdT Ev) mx d 0 1042 ls (.int i :: .ref a :: st) h Q = ai 2 i V h a (fun x => wp V (cdT Ev) mx d 0 1043 ls (.int x :: st) h Q) := x_iald rfl
theorem s_0_1043 {b : Nat} {v0 v1 v2 : Value} (hst : st.length ≤ 4) : wp V (cdT Ev) mx d 0 1043 ls (v2 :: v1 :: v0 :: .ref b :: st) h Q = cv [(12, 190)] h b (fun y' => WP V (cdT Ev) mx d y' [.ref b, v0, v1, v2] h (fun r h' => wp V (cdT Ev) mx d 0 1046 ls (rts r st) h' Q)) := x_cv (sg := [v2, v1, v0]) rfl hst rfl rfl
theorem s_0_1046 {x z : Int32} : wp V (cdT Ev) mx d 0 1046 ls (.int z :: .int x :: st) h Q = (if x = z then wp V (cdT Ev) mx d 0 1221 ls st h Q else wp V (cdT Ev) mx d 0 1049 ls st h Q) := x_if2 (c := fun x z => x = z) rfl
theorem s_0_1049 : wp V (cdT Ev) mx d 0 1049 ls st h Q = wp V (cdT Ev) mx d 0 1050 ls ((.int (0)) :: st) h Q := x_push (v := (.int (0))) (len := 1) rfl
theorem s_0_1050 {x : Int32} (hx : okr 1 (.int x) = true) : wp V (cdT Ev) mx d 0 1050 ls [.int x] h Q = Q (some (.int x)) h := x_ret rfl hx
theorem s_0_1051 {a : Nat} : wp V (cdT Ev) mx d 0 1051 [l0, some (.ref a), l2, l3] st h Q = wp V (cdT Ev) mx d 0 1052 [l0, some (.ref a), l2, l3] (.ref a :: st) h Q := x_aload (len := 1) rfl rfl
theorem s_0_1051_n : wp V (cdT Ev) mx d 0 1051 [l0, some .null, l2, l3] st h Q = wp V (cdT Ev) mx d 0 1052 [l0, some .null, l2, l3] (.null :: st) h Q := x_aloadN (len := 1) rfl rfl
theorem s_0_1052 {a : Nat} : wp V (cdT Ev) mx d 0 1052 [some (.ref a), l1, l2, l3] st h Q = wp V (cdT Ev) mx d 0 1053 [some (.ref a), l1, l2, l3] (.ref a :: st) h Q := x_aload (len := 1) rfl rfl
theorem s_0_1052_n : wp V (cdT Ev) mx d 0 1052 [some .null, l1, l2, l3] st h Q = wp V (cdT Ev) mx d 0 1053 [some .null, l1, l2, l3] (.null :: st) h Q := x_aloadN (len := 1) rfl rfl
theorem s_0_1053 {x : Int32} : wp V (cdT Ev) mx d 0 1053 [l0, l1, l2, some (.int x)] st h Q = wp V (cdT Ev) mx d 0 1054 [l0, l1, l2, some (.int x)] (.int x :: st) h Q := x_iload (len := 1) rfl rfl
theorem s_0_1054 : wp V (cdT Ev) mx d 0 1054 ls st h Q = wp V (cdT Ev) mx d 0 1055 ls ((.int (1)) :: st) h Q := x_push (v := (.int (1))) (len := 1) rfl
theorem s_0_1055 {x z : Int32} : wp V (cdT Ev) mx d 0 1055 ls (.int z :: .int x :: st) h Q = wp V (cdT Ev) mx d 0 1056 ls (.int (x + z) :: st) h Q := x_ib (f := fun x z => x + z) rfl
theorem s_0_1056 {i : Int32} {a : Nat} : wp V (cdT Ev) mx d 0 1056 ls (.int i :: .ref a :: st) h Q = ai 2 i V h a (fun x => wp V (cdT Ev) mx d 0 1057 ls (.int x :: st) h Q) := x_iald rfl
theorem s_0_1057 {a : Nat} : wp V (cdT Ev) mx d 0 1057 [some (.ref a), l1, l2, l3] st h Q = wp V (cdT Ev) mx d 0 1058 [some (.ref a), l1, l2, l3] (.ref a :: st) h Q := x_aload (len := 1) rfl rfl
theorem s_0_1057_n : wp V (cdT Ev) mx d 0 1057 [some .null, l1, l2, l3] st h Q = wp V (cdT Ev) mx d 0 1058 [some .null, l1, l2, l3] (.null :: st) h Q := x_aloadN (len := 1) rfl rfl
theorem s_0_1058 {x : Int32} : wp V (cdT Ev) mx d 0 1058 [l0, l1, l2, some (.int x)] st h Q = wp V (cdT Ev) mx d 0 1059 [l0, l1, l2, some (.int x)] (.int x :: st) h Q := x_iload (len := 1) rfl rfl
theorem s_0_1059 : wp V (cdT Ev) mx d 0 1059 ls st h Q = wp V (cdT Ev) mx d 0 1060 ls ((.int (2)) :: st) h Q := x_push (v := (.int (2))) (len := 1) rfl
theorem s_0_1060 {x z : Int32} : wp V (cdT Ev) mx d 0 1060 ls (.int z :: .int x :: st) h Q = wp V (cdT Ev) mx d 0 1061 ls (.int (x + z) :: st) h Q := x_ib (f := fun x z => x + z) rfl
theorem s_0_1061 {i : Int32} {a : Nat} : wp V (cdT Ev) mx d 0 1061 ls (.int i :: .ref a :: st) h Q = ai 2 i V h a (fun x => wp V (cdT Ev) mx d 0 1062 ls (.int x :: st) h Q) := x_iald rfl
theorem s_0_1062 {a : Nat} : wp V (cdT Ev) mx d 0 1062 [some (.ref a), l1, l2, l3] st h Q = wp V (cdT Ev) mx d 0 1063 [some (.ref a), l1, l2, l3] (.ref a :: st) h Q := x_aload (len := 1) rfl rfl
theorem s_0_1062_n : wp V (cdT Ev) mx d 0 1062 [some .null, l1, l2, l3] st h Q = wp V (cdT Ev) mx d 0 1063 [some .null, l1, l2, l3] (.null :: st) h Q := x_aloadN (len := 1) rfl rfl
theorem s_0_1063 {x : Int32} : wp V (cdT Ev) mx d 0 1063 [l0, l1, l2, some (.int x)] st h Q = wp V (cdT Ev) mx d 0 1064 [l0, l1, l2, some (.int x)] (.int x :: st) h Q := x_iload (len := 1) rfl rfl
theorem s_0_1064 : wp V (cdT Ev) mx d 0 1064 ls st h Q = wp V (cdT Ev) mx d 0 1065 ls ((.int (3)) :: st) h Q := x_push (v := (.int (3))) (len := 1) rfl
theorem s_0_1065 {x z : Int32} : wp V (cdT Ev) mx d 0 1065 ls (.int z :: .int x :: st) h Q = wp V (cdT Ev) mx d 0 1066 ls (.int (x + z) :: st) h Q := x_ib (f := fun x z => x + z) rfl
theorem s_0_1066 {i : Int32} {a : Nat} : wp V (cdT Ev) mx d 0 1066 ls (.int i :: .ref a :: st) h Q = ai 2 i V h a (fun x => wp V (cdT Ev) mx d 0 1067 ls (.int x :: st) h Q) := x_iald rfl
theorem s_0_1067 {x : Int32} : wp V (cdT Ev) mx d 0 1067 ls (.int x :: st) h Q = wp V (cdT Ev) mx d 0 1068 ls (.long x.toInt64 :: st) h Q := x_i2l rfl
theorem s_0_1068 : wp V (cdT Ev) mx d 0 1068 ls st h Q = wp V (cdT Ev) mx d 0 1070 ls ((.int (32)) :: st) h Q := x_push (v := (.int (32))) (len := 2) rfl
theorem s_0_1070 {x : Int64} {z : Int32} : wp V (cdT Ev) mx d 0 1070 ls (.int z :: .long x :: st) h Q = wp V (cdT Ev) mx d 0 1071 ls (.long (x <<< (z.toInt64 &&& 63)) :: st) h Q := x_lshl rfl
theorem s_0_1071 {a : Nat} : wp V (cdT Ev) mx d 0 1071 [some (.ref a), l1, l2, l3] st h Q = wp V (cdT Ev) mx d 0 1072 [some (.ref a), l1, l2, l3] (.ref a :: st) h Q := x_aload (len := 1) rfl rfl
theorem s_0_1071_n : wp V (cdT Ev) mx d 0 1071 [some .null, l1, l2, l3] st h Q = wp V (cdT Ev) mx d 0 1072 [some .null, l1, l2, l3] (.null :: st) h Q := x_aloadN (len := 1) rfl rfl
theorem s_0_1072 {x : Int32} : wp V (cdT Ev) mx d 0 1072 [l0, l1, l2, some (.int x)] st h Q = wp V (cdT Ev) mx d 0 1073 [l0, l1, l2, some (.int x)] (.int x :: st) h Q := x_iload (len := 1) rfl rfl
theorem s_0_1073 : wp V (cdT Ev) mx d 0 1073 ls st h Q = wp V (cdT Ev) mx d 0 1074 ls ((.int (4)) :: st) h Q := x_push (v := (.int (4))) (len := 1) rfl
theorem s_0_1074 {x z : Int32} : wp V (cdT Ev) mx d 0 1074 ls (.int z :: .int x :: st) h Q = wp V (cdT Ev) mx d 0 1075 ls (.int (x + z) :: st) h Q := x_ib (f := fun x z => x + z) rfl
theorem s_0_1075 {i : Int32} {a : Nat} : wp V (cdT Ev) mx d 0 1075 ls (.int i :: .ref a :: st) h Q = ai 2 i V h a (fun x => wp V (cdT Ev) mx d 0 1076 ls (.int x :: st) h Q) := x_iald rfl
theorem s_0_1076 {x : Int32} : wp V (cdT Ev) mx d 0 1076 ls (.int x :: st) h Q = wp V (cdT Ev) mx d 0 1077 ls (.long x.toInt64 :: st) h Q := x_i2l rfl
theorem s_0_1077 : wp V (cdT Ev) mx d 0 1077 ls st h Q = wp V (cdT Ev) mx d 0 1080 ls ((.long (4294967295)) :: st) h Q := x_push (v := (.long (4294967295))) (len := 3) rfl
theorem s_0_1080 {x z : Int64} : wp V (cdT Ev) mx d 0 1080 ls (.long z :: .long x :: st) h Q = wp V (cdT Ev) mx d 0 1081 ls (.long (x &&& z) :: st) h Q := x_lb (f := fun x z => x &&& z) rfl
theorem s_0_1081 {x z : Int64} : wp V (cdT Ev) mx d 0 1081 ls (.long z :: .long x :: st) h Q = wp V (cdT Ev) mx d 0 1082 ls (.long (x ||| z) :: st) h Q := x_lb (f := fun x z => x ||| z) rfl
theorem s_0_1082 {b : Nat} {v0 v1 v2 : Value} (hst : st.length ≤ 4) : wp V (cdT Ev) mx d 0 1082 ls (v2 :: v1 :: v0 :: .ref b :: st) h Q = cv [(11, 98)] h b (fun y' => WP V (cdT Ev) mx d y' [.ref b, v0, v1, v2] h (fun r h' => wp V (cdT Ev) mx d 0 1085 ls (rts r st) h' Q)) := x_cv (sg := [v2, v1, v0]) rfl hst rfl rfl
theorem s_0_1085 {a : Nat} : wp V (cdT Ev) mx d 0 1085 [l0, l1, some (.ref a), l3] st h Q = wp V (cdT Ev) mx d 0 1086 [l0, l1, some (.ref a), l3] (.ref a :: st) h Q := x_aload (len := 1) rfl rfl
theorem s_0_1085_n : wp V (cdT Ev) mx d 0 1085 [l0, l1, some .null, l3] st h Q = wp V (cdT Ev) mx d 0 1086 [l0, l1, some .null, l3] (.null :: st) h Q := x_aloadN (len := 1) rfl rfl
theorem s_0_1086 {a : Nat} : wp V (cdT Ev) mx d 0 1086 [some (.ref a), l1, l2, l3] st h Q = wp V (cdT Ev) mx d 0 1087 [some (.ref a), l1, l2, l3] (.ref a :: st) h Q := x_aload (len := 1) rfl rfl
theorem s_0_1086_n : wp V (cdT Ev) mx d 0 1086 [some .null, l1, l2, l3] st h Q = wp V (cdT Ev) mx d 0 1087 [some .null, l1, l2, l3] (.null :: st) h Q := x_aloadN (len := 1) rfl rfl
theorem s_0_1087 {x : Int32} : wp V (cdT Ev) mx d 0 1087 [l0, l1, l2, some (.int x)] st h Q = wp V (cdT Ev) mx d 0 1088 [l0, l1, l2, some (.int x)] (.int x :: st) h Q := x_iload (len := 1) rfl rfl
theorem s_0_1088 : wp V (cdT Ev) mx d 0 1088 ls st h Q = wp V (cdT Ev) mx d 0 1089 ls ((.int (1)) :: st) h Q := x_push (v := (.int (1))) (len := 1) rfl
theorem s_0_1089 {x z : Int32} : wp V (cdT Ev) mx d 0 1089 ls (.int z :: .int x :: st) h Q = wp V (cdT Ev) mx d 0 1090 ls (.int (x + z) :: st) h Q := x_ib (f := fun x z => x + z) rfl
theorem s_0_1090 {i : Int32} {a : Nat} : wp V (cdT Ev) mx d 0 1090 ls (.int i :: .ref a :: st) h Q = ai 2 i V h a (fun x => wp V (cdT Ev) mx d 0 1091 ls (.int x :: st) h Q) := x_iald rfl
theorem s_0_1091 {a : Nat} : wp V (cdT Ev) mx d 0 1091 [some (.ref a), l1, l2, l3] st h Q = wp V (cdT Ev) mx d 0 1092 [some (.ref a), l1, l2, l3] (.ref a :: st) h Q := x_aload (len := 1) rfl rfl
theorem s_0_1091_n : wp V (cdT Ev) mx d 0 1091 [some .null, l1, l2, l3] st h Q = wp V (cdT Ev) mx d 0 1092 [some .null, l1, l2, l3] (.null :: st) h Q := x_aloadN (len := 1) rfl rfl
theorem s_0_1092 {x : Int32} : wp V (cdT Ev) mx d 0 1092 [l0, l1, l2, some (.int x)] st h Q = wp V (cdT Ev) mx d 0 1093 [l0, l1, l2, some (.int x)] (.int x :: st) h Q := x_iload (len := 1) rfl rfl
theorem s_0_1093 : wp V (cdT Ev) mx d 0 1093 ls st h Q = wp V (cdT Ev) mx d 0 1094 ls ((.int (2)) :: st) h Q := x_push (v := (.int (2))) (len := 1) rfl
theorem s_0_1094 {x z : Int32} : wp V (cdT Ev) mx d 0 1094 ls (.int z :: .int x :: st) h Q = wp V (cdT Ev) mx d 0 1095 ls (.int (x + z) :: st) h Q := x_ib (f := fun x z => x + z) rfl
theorem s_0_1095 {i : Int32} {a : Nat} : wp V (cdT Ev) mx d 0 1095 ls (.int i :: .ref a :: st) h Q = ai 2 i V h a (fun x => wp V (cdT Ev) mx d 0 1096 ls (.int x :: st) h Q) := x_iald rfl
theorem s_0_1096 {a : Nat} : wp V (cdT Ev) mx d 0 1096 [some (.ref a), l1, l2, l3] st h Q = wp V (cdT Ev) mx d 0 1097 [some (.ref a), l1, l2, l3] (.ref a :: st) h Q := x_aload (len := 1) rfl rfl
theorem s_0_1096_n : wp V (cdT Ev) mx d 0 1096 [some .null, l1, l2, l3] st h Q = wp V (cdT Ev) mx d 0 1097 [some .null, l1, l2, l3] (.null :: st) h Q := x_aloadN (len := 1) rfl rfl
theorem s_0_1097 {x : Int32} : wp V (cdT Ev) mx d 0 1097 [l0, l1, l2, some (.int x)] st h Q = wp V (cdT Ev) mx d 0 1098 [l0, l1, l2, some (.int x)] (.int x :: st) h Q := x_iload (len := 1) rfl rfl
theorem s_0_1098 : wp V (cdT Ev) mx d 0 1098 ls st h Q = wp V (cdT Ev) mx d 0 1099 ls ((.int (3)) :: st) h Q := x_push (v := (.int (3))) (len := 1) rfl
theorem s_0_1099 {x z : Int32} : wp V (cdT Ev) mx d 0 1099 ls (.int z :: .int x :: st) h Q = wp V (cdT Ev) mx d 0 1100 ls (.int (x + z) :: st) h Q := x_ib (f := fun x z => x + z) rfl
theorem s_0_1100 {i : Int32} {a : Nat} : wp V (cdT Ev) mx d 0 1100 ls (.int i :: .ref a :: st) h Q = ai 2 i V h a (fun x => wp V (cdT Ev) mx d 0 1101 ls (.int x :: st) h Q) := x_iald rfl
theorem s_0_1101 {x : Int32} : wp V (cdT Ev) mx d 0 1101 ls (.int x :: st) h Q = wp V (cdT Ev) mx d 0 1102 ls (.long x.toInt64 :: st) h Q := x_i2l rfl
theorem s_0_1102 : wp V (cdT Ev) mx d 0 1102 ls st h Q = wp V (cdT Ev) mx d 0 1104 ls ((.int (32)) :: st) h Q := x_push (v := (.int (32))) (len := 2) rfl
theorem s_0_1104 {x : Int64} {z : Int32} : wp V (cdT Ev) mx d 0 1104 ls (.int z :: .long x :: st) h Q = wp V (cdT Ev) mx d 0 1105 ls (.long (x <<< (z.toInt64 &&& 63)) :: st) h Q := x_lshl rfl
theorem s_0_1105 {a : Nat} : wp V (cdT Ev) mx d 0 1105 [some (.ref a), l1, l2, l3] st h Q = wp V (cdT Ev) mx d 0 1106 [some (.ref a), l1, l2, l3] (.ref a :: st) h Q := x_aload (len := 1) rfl rfl
theorem s_0_1105_n : wp V (cdT Ev) mx d 0 1105 [some .null, l1, l2, l3] st h Q = wp V (cdT Ev) mx d 0 1106 [some .null, l1, l2, l3] (.null :: st) h Q := x_aloadN (len := 1) rfl rfl
theorem s_0_1106 {x : Int32} : wp V (cdT Ev) mx d 0 1106 [l0, l1, l2, some (.int x)] st h Q = wp V (cdT Ev) mx d 0 1107 [l0, l1, l2, some (.int x)] (.int x :: st) h Q := x_iload (len := 1) rfl rfl
theorem s_0_1107 : wp V (cdT Ev) mx d 0 1107 ls st h Q = wp V (cdT Ev) mx d 0 1108 ls ((.int (4)) :: st) h Q := x_push (v := (.int (4))) (len := 1) rfl
theorem s_0_1108 {x z : Int32} : wp V (cdT Ev) mx d 0 1108 ls (.int z :: .int x :: st) h Q = wp V (cdT Ev) mx d 0 1109 ls (.int (x + z) :: st) h Q := x_ib (f := fun x z => x + z) rfl
theorem s_0_1109 {i : Int32} {a : Nat} : wp V (cdT Ev) mx d 0 1109 ls (.int i :: .ref a :: st) h Q = ai 2 i V h a (fun x => wp V (cdT Ev) mx d 0 1110 ls (.int x :: st) h Q) := x_iald rfl
theorem s_0_1110 {x : Int32} : wp V (cdT Ev) mx d 0 1110 ls (.int x :: st) h Q = wp V (cdT Ev) mx d 0 1111 ls (.long x.toInt64 :: st) h Q := x_i2l rfl
theorem s_0_1111 : wp V (cdT Ev) mx d 0 1111 ls st h Q = wp V (cdT Ev) mx d 0 1114 ls ((.long (4294967295)) :: st) h Q := x_push (v := (.long (4294967295))) (len := 3) rfl
theorem s_0_1114 {x z : Int64} : wp V (cdT Ev) mx d 0 1114 ls (.long z :: .long x :: st) h Q = wp V (cdT Ev) mx d 0 1115 ls (.long (x &&& z) :: st) h Q := x_lb (f := fun x z => x &&& z) rfl
theorem s_0_1115 {x z : Int64} : wp V (cdT Ev) mx d 0 1115 ls (.long z :: .long x :: st) h Q = wp V (cdT Ev) mx d 0 1116 ls (.long (x ||| z) :: st) h Q := x_lb (f := fun x z => x ||| z) rfl
theorem s_0_1116 {b : Nat} {v0 v1 v2 : Value} (hst : st.length ≤ 4) : wp V (cdT Ev) mx d 0 1116 ls (v2 :: v1 :: v0 :: .ref b :: st) h Q = cv [(12, 191)] h b (fun y' => WP V (cdT Ev) mx d y' [.ref b, v0, v1, v2] h (fun r h' => wp V (cdT Ev) mx d 0 1119 ls (rts r st) h' Q)) := x_cv (sg := [v2, v1, v0]) rfl hst rfl rfl
theorem s_0_1119 {x z : Int32} : wp V (cdT Ev) mx d 0 1119 ls (.int z :: .int x :: st) h Q = (if x = z then wp V (cdT Ev) mx d 0 1221 ls st h Q else wp V (cdT Ev) mx d 0 1122 ls st h Q) := x_if2 (c := fun x z => x = z) rfl
theorem s_0_1122 : wp V (cdT Ev) mx d 0 1122 ls st h Q = wp V (cdT Ev) mx d 0 1123 ls ((.int (0)) :: st) h Q := x_push (v := (.int (0))) (len := 1) rfl
theorem s_0_1123 {x : Int32} (hx : okr 1 (.int x) = true) : wp V (cdT Ev) mx d 0 1123 ls [.int x] h Q = Q (some (.int x)) h := x_ret rfl hx
theorem s_0_1124 {a : Nat} : wp V (cdT Ev) mx d 0 1124 [l0, some (.ref a), l2, l3] st h Q = wp V (cdT Ev) mx d 0 1125 [l0, some (.ref a), l2, l3] (.ref a :: st) h Q := x_aload (len := 1) rfl rfl
theorem s_0_1124_n : wp V (cdT Ev) mx d 0 1124 [l0, some .null, l2, l3] st h Q = wp V (cdT Ev) mx d 0 1125 [l0, some .null, l2, l3] (.null :: st) h Q := x_aloadN (len := 1) rfl rfl
theorem s_0_1125 {a : Nat} : wp V (cdT Ev) mx d 0 1125 [some (.ref a), l1, l2, l3] st h Q = wp V (cdT Ev) mx d 0 1126 [some (.ref a), l1, l2, l3] (.ref a :: st) h Q := x_aload (len := 1) rfl rfl
theorem s_0_1125_n : wp V (cdT Ev) mx d 0 1125 [some .null, l1, l2, l3] st h Q = wp V (cdT Ev) mx d 0 1126 [some .null, l1, l2, l3] (.null :: st) h Q := x_aloadN (len := 1) rfl rfl
theorem s_0_1126 {x : Int32} : wp V (cdT Ev) mx d 0 1126 [l0, l1, l2, some (.int x)] st h Q = wp V (cdT Ev) mx d 0 1127 [l0, l1, l2, some (.int x)] (.int x :: st) h Q := x_iload (len := 1) rfl rfl
theorem s_0_1127 : wp V (cdT Ev) mx d 0 1127 ls st h Q = wp V (cdT Ev) mx d 0 1128 ls ((.int (1)) :: st) h Q := x_push (v := (.int (1))) (len := 1) rfl
theorem s_0_1128 {x z : Int32} : wp V (cdT Ev) mx d 0 1128 ls (.int z :: .int x :: st) h Q = wp V (cdT Ev) mx d 0 1129 ls (.int (x + z) :: st) h Q := x_ib (f := fun x z => x + z) rfl
theorem s_0_1129 {i : Int32} {a : Nat} : wp V (cdT Ev) mx d 0 1129 ls (.int i :: .ref a :: st) h Q = ai 2 i V h a (fun x => wp V (cdT Ev) mx d 0 1130 ls (.int x :: st) h Q) := x_iald rfl
theorem s_0_1130 {a : Nat} : wp V (cdT Ev) mx d 0 1130 [some (.ref a), l1, l2, l3] st h Q = wp V (cdT Ev) mx d 0 1131 [some (.ref a), l1, l2, l3] (.ref a :: st) h Q := x_aload (len := 1) rfl rfl
theorem s_0_1130_n : wp V (cdT Ev) mx d 0 1130 [some .null, l1, l2, l3] st h Q = wp V (cdT Ev) mx d 0 1131 [some .null, l1, l2, l3] (.null :: st) h Q := x_aloadN (len := 1) rfl rfl
theorem s_0_1131 {x : Int32} : wp V (cdT Ev) mx d 0 1131 [l0, l1, l2, some (.int x)] st h Q = wp V (cdT Ev) mx d 0 1132 [l0, l1, l2, some (.int x)] (.int x :: st) h Q := x_iload (len := 1) rfl rfl
theorem s_0_1132 : wp V (cdT Ev) mx d 0 1132 ls st h Q = wp V (cdT Ev) mx d 0 1133 ls ((.int (2)) :: st) h Q := x_push (v := (.int (2))) (len := 1) rfl
theorem s_0_1133 {x z : Int32} : wp V (cdT Ev) mx d 0 1133 ls (.int z :: .int x :: st) h Q = wp V (cdT Ev) mx d 0 1134 ls (.int (x + z) :: st) h Q := x_ib (f := fun x z => x + z) rfl
theorem s_0_1134 {i : Int32} {a : Nat} : wp V (cdT Ev) mx d 0 1134 ls (.int i :: .ref a :: st) h Q = ai 2 i V h a (fun x => wp V (cdT Ev) mx d 0 1135 ls (.int x :: st) h Q) := x_iald rfl
theorem s_0_1135 {b : Nat} {v0 v1 : Value} (hst : st.length ≤ 4) : wp V (cdT Ev) mx d 0 1135 ls (v1 :: v0 :: .ref b :: st) h Q = cv [(11, 99)] h b (fun y' => WP V (cdT Ev) mx d y' [.ref b, v0, v1] h (fun r h' => wp V (cdT Ev) mx d 0 1138 ls (rts r st) h' Q)) := x_cv (sg := [v1, v0]) rfl hst rfl rfl
theorem s_0_1138 {a : Nat} : wp V (cdT Ev) mx d 0 1138 [l0, l1, some (.ref a), l3] st h Q = wp V (cdT Ev) mx d 0 1139 [l0, l1, some (.ref a), l3] (.ref a :: st) h Q := x_aload (len := 1) rfl rfl
theorem s_0_1138_n : wp V (cdT Ev) mx d 0 1138 [l0, l1, some .null, l3] st h Q = wp V (cdT Ev) mx d 0 1139 [l0, l1, some .null, l3] (.null :: st) h Q := x_aloadN (len := 1) rfl rfl
theorem s_0_1139 {a : Nat} : wp V (cdT Ev) mx d 0 1139 [some (.ref a), l1, l2, l3] st h Q = wp V (cdT Ev) mx d 0 1140 [some (.ref a), l1, l2, l3] (.ref a :: st) h Q := x_aload (len := 1) rfl rfl
theorem s_0_1139_n : wp V (cdT Ev) mx d 0 1139 [some .null, l1, l2, l3] st h Q = wp V (cdT Ev) mx d 0 1140 [some .null, l1, l2, l3] (.null :: st) h Q := x_aloadN (len := 1) rfl rfl
theorem s_0_1140 {x : Int32} : wp V (cdT Ev) mx d 0 1140 [l0, l1, l2, some (.int x)] st h Q = wp V (cdT Ev) mx d 0 1141 [l0, l1, l2, some (.int x)] (.int x :: st) h Q := x_iload (len := 1) rfl rfl
theorem s_0_1141 : wp V (cdT Ev) mx d 0 1141 ls st h Q = wp V (cdT Ev) mx d 0 1142 ls ((.int (1)) :: st) h Q := x_push (v := (.int (1))) (len := 1) rfl
theorem s_0_1142 {x z : Int32} : wp V (cdT Ev) mx d 0 1142 ls (.int z :: .int x :: st) h Q = wp V (cdT Ev) mx d 0 1143 ls (.int (x + z) :: st) h Q := x_ib (f := fun x z => x + z) rfl
theorem s_0_1143 {i : Int32} {a : Nat} : wp V (cdT Ev) mx d 0 1143 ls (.int i :: .ref a :: st) h Q = ai 2 i V h a (fun x => wp V (cdT Ev) mx d 0 1144 ls (.int x :: st) h Q) := x_iald rfl
theorem s_0_1144 {a : Nat} : wp V (cdT Ev) mx d 0 1144 [some (.ref a), l1, l2, l3] st h Q = wp V (cdT Ev) mx d 0 1145 [some (.ref a), l1, l2, l3] (.ref a :: st) h Q := x_aload (len := 1) rfl rfl
theorem s_0_1144_n : wp V (cdT Ev) mx d 0 1144 [some .null, l1, l2, l3] st h Q = wp V (cdT Ev) mx d 0 1145 [some .null, l1, l2, l3] (.null :: st) h Q := x_aloadN (len := 1) rfl rfl
theorem s_0_1145 {x : Int32} : wp V (cdT Ev) mx d 0 1145 [l0, l1, l2, some (.int x)] st h Q = wp V (cdT Ev) mx d 0 1146 [l0, l1, l2, some (.int x)] (.int x :: st) h Q := x_iload (len := 1) rfl rfl
theorem s_0_1146 : wp V (cdT Ev) mx d 0 1146 ls st h Q = wp V (cdT Ev) mx d 0 1147 ls ((.int (2)) :: st) h Q := x_push (v := (.int (2))) (len := 1) rfl
theorem s_0_1147 {x z : Int32} : wp V (cdT Ev) mx d 0 1147 ls (.int z :: .int x :: st) h Q = wp V (cdT Ev) mx d 0 1148 ls (.int (x + z) :: st) h Q := x_ib (f := fun x z => x + z) rfl
theorem s_0_1148 {i : Int32} {a : Nat} : wp V (cdT Ev) mx d 0 1148 ls (.int i :: .ref a :: st) h Q = ai 2 i V h a (fun x => wp V (cdT Ev) mx d 0 1149 ls (.int x :: st) h Q) := x_iald rfl
theorem s_0_1149 {b : Nat} {v0 v1 : Value} (hst : st.length ≤ 4) : wp V (cdT Ev) mx d 0 1149 ls (v1 :: v0 :: .ref b :: st) h Q = cv [(12, 192)] h b (fun y' => WP V (cdT Ev) mx d y' [.ref b, v0, v1] h (fun r h' => wp V (cdT Ev) mx d 0 1152 ls (rts r st) h' Q)) := x_cv (sg := [v1, v0]) rfl hst rfl rfl
theorem s_0_1152 {x z : Int64} : wp V (cdT Ev) mx d 0 1152 ls (.long z :: .long x :: st) h Q = wp V (cdT Ev) mx d 0 1153 ls (.int (lg_cmp x z) :: st) h Q := x_lcmp rfl
theorem s_0_1153 {x : Int32} : wp V (cdT Ev) mx d 0 1153 ls (.int x :: st) h Q = (if x = 0 then wp V (cdT Ev) mx d 0 1221 ls st h Q else wp V (cdT Ev) mx d 0 1156 ls st h Q) := x_if1 (c := fun x => x = 0) rfl
theorem s_0_1156 : wp V (cdT Ev) mx d 0 1156 ls st h Q = wp V (cdT Ev) mx d 0 1157 ls ((.int (0)) :: st) h Q := x_push (v := (.int (0))) (len := 1) rfl
theorem s_0_1157 {x : Int32} (hx : okr 1 (.int x) = true) : wp V (cdT Ev) mx d 0 1157 ls [.int x] h Q = Q (some (.int x)) h := x_ret rfl hx
theorem s_0_1158 {a : Nat} : wp V (cdT Ev) mx d 0 1158 [l0, some (.ref a), l2, l3] st h Q = wp V (cdT Ev) mx d 0 1159 [l0, some (.ref a), l2, l3] (.ref a :: st) h Q := x_aload (len := 1) rfl rfl
theorem s_0_1158_n : wp V (cdT Ev) mx d 0 1158 [l0, some .null, l2, l3] st h Q = wp V (cdT Ev) mx d 0 1159 [l0, some .null, l2, l3] (.null :: st) h Q := x_aloadN (len := 1) rfl rfl
theorem s_0_1159 {a : Nat} : wp V (cdT Ev) mx d 0 1159 [some (.ref a), l1, l2, l3] st h Q = wp V (cdT Ev) mx d 0 1160 [some (.ref a), l1, l2, l3] (.ref a :: st) h Q := x_aload (len := 1) rfl rfl
theorem s_0_1159_n : wp V (cdT Ev) mx d 0 1159 [some .null, l1, l2, l3] st h Q = wp V (cdT Ev) mx d 0 1160 [some .null, l1, l2, l3] (.null :: st) h Q := x_aloadN (len := 1) rfl rfl
theorem s_0_1160 {x : Int32} : wp V (cdT Ev) mx d 0 1160 [l0, l1, l2, some (.int x)] st h Q = wp V (cdT Ev) mx d 0 1161 [l0, l1, l2, some (.int x)] (.int x :: st) h Q := x_iload (len := 1) rfl rfl
theorem s_0_1161 : wp V (cdT Ev) mx d 0 1161 ls st h Q = wp V (cdT Ev) mx d 0 1162 ls ((.int (1)) :: st) h Q := x_push (v := (.int (1))) (len := 1) rfl
theorem s_0_1162 {x z : Int32} : wp V (cdT Ev) mx d 0 1162 ls (.int z :: .int x :: st) h Q = wp V (cdT Ev) mx d 0 1163 ls (.int (x + z) :: st) h Q := x_ib (f := fun x z => x + z) rfl
theorem s_0_1163 {i : Int32} {a : Nat} : wp V (cdT Ev) mx d 0 1163 ls (.int i :: .ref a :: st) h Q = ai 2 i V h a (fun x => wp V (cdT Ev) mx d 0 1164 ls (.int x :: st) h Q) := x_iald rfl
theorem s_0_1164 {a : Nat} : wp V (cdT Ev) mx d 0 1164 [some (.ref a), l1, l2, l3] st h Q = wp V (cdT Ev) mx d 0 1165 [some (.ref a), l1, l2, l3] (.ref a :: st) h Q := x_aload (len := 1) rfl rfl
theorem s_0_1164_n : wp V (cdT Ev) mx d 0 1164 [some .null, l1, l2, l3] st h Q = wp V (cdT Ev) mx d 0 1165 [some .null, l1, l2, l3] (.null :: st) h Q := x_aloadN (len := 1) rfl rfl
theorem s_0_1165 {x : Int32} : wp V (cdT Ev) mx d 0 1165 [l0, l1, l2, some (.int x)] st h Q = wp V (cdT Ev) mx d 0 1166 [l0, l1, l2, some (.int x)] (.int x :: st) h Q := x_iload (len := 1) rfl rfl
theorem s_0_1166 : wp V (cdT Ev) mx d 0 1166 ls st h Q = wp V (cdT Ev) mx d 0 1167 ls ((.int (2)) :: st) h Q := x_push (v := (.int (2))) (len := 1) rfl
theorem s_0_1167 {x z : Int32} : wp V (cdT Ev) mx d 0 1167 ls (.int z :: .int x :: st) h Q = wp V (cdT Ev) mx d 0 1168 ls (.int (x + z) :: st) h Q := x_ib (f := fun x z => x + z) rfl
theorem s_0_1168 {i : Int32} {a : Nat} : wp V (cdT Ev) mx d 0 1168 ls (.int i :: .ref a :: st) h Q = ai 2 i V h a (fun x => wp V (cdT Ev) mx d 0 1169 ls (.int x :: st) h Q) := x_iald rfl
theorem s_0_1169 {a : Nat} : wp V (cdT Ev) mx d 0 1169 [some (.ref a), l1, l2, l3] st h Q = wp V (cdT Ev) mx d 0 1170 [some (.ref a), l1, l2, l3] (.ref a :: st) h Q := x_aload (len := 1) rfl rfl
theorem s_0_1169_n : wp V (cdT Ev) mx d 0 1169 [some .null, l1, l2, l3] st h Q = wp V (cdT Ev) mx d 0 1170 [some .null, l1, l2, l3] (.null :: st) h Q := x_aloadN (len := 1) rfl rfl
theorem s_0_1170 {x : Int32} : wp V (cdT Ev) mx d 0 1170 [l0, l1, l2, some (.int x)] st h Q = wp V (cdT Ev) mx d 0 1171 [l0, l1, l2, some (.int x)] (.int x :: st) h Q := x_iload (len := 1) rfl rfl
theorem s_0_1171 : wp V (cdT Ev) mx d 0 1171 ls st h Q = wp V (cdT Ev) mx d 0 1172 ls ((.int (3)) :: st) h Q := x_push (v := (.int (3))) (len := 1) rfl
theorem s_0_1172 {x z : Int32} : wp V (cdT Ev) mx d 0 1172 ls (.int z :: .int x :: st) h Q = wp V (cdT Ev) mx d 0 1173 ls (.int (x + z) :: st) h Q := x_ib (f := fun x z => x + z) rfl
theorem s_0_1173 {i : Int32} {a : Nat} : wp V (cdT Ev) mx d 0 1173 ls (.int i :: .ref a :: st) h Q = ai 2 i V h a (fun x => wp V (cdT Ev) mx d 0 1174 ls (.int x :: st) h Q) := x_iald rfl
theorem s_0_1174 {a : Nat} : wp V (cdT Ev) mx d 0 1174 [some (.ref a), l1, l2, l3] st h Q = wp V (cdT Ev) mx d 0 1175 [some (.ref a), l1, l2, l3] (.ref a :: st) h Q := x_aload (len := 1) rfl rfl
theorem s_0_1174_n : wp V (cdT Ev) mx d 0 1174 [some .null, l1, l2, l3] st h Q = wp V (cdT Ev) mx d 0 1175 [some .null, l1, l2, l3] (.null :: st) h Q := x_aloadN (len := 1) rfl rfl
theorem s_0_1175 {x : Int32} : wp V (cdT Ev) mx d 0 1175 [l0, l1, l2, some (.int x)] st h Q = wp V (cdT Ev) mx d 0 1176 [l0, l1, l2, some (.int x)] (.int x :: st) h Q := x_iload (len := 1) rfl rfl
theorem s_0_1176 : wp V (cdT Ev) mx d 0 1176 ls st h Q = wp V (cdT Ev) mx d 0 1177 ls ((.int (4)) :: st) h Q := x_push (v := (.int (4))) (len := 1) rfl
theorem s_0_1177 {x z : Int32} : wp V (cdT Ev) mx d 0 1177 ls (.int z :: .int x :: st) h Q = wp V (cdT Ev) mx d 0 1178 ls (.int (x + z) :: st) h Q := x_ib (f := fun x z => x + z) rfl
theorem s_0_1178 {i : Int32} {a : Nat} : wp V (cdT Ev) mx d 0 1178 ls (.int i :: .ref a :: st) h Q = ai 2 i V h a (fun x => wp V (cdT Ev) mx d 0 1179 ls (.int x :: st) h Q) := x_iald rfl
theorem s_0_1179 {a : Nat} : wp V (cdT Ev) mx d 0 1179 [some (.ref a), l1, l2, l3] st h Q = wp V (cdT Ev) mx d 0 1180 [some (.ref a), l1, l2, l3] (.ref a :: st) h Q := x_aload (len := 1) rfl rfl
theorem s_0_1179_n : wp V (cdT Ev) mx d 0 1179 [some .null, l1, l2, l3] st h Q = wp V (cdT Ev) mx d 0 1180 [some .null, l1, l2, l3] (.null :: st) h Q := x_aloadN (len := 1) rfl rfl
theorem s_0_1180 {x : Int32} : wp V (cdT Ev) mx d 0 1180 [l0, l1, l2, some (.int x)] st h Q = wp V (cdT Ev) mx d 0 1181 [l0, l1, l2, some (.int x)] (.int x :: st) h Q := x_iload (len := 1) rfl rfl
theorem s_0_1181 : wp V (cdT Ev) mx d 0 1181 ls st h Q = wp V (cdT Ev) mx d 0 1182 ls ((.int (5)) :: st) h Q := x_push (v := (.int (5))) (len := 1) rfl
theorem s_0_1182 {x z : Int32} : wp V (cdT Ev) mx d 0 1182 ls (.int z :: .int x :: st) h Q = wp V (cdT Ev) mx d 0 1183 ls (.int (x + z) :: st) h Q := x_ib (f := fun x z => x + z) rfl
theorem s_0_1183 {i : Int32} {a : Nat} : wp V (cdT Ev) mx d 0 1183 ls (.int i :: .ref a :: st) h Q = ai 2 i V h a (fun x => wp V (cdT Ev) mx d 0 1184 ls (.int x :: st) h Q) := x_iald rfl
theorem s_0_1184 {b : Nat} {v0 v1 v2 v3 v4 : Value} (hst : st.length ≤ 4) : wp V (cdT Ev) mx d 0 1184 ls (v4 :: v3 :: v2 :: v1 :: v0 :: .ref b :: st) h Q = cv [(11, 100)] h b (fun y' => WP V (cdT Ev) mx d y' [.ref b, v0, v1, v2, v3, v4] h (fun r h' => wp V (cdT Ev) mx d 0 1187 ls (rts r st) h' Q)) := x_cv (sg := [v4, v3, v2, v1, v0]) rfl hst rfl rfl
theorem s_0_1187 {a : Nat} : wp V (cdT Ev) mx d 0 1187 [l0, l1, some (.ref a), l3] st h Q = wp V (cdT Ev) mx d 0 1188 [l0, l1, some (.ref a), l3] (.ref a :: st) h Q := x_aload (len := 1) rfl rfl
theorem s_0_1187_n : wp V (cdT Ev) mx d 0 1187 [l0, l1, some .null, l3] st h Q = wp V (cdT Ev) mx d 0 1188 [l0, l1, some .null, l3] (.null :: st) h Q := x_aloadN (len := 1) rfl rfl
theorem s_0_1188 {a : Nat} : wp V (cdT Ev) mx d 0 1188 [some (.ref a), l1, l2, l3] st h Q = wp V (cdT Ev) mx d 0 1189 [some (.ref a), l1, l2, l3] (.ref a :: st) h Q := x_aload (len := 1) rfl rfl
theorem s_0_1188_n : wp V (cdT Ev) mx d 0 1188 [some .null, l1, l2, l3] st h Q = wp V (cdT Ev) mx d 0 1189 [some .null, l1, l2, l3] (.null :: st) h Q := x_aloadN (len := 1) rfl rfl
theorem s_0_1189 {x : Int32} : wp V (cdT Ev) mx d 0 1189 [l0, l1, l2, some (.int x)] st h Q = wp V (cdT Ev) mx d 0 1190 [l0, l1, l2, some (.int x)] (.int x :: st) h Q := x_iload (len := 1) rfl rfl
theorem s_0_1190 : wp V (cdT Ev) mx d 0 1190 ls st h Q = wp V (cdT Ev) mx d 0 1191 ls ((.int (1)) :: st) h Q := x_push (v := (.int (1))) (len := 1) rfl
theorem s_0_1191 {x z : Int32} : wp V (cdT Ev) mx d 0 1191 ls (.int z :: .int x :: st) h Q = wp V (cdT Ev) mx d 0 1192 ls (.int (x + z) :: st) h Q := x_ib (f := fun x z => x + z) rfl
theorem s_0_1192 {i : Int32} {a : Nat} : wp V (cdT Ev) mx d 0 1192 ls (.int i :: .ref a :: st) h Q = ai 2 i V h a (fun x => wp V (cdT Ev) mx d 0 1193 ls (.int x :: st) h Q) := x_iald rfl
theorem s_0_1193 {a : Nat} : wp V (cdT Ev) mx d 0 1193 [some (.ref a), l1, l2, l3] st h Q = wp V (cdT Ev) mx d 0 1194 [some (.ref a), l1, l2, l3] (.ref a :: st) h Q := x_aload (len := 1) rfl rfl
theorem s_0_1193_n : wp V (cdT Ev) mx d 0 1193 [some .null, l1, l2, l3] st h Q = wp V (cdT Ev) mx d 0 1194 [some .null, l1, l2, l3] (.null :: st) h Q := x_aloadN (len := 1) rfl rfl
theorem s_0_1194 {x : Int32} : wp V (cdT Ev) mx d 0 1194 [l0, l1, l2, some (.int x)] st h Q = wp V (cdT Ev) mx d 0 1195 [l0, l1, l2, some (.int x)] (.int x :: st) h Q := x_iload (len := 1) rfl rfl
theorem s_0_1195 : wp V (cdT Ev) mx d 0 1195 ls st h Q = wp V (cdT Ev) mx d 0 1196 ls ((.int (2)) :: st) h Q := x_push (v := (.int (2))) (len := 1) rfl
theorem s_0_1196 {x z : Int32} : wp V (cdT Ev) mx d 0 1196 ls (.int z :: .int x :: st) h Q = wp V (cdT Ev) mx d 0 1197 ls (.int (x + z) :: st) h Q := x_ib (f := fun x z => x + z) rfl
theorem s_0_1197 {i : Int32} {a : Nat} : wp V (cdT Ev) mx d 0 1197 ls (.int i :: .ref a :: st) h Q = ai 2 i V h a (fun x => wp V (cdT Ev) mx d 0 1198 ls (.int x :: st) h Q) := x_iald rfl
theorem s_0_1198 {a : Nat} : wp V (cdT Ev) mx d 0 1198 [some (.ref a), l1, l2, l3] st h Q = wp V (cdT Ev) mx d 0 1199 [some (.ref a), l1, l2, l3] (.ref a :: st) h Q := x_aload (len := 1) rfl rfl
theorem s_0_1198_n : wp V (cdT Ev) mx d 0 1198 [some .null, l1, l2, l3] st h Q = wp V (cdT Ev) mx d 0 1199 [some .null, l1, l2, l3] (.null :: st) h Q := x_aloadN (len := 1) rfl rfl
theorem s_0_1199 {x : Int32} : wp V (cdT Ev) mx d 0 1199 [l0, l1, l2, some (.int x)] st h Q = wp V (cdT Ev) mx d 0 1200 [l0, l1, l2, some (.int x)] (.int x :: st) h Q := x_iload (len := 1) rfl rfl
theorem s_0_1200 : wp V (cdT Ev) mx d 0 1200 ls st h Q = wp V (cdT Ev) mx d 0 1201 ls ((.int (3)) :: st) h Q := x_push (v := (.int (3))) (len := 1) rfl
theorem s_0_1201 {x z : Int32} : wp V (cdT Ev) mx d 0 1201 ls (.int z :: .int x :: st) h Q = wp V (cdT Ev) mx d 0 1202 ls (.int (x + z) :: st) h Q := x_ib (f := fun x z => x + z) rfl
theorem s_0_1202 {i : Int32} {a : Nat} : wp V (cdT Ev) mx d 0 1202 ls (.int i :: .ref a :: st) h Q = ai 2 i V h a (fun x => wp V (cdT Ev) mx d 0 1203 ls (.int x :: st) h Q) := x_iald rfl
theorem s_0_1203 {a : Nat} : wp V (cdT Ev) mx d 0 1203 [some (.ref a), l1, l2, l3] st h Q = wp V (cdT Ev) mx d 0 1204 [some (.ref a), l1, l2, l3] (.ref a :: st) h Q := x_aload (len := 1) rfl rfl
theorem s_0_1203_n : wp V (cdT Ev) mx d 0 1203 [some .null, l1, l2, l3] st h Q = wp V (cdT Ev) mx d 0 1204 [some .null, l1, l2, l3] (.null :: st) h Q := x_aloadN (len := 1) rfl rfl
theorem s_0_1204 {x : Int32} : wp V (cdT Ev) mx d 0 1204 [l0, l1, l2, some (.int x)] st h Q = wp V (cdT Ev) mx d 0 1205 [l0, l1, l2, some (.int x)] (.int x :: st) h Q := x_iload (len := 1) rfl rfl
theorem s_0_1205 : wp V (cdT Ev) mx d 0 1205 ls st h Q = wp V (cdT Ev) mx d 0 1206 ls ((.int (4)) :: st) h Q := x_push (v := (.int (4))) (len := 1) rfl
theorem s_0_1206 {x z : Int32} : wp V (cdT Ev) mx d 0 1206 ls (.int z :: .int x :: st) h Q = wp V (cdT Ev) mx d 0 1207 ls (.int (x + z) :: st) h Q := x_ib (f := fun x z => x + z) rfl
theorem s_0_1207 {i : Int32} {a : Nat} : wp V (cdT Ev) mx d 0 1207 ls (.int i :: .ref a :: st) h Q = ai 2 i V h a (fun x => wp V (cdT Ev) mx d 0 1208 ls (.int x :: st) h Q) := x_iald rfl
theorem s_0_1208 {a : Nat} : wp V (cdT Ev) mx d 0 1208 [some (.ref a), l1, l2, l3] st h Q = wp V (cdT Ev) mx d 0 1209 [some (.ref a), l1, l2, l3] (.ref a :: st) h Q := x_aload (len := 1) rfl rfl
theorem s_0_1208_n : wp V (cdT Ev) mx d 0 1208 [some .null, l1, l2, l3] st h Q = wp V (cdT Ev) mx d 0 1209 [some .null, l1, l2, l3] (.null :: st) h Q := x_aloadN (len := 1) rfl rfl
theorem s_0_1209 {x : Int32} : wp V (cdT Ev) mx d 0 1209 [l0, l1, l2, some (.int x)] st h Q = wp V (cdT Ev) mx d 0 1210 [l0, l1, l2, some (.int x)] (.int x :: st) h Q := x_iload (len := 1) rfl rfl
theorem s_0_1210 : wp V (cdT Ev) mx d 0 1210 ls st h Q = wp V (cdT Ev) mx d 0 1211 ls ((.int (5)) :: st) h Q := x_push (v := (.int (5))) (len := 1) rfl
theorem s_0_1211 {x z : Int32} : wp V (cdT Ev) mx d 0 1211 ls (.int z :: .int x :: st) h Q = wp V (cdT Ev) mx d 0 1212 ls (.int (x + z) :: st) h Q := x_ib (f := fun x z => x + z) rfl
theorem s_0_1212 {i : Int32} {a : Nat} : wp V (cdT Ev) mx d 0 1212 ls (.int i :: .ref a :: st) h Q = ai 2 i V h a (fun x => wp V (cdT Ev) mx d 0 1213 ls (.int x :: st) h Q) := x_iald rfl
theorem s_0_1213 {b : Nat} {v0 v1 v2 v3 v4 : Value} (hst : st.length ≤ 4) : wp V (cdT Ev) mx d 0 1213 ls (v4 :: v3 :: v2 :: v1 :: v0 :: .ref b :: st) h Q = cv [(12, 193)] h b (fun y' => WP V (cdT Ev) mx d y' [.ref b, v0, v1, v2, v3, v4] h (fun r h' => wp V (cdT Ev) mx d 0 1216 ls (rts r st) h' Q)) := x_cv (sg := [v4, v3, v2, v1, v0]) rfl hst rfl rfl
theorem s_0_1216 {x z : Int32} : wp V (cdT Ev) mx d 0 1216 ls (.int z :: .int x :: st) h Q = (if x = z then wp V (cdT Ev) mx d 0 1221 ls st h Q else wp V (cdT Ev) mx d 0 1219 ls st h Q) := x_if2 (c := fun x z => x = z) rfl
theorem s_0_1219 : wp V (cdT Ev) mx d 0 1219 ls st h Q = wp V (cdT Ev) mx d 0 1220 ls ((.int (0)) :: st) h Q := x_push (v := (.int (0))) (len := 1) rfl
theorem s_0_1220 {x : Int32} (hx : okr 1 (.int x) = true) : wp V (cdT Ev) mx d 0 1220 ls [.int x] h Q = Q (some (.int x)) h := x_ret rfl hx
theorem s_0_1221 {x : Int32} : wp V (cdT Ev) mx d 0 1221 [l0, l1, l2, some (.int x)] st h Q = wp V (cdT Ev) mx d 0 1224 [l0, l1, l2, some (.int (x + (6)))] st h Q := x_iinc rfl rfl rfl
theorem s_0_1224 : wp V (cdT Ev) mx d 0 1224 ls st h Q = wp V (cdT Ev) mx d 0 18 ls st h Q := x_goto rfl
theorem s_0_1227 : wp V (cdT Ev) mx d 0 1227 ls st h Q = wp V (cdT Ev) mx d 0 1228 ls ((.int (1)) :: st) h Q := x_push (v := (.int (1))) (len := 1) rfl
theorem s_0_1228 {x : Int32} (hx : okr 1 (.int x) = true) : wp V (cdT Ev) mx d 0 1228 ls [.int x] h Q = Q (some (.int x)) h := x_ret rfl hx
theorem e_0 {p0 : Nat} : WP V (cdT Ev) mx (d + 1) 0 [.ref p0] h Q = wp V (cdT Ev) mx d 0 0 [some (.ref p0), none, none, none] [] h Q := propext (WP_eq (Nat.le_of_ble_eq_true rfl))
theorem s_1_0 {a : Nat} : wp V (cdT Ev) mx d 1 0 [some (.ref a)] st h Q = wp V (cdT Ev) mx d 1 1 [some (.ref a)] (.ref a :: st) h Q := x_aload (len := 1) rfl rfl
theorem s_1_0_n : wp V (cdT Ev) mx d 1 0 [some .null] st h Q = wp V (cdT Ev) mx d 1 1 [some .null] (.null :: st) h Q := x_aloadN (len := 1) rfl rfl
theorem s_1_1 {a : Nat} (hst : st.length ≤ 4) : wp V (cdT Ev) mx d 1 1 ls (.ref a :: st) h Q = wp V (cdT Ev) mx d 1 4 ls st h Q := x_oi rfl hst
theorem s_1_4 {a : Nat} : wp V (cdT Ev) mx d 1 4 [some (.ref a)] st h Q = wp V (cdT Ev) mx d 1 5 [some (.ref a)] (.ref a :: st) h Q := x_aload (len := 1) rfl rfl
theorem s_1_4_n : wp V (cdT Ev) mx d 1 4 [some .null] st h Q = wp V (cdT Ev) mx d 1 5 [some .null] (.null :: st) h Q := x_aloadN (len := 1) rfl rfl
theorem s_1_5 : wp V (cdT Ev) mx d 1 5 ls st h Q = wp V (cdT Ev) mx d 1 7 ls ((.int (101)) :: st) h Q := x_push (v := (.int (101))) (len := 2) rfl
theorem s_1_7 {x : Int32} : wp V (cdT Ev) mx d 1 7 ls (.int x :: st) h Q = (¬ (x < 0 ∨ 1000 < x.toNatClampNeg) ∧ wp V (cdT Ev) mx d 1 9 ls (.ref h.2.1 :: st) (hnew h (.inl (0, x.toNatClampNeg, (.inl (fun _ => 0)))) x.toNatClampNeg) Q) := x_newa (len := 2) rfl
theorem s_1_9 {w : Value} {a : Nat} : wp V (cdT Ev) mx d 1 9 ls (w :: .ref a :: st) h Q = pf [0] 0 2 w h a (fun hh => wp V (cdT Ev) mx d 1 12 ls st hh Q) := x_putf rfl
theorem s_1_12 {a : Nat} : wp V (cdT Ev) mx d 1 12 [some (.ref a)] st h Q = wp V (cdT Ev) mx d 1 13 [some (.ref a)] (.ref a :: st) h Q := x_aload (len := 1) rfl rfl
theorem s_1_12_n : wp V (cdT Ev) mx d 1 12 [some .null] st h Q = wp V (cdT Ev) mx d 1 13 [some .null] (.null :: st) h Q := x_aloadN (len := 1) rfl rfl
theorem s_1_13 : wp V (cdT Ev) mx d 1 13 ls st h Q = wp V (cdT Ev) mx d 1 15 ls ((.int (100)) :: st) h Q := x_push (v := (.int (100))) (len := 2) rfl
theorem s_1_15 {x : Int32} : wp V (cdT Ev) mx d 1 15 ls (.int x :: st) h Q = (¬ (x < 0 ∨ 1000 < x.toNatClampNeg) ∧ wp V (cdT Ev) mx d 1 17 ls (.ref h.2.1 :: st) (hnew h (.inl (2, x.toNatClampNeg, (.inl (fun _ => 0)))) x.toNatClampNeg) Q) := x_newa (len := 2) rfl
theorem s_1_17 {w : Value} {a : Nat} : wp V (cdT Ev) mx d 1 17 ls (w :: .ref a :: st) h Q = pf [0] 3 2 w h a (fun hh => wp V (cdT Ev) mx d 1 20 ls st hh Q) := x_putf rfl
theorem s_1_20 {a : Nat} : wp V (cdT Ev) mx d 1 20 [some (.ref a)] st h Q = wp V (cdT Ev) mx d 1 21 [some (.ref a)] (.ref a :: st) h Q := x_aload (len := 1) rfl rfl
theorem s_1_20_n : wp V (cdT Ev) mx d 1 20 [some .null] st h Q = wp V (cdT Ev) mx d 1 21 [some .null] (.null :: st) h Q := x_aloadN (len := 1) rfl rfl
theorem s_1_21 : wp V (cdT Ev) mx d 1 21 ls st h Q = wp V (cdT Ev) mx d 1 23 ls ((.int (10)) :: st) h Q := x_push (v := (.int (10))) (len := 2) rfl
theorem s_1_23 {x : Int32} : wp V (cdT Ev) mx d 1 23 ls (.int x :: st) h Q = (¬ (x < 0 ∨ 1000 < x.toNatClampNeg) ∧ wp V (cdT Ev) mx d 1 25 ls (.ref h.2.1 :: st) (hnew h (.inl (2, x.toNatClampNeg, (.inl (fun _ => 0)))) x.toNatClampNeg) Q) := x_newa (len := 2) rfl
theorem s_1_25 {w : Value} {a : Nat} : wp V (cdT Ev) mx d 1 25 ls (w :: .ref a :: st) h Q = pf [0] 5 2 w h a (fun hh => wp V (cdT Ev) mx d 1 28 ls st hh Q) := x_putf rfl
theorem s_1_28 {a : Nat} : wp V (cdT Ev) mx d 1 28 [some (.ref a)] st h Q = wp V (cdT Ev) mx d 1 29 [some (.ref a)] (.ref a :: st) h Q := x_aload (len := 1) rfl rfl
theorem s_1_28_n : wp V (cdT Ev) mx d 1 28 [some .null] st h Q = wp V (cdT Ev) mx d 1 29 [some .null] (.null :: st) h Q := x_aloadN (len := 1) rfl rfl
theorem s_1_29 : wp V (cdT Ev) mx d 1 29 ls st h Q = wp V (cdT Ev) mx d 1 31 ls ((.int (10)) :: st) h Q := x_push (v := (.int (10))) (len := 2) rfl
theorem s_1_31 {x : Int32} : wp V (cdT Ev) mx d 1 31 ls (.int x :: st) h Q = (¬ (x < 0 ∨ 1000 < x.toNatClampNeg) ∧ wp V (cdT Ev) mx d 1 33 ls (.ref h.2.1 :: st) (hnew h (.inl (2, x.toNatClampNeg, (.inl (fun _ => 0)))) x.toNatClampNeg) Q) := x_newa (len := 2) rfl
theorem s_1_33 {w : Value} {a : Nat} : wp V (cdT Ev) mx d 1 33 ls (w :: .ref a :: st) h Q = pf [0] 6 2 w h a (fun hh => wp V (cdT Ev) mx d 1 36 ls st hh Q) := x_putf rfl
theorem s_1_36 : wp V (cdT Ev) mx d 1 36 ls [] h Q = Q none h := x_retv rfl
theorem e_1 {a : Nat} : WP V (cdT Ev) mx (d + 1) 1 [.ref a] h Q = wp V (cdT Ev) mx d 1 0 [some (.ref a)] [] h Q := propext (WP_eq (Nat.le_of_ble_eq_true rfl))
theorem s_2_0 {a : Nat} : wp V (cdT Ev) mx d 2 0 [some (.ref a), l1, l2] st h Q = wp V (cdT Ev) mx d 2 1 [some (.ref a), l1, l2] (.ref a :: st) h Q := x_aload (len := 1) rfl rfl
theorem s_2_0_n : wp V (cdT Ev) mx d 2 0 [some .null, l1, l2] st h Q = wp V (cdT Ev) mx d 2 1 [some .null, l1, l2] (.null :: st) h Q := x_aloadN (len := 1) rfl rfl
theorem s_2_1 {a : Nat} : wp V (cdT Ev) mx d 2 1 ls (.ref a :: st) h Q = gf [0] 0 h a (fun v => wp V (cdT Ev) mx d 2 4 ls (v :: st) h Q) := x_getf rfl
theorem s_2_4 {a : Nat} : wp V (cdT Ev) mx d 2 4 [some (.ref a), l1, l2] st h Q = wp V (cdT Ev) mx d 2 5 [some (.ref a), l1, l2] (.ref a :: st) h Q := x_aload (len := 1) rfl rfl
theorem s_2_4_n : wp V (cdT Ev) mx d 2 4 [some .null, l1, l2] st h Q = wp V (cdT Ev) mx d 2 5 [some .null, l1, l2] (.null :: st) h Q := x_aloadN (len := 1) rfl rfl
theorem s_2_5 {a : Nat} : wp V (cdT Ev) mx d 2 5 ls (.ref a :: st) h Q = gf [0] 1 h a (fun v => wp V (cdT Ev) mx d 2 8 ls (v :: st) h Q) := x_getf rfl
theorem s_2_8 : wp V (cdT Ev) mx d 2 8 ls st h Q = wp V (cdT Ev) mx d 2 9 ls ((.int (0)) :: st) h Q := x_push (v := (.int (0))) (len := 1) rfl
theorem s_2_9 {x i : Int32} {a : Nat} : wp V (cdT Ev) mx d 2 9 ls (.int x :: .int i :: .ref a :: st) h Q = si 0 i (vp_nar .byte x) h a (fun hh => wp V (cdT Ev) mx d 2 10 ls st hh Q) := x_iast (nw := fun x => vp_nar .byte x) rfl
theorem s_2_10 {a : Nat} : wp V (cdT Ev) mx d 2 10 [some (.ref a), l1, l2] st h Q = wp V (cdT Ev) mx d 2 11 [some (.ref a), l1, l2] (.ref a :: st) h Q := x_aload (len := 1) rfl rfl
theorem s_2_10_n : wp V (cdT Ev) mx d 2 10 [some .null, l1, l2] st h Q = wp V (cdT Ev) mx d 2 11 [some .null, l1, l2] (.null :: st) h Q := x_aloadN (len := 1) rfl rfl
theorem s_2_11 : wp V (cdT Ev) mx d 2 11 ls st h Q = wp V (cdT Ev) mx d 2 12 ls ((.int (0)) :: st) h Q := x_push (v := (.int (0))) (len := 1) rfl
theorem s_2_12 {w : Value} {a : Nat} : wp V (cdT Ev) mx d 2 12 ls (w :: .ref a :: st) h Q = pf [0] 2 0 w h a (fun hh => wp V (cdT Ev) mx d 2 15 ls st hh Q) := x_putf rfl
theorem s_2_15 {a : Nat} : wp V (cdT Ev) mx d 2 15 [some (.ref a), l1, l2] st h Q = wp V (cdT Ev) mx d 2 16 [some (.ref a), l1, l2] (.ref a :: st) h Q := x_aload (len := 1) rfl rfl
theorem s_2_15_n : wp V (cdT Ev) mx d 2 15 [some .null, l1, l2] st h Q = wp V (cdT Ev) mx d 2 16 [some .null, l1, l2] (.null :: st) h Q := x_aloadN (len := 1) rfl rfl
theorem s_2_16 : wp V (cdT Ev) mx d 2 16 ls st h Q = wp V (cdT Ev) mx d 2 17 ls ((.int (0)) :: st) h Q := x_push (v := (.int (0))) (len := 1) rfl
theorem s_2_17 {w : Value} {a : Nat} : wp V (cdT Ev) mx d 2 17 ls (w :: .ref a :: st) h Q = pf [0] 4 0 w h a (fun hh => wp V (cdT Ev) mx d 2 20 ls st hh Q) := x_putf rfl
theorem s_2_20 {a : Nat} : wp V (cdT Ev) mx d 2 20 [some (.ref a), l1, l2] st h Q = wp V (cdT Ev) mx d 2 21 [some (.ref a), l1, l2] (.ref a :: st) h Q := x_aload (len := 1) rfl rfl
theorem s_2_20_n : wp V (cdT Ev) mx d 2 20 [some .null, l1, l2] st h Q = wp V (cdT Ev) mx d 2 21 [some .null, l1, l2] (.null :: st) h Q := x_aloadN (len := 1) rfl rfl
theorem s_2_21 : wp V (cdT Ev) mx d 2 21 ls st h Q = wp V (cdT Ev) mx d 2 22 ls ((.int (0)) :: st) h Q := x_push (v := (.int (0))) (len := 1) rfl
theorem s_2_22 {w : Value} {a : Nat} : wp V (cdT Ev) mx d 2 22 ls (w :: .ref a :: st) h Q = pf [0] 7 0 w h a (fun hh => wp V (cdT Ev) mx d 2 25 ls st hh Q) := x_putf rfl
theorem s_2_25 {a : Nat} : wp V (cdT Ev) mx d 2 25 [some (.ref a), l1, l2] st h Q = wp V (cdT Ev) mx d 2 26 [some (.ref a), l1, l2] (.ref a :: st) h Q := x_aload (len := 1) rfl rfl
theorem s_2_25_n : wp V (cdT Ev) mx d 2 25 [some .null, l1, l2] st h Q = wp V (cdT Ev) mx d 2 26 [some .null, l1, l2] (.null :: st) h Q := x_aloadN (len := 1) rfl rfl
theorem s_2_26 : wp V (cdT Ev) mx d 2 26 ls st h Q = wp V (cdT Ev) mx d 2 27 ls ((.int (0)) :: st) h Q := x_push (v := (.int (0))) (len := 1) rfl
theorem s_2_27 {w : Value} {a : Nat} : wp V (cdT Ev) mx d 2 27 ls (w :: .ref a :: st) h Q = pf [0] 8 0 w h a (fun hh => wp V (cdT Ev) mx d 2 30 ls st hh Q) := x_putf rfl
theorem s_2_30 {a : Nat} : wp V (cdT Ev) mx d 2 30 [some (.ref a), l1, l2] st h Q = wp V (cdT Ev) mx d 2 31 [some (.ref a), l1, l2] (.ref a :: st) h Q := x_aload (len := 1) rfl rfl
theorem s_2_30_n : wp V (cdT Ev) mx d 2 30 [some .null, l1, l2] st h Q = wp V (cdT Ev) mx d 2 31 [some .null, l1, l2] (.null :: st) h Q := x_aloadN (len := 1) rfl rfl
theorem s_2_31 {b : Nat} (hst : st.length ≤ 4) : wp V (cdT Ev) mx d 2 31 ls (.ref b :: st) h Q = cv [(0, 3)] h b (fun y' => WP V (cdT Ev) mx d y' [.ref b] h (fun r h' => wp V (cdT Ev) mx d 2 34 ls (rts r st) h' Q)) := x_cv (sg := []) rfl hst rfl rfl
theorem s_2_34 {x : Int32} (hn : nl l0 = true) : wp V (cdT Ev) mx d 2 34 [l0, l1, l2] (.int x :: st) h Q = wp V (cdT Ev) mx d 2 35 [l0, some (.int x), l2] st h Q := x_istore (len := 1) rfl (Nat.le_of_ble_eq_true rfl) (okp_nl rfl hn) rfl
theorem s_2_35 : wp V (cdT Ev) mx d 2 35 ls st h Q = wp V (cdT Ev) mx d 2 36 ls ((.int (1)) :: st) h Q := x_push (v := (.int (1))) (len := 1) rfl
theorem s_2_36 {x : Int32} (hn : nl l1 = true) : wp V (cdT Ev) mx d 2 36 [l0, l1, l2] (.int x :: st) h Q = wp V (cdT Ev) mx d 2 37 [l0, l1, some (.int x)] st h Q := x_istore (len := 1) rfl (Nat.le_of_ble_eq_true rfl) (okp_nl rfl hn) rfl
theorem s_2_37 {x : Int32} : wp V (cdT Ev) mx d 2 37 [l0, l1, some (.int x)] st h Q = wp V (cdT Ev) mx d 2 38 [l0, l1, some (.int x)] (.int x :: st) h Q := x_iload (len := 1) rfl rfl
theorem s_2_38 : wp V (cdT Ev) mx d 2 38 ls st h Q = wp V (cdT Ev) mx d 2 40 ls ((.int (10)) :: st) h Q := x_push (v := (.int (10))) (len := 2) rfl
theorem s_2_40 {x z : Int32} : wp V (cdT Ev) mx d 2 40 ls (.int z :: .int x :: st) h Q = (if z ≤ x then wp V (cdT Ev) mx d 2 67 ls st h Q else wp V (cdT Ev) mx d 2 43 ls st h Q) := x_if2 (c := fun x z => z ≤ x) rfl
theorem s_2_43 {x : Int32} : wp V (cdT Ev) mx d 2 43 [l0, some (.int x), l2] st h Q = wp V (cdT Ev) mx d 2 44 [l0, some (.int x), l2] (.int x :: st) h Q := x_iload (len := 1) rfl rfl
theorem s_2_44 {x : Int32} : wp V (cdT Ev) mx d 2 44 ls (.int x :: st) h Q = (if x = 0 then wp V (cdT Ev) mx d 2 67 ls st h Q else wp V (cdT Ev) mx d 2 47 ls st h Q) := x_if1 (c := fun x => x = 0) rfl
theorem s_2_47 {a : Nat} : wp V (cdT Ev) mx d 2 47 [some (.ref a), l1, l2] st h Q = wp V (cdT Ev) mx d 2 48 [some (.ref a), l1, l2] (.ref a :: st) h Q := x_aload (len := 1) rfl rfl
theorem s_2_47_n : wp V (cdT Ev) mx d 2 47 [some .null, l1, l2] st h Q = wp V (cdT Ev) mx d 2 48 [some .null, l1, l2] (.null :: st) h Q := x_aloadN (len := 1) rfl rfl
theorem s_2_48 : wp V (cdT Ev) mx d 2 48 ls st h Q = wp V (cdT Ev) mx d 2 50 ls ((.int (59)) :: st) h Q := x_push (v := (.int (59))) (len := 2) rfl
theorem s_2_50 {b : Nat} {v0 : Value} (hst : st.length ≤ 4) : wp V (cdT Ev) mx d 2 50 ls (v0 :: .ref b :: st) h Q = cv [(0, 10)] h b (fun y' => WP V (cdT Ev) mx d y' [.ref b, v0] h (fun r h' => wp V (cdT Ev) mx d 2 53 ls (rts r st) h' Q)) := x_cv (sg := [v0]) rfl hst rfl rfl
theorem s_2_53 {x : Int32} : wp V (cdT Ev) mx d 2 53 ls (.int x :: st) h Q = (if x = 0 then wp V (cdT Ev) mx d 2 67 ls st h Q else wp V (cdT Ev) mx d 2 56 ls st h Q) := x_if1 (c := fun x => x = 0) rfl
theorem s_2_56 {a : Nat} : wp V (cdT Ev) mx d 2 56 [some (.ref a), l1, l2] st h Q = wp V (cdT Ev) mx d 2 57 [some (.ref a), l1, l2] (.ref a :: st) h Q := x_aload (len := 1) rfl rfl
theorem s_2_56_n : wp V (cdT Ev) mx d 2 56 [some .null, l1, l2] st h Q = wp V (cdT Ev) mx d 2 57 [some .null, l1, l2] (.null :: st) h Q := x_aloadN (len := 1) rfl rfl
theorem s_2_57 {b : Nat} (hst : st.length ≤ 4) : wp V (cdT Ev) mx d 2 57 ls (.ref b :: st) h Q = cv [(0, 3)] h b (fun y' => WP V (cdT Ev) mx d y' [.ref b] h (fun r h' => wp V (cdT Ev) mx d 2 60 ls (rts r st) h' Q)) := x_cv (sg := []) rfl hst rfl rfl
theorem s_2_60 {x : Int32} (hn : nl l0 = true) : wp V (cdT Ev) mx d 2 60 [l0, l1, l2] (.int x :: st) h Q = wp V (cdT Ev) mx d 2 61 [l0, some (.int x), l2] st h Q := x_istore (len := 1) rfl (Nat.le_of_ble_eq_true rfl) (okp_nl rfl hn) rfl
theorem s_2_61 {x : Int32} : wp V (cdT Ev) mx d 2 61 [l0, l1, some (.int x)] st h Q = wp V (cdT Ev) mx d 2 64 [l0, l1, some (.int (x + (1)))] st h Q := x_iinc rfl rfl rfl
theorem s_2_64 : wp V (cdT Ev) mx d 2 64 ls st h Q = wp V (cdT Ev) mx d 2 37 ls st h Q := x_goto rfl
theorem s_2_67 {x : Int32} : wp V (cdT Ev) mx d 2 67 [l0, some (.int x), l2] st h Q = wp V (cdT Ev) mx d 2 68 [l0, some (.int x), l2] (.int x :: st) h Q := x_iload (len := 1) rfl rfl
theorem s_2_68 {x : Int32} : wp V (cdT Ev) mx d 2 68 ls (.int x :: st) h Q = (if x = 0 then wp V (cdT Ev) mx d 2 86 ls st h Q else wp V (cdT Ev) mx d 2 71 ls st h Q) := x_if1 (c := fun x => x = 0) rfl
theorem s_2_71 {a : Nat} : wp V (cdT Ev) mx d 2 71 [some (.ref a), l1, l2] st h Q = wp V (cdT Ev) mx d 2 72 [some (.ref a), l1, l2] (.ref a :: st) h Q := x_aload (len := 1) rfl rfl
theorem s_2_71_n : wp V (cdT Ev) mx d 2 71 [some .null, l1, l2] st h Q = wp V (cdT Ev) mx d 2 72 [some .null, l1, l2] (.null :: st) h Q := x_aloadN (len := 1) rfl rfl
theorem s_2_72 {a : Nat} : wp V (cdT Ev) mx d 2 72 ls (.ref a :: st) h Q = gf [0] 2 h a (fun v => wp V (cdT Ev) mx d 2 75 ls (v :: st) h Q) := x_getf rfl
theorem s_2_75 {a : Nat} : wp V (cdT Ev) mx d 2 75 [some (.ref a), l1, l2] st h Q = wp V (cdT Ev) mx d 2 76 [some (.ref a), l1, l2] (.ref a :: st) h Q := x_aload (len := 1) rfl rfl
theorem s_2_75_n : wp V (cdT Ev) mx d 2 75 [some .null, l1, l2] st h Q = wp V (cdT Ev) mx d 2 76 [some .null, l1, l2] (.null :: st) h Q := x_aloadN (len := 1) rfl rfl
theorem s_2_76 {a : Nat} : wp V (cdT Ev) mx d 2 76 ls (.ref a :: st) h Q = gf [0] 1 h a (fun v => wp V (cdT Ev) mx d 2 79 ls (v :: st) h Q) := x_getf rfl
theorem s_2_79 {x z : Int32} : wp V (cdT Ev) mx d 2 79 ls (.int z :: .int x :: st) h Q = (if ¬ x = z then wp V (cdT Ev) mx d 2 86 ls st h Q else wp V (cdT Ev) mx d 2 82 ls st h Q) := x_if2 (c := fun x z => ¬ x = z) rfl
theorem s_2_82 : wp V (cdT Ev) mx d 2 82 ls st h Q = wp V (cdT Ev) mx d 2 83 ls ((.int (-1)) :: st) h Q := x_push (v := (.int (-1))) (len := 1) rfl
theorem s_2_83 : wp V (cdT Ev) mx d 2 83 ls st h Q = wp V (cdT Ev) mx d 2 90 ls st h Q := x_goto rfl
theorem s_2_86 {a : Nat} : wp V (cdT Ev) mx d 2 86 [some (.ref a), l1, l2] st h Q = wp V (cdT Ev) mx d 2 87 [some (.ref a), l1, l2] (.ref a :: st) h Q := x_aload (len := 1) rfl rfl
theorem s_2_86_n : wp V (cdT Ev) mx d 2 86 [some .null, l1, l2] st h Q = wp V (cdT Ev) mx d 2 87 [some .null, l1, l2] (.null :: st) h Q := x_aloadN (len := 1) rfl rfl
theorem s_2_87 {a : Nat} : wp V (cdT Ev) mx d 2 87 ls (.ref a :: st) h Q = gf [0] 2 h a (fun v => wp V (cdT Ev) mx d 2 90 ls (v :: st) h Q) := x_getf rfl
theorem s_2_90 {x : Int32} : wp V (cdT Ev) mx d 2 90 ls [.int x] h Q = Q (some (.int x)) h := x_ret rfl rfl
theorem e_2 {a : Nat} : WP V (cdT Ev) mx (d + 1) 2 [.ref a] h Q = wp V (cdT Ev) mx d 2 0 [some (.ref a), none, none] [] h Q := propext (WP_eq (Nat.le_of_ble_eq_true rfl))
theorem s_3_0 {a : Nat} : wp V (cdT Ev) mx d 3 0 [some (.ref a), l1, l2, l3] st h Q = wp V (cdT Ev) mx d 3 1 [some (.ref a), l1, l2, l3] (.ref a :: st) h Q := x_aload (len := 1) rfl rfl
theorem s_3_0_n : wp V (cdT Ev) mx d 3 0 [some .null, l1, l2, l3] st h Q = wp V (cdT Ev) mx d 3 1 [some .null, l1, l2, l3] (.null :: st) h Q := x_aloadN (len := 1) rfl rfl
theorem s_3_1 {a : Nat} : wp V (cdT Ev) mx d 3 1 ls (.ref a :: st) h Q = gf [0] 0 h a (fun v => wp V (cdT Ev) mx d 3 4 ls (v :: st) h Q) := x_getf rfl
theorem s_3_4 {a : Nat} : wp V (cdT Ev) mx d 3 4 [some (.ref a), l1, l2, l3] st h Q = wp V (cdT Ev) mx d 3 5 [some (.ref a), l1, l2, l3] (.ref a :: st) h Q := x_aload (len := 1) rfl rfl
theorem s_3_4_n : wp V (cdT Ev) mx d 3 4 [some .null, l1, l2, l3] st h Q = wp V (cdT Ev) mx d 3 5 [some .null, l1, l2, l3] (.null :: st) h Q := x_aloadN (len := 1) rfl rfl
theorem s_3_5 {a : Nat} : wp V (cdT Ev) mx d 3 5 ls (.ref a :: st) h Q = gf [0] 2 h a (fun v => wp V (cdT Ev) mx d 3 8 ls (v :: st) h Q) := x_getf rfl
theorem s_3_8 {i : Int32} {a : Nat} : wp V (cdT Ev) mx d 3 8 ls (.int i :: .ref a :: st) h Q = ai 0 i V h a (fun x => wp V (cdT Ev) mx d 3 9 ls (.int x :: st) h Q) := x_iald rfl
theorem s_3_9 {x : Int32} (hn : nl l0 = true) : wp V (cdT Ev) mx d 3 9 [l0, l1, l2, l3] (.int x :: st) h Q = wp V (cdT Ev) mx d 3 10 [l0, some (.int x), l2, l3] st h Q := x_istore (len := 1) rfl (Nat.le_of_ble_eq_true rfl) (okp_nl rfl hn) rfl
theorem s_3_10 {x : Int32} : wp V (cdT Ev) mx d 3 10 [l0, some (.int x), l2, l3] st h Q = wp V (cdT Ev) mx d 3 11 [l0, some (.int x), l2, l3] (.int x :: st) h Q := x_iload (len := 1) rfl rfl
theorem s_3_11 : wp V (cdT Ev) mx d 3 11 ls st h Q = wp V (cdT Ev) mx d 3 13 ls ((.int (112)) :: st) h Q := x_push (v := (.int (112))) (len := 2) rfl
theorem s_3_13 {x z : Int32} : wp V (cdT Ev) mx d 3 13 ls (.int z :: .int x :: st) h Q = (if ¬ x = z then wp V (cdT Ev) mx d 3 21 ls st h Q else wp V (cdT Ev) mx d 3 16 ls st h Q) := x_if2 (c := fun x z => ¬ x = z) rfl
theorem s_3_16 : wp V (cdT Ev) mx d 3 16 ls st h Q = wp V (cdT Ev) mx d 3 18 ls ((Ev 1) :: st) h Q := x_push (v := (Ev 1)) (len := 2) rfl
theorem s_3_18 : wp V (cdT Ev) mx d 3 18 ls st h Q = wp V (cdT Ev) mx d 3 34 ls st h Q := x_goto rfl
theorem s_3_21 {x : Int32} : wp V (cdT Ev) mx d 3 21 [l0, some (.int x), l2, l3] st h Q = wp V (cdT Ev) mx d 3 22 [l0, some (.int x), l2, l3] (.int x :: st) h Q := x_iload (len := 1) rfl rfl
theorem s_3_22 : wp V (cdT Ev) mx d 3 22 ls st h Q = wp V (cdT Ev) mx d 3 24 ls ((.int (104)) :: st) h Q := x_push (v := (.int (104))) (len := 2) rfl
theorem s_3_24 {x z : Int32} : wp V (cdT Ev) mx d 3 24 ls (.int z :: .int x :: st) h Q = (if ¬ x = z then wp V (cdT Ev) mx d 3 32 ls st h Q else wp V (cdT Ev) mx d 3 27 ls st h Q) := x_if2 (c := fun x z => ¬ x = z) rfl
theorem s_3_27 : wp V (cdT Ev) mx d 3 27 ls st h Q = wp V (cdT Ev) mx d 3 29 ls ((Ev 2) :: st) h Q := x_push (v := (Ev 2)) (len := 2) rfl
theorem s_3_29 : wp V (cdT Ev) mx d 3 29 ls st h Q = wp V (cdT Ev) mx d 3 34 ls st h Q := x_goto rfl
theorem s_3_32 : wp V (cdT Ev) mx d 3 32 ls st h Q = wp V (cdT Ev) mx d 3 34 ls ((Ev 3) :: st) h Q := x_push (v := (Ev 3)) (len := 2) rfl
theorem s_3_34 {a : Nat} (hn : nl l1 = true) : wp V (cdT Ev) mx d 3 34 [l0, l1, l2, l3] (.ref a :: st) h Q = wp V (cdT Ev) mx d 3 35 [l0, l1, some (.ref a), l3] st h Q := x_astore (len := 1) rfl (Nat.le_of_ble_eq_true rfl) (okp_nl rfl hn) rfl
theorem s_3_34_n (hn : nl l1 = true) : wp V (cdT Ev) mx d 3 34 [l0, l1, l2, l3] (.null :: st) h Q = wp V (cdT Ev) mx d 3 35 [l0, l1, some .null, l3] st h Q := x_astoreN (len := 1) rfl (Nat.le_of_ble_eq_true rfl) (okp_nl rfl hn) rfl
theorem s_3_35 {a : Nat} : wp V (cdT Ev) mx d 3 35 [some (.ref a), l1, l2, l3] st h Q = wp V (cdT Ev) mx d 3 36 [some (.ref a), l1, l2, l3] (.ref a :: st) h Q := x_aload (len := 1) rfl rfl
theorem s_3_35_n : wp V (cdT Ev) mx d 3 35 [some .null, l1, l2, l3] st h Q = wp V (cdT Ev) mx d 3 36 [some .null, l1, l2, l3] (.null :: st) h Q := x_aloadN (len := 1) rfl rfl
theorem s_3_36 {a : Nat} : wp V (cdT Ev) mx d 3 36 [l0, l1, some (.ref a), l3] st h Q = wp V (cdT Ev) mx d 3 37 [l0, l1, some (.ref a), l3] (.ref a :: st) h Q := x_aload (len := 1) rfl rfl
theorem s_3_36_n : wp V (cdT Ev) mx d 3 36 [l0, l1, some .null, l3] st h Q = wp V (cdT Ev) mx d 3 37 [l0, l1, some .null, l3] (.null :: st) h Q := x_aloadN (len := 1) rfl rfl
theorem s_3_37 {b : Nat} {v0 : Value} (hst : st.length ≤ 4) : wp V (cdT Ev) mx d 3 37 ls (v0 :: .ref b :: st) h Q = cv [(0, 11)] h b (fun y' => WP V (cdT Ev) mx d y' [.ref b, v0] h (fun r h' => wp V (cdT Ev) mx d 3 40 ls (rts r st) h' Q)) := x_cv (sg := [v0]) rfl hst rfl rfl
theorem s_3_40 {x : Int32} : wp V (cdT Ev) mx d 3 40 ls (.int x :: st) h Q = (if ¬ x = 0 then wp V (cdT Ev) mx d 3 45 ls st h Q else wp V (cdT Ev) mx d 3 43 ls st h Q) := x_if1 (c := fun x => ¬ x = 0) rfl
theorem s_3_43 : wp V (cdT Ev) mx d 3 43 ls st h Q = wp V (cdT Ev) mx d 3 44 ls ((.int (0)) :: st) h Q := x_push (v := (.int (0))) (len := 1) rfl
theorem s_3_44 {x : Int32} (hx : okr 1 (.int x) = true) : wp V (cdT Ev) mx d 3 44 ls [.int x] h Q = Q (some (.int x)) h := x_ret rfl hx
theorem s_3_45 {a : Nat} : wp V (cdT Ev) mx d 3 45 [some (.ref a), l1, l2, l3] st h Q = wp V (cdT Ev) mx d 3 46 [some (.ref a), l1, l2, l3] (.ref a :: st) h Q := x_aload (len := 1) rfl rfl
theorem s_3_45_n : wp V (cdT Ev) mx d 3 45 [some .null, l1, l2, l3] st h Q = wp V (cdT Ev) mx d 3 46 [some .null, l1, l2, l3] (.null :: st) h Q := x_aloadN (len := 1) rfl rfl
theorem s_3_46 {b : Nat} (hst : st.length ≤ 4) : wp V (cdT Ev) mx d 3 46 ls (.ref b :: st) h Q = cv [(0, 12)] h b (fun y' => WP V (cdT Ev) mx d y' [.ref b] h (fun r h' => wp V (cdT Ev) mx d 3 49 ls (rts r st) h' Q)) := x_cv (sg := []) rfl hst rfl rfl
theorem s_3_49 {x : Int32} (hn : nl l2 = true) : wp V (cdT Ev) mx d 3 49 [l0, l1, l2, l3] (.int x :: st) h Q = wp V (cdT Ev) mx d 3 50 [l0, l1, l2, some (.int x)] st h Q := x_istore (len := 1) rfl (Nat.le_of_ble_eq_true rfl) (okp_nl rfl hn) rfl
theorem s_3_50 {x : Int32} : wp V (cdT Ev) mx d 3 50 [l0, l1, l2, some (.int x)] st h Q = wp V (cdT Ev) mx d 3 51 [l0, l1, l2, some (.int x)] (.int x :: st) h Q := x_iload (len := 1) rfl rfl
theorem s_3_51 {x : Int32} : wp V (cdT Ev) mx d 3 51 ls (.int x :: st) h Q = (if 0 ≤ x then wp V (cdT Ev) mx d 3 56 ls st h Q else wp V (cdT Ev) mx d 3 54 ls st h Q) := x_if1 (c := fun x => 0 ≤ x) rfl
theorem s_3_54 : wp V (cdT Ev) mx d 3 54 ls st h Q = wp V (cdT Ev) mx d 3 55 ls ((.int (0)) :: st) h Q := x_push (v := (.int (0))) (len := 1) rfl
theorem s_3_55 {x : Int32} (hx : okr 1 (.int x) = true) : wp V (cdT Ev) mx d 3 55 ls [.int x] h Q = Q (some (.int x)) h := x_ret rfl hx
theorem s_3_56 {x : Int32} : wp V (cdT Ev) mx d 3 56 [l0, some (.int x), l2, l3] st h Q = wp V (cdT Ev) mx d 3 57 [l0, some (.int x), l2, l3] (.int x :: st) h Q := x_iload (len := 1) rfl rfl
theorem s_3_57 : wp V (cdT Ev) mx d 3 57 ls st h Q = wp V (cdT Ev) mx d 3 59 ls ((.int (102)) :: st) h Q := x_push (v := (.int (102))) (len := 2) rfl
theorem s_3_59 {x z : Int32} : wp V (cdT Ev) mx d 3 59 ls (.int z :: .int x :: st) h Q = (if ¬ x = z then wp V (cdT Ev) mx d 3 73 ls st h Q else wp V (cdT Ev) mx d 3 62 ls st h Q) := x_if2 (c := fun x z => ¬ x = z) rfl
theorem s_3_62 {a : Nat} : wp V (cdT Ev) mx d 3 62 [some (.ref a), l1, l2, l3] st h Q = wp V (cdT Ev) mx d 3 63 [some (.ref a), l1, l2, l3] (.ref a :: st) h Q := x_aload (len := 1) rfl rfl
theorem s_3_62_n : wp V (cdT Ev) mx d 3 62 [some .null, l1, l2, l3] st h Q = wp V (cdT Ev) mx d 3 63 [some .null, l1, l2, l3] (.null :: st) h Q := x_aloadN (len := 1) rfl rfl
theorem s_3_63 {x : Int32} : wp V (cdT Ev) mx d 3 63 [l0, l1, l2, some (.int x)] st h Q = wp V (cdT Ev) mx d 3 64 [l0, l1, l2, some (.int x)] (.int x :: st) h Q := x_iload (len := 1) rfl rfl
theorem s_3_64 {w : Value} {a : Nat} : wp V (cdT Ev) mx d 3 64 ls (w :: .ref a :: st) h Q = pf [0] 8 0 w h a (fun hh => wp V (cdT Ev) mx d 3 67 ls st hh Q) := x_putf rfl
theorem s_3_67 {a : Nat} : wp V (cdT Ev) mx d 3 67 [some (.ref a), l1, l2, l3] st h Q = wp V (cdT Ev) mx d 3 68 [some (.ref a), l1, l2, l3] (.ref a :: st) h Q := x_aload (len := 1) rfl rfl
theorem s_3_67_n : wp V (cdT Ev) mx d 3 67 [some .null, l1, l2, l3] st h Q = wp V (cdT Ev) mx d 3 68 [some .null, l1, l2, l3] (.null :: st) h Q := x_aloadN (len := 1) rfl rfl
theorem s_3_68 : wp V (cdT Ev) mx d 3 68 ls st h Q = wp V (cdT Ev) mx d 3 69 ls ((.int (0)) :: st) h Q := x_push (v := (.int (0))) (len := 1) rfl
theorem s_3_69 {b : Nat} {v0 : Value} (hst : st.length ≤ 4) : wp V (cdT Ev) mx d 3 69 ls (v0 :: .ref b :: st) h Q = cv [(0, 4)] h b (fun y' => WP V (cdT Ev) mx d y' [.ref b, v0] h (fun r h' => wp V (cdT Ev) mx d 3 72 ls (rts r st) h' Q)) := x_cv (sg := [v0]) rfl hst rfl rfl
theorem s_3_72 {x : Int32} (hx : okr 1 (.int x) = true) : wp V (cdT Ev) mx d 3 72 ls [.int x] h Q = Q (some (.int x)) h := x_ret rfl hx
theorem s_3_73 {a : Nat} : wp V (cdT Ev) mx d 3 73 [some (.ref a), l1, l2, l3] st h Q = wp V (cdT Ev) mx d 3 74 [some (.ref a), l1, l2, l3] (.ref a :: st) h Q := x_aload (len := 1) rfl rfl
theorem s_3_73_n : wp V (cdT Ev) mx d 3 73 [some .null, l1, l2, l3] st h Q = wp V (cdT Ev) mx d 3 74 [some .null, l1, l2, l3] (.null :: st) h Q := x_aloadN (len := 1) rfl rfl
theorem s_3_74 : wp V (cdT Ev) mx d 3 74 ls st h Q = wp V (cdT Ev) mx d 3 76 ls ((.int (32)) :: st) h Q := x_push (v := (.int (32))) (len := 2) rfl
theorem s_3_76 {b : Nat} {v0 : Value} (hst : st.length ≤ 4) : wp V (cdT Ev) mx d 3 76 ls (v0 :: .ref b :: st) h Q = cv [(0, 10)] h b (fun y' => WP V (cdT Ev) mx d y' [.ref b, v0] h (fun r h' => wp V (cdT Ev) mx d 3 79 ls (rts r st) h' Q)) := x_cv (sg := [v0]) rfl hst rfl rfl
theorem s_3_79 {x : Int32} : wp V (cdT Ev) mx d 3 79 ls (.int x :: st) h Q = (if x = 0 then wp V (cdT Ev) mx d 3 113 ls st h Q else wp V (cdT Ev) mx d 3 82 ls st h Q) := x_if1 (c := fun x => x = 0) rfl
theorem s_3_82 {a : Nat} : wp V (cdT Ev) mx d 3 82 [some (.ref a), l1, l2, l3] st h Q = wp V (cdT Ev) mx d 3 83 [some (.ref a), l1, l2, l3] (.ref a :: st) h Q := x_aload (len := 1) rfl rfl
theorem s_3_82_n : wp V (cdT Ev) mx d 3 82 [some .null, l1, l2, l3] st h Q = wp V (cdT Ev) mx d 3 83 [some .null, l1, l2, l3] (.null :: st) h Q := x_aloadN (len := 1) rfl rfl
theorem s_3_83 : wp V (cdT Ev) mx d 3 83 ls st h Q = wp V (cdT Ev) mx d 3 84 ls ((.int (0)) :: st) h Q := x_push (v := (.int (0))) (len := 1) rfl
theorem s_3_84 {b : Nat} {v0 : Value} (hst : st.length ≤ 4) : wp V (cdT Ev) mx d 3 84 ls (v0 :: .ref b :: st) h Q = cv [(0, 5)] h b (fun y' => WP V (cdT Ev) mx d y' [.ref b, v0] h (fun r h' => wp V (cdT Ev) mx d 3 87 ls (rts r st) h' Q)) := x_cv (sg := [v0]) rfl hst rfl rfl
theorem s_3_87 {x : Int32} : wp V (cdT Ev) mx d 3 87 ls (.int x :: st) h Q = (if x = 0 then wp V (cdT Ev) mx d 3 113 ls st h Q else wp V (cdT Ev) mx d 3 90 ls st h Q) := x_if1 (c := fun x => x = 0) rfl
theorem s_3_90 {a : Nat} : wp V (cdT Ev) mx d 3 90 [some (.ref a), l1, l2, l3] st h Q = wp V (cdT Ev) mx d 3 91 [some (.ref a), l1, l2, l3] (.ref a :: st) h Q := x_aload (len := 1) rfl rfl
theorem s_3_90_n : wp V (cdT Ev) mx d 3 90 [some .null, l1, l2, l3] st h Q = wp V (cdT Ev) mx d 3 91 [some .null, l1, l2, l3] (.null :: st) h Q := x_aloadN (len := 1) rfl rfl
theorem s_3_91 {x : Int32} : wp V (cdT Ev) mx d 3 91 [l0, some (.int x), l2, l3] st h Q = wp V (cdT Ev) mx d 3 92 [l0, some (.int x), l2, l3] (.int x :: st) h Q := x_iload (len := 1) rfl rfl
theorem s_3_92 : wp V (cdT Ev) mx d 3 92 ls st h Q = wp V (cdT Ev) mx d 3 94 ls ((.int (112)) :: st) h Q := x_push (v := (.int (112))) (len := 2) rfl
theorem s_3_94 {x z : Int32} : wp V (cdT Ev) mx d 3 94 ls (.int z :: .int x :: st) h Q = (if ¬ x = z then wp V (cdT Ev) mx d 3 101 ls st h Q else wp V (cdT Ev) mx d 3 97 ls st h Q) := x_if2 (c := fun x z => ¬ x = z) rfl
theorem s_3_97 {x : Int32} : wp V (cdT Ev) mx d 3 97 [l0, l1, l2, some (.int x)] st h Q = wp V (cdT Ev) mx d 3 98 [l0, l1, l2, some (.int x)] (.int x :: st) h Q := x_iload (len := 1) rfl rfl
theorem s_3_98 : wp V (cdT Ev) mx d 3 98 ls st h Q = wp V (cdT Ev) mx d 3 103 ls st h Q := x_goto rfl
theorem s_3_101 {x : Int32} : wp V (cdT Ev) mx d 3 101 [l0, l1, l2, some (.int x)] st h Q = wp V (cdT Ev) mx d 3 102 [l0, l1, l2, some (.int x)] (.int x :: st) h Q := x_iload (len := 1) rfl rfl
theorem s_3_102 {x : Int32} : wp V (cdT Ev) mx d 3 102 ls (.int x :: st) h Q = wp V (cdT Ev) mx d 3 103 ls (.int (-x) :: st) h Q := x_iu (f := fun x => -x) rfl
theorem s_3_103 {b : Nat} {v0 : Value} (hst : st.length ≤ 4) : wp V (cdT Ev) mx d 3 103 ls (v0 :: .ref b :: st) h Q = cv [(0, 4)] h b (fun y' => WP V (cdT Ev) mx d y' [.ref b, v0] h (fun r h' => wp V (cdT Ev) mx d 3 106 ls (rts r st) h' Q)) := x_cv (sg := [v0]) rfl hst rfl rfl
theorem s_3_106 {x : Int32} : wp V (cdT Ev) mx d 3 106 ls (.int x :: st) h Q = (if x = 0 then wp V (cdT Ev) mx d 3 113 ls st h Q else wp V (cdT Ev) mx d 3 109 ls st h Q) := x_if1 (c := fun x => x = 0) rfl
theorem s_3_109 : wp V (cdT Ev) mx d 3 109 ls st h Q = wp V (cdT Ev) mx d 3 110 ls ((.int (1)) :: st) h Q := x_push (v := (.int (1))) (len := 1) rfl
theorem s_3_110 : wp V (cdT Ev) mx d 3 110 ls st h Q = wp V (cdT Ev) mx d 3 114 ls st h Q := x_goto rfl
theorem s_3_113 : wp V (cdT Ev) mx d 3 113 ls st h Q = wp V (cdT Ev) mx d 3 114 ls ((.int (0)) :: st) h Q := x_push (v := (.int (0))) (len := 1) rfl
theorem s_3_114 {x : Int32} (hx : okr 1 (.int x) = true) : wp V (cdT Ev) mx d 3 114 ls [.int x] h Q = Q (some (.int x)) h := x_ret rfl hx
theorem e_3 {a : Nat} : WP V (cdT Ev) mx (d + 1) 3 [.ref a] h Q = wp V (cdT Ev) mx d 3 0 [some (.ref a), none, none, none] [] h Q := propext (WP_eq (Nat.le_of_ble_eq_true rfl))
theorem s_4_0 {a : Nat} : wp V (cdT Ev) mx d 4 0 [some (.ref a), l1] st h Q = wp V (cdT Ev) mx d 4 1 [some (.ref a), l1] (.ref a :: st) h Q := x_aload (len := 1) rfl rfl
theorem s_4_0_n : wp V (cdT Ev) mx d 4 0 [some .null, l1] st h Q = wp V (cdT Ev) mx d 4 1 [some .null, l1] (.null :: st) h Q := x_aloadN (len := 1) rfl rfl
theorem s_4_1 {a : Nat} : wp V (cdT Ev) mx d 4 1 ls (.ref a :: st) h Q = gf [0] 7 h a (fun v => wp V (cdT Ev) mx d 4 4 ls (v :: st) h Q) := x_getf rfl
theorem s_4_4 : wp V (cdT Ev) mx d 4 4 ls st h Q = wp V (cdT Ev) mx d 4 6 ls ((.int (10)) :: st) h Q := x_push (v := (.int (10))) (len := 2) rfl
theorem s_4_6 {x z : Int32} : wp V (cdT Ev) mx d 4 6 ls (.int z :: .int x :: st) h Q = (if x < z then wp V (cdT Ev) mx d 4 11 ls st h Q else wp V (cdT Ev) mx d 4 9 ls st h Q) := x_if2 (c := fun x z => x < z) rfl
theorem s_4_9 : wp V (cdT Ev) mx d 4 9 ls st h Q = wp V (cdT Ev) mx d 4 10 ls ((.int (0)) :: st) h Q := x_push (v := (.int (0))) (len := 1) rfl
theorem s_4_10 {x : Int32} (hx : okr 1 (.int x) = true) : wp V (cdT Ev) mx d 4 10 ls [.int x] h Q = Q (some (.int x)) h := x_ret rfl hx
theorem s_4_11 {a : Nat} : wp V (cdT Ev) mx d 4 11 [some (.ref a), l1] st h Q = wp V (cdT Ev) mx d 4 12 [some (.ref a), l1] (.ref a :: st) h Q := x_aload (len := 1) rfl rfl
theorem s_4_11_n : wp V (cdT Ev) mx d 4 11 [some .null, l1] st h Q = wp V (cdT Ev) mx d 4 12 [some .null, l1] (.null :: st) h Q := x_aloadN (len := 1) rfl rfl
theorem s_4_12 {a : Nat} : wp V (cdT Ev) mx d 4 12 ls (.ref a :: st) h Q = gf [0] 5 h a (fun v => wp V (cdT Ev) mx d 4 15 ls (v :: st) h Q) := x_getf rfl
theorem s_4_15 {a : Nat} : wp V (cdT Ev) mx d 4 15 [some (.ref a), l1] st h Q = wp V (cdT Ev) mx d 4 16 [some (.ref a), l1] (.ref a :: st) h Q := x_aload (len := 1) rfl rfl
theorem s_4_15_n : wp V (cdT Ev) mx d 4 15 [some .null, l1] st h Q = wp V (cdT Ev) mx d 4 16 [some .null, l1] (.null :: st) h Q := x_aloadN (len := 1) rfl rfl
theorem s_4_16 {a : Nat} : wp V (cdT Ev) mx d 4 16 ls (.ref a :: st) h Q = gf [0] 7 h a (fun v => wp V (cdT Ev) mx d 4 19 ls (v :: st) h Q) := x_getf rfl
theorem s_4_19 {x : Int32} : wp V (cdT Ev) mx d 4 19 [l0, some (.int x)] st h Q = wp V (cdT Ev) mx d 4 20 [l0, some (.int x)] (.int x :: st) h Q := x_iload (len := 1) rfl rfl
theorem s_4_20 {x i : Int32} {a : Nat} : wp V (cdT Ev) mx d 4 20 ls (.int x :: .int i :: .ref a :: st) h Q = si 2 i (x) h a (fun hh => wp V (cdT Ev) mx d 4 21 ls st hh Q) := x_iast (nw := fun x => x) rfl
theorem s_4_21 {a : Nat} : wp V (cdT Ev) mx d 4 21 [some (.ref a), l1] st h Q = wp V (cdT Ev) mx d 4 22 [some (.ref a), l1] (.ref a :: st) h Q := x_aload (len := 1) rfl rfl
theorem s_4_21_n : wp V (cdT Ev) mx d 4 21 [some .null, l1] st h Q = wp V (cdT Ev) mx d 4 22 [some .null, l1] (.null :: st) h Q := x_aloadN (len := 1) rfl rfl
theorem s_4_22 {a : Nat} : wp V (cdT Ev) mx d 4 22 ls (.ref a :: st) h Q = gf [0] 6 h a (fun v => wp V (cdT Ev) mx d 4 25 ls (v :: st) h Q) := x_getf rfl
theorem s_4_25 {a : Nat} : wp V (cdT Ev) mx d 4 25 [some (.ref a), l1] st h Q = wp V (cdT Ev) mx d 4 26 [some (.ref a), l1] (.ref a :: st) h Q := x_aload (len := 1) rfl rfl
theorem s_4_25_n : wp V (cdT Ev) mx d 4 25 [some .null, l1] st h Q = wp V (cdT Ev) mx d 4 26 [some .null, l1] (.null :: st) h Q := x_aloadN (len := 1) rfl rfl
theorem s_4_26 {a : Nat} : wp V (cdT Ev) mx d 4 26 ls (.ref a :: st) h Q = gf [0] 7 h a (fun v => wp V (cdT Ev) mx d 4 29 ls (v :: st) h Q) := x_getf rfl
theorem s_4_29 {a : Nat} : wp V (cdT Ev) mx d 4 29 [some (.ref a), l1] st h Q = wp V (cdT Ev) mx d 4 30 [some (.ref a), l1] (.ref a :: st) h Q := x_aload (len := 1) rfl rfl
theorem s_4_29_n : wp V (cdT Ev) mx d 4 29 [some .null, l1] st h Q = wp V (cdT Ev) mx d 4 30 [some .null, l1] (.null :: st) h Q := x_aloadN (len := 1) rfl rfl
theorem s_4_30 {a : Nat} : wp V (cdT Ev) mx d 4 30 ls (.ref a :: st) h Q = gf [0] 4 h a (fun v => wp V (cdT Ev) mx d 4 33 ls (v :: st) h Q) := x_getf rfl
theorem s_4_33 {x i : Int32} {a : Nat} : wp V (cdT Ev) mx d 4 33 ls (.int x :: .int i :: .ref a :: st) h Q = si 2 i (x) h a (fun hh => wp V (cdT Ev) mx d 4 34 ls st hh Q) := x_iast (nw := fun x => x) rfl
theorem s_4_34 {a : Nat} : wp V (cdT Ev) mx d 4 34 [some (.ref a), l1] st h Q = wp V (cdT Ev) mx d 4 35 [some (.ref a), l1] (.ref a :: st) h Q := x_aload (len := 1) rfl rfl
theorem s_4_34_n : wp V (cdT Ev) mx d 4 34 [some .null, l1] st h Q = wp V (cdT Ev) mx d 4 35 [some .null, l1] (.null :: st) h Q := x_aloadN (len := 1) rfl rfl
theorem s_4_35 {a : Nat} : wp V (cdT Ev) mx d 4 35 ls (.ref a :: st) h Q = wp V (cdT Ev) mx d 4 36 ls (.ref a :: .ref a :: st) h Q := x_dup rfl rfl
theorem s_4_35_i {x : Int32} : wp V (cdT Ev) mx d 4 35 ls (.int x :: st) h Q = wp V (cdT Ev) mx d 4 36 ls (.int x :: .int x :: st) h Q := x_dup rfl rfl
theorem s_4_36 {a : Nat} : wp V (cdT Ev) mx d 4 36 ls (.ref a :: st) h Q = gf [0] 7 h a (fun v => wp V (cdT Ev) mx d 4 39 ls (v :: st) h Q) := x_getf rfl
theorem s_4_39 : wp V (cdT Ev) mx d 4 39 ls st h Q = wp V (cdT Ev) mx d 4 40 ls ((.int (1)) :: st) h Q := x_push (v := (.int (1))) (len := 1) rfl
theorem s_4_40 {x z : Int32} : wp V (cdT Ev) mx d 4 40 ls (.int z :: .int x :: st) h Q = wp V (cdT Ev) mx d 4 41 ls (.int (x + z) :: st) h Q := x_ib (f := fun x z => x + z) rfl
theorem s_4_41 {w : Value} {a : Nat} : wp V (cdT Ev) mx d 4 41 ls (w :: .ref a :: st) h Q = pf [0] 7 0 w h a (fun hh => wp V (cdT Ev) mx d 4 44 ls st hh Q) := x_putf rfl
theorem s_4_44 : wp V (cdT Ev) mx d 4 44 ls st h Q = wp V (cdT Ev) mx d 4 45 ls ((.int (1)) :: st) h Q := x_push (v := (.int (1))) (len := 1) rfl
theorem s_4_45 {x : Int32} (hx : okr 1 (.int x) = true) : wp V (cdT Ev) mx d 4 45 ls [.int x] h Q = Q (some (.int x)) h := x_ret rfl hx
theorem e_4 {a : Nat} {p0 : Int32} : WP V (cdT Ev) mx (d + 1) 4 [.ref a, .int p0] h Q = wp V (cdT Ev) mx d 4 0 [some (.ref a), some (.int p0)] [] h Q := propext (WP_eq (Nat.le_of_ble_eq_true rfl))
theorem s_5_0 {a : Nat} : wp V (cdT Ev) mx d 5 0 [some (.ref a), l1, l2, l3] st h Q = wp V (cdT Ev) mx d 5 1 [some (.ref a), l1, l2, l3] (.ref a :: st) h Q := x_aload (len := 1) rfl rfl
theorem s_5_0_n : wp V (cdT Ev) mx d 5 0 [some .null, l1, l2, l3] st h Q = wp V (cdT Ev) mx d 5 1 [some .null, l1, l2, l3] (.null :: st) h Q := x_aloadN (len := 1) rfl rfl
theorem s_5_1 {x : Int32} : wp V (cdT Ev) mx d 5 1 [l0, some (.int x), l2, l3] st h Q = wp V (cdT Ev) mx d 5 2 [l0, some (.int x), l2, l3] (.int x :: st) h Q := x_iload (len := 1) rfl rfl
theorem s_5_2 {b : Nat} {v0 : Value} (hst : st.length ≤ 4) : wp V (cdT Ev) mx d 5 2 ls (v0 :: .ref b :: st) h Q = cv [(0, 6)] h b (fun y' => WP V (cdT Ev) mx d y' [.ref b, v0] h (fun r h' => wp V (cdT Ev) mx d 5 5 ls (rts r st) h' Q)) := x_cv (sg := [v0]) rfl hst rfl rfl
theorem s_5_5 {x : Int32} (hn : nl l1 = true) : wp V (cdT Ev) mx d 5 5 [l0, l1, l2, l3] (.int x :: st) h Q = wp V (cdT Ev) mx d 5 6 [l0, l1, some (.int x), l3] st h Q := x_istore (len := 1) rfl (Nat.le_of_ble_eq_true rfl) (okp_nl rfl hn) rfl
theorem s_5_6 : wp V (cdT Ev) mx d 5 6 ls st h Q = wp V (cdT Ev) mx d 5 7 ls ((.int (0)) :: st) h Q := x_push (v := (.int (0))) (len := 1) rfl
theorem s_5_7 {x : Int32} (hn : nl l2 = true) : wp V (cdT Ev) mx d 5 7 [l0, l1, l2, l3] (.int x :: st) h Q = wp V (cdT Ev) mx d 5 8 [l0, l1, l2, some (.int x)] st h Q := x_istore (len := 1) rfl (Nat.le_of_ble_eq_true rfl) (okp_nl rfl hn) rfl
theorem s_5_8 {x : Int32} : wp V (cdT Ev) mx d 5 8 [l0, l1, l2, some (.int x)] st h Q = wp V (cdT Ev) mx d 5 9 [l0, l1, l2, some (.int x)] (.int x :: st) h Q := x_iload (len := 1) rfl rfl
theorem s_5_9 {a : Nat} : wp V (cdT Ev) mx d 5 9 [some (.ref a), l1, l2, l3] st h Q = wp V (cdT Ev) mx d 5 10 [some (.ref a), l1, l2, l3] (.ref a :: st) h Q := x_aload (len := 1) rfl rfl
theorem s_5_9_n : wp V (cdT Ev) mx d 5 9 [some .null, l1, l2, l3] st h Q = wp V (cdT Ev) mx d 5 10 [some .null, l1, l2, l3] (.null :: st) h Q := x_aloadN (len := 1) rfl rfl
theorem s_5_10 {a : Nat} : wp V (cdT Ev) mx d 5 10 ls (.ref a :: st) h Q = gf [0] 1 h a (fun v => wp V (cdT Ev) mx d 5 13 ls (v :: st) h Q) := x_getf rfl
theorem s_5_13 {x z : Int32} : wp V (cdT Ev) mx d 5 13 ls (.int z :: .int x :: st) h Q = (if z ≤ x then wp V (cdT Ev) mx d 5 58 ls st h Q else wp V (cdT Ev) mx d 5 16 ls st h Q) := x_if2 (c := fun x z => z ≤ x) rfl
theorem s_5_16 {x : Int32} : wp V (cdT Ev) mx d 5 16 [l0, l1, some (.int x), l3] st h Q = wp V (cdT Ev) mx d 5 17 [l0, l1, some (.int x), l3] (.int x :: st) h Q := x_iload (len := 1) rfl rfl
theorem s_5_17 {x : Int32} : wp V (cdT Ev) mx d 5 17 ls (.int x :: st) h Q = (if x = 0 then wp V (cdT Ev) mx d 5 58 ls st h Q else wp V (cdT Ev) mx d 5 20 ls st h Q) := x_if1 (c := fun x => x = 0) rfl
theorem s_5_20 {a : Nat} : wp V (cdT Ev) mx d 5 20 [some (.ref a), l1, l2, l3] st h Q = wp V (cdT Ev) mx d 5 21 [some (.ref a), l1, l2, l3] (.ref a :: st) h Q := x_aload (len := 1) rfl rfl
theorem s_5_20_n : wp V (cdT Ev) mx d 5 20 [some .null, l1, l2, l3] st h Q = wp V (cdT Ev) mx d 5 21 [some .null, l1, l2, l3] (.null :: st) h Q := x_aloadN (len := 1) rfl rfl
theorem s_5_21 : wp V (cdT Ev) mx d 5 21 ls st h Q = wp V (cdT Ev) mx d 5 23 ls ((.int (124)) :: st) h Q := x_push (v := (.int (124))) (len := 2) rfl
theorem s_5_23 {b : Nat} {v0 : Value} (hst : st.length ≤ 4) : wp V (cdT Ev) mx d 5 23 ls (v0 :: .ref b :: st) h Q = cv [(0, 10)] h b (fun y' => WP V (cdT Ev) mx d y' [.ref b, v0] h (fun r h' => wp V (cdT Ev) mx d 5 26 ls (rts r st) h' Q)) := x_cv (sg := [v0]) rfl hst rfl rfl
theorem s_5_26 {x : Int32} : wp V (cdT Ev) mx d 5 26 ls (.int x :: st) h Q = (if x = 0 then wp V (cdT Ev) mx d 5 58 ls st h Q else wp V (cdT Ev) mx d 5 29 ls st h Q) := x_if1 (c := fun x => x = 0) rfl
theorem s_5_29 {a : Nat} : wp V (cdT Ev) mx d 5 29 [some (.ref a), l1, l2, l3] st h Q = wp V (cdT Ev) mx d 5 30 [some (.ref a), l1, l2, l3] (.ref a :: st) h Q := x_aload (len := 1) rfl rfl
theorem s_5_29_n : wp V (cdT Ev) mx d 5 29 [some .null, l1, l2, l3] st h Q = wp V (cdT Ev) mx d 5 30 [some .null, l1, l2, l3] (.null :: st) h Q := x_aloadN (len := 1) rfl rfl
theorem s_5_30 {x : Int32} : wp V (cdT Ev) mx d 5 30 [l0, some (.int x), l2, l3] st h Q = wp V (cdT Ev) mx d 5 31 [l0, some (.int x), l2, l3] (.int x :: st) h Q := x_iload (len := 1) rfl rfl
theorem s_5_31 {b : Nat} {v0 : Value} (hst : st.length ≤ 4) : wp V (cdT Ev) mx d 5 31 ls (v0 :: .ref b :: st) h Q = cv [(0, 6)] h b (fun y' => WP V (cdT Ev) mx d y' [.ref b, v0] h (fun r h' => wp V (cdT Ev) mx d 5 34 ls (rts r st) h' Q)) := x_cv (sg := [v0]) rfl hst rfl rfl
theorem s_5_34 {x : Int32} : wp V (cdT Ev) mx d 5 34 ls (.int x :: st) h Q = (if x = 0 then wp V (cdT Ev) mx d 5 50 ls st h Q else wp V (cdT Ev) mx d 5 37 ls st h Q) := x_if1 (c := fun x => x = 0) rfl
theorem s_5_37 {a : Nat} : wp V (cdT Ev) mx d 5 37 [some (.ref a), l1, l2, l3] st h Q = wp V (cdT Ev) mx d 5 38 [some (.ref a), l1, l2, l3] (.ref a :: st) h Q := x_aload (len := 1) rfl rfl
theorem s_5_37_n : wp V (cdT Ev) mx d 5 37 [some .null, l1, l2, l3] st h Q = wp V (cdT Ev) mx d 5 38 [some .null, l1, l2, l3] (.null :: st) h Q := x_aloadN (len := 1) rfl rfl
theorem s_5_38 : wp V (cdT Ev) mx d 5 38 ls st h Q = wp V (cdT Ev) mx d 5 40 ls ((.int (-3)) :: st) h Q := x_push (v := (.int (-3))) (len := 2) rfl
theorem s_5_40 {b : Nat} {v0 : Value} (hst : st.length ≤ 4) : wp V (cdT Ev) mx d 5 40 ls (v0 :: .ref b :: st) h Q = cv [(0, 9)] h b (fun y' => WP V (cdT Ev) mx d y' [.ref b, v0] h (fun r h' => wp V (cdT Ev) mx d 5 43 ls (rts r st) h' Q)) := x_cv (sg := [v0]) rfl hst rfl rfl
theorem s_5_43 {x : Int32} : wp V (cdT Ev) mx d 5 43 ls (.int x :: st) h Q = (if x = 0 then wp V (cdT Ev) mx d 5 50 ls st h Q else wp V (cdT Ev) mx d 5 46 ls st h Q) := x_if1 (c := fun x => x = 0) rfl
theorem s_5_46 : wp V (cdT Ev) mx d 5 46 ls st h Q = wp V (cdT Ev) mx d 5 47 ls ((.int (1)) :: st) h Q := x_push (v := (.int (1))) (len := 1) rfl
theorem s_5_47 : wp V (cdT Ev) mx d 5 47 ls st h Q = wp V (cdT Ev) mx d 5 51 ls st h Q := x_goto rfl
theorem s_5_50 : wp V (cdT Ev) mx d 5 50 ls st h Q = wp V (cdT Ev) mx d 5 51 ls ((.int (0)) :: st) h Q := x_push (v := (.int (0))) (len := 1) rfl
theorem s_5_51 {x : Int32} (hn : nl l1 = true) : wp V (cdT Ev) mx d 5 51 [l0, l1, l2, l3] (.int x :: st) h Q = wp V (cdT Ev) mx d 5 52 [l0, l1, some (.int x), l3] st h Q := x_istore (len := 1) rfl (Nat.le_of_ble_eq_true rfl) (okp_nl rfl hn) rfl
theorem s_5_52 {x : Int32} : wp V (cdT Ev) mx d 5 52 [l0, l1, l2, some (.int x)] st h Q = wp V (cdT Ev) mx d 5 55 [l0, l1, l2, some (.int (x + (1)))] st h Q := x_iinc rfl rfl rfl
theorem s_5_55 : wp V (cdT Ev) mx d 5 55 ls st h Q = wp V (cdT Ev) mx d 5 8 ls st h Q := x_goto rfl
theorem s_5_58 {x : Int32} : wp V (cdT Ev) mx d 5 58 [l0, l1, some (.int x), l3] st h Q = wp V (cdT Ev) mx d 5 59 [l0, l1, some (.int x), l3] (.int x :: st) h Q := x_iload (len := 1) rfl rfl
theorem s_5_59 {x : Int32} (hx : okr 1 (.int x) = true) : wp V (cdT Ev) mx d 5 59 ls [.int x] h Q = Q (some (.int x)) h := x_ret rfl hx
theorem e_5 {a : Nat} {p0 : Int32} : WP V (cdT Ev) mx (d + 1) 5 [.ref a, .int p0] h Q = wp V (cdT Ev) mx d 5 0 [some (.ref a), some (.int p0), none, none] [] h Q := propext (WP_eq (Nat.le_of_ble_eq_true rfl))
theorem s_6_0 {a : Nat} : wp V (cdT Ev) mx d 6 0 [some (.ref a), l1, l2, l3] st h Q = wp V (cdT Ev) mx d 6 1 [some (.ref a), l1, l2, l3] (.ref a :: st) h Q := x_aload (len := 1) rfl rfl
theorem s_6_0_n : wp V (cdT Ev) mx d 6 0 [some .null, l1, l2, l3] st h Q = wp V (cdT Ev) mx d 6 1 [some .null, l1, l2, l3] (.null :: st) h Q := x_aloadN (len := 1) rfl rfl
theorem s_6_1 {x : Int32} : wp V (cdT Ev) mx d 6 1 [l0, some (.int x), l2, l3] st h Q = wp V (cdT Ev) mx d 6 2 [l0, some (.int x), l2, l3] (.int x :: st) h Q := x_iload (len := 1) rfl rfl
theorem s_6_2 {b : Nat} {v0 : Value} (hst : st.length ≤ 4) : wp V (cdT Ev) mx d 6 2 ls (v0 :: .ref b :: st) h Q = cv [(0, 7)] h b (fun y' => WP V (cdT Ev) mx d y' [.ref b, v0] h (fun r h' => wp V (cdT Ev) mx d 6 5 ls (rts r st) h' Q)) := x_cv (sg := [v0]) rfl hst rfl rfl
theorem s_6_5 {x : Int32} (hn : nl l1 = true) : wp V (cdT Ev) mx d 6 5 [l0, l1, l2, l3] (.int x :: st) h Q = wp V (cdT Ev) mx d 6 6 [l0, l1, some (.int x), l3] st h Q := x_istore (len := 1) rfl (Nat.le_of_ble_eq_true rfl) (okp_nl rfl hn) rfl
theorem s_6_6 : wp V (cdT Ev) mx d 6 6 ls st h Q = wp V (cdT Ev) mx d 6 7 ls ((.int (0)) :: st) h Q := x_push (v := (.int (0))) (len := 1) rfl
theorem s_6_7 {x : Int32} (hn : nl l2 = true) : wp V (cdT Ev) mx d 6 7 [l0, l1, l2, l3] (.int x :: st) h Q = wp V (cdT Ev) mx d 6 8 [l0, l1, l2, some (.int x)] st h Q := x_istore (len := 1) rfl (Nat.le_of_ble_eq_true rfl) (okp_nl rfl hn) rfl
theorem s_6_8 {x : Int32} : wp V (cdT Ev) mx d 6 8 [l0, l1, l2, some (.int x)] st h Q = wp V (cdT Ev) mx d 6 9 [l0, l1, l2, some (.int x)] (.int x :: st) h Q := x_iload (len := 1) rfl rfl
theorem s_6_9 {a : Nat} : wp V (cdT Ev) mx d 6 9 [some (.ref a), l1, l2, l3] st h Q = wp V (cdT Ev) mx d 6 10 [some (.ref a), l1, l2, l3] (.ref a :: st) h Q := x_aload (len := 1) rfl rfl
theorem s_6_9_n : wp V (cdT Ev) mx d 6 9 [some .null, l1, l2, l3] st h Q = wp V (cdT Ev) mx d 6 10 [some .null, l1, l2, l3] (.null :: st) h Q := x_aloadN (len := 1) rfl rfl
theorem s_6_10 {a : Nat} : wp V (cdT Ev) mx d 6 10 ls (.ref a :: st) h Q = gf [0] 1 h a (fun v => wp V (cdT Ev) mx d 6 13 ls (v :: st) h Q) := x_getf rfl
theorem s_6_13 {x z : Int32} : wp V (cdT Ev) mx d 6 13 ls (.int z :: .int x :: st) h Q = (if z ≤ x then wp V (cdT Ev) mx d 6 58 ls st h Q else wp V (cdT Ev) mx d 6 16 ls st h Q) := x_if2 (c := fun x z => z ≤ x) rfl
theorem s_6_16 {x : Int32} : wp V (cdT Ev) mx d 6 16 [l0, l1, some (.int x), l3] st h Q = wp V (cdT Ev) mx d 6 17 [l0, l1, some (.int x), l3] (.int x :: st) h Q := x_iload (len := 1) rfl rfl
theorem s_6_17 {x : Int32} : wp V (cdT Ev) mx d 6 17 ls (.int x :: st) h Q = (if x = 0 then wp V (cdT Ev) mx d 6 58 ls st h Q else wp V (cdT Ev) mx d 6 20 ls st h Q) := x_if1 (c := fun x => x = 0) rfl
theorem s_6_20 {a : Nat} : wp V (cdT Ev) mx d 6 20 [some (.ref a), l1, l2, l3] st h Q = wp V (cdT Ev) mx d 6 21 [some (.ref a), l1, l2, l3] (.ref a :: st) h Q := x_aload (len := 1) rfl rfl
theorem s_6_20_n : wp V (cdT Ev) mx d 6 20 [some .null, l1, l2, l3] st h Q = wp V (cdT Ev) mx d 6 21 [some .null, l1, l2, l3] (.null :: st) h Q := x_aloadN (len := 1) rfl rfl
theorem s_6_21 : wp V (cdT Ev) mx d 6 21 ls st h Q = wp V (cdT Ev) mx d 6 23 ls ((.int (38)) :: st) h Q := x_push (v := (.int (38))) (len := 2) rfl
theorem s_6_23 {b : Nat} {v0 : Value} (hst : st.length ≤ 4) : wp V (cdT Ev) mx d 6 23 ls (v0 :: .ref b :: st) h Q = cv [(0, 10)] h b (fun y' => WP V (cdT Ev) mx d y' [.ref b, v0] h (fun r h' => wp V (cdT Ev) mx d 6 26 ls (rts r st) h' Q)) := x_cv (sg := [v0]) rfl hst rfl rfl
theorem s_6_26 {x : Int32} : wp V (cdT Ev) mx d 6 26 ls (.int x :: st) h Q = (if x = 0 then wp V (cdT Ev) mx d 6 58 ls st h Q else wp V (cdT Ev) mx d 6 29 ls st h Q) := x_if1 (c := fun x => x = 0) rfl
theorem s_6_29 {a : Nat} : wp V (cdT Ev) mx d 6 29 [some (.ref a), l1, l2, l3] st h Q = wp V (cdT Ev) mx d 6 30 [some (.ref a), l1, l2, l3] (.ref a :: st) h Q := x_aload (len := 1) rfl rfl
theorem s_6_29_n : wp V (cdT Ev) mx d 6 29 [some .null, l1, l2, l3] st h Q = wp V (cdT Ev) mx d 6 30 [some .null, l1, l2, l3] (.null :: st) h Q := x_aloadN (len := 1) rfl rfl
theorem s_6_30 {x : Int32} : wp V (cdT Ev) mx d 6 30 [l0, some (.int x), l2, l3] st h Q = wp V (cdT Ev) mx d 6 31 [l0, some (.int x), l2, l3] (.int x :: st) h Q := x_iload (len := 1) rfl rfl
theorem s_6_31 {b : Nat} {v0 : Value} (hst : st.length ≤ 4) : wp V (cdT Ev) mx d 6 31 ls (v0 :: .ref b :: st) h Q = cv [(0, 7)] h b (fun y' => WP V (cdT Ev) mx d y' [.ref b, v0] h (fun r h' => wp V (cdT Ev) mx d 6 34 ls (rts r st) h' Q)) := x_cv (sg := [v0]) rfl hst rfl rfl
theorem s_6_34 {x : Int32} : wp V (cdT Ev) mx d 6 34 ls (.int x :: st) h Q = (if x = 0 then wp V (cdT Ev) mx d 6 50 ls st h Q else wp V (cdT Ev) mx d 6 37 ls st h Q) := x_if1 (c := fun x => x = 0) rfl
theorem s_6_37 {a : Nat} : wp V (cdT Ev) mx d 6 37 [some (.ref a), l1, l2, l3] st h Q = wp V (cdT Ev) mx d 6 38 [some (.ref a), l1, l2, l3] (.ref a :: st) h Q := x_aload (len := 1) rfl rfl
theorem s_6_37_n : wp V (cdT Ev) mx d 6 37 [some .null, l1, l2, l3] st h Q = wp V (cdT Ev) mx d 6 38 [some .null, l1, l2, l3] (.null :: st) h Q := x_aloadN (len := 1) rfl rfl
theorem s_6_38 : wp V (cdT Ev) mx d 6 38 ls st h Q = wp V (cdT Ev) mx d 6 40 ls ((.int (-2)) :: st) h Q := x_push (v := (.int (-2))) (len := 2) rfl
theorem s_6_40 {b : Nat} {v0 : Value} (hst : st.length ≤ 4) : wp V (cdT Ev) mx d 6 40 ls (v0 :: .ref b :: st) h Q = cv [(0, 9)] h b (fun y' => WP V (cdT Ev) mx d y' [.ref b, v0] h (fun r h' => wp V (cdT Ev) mx d 6 43 ls (rts r st) h' Q)) := x_cv (sg := [v0]) rfl hst rfl rfl
theorem s_6_43 {x : Int32} : wp V (cdT Ev) mx d 6 43 ls (.int x :: st) h Q = (if x = 0 then wp V (cdT Ev) mx d 6 50 ls st h Q else wp V (cdT Ev) mx d 6 46 ls st h Q) := x_if1 (c := fun x => x = 0) rfl
theorem s_6_46 : wp V (cdT Ev) mx d 6 46 ls st h Q = wp V (cdT Ev) mx d 6 47 ls ((.int (1)) :: st) h Q := x_push (v := (.int (1))) (len := 1) rfl
theorem s_6_47 : wp V (cdT Ev) mx d 6 47 ls st h Q = wp V (cdT Ev) mx d 6 51 ls st h Q := x_goto rfl
theorem s_6_50 : wp V (cdT Ev) mx d 6 50 ls st h Q = wp V (cdT Ev) mx d 6 51 ls ((.int (0)) :: st) h Q := x_push (v := (.int (0))) (len := 1) rfl
theorem s_6_51 {x : Int32} (hn : nl l1 = true) : wp V (cdT Ev) mx d 6 51 [l0, l1, l2, l3] (.int x :: st) h Q = wp V (cdT Ev) mx d 6 52 [l0, l1, some (.int x), l3] st h Q := x_istore (len := 1) rfl (Nat.le_of_ble_eq_true rfl) (okp_nl rfl hn) rfl
theorem s_6_52 {x : Int32} : wp V (cdT Ev) mx d 6 52 [l0, l1, l2, some (.int x)] st h Q = wp V (cdT Ev) mx d 6 55 [l0, l1, l2, some (.int (x + (1)))] st h Q := x_iinc rfl rfl rfl
theorem s_6_55 : wp V (cdT Ev) mx d 6 55 ls st h Q = wp V (cdT Ev) mx d 6 8 ls st h Q := x_goto rfl
theorem s_6_58 {x : Int32} : wp V (cdT Ev) mx d 6 58 [l0, l1, some (.int x), l3] st h Q = wp V (cdT Ev) mx d 6 59 [l0, l1, some (.int x), l3] (.int x :: st) h Q := x_iload (len := 1) rfl rfl
theorem s_6_59 {x : Int32} (hx : okr 1 (.int x) = true) : wp V (cdT Ev) mx d 6 59 ls [.int x] h Q = Q (some (.int x)) h := x_ret rfl hx
theorem e_6 {a : Nat} {p0 : Int32} : WP V (cdT Ev) mx (d + 1) 6 [.ref a, .int p0] h Q = wp V (cdT Ev) mx d 6 0 [some (.ref a), some (.int p0), none, none] [] h Q := propext (WP_eq (Nat.le_of_ble_eq_true rfl))
theorem s_7_0 {a : Nat} : wp V (cdT Ev) mx d 7 0 [some (.ref a), l1] st h Q = wp V (cdT Ev) mx d 7 1 [some (.ref a), l1] (.ref a :: st) h Q := x_aload (len := 1) rfl rfl
theorem s_7_0_n : wp V (cdT Ev) mx d 7 0 [some .null, l1] st h Q = wp V (cdT Ev) mx d 7 1 [some .null, l1] (.null :: st) h Q := x_aloadN (len := 1) rfl rfl
theorem s_7_1 {a : Nat} : wp V (cdT Ev) mx d 7 1 ls (.ref a :: st) h Q = gf [0] 0 h a (fun v => wp V (cdT Ev) mx d 7 4 ls (v :: st) h Q) := x_getf rfl
theorem s_7_4 {a : Nat} : wp V (cdT Ev) mx d 7 4 [some (.ref a), l1] st h Q = wp V (cdT Ev) mx d 7 5 [some (.ref a), l1] (.ref a :: st) h Q := x_aload (len := 1) rfl rfl
theorem s_7_4_n : wp V (cdT Ev) mx d 7 4 [some .null, l1] st h Q = wp V (cdT Ev) mx d 7 5 [some .null, l1] (.null :: st) h Q := x_aloadN (len := 1) rfl rfl
theorem s_7_5 {a : Nat} : wp V (cdT Ev) mx d 7 5 ls (.ref a :: st) h Q = gf [0] 2 h a (fun v => wp V (cdT Ev) mx d 7 8 ls (v :: st) h Q) := x_getf rfl
theorem s_7_8 {i : Int32} {a : Nat} : wp V (cdT Ev) mx d 7 8 ls (.int i :: .ref a :: st) h Q = ai 0 i V h a (fun x => wp V (cdT Ev) mx d 7 9 ls (.int x :: st) h Q) := x_iald rfl
theorem s_7_9 : wp V (cdT Ev) mx d 7 9 ls st h Q = wp V (cdT Ev) mx d 7 11 ls ((.int (33)) :: st) h Q := x_push (v := (.int (33))) (len := 2) rfl
theorem s_7_11 {x z : Int32} : wp V (cdT Ev) mx d 7 11 ls (.int z :: .int x :: st) h Q = (if x = z then wp V (cdT Ev) mx d 7 33 ls st h Q else wp V (cdT Ev) mx d 7 14 ls st h Q) := x_if2 (c := fun x z => x = z) rfl
theorem s_7_14 {a : Nat} : wp V (cdT Ev) mx d 7 14 [some (.ref a), l1] st h Q = wp V (cdT Ev) mx d 7 15 [some (.ref a), l1] (.ref a :: st) h Q := x_aload (len := 1) rfl rfl
theorem s_7_14_n : wp V (cdT Ev) mx d 7 14 [some .null, l1] st h Q = wp V (cdT Ev) mx d 7 15 [some .null, l1] (.null :: st) h Q := x_aloadN (len := 1) rfl rfl
theorem s_7_15 {a : Nat} : wp V (cdT Ev) mx d 7 15 ls (.ref a :: st) h Q = gf [0] 0 h a (fun v => wp V (cdT Ev) mx d 7 18 ls (v :: st) h Q) := x_getf rfl
theorem s_7_18 {a : Nat} : wp V (cdT Ev) mx d 7 18 [some (.ref a), l1] st h Q = wp V (cdT Ev) mx d 7 19 [some (.ref a), l1] (.ref a :: st) h Q := x_aload (len := 1) rfl rfl
theorem s_7_18_n : wp V (cdT Ev) mx d 7 18 [some .null, l1] st h Q = wp V (cdT Ev) mx d 7 19 [some .null, l1] (.null :: st) h Q := x_aloadN (len := 1) rfl rfl
theorem s_7_19 {a : Nat} : wp V (cdT Ev) mx d 7 19 ls (.ref a :: st) h Q = gf [0] 2 h a (fun v => wp V (cdT Ev) mx d 7 22 ls (v :: st) h Q) := x_getf rfl
theorem s_7_22 {i : Int32} {a : Nat} : wp V (cdT Ev) mx d 7 22 ls (.int i :: .ref a :: st) h Q = ai 0 i V h a (fun x => wp V (cdT Ev) mx d 7 23 ls (.int x :: st) h Q) := x_iald rfl
theorem s_7_23 : wp V (cdT Ev) mx d 7 23 ls st h Q = wp V (cdT Ev) mx d 7 25 ls ((.int (40)) :: st) h Q := x_push (v := (.int (40))) (len := 2) rfl
theorem s_7_25 {x z : Int32} : wp V (cdT Ev) mx d 7 25 ls (.int z :: .int x :: st) h Q = (if x = z then wp V (cdT Ev) mx d 7 33 ls st h Q else wp V (cdT Ev) mx d 7 28 ls st h Q) := x_if2 (c := fun x z => x = z) rfl
theorem s_7_28 {a : Nat} : wp V (cdT Ev) mx d 7 28 [some (.ref a), l1] st h Q = wp V (cdT Ev) mx d 7 29 [some (.ref a), l1] (.ref a :: st) h Q := x_aload (len := 1) rfl rfl
theorem s_7_28_n : wp V (cdT Ev) mx d 7 28 [some .null, l1] st h Q = wp V (cdT Ev) mx d 7 29 [some .null, l1] (.null :: st) h Q := x_aloadN (len := 1) rfl rfl
theorem s_7_29 {b : Nat} (hst : st.length ≤ 4) : wp V (cdT Ev) mx d 7 29 ls (.ref b :: st) h Q = cv [(0, 8)] h b (fun y' => WP V (cdT Ev) mx d y' [.ref b] h (fun r h' => wp V (cdT Ev) mx d 7 32 ls (rts r st) h' Q)) := x_cv (sg := []) rfl hst rfl rfl
theorem s_7_32 {x : Int32} (hx : okr 1 (.int x) = true) : wp V (cdT Ev) mx d 7 32 ls [.int x] h Q = Q (some (.int x)) h := x_ret rfl hx
theorem s_7_33 {x : Int32} : wp V (cdT Ev) mx d 7 33 [l0, some (.int x)] st h Q = wp V (cdT Ev) mx d 7 34 [l0, some (.int x)] (.int x :: st) h Q := x_iload (len := 1) rfl rfl
theorem s_7_34 : wp V (cdT Ev) mx d 7 34 ls st h Q = wp V (cdT Ev) mx d 7 35 ls ((.int (4)) :: st) h Q := x_push (v := (.int (4))) (len := 1) rfl
theorem s_7_35 {x z : Int32} : wp V (cdT Ev) mx d 7 35 ls (.int z :: .int x :: st) h Q = (if x < z then wp V (cdT Ev) mx d 7 40 ls st h Q else wp V (cdT Ev) mx d 7 38 ls st h Q) := x_if2 (c := fun x z => x < z) rfl
theorem s_7_38 : wp V (cdT Ev) mx d 7 38 ls st h Q = wp V (cdT Ev) mx d 7 39 ls ((.int (0)) :: st) h Q := x_push (v := (.int (0))) (len := 1) rfl
theorem s_7_39 {x : Int32} (hx : okr 1 (.int x) = true) : wp V (cdT Ev) mx d 7 39 ls [.int x] h Q = Q (some (.int x)) h := x_ret rfl hx
theorem s_7_40 {a : Nat} : wp V (cdT Ev) mx d 7 40 [some (.ref a), l1] st h Q = wp V (cdT Ev) mx d 7 41 [some (.ref a), l1] (.ref a :: st) h Q := x_aload (len := 1) rfl rfl
theorem s_7_40_n : wp V (cdT Ev) mx d 7 40 [some .null, l1] st h Q = wp V (cdT Ev) mx d 7 41 [some .null, l1] (.null :: st) h Q := x_aloadN (len := 1) rfl rfl
theorem s_7_41 : wp V (cdT Ev) mx d 7 41 ls st h Q = wp V (cdT Ev) mx d 7 43 ls ((.int (33)) :: st) h Q := x_push (v := (.int (33))) (len := 2) rfl
theorem s_7_43 {b : Nat} {v0 : Value} (hst : st.length ≤ 4) : wp V (cdT Ev) mx d 7 43 ls (v0 :: .ref b :: st) h Q = cv [(0, 10)] h b (fun y' => WP V (cdT Ev) mx d y' [.ref b, v0] h (fun r h' => wp V (cdT Ev) mx d 7 46 ls (rts r st) h' Q)) := x_cv (sg := [v0]) rfl hst rfl rfl
theorem s_7_46 {x : Int32} : wp V (cdT Ev) mx d 7 46 ls (.int x :: st) h Q = (if x = 0 then wp V (cdT Ev) mx d 7 73 ls st h Q else wp V (cdT Ev) mx d 7 49 ls st h Q) := x_if1 (c := fun x => x = 0) rfl
theorem s_7_49 {a : Nat} : wp V (cdT Ev) mx d 7 49 [some (.ref a), l1] st h Q = wp V (cdT Ev) mx d 7 50 [some (.ref a), l1] (.ref a :: st) h Q := x_aload (len := 1) rfl rfl
theorem s_7_49_n : wp V (cdT Ev) mx d 7 49 [some .null, l1] st h Q = wp V (cdT Ev) mx d 7 50 [some .null, l1] (.null :: st) h Q := x_aloadN (len := 1) rfl rfl
theorem s_7_50 {x : Int32} : wp V (cdT Ev) mx d 7 50 [l0, some (.int x)] st h Q = wp V (cdT Ev) mx d 7 51 [l0, some (.int x)] (.int x :: st) h Q := x_iload (len := 1) rfl rfl
theorem s_7_51 : wp V (cdT Ev) mx d 7 51 ls st h Q = wp V (cdT Ev) mx d 7 52 ls ((.int (1)) :: st) h Q := x_push (v := (.int (1))) (len := 1) rfl
theorem s_7_52 {x z : Int32} : wp V (cdT Ev) mx d 7 52 ls (.int z :: .int x :: st) h Q = wp V (cdT Ev) mx d 7 53 ls (.int (x + z) :: st) h Q := x_ib (f := fun x z => x + z) rfl
theorem s_7_53 {b : Nat} {v0 : Value} (hst : st.length ≤ 4) : wp V (cdT Ev) mx d 7 53 ls (v0 :: .ref b :: st) h Q = cv [(0, 7)] h b (fun y' => WP V (cdT Ev) mx d y' [.ref b, v0] h (fun r h' => wp V (cdT Ev) mx d 7 56 ls (rts r st) h' Q)) := x_cv (sg := [v0]) rfl hst rfl rfl
theorem s_7_56 {x : Int32} : wp V (cdT Ev) mx d 7 56 ls (.int x :: st) h Q = (if x = 0 then wp V (cdT Ev) mx d 7 71 ls st h Q else wp V (cdT Ev) mx d 7 59 ls st h Q) := x_if1 (c := fun x => x = 0) rfl
theorem s_7_59 {a : Nat} : wp V (cdT Ev) mx d 7 59 [some (.ref a), l1] st h Q = wp V (cdT Ev) mx d 7 60 [some (.ref a), l1] (.ref a :: st) h Q := x_aload (len := 1) rfl rfl
theorem s_7_59_n : wp V (cdT Ev) mx d 7 59 [some .null, l1] st h Q = wp V (cdT Ev) mx d 7 60 [some .null, l1] (.null :: st) h Q := x_aloadN (len := 1) rfl rfl
theorem s_7_60 : wp V (cdT Ev) mx d 7 60 ls st h Q = wp V (cdT Ev) mx d 7 61 ls ((.int (-1)) :: st) h Q := x_push (v := (.int (-1))) (len := 1) rfl
theorem s_7_61 {b : Nat} {v0 : Value} (hst : st.length ≤ 4) : wp V (cdT Ev) mx d 7 61 ls (v0 :: .ref b :: st) h Q = cv [(0, 9)] h b (fun y' => WP V (cdT Ev) mx d y' [.ref b, v0] h (fun r h' => wp V (cdT Ev) mx d 7 64 ls (rts r st) h' Q)) := x_cv (sg := [v0]) rfl hst rfl rfl
theorem s_7_64 {x : Int32} : wp V (cdT Ev) mx d 7 64 ls (.int x :: st) h Q = (if x = 0 then wp V (cdT Ev) mx d 7 71 ls st h Q else wp V (cdT Ev) mx d 7 67 ls st h Q) := x_if1 (c := fun x => x = 0) rfl
theorem s_7_67 : wp V (cdT Ev) mx d 7 67 ls st h Q = wp V (cdT Ev) mx d 7 68 ls ((.int (1)) :: st) h Q := x_push (v := (.int (1))) (len := 1) rfl
theorem s_7_68 : wp V (cdT Ev) mx d 7 68 ls st h Q = wp V (cdT Ev) mx d 7 72 ls st h Q := x_goto rfl
theorem s_7_71 : wp V (cdT Ev) mx d 7 71 ls st h Q = wp V (cdT Ev) mx d 7 72 ls ((.int (0)) :: st) h Q := x_push (v := (.int (0))) (len := 1) rfl
theorem s_7_72 {x : Int32} (hx : okr 1 (.int x) = true) : wp V (cdT Ev) mx d 7 72 ls [.int x] h Q = Q (some (.int x)) h := x_ret rfl hx
theorem s_7_73 {a : Nat} : wp V (cdT Ev) mx d 7 73 [some (.ref a), l1] st h Q = wp V (cdT Ev) mx d 7 74 [some (.ref a), l1] (.ref a :: st) h Q := x_aload (len := 1) rfl rfl
theorem s_7_73_n : wp V (cdT Ev) mx d 7 73 [some .null, l1] st h Q = wp V (cdT Ev) mx d 7 74 [some .null, l1] (.null :: st) h Q := x_aloadN (len := 1) rfl rfl
theorem s_7_74 {a : Nat} : wp V (cdT Ev) mx d 7 74 ls (.ref a :: st) h Q = wp V (cdT Ev) mx d 7 75 ls (.ref a :: .ref a :: st) h Q := x_dup rfl rfl
theorem s_7_74_i {x : Int32} : wp V (cdT Ev) mx d 7 74 ls (.int x :: st) h Q = wp V (cdT Ev) mx d 7 75 ls (.int x :: .int x :: st) h Q := x_dup rfl rfl
theorem s_7_75 {a : Nat} : wp V (cdT Ev) mx d 7 75 ls (.ref a :: st) h Q = gf [0] 2 h a (fun v => wp V (cdT Ev) mx d 7 78 ls (v :: st) h Q) := x_getf rfl
theorem s_7_78 : wp V (cdT Ev) mx d 7 78 ls st h Q = wp V (cdT Ev) mx d 7 79 ls ((.int (1)) :: st) h Q := x_push (v := (.int (1))) (len := 1) rfl
theorem s_7_79 {x z : Int32} : wp V (cdT Ev) mx d 7 79 ls (.int z :: .int x :: st) h Q = wp V (cdT Ev) mx d 7 80 ls (.int (x + z) :: st) h Q := x_ib (f := fun x z => x + z) rfl
theorem s_7_80 {w : Value} {a : Nat} : wp V (cdT Ev) mx d 7 80 ls (w :: .ref a :: st) h Q = pf [0] 2 0 w h a (fun hh => wp V (cdT Ev) mx d 7 83 ls st hh Q) := x_putf rfl
theorem s_7_83 {a : Nat} : wp V (cdT Ev) mx d 7 83 [some (.ref a), l1] st h Q = wp V (cdT Ev) mx d 7 84 [some (.ref a), l1] (.ref a :: st) h Q := x_aload (len := 1) rfl rfl
theorem s_7_83_n : wp V (cdT Ev) mx d 7 83 [some .null, l1] st h Q = wp V (cdT Ev) mx d 7 84 [some .null, l1] (.null :: st) h Q := x_aloadN (len := 1) rfl rfl
theorem s_7_84 {x : Int32} : wp V (cdT Ev) mx d 7 84 [l0, some (.int x)] st h Q = wp V (cdT Ev) mx d 7 85 [l0, some (.int x)] (.int x :: st) h Q := x_iload (len := 1) rfl rfl
theorem s_7_85 : wp V (cdT Ev) mx d 7 85 ls st h Q = wp V (cdT Ev) mx d 7 86 ls ((.int (1)) :: st) h Q := x_push (v := (.int (1))) (len := 1) rfl
theorem s_7_86 {x z : Int32} : wp V (cdT Ev) mx d 7 86 ls (.int z :: .int x :: st) h Q = wp V (cdT Ev) mx d 7 87 ls (.int (x + z) :: st) h Q := x_ib (f := fun x z => x + z) rfl
theorem s_7_87 {b : Nat} {v0 : Value} (hst : st.length ≤ 4) : wp V (cdT Ev) mx d 7 87 ls (v0 :: .ref b :: st) h Q = cv [(0, 5)] h b (fun y' => WP V (cdT Ev) mx d y' [.ref b, v0] h (fun r h' => wp V (cdT Ev) mx d 7 90 ls (rts r st) h' Q)) := x_cv (sg := [v0]) rfl hst rfl rfl
theorem s_7_90 {x : Int32} : wp V (cdT Ev) mx d 7 90 ls (.int x :: st) h Q = (if x = 0 then wp V (cdT Ev) mx d 7 106 ls st h Q else wp V (cdT Ev) mx d 7 93 ls st h Q) := x_if1 (c := fun x => x = 0) rfl
theorem s_7_93 {a : Nat} : wp V (cdT Ev) mx d 7 93 [some (.ref a), l1] st h Q = wp V (cdT Ev) mx d 7 94 [some (.ref a), l1] (.ref a :: st) h Q := x_aload (len := 1) rfl rfl
theorem s_7_93_n : wp V (cdT Ev) mx d 7 93 [some .null, l1] st h Q = wp V (cdT Ev) mx d 7 94 [some .null, l1] (.null :: st) h Q := x_aloadN (len := 1) rfl rfl
theorem s_7_94 : wp V (cdT Ev) mx d 7 94 ls st h Q = wp V (cdT Ev) mx d 7 96 ls ((.int (41)) :: st) h Q := x_push (v := (.int (41))) (len := 2) rfl
theorem s_7_96 {b : Nat} {v0 : Value} (hst : st.length ≤ 4) : wp V (cdT Ev) mx d 7 96 ls (v0 :: .ref b :: st) h Q = cv [(0, 10)] h b (fun y' => WP V (cdT Ev) mx d y' [.ref b, v0] h (fun r h' => wp V (cdT Ev) mx d 7 99 ls (rts r st) h' Q)) := x_cv (sg := [v0]) rfl hst rfl rfl
theorem s_7_99 {x : Int32} : wp V (cdT Ev) mx d 7 99 ls (.int x :: st) h Q = (if x = 0 then wp V (cdT Ev) mx d 7 106 ls st h Q else wp V (cdT Ev) mx d 7 102 ls st h Q) := x_if1 (c := fun x => x = 0) rfl
theorem s_7_102 : wp V (cdT Ev) mx d 7 102 ls st h Q = wp V (cdT Ev) mx d 7 103 ls ((.int (1)) :: st) h Q := x_push (v := (.int (1))) (len := 1) rfl
theorem s_7_103 : wp V (cdT Ev) mx d 7 103 ls st h Q = wp V (cdT Ev) mx d 7 107 ls st h Q := x_goto rfl
theorem s_7_106 : wp V (cdT Ev) mx d 7 106 ls st h Q = wp V (cdT Ev) mx d 7 107 ls ((.int (0)) :: st) h Q := x_push (v := (.int (0))) (len := 1) rfl
theorem s_7_107 {x : Int32} (hx : okr 1 (.int x) = true) : wp V (cdT Ev) mx d 7 107 ls [.int x] h Q = Q (some (.int x)) h := x_ret rfl hx
theorem e_7 {a : Nat} {p0 : Int32} : WP V (cdT Ev) mx (d + 1) 7 [.ref a, .int p0] h Q = wp V (cdT Ev) mx d 7 0 [some (.ref a), some (.int p0)] [] h Q := propext (WP_eq (Nat.le_of_ble_eq_true rfl))
theorem s_8_0 : wp V (cdT Ev) mx d 8 0 ls st h Q = wp V (cdT Ev) mx d 8 2 ls ((Ev 4) :: st) h Q := x_push (v := (Ev 4)) (len := 2) rfl
theorem s_8_2 {a : Nat} : wp V (cdT Ev) mx d 8 2 [some (.ref a), l1, l2, l3] st h Q = wp V (cdT Ev) mx d 8 3 [some (.ref a), l1, l2, l3] (.ref a :: st) h Q := x_aload (len := 1) rfl rfl
theorem s_8_2_n : wp V (cdT Ev) mx d 8 2 [some .null, l1, l2, l3] st h Q = wp V (cdT Ev) mx d 8 3 [some .null, l1, l2, l3] (.null :: st) h Q := x_aloadN (len := 1) rfl rfl
theorem s_8_3 {a : Nat} : wp V (cdT Ev) mx d 8 3 ls (.ref a :: st) h Q = gf [0] 0 h a (fun v => wp V (cdT Ev) mx d 8 6 ls (v :: st) h Q) := x_getf rfl
theorem s_8_6 {a : Nat} : wp V (cdT Ev) mx d 8 6 [some (.ref a), l1, l2, l3] st h Q = wp V (cdT Ev) mx d 8 7 [some (.ref a), l1, l2, l3] (.ref a :: st) h Q := x_aload (len := 1) rfl rfl
theorem s_8_6_n : wp V (cdT Ev) mx d 8 6 [some .null, l1, l2, l3] st h Q = wp V (cdT Ev) mx d 8 7 [some .null, l1, l2, l3] (.null :: st) h Q := x_aloadN (len := 1) rfl rfl
theorem s_8_7 {a : Nat} : wp V (cdT Ev) mx d 8 7 ls (.ref a :: st) h Q = gf [0] 2 h a (fun v => wp V (cdT Ev) mx d 8 10 ls (v :: st) h Q) := x_getf rfl
theorem s_8_10 {i : Int32} {a : Nat} : wp V (cdT Ev) mx d 8 10 ls (.int i :: .ref a :: st) h Q = ai 0 i V h a (fun x => wp V (cdT Ev) mx d 8 11 ls (.int x :: st) h Q) := x_iald rfl
theorem s_8_11 {x : Int32} : wp V (cdT Ev) mx d 8 11 ls (.int x :: st) h Q = wp V (cdT Ev) mx d 8 12 ls (.int ((x.toUInt32 % 65536).toInt32) :: st) h Q := x_iu (f := fun x => (x.toUInt32 % 65536).toInt32) rfl
theorem s_8_12 {b : Nat} {v0 : Value} (hst : st.length ≤ 4) : wp V (cdT Ev) mx d 8 12 ls (v0 :: .ref b :: st) h Q = cstr V b (WP V (cdT Ev) mx d 200 [.ref b, v0] h (fun r h' => wp V (cdT Ev) mx d 8 15 ls (rts r st) h' Q)) := x_cstr (sg := [v0]) rfl hst rfl rfl
theorem s_8_15 {x : Int32} (hn : nl l0 = true) : wp V (cdT Ev) mx d 8 15 [l0, l1, l2, l3] (.int x :: st) h Q = wp V (cdT Ev) mx d 8 16 [l0, some (.int x), l2, l3] st h Q := x_istore (len := 1) rfl (Nat.le_of_ble_eq_true rfl) (okp_nl rfl hn) rfl
theorem s_8_16 {x : Int32} : wp V (cdT Ev) mx d 8 16 [l0, some (.int x), l2, l3] st h Q = wp V (cdT Ev) mx d 8 17 [l0, some (.int x), l2, l3] (.int x :: st) h Q := x_iload (len := 1) rfl rfl
theorem s_8_17 {x : Int32} : wp V (cdT Ev) mx d 8 17 ls (.int x :: st) h Q = (if 0 ≤ x then wp V (cdT Ev) mx d 8 22 ls st h Q else wp V (cdT Ev) mx d 8 20 ls st h Q) := x_if1 (c := fun x => 0 ≤ x) rfl
theorem s_8_20 : wp V (cdT Ev) mx d 8 20 ls st h Q = wp V (cdT Ev) mx d 8 21 ls ((.int (0)) :: st) h Q := x_push (v := (.int (0))) (len := 1) rfl
theorem s_8_21 {x : Int32} (hx : okr 1 (.int x) = true) : wp V (cdT Ev) mx d 8 21 ls [.int x] h Q = Q (some (.int x)) h := x_ret rfl hx
theorem s_8_22 {a : Nat} : wp V (cdT Ev) mx d 8 22 [some (.ref a), l1, l2, l3] st h Q = wp V (cdT Ev) mx d 8 23 [some (.ref a), l1, l2, l3] (.ref a :: st) h Q := x_aload (len := 1) rfl rfl
theorem s_8_22_n : wp V (cdT Ev) mx d 8 22 [some .null, l1, l2, l3] st h Q = wp V (cdT Ev) mx d 8 23 [some .null, l1, l2, l3] (.null :: st) h Q := x_aloadN (len := 1) rfl rfl
theorem s_8_23 {a : Nat} : wp V (cdT Ev) mx d 8 23 ls (.ref a :: st) h Q = wp V (cdT Ev) mx d 8 24 ls (.ref a :: .ref a :: st) h Q := x_dup rfl rfl
theorem s_8_23_i {x : Int32} : wp V (cdT Ev) mx d 8 23 ls (.int x :: st) h Q = wp V (cdT Ev) mx d 8 24 ls (.int x :: .int x :: st) h Q := x_dup rfl rfl
theorem s_8_24 {a : Nat} : wp V (cdT Ev) mx d 8 24 ls (.ref a :: st) h Q = gf [0] 2 h a (fun v => wp V (cdT Ev) mx d 8 27 ls (v :: st) h Q) := x_getf rfl
theorem s_8_27 : wp V (cdT Ev) mx d 8 27 ls st h Q = wp V (cdT Ev) mx d 8 28 ls ((.int (1)) :: st) h Q := x_push (v := (.int (1))) (len := 1) rfl
theorem s_8_28 {x z : Int32} : wp V (cdT Ev) mx d 8 28 ls (.int z :: .int x :: st) h Q = wp V (cdT Ev) mx d 8 29 ls (.int (x + z) :: st) h Q := x_ib (f := fun x z => x + z) rfl
theorem s_8_29 {w : Value} {a : Nat} : wp V (cdT Ev) mx d 8 29 ls (w :: .ref a :: st) h Q = pf [0] 2 0 w h a (fun hh => wp V (cdT Ev) mx d 8 32 ls st hh Q) := x_putf rfl
theorem s_8_32 : wp V (cdT Ev) mx d 8 32 ls st h Q = wp V (cdT Ev) mx d 8 34 ls ((Ev 5) :: st) h Q := x_push (v := (Ev 5)) (len := 2) rfl
theorem s_8_34 {a : Nat} : wp V (cdT Ev) mx d 8 34 [some (.ref a), l1, l2, l3] st h Q = wp V (cdT Ev) mx d 8 35 [some (.ref a), l1, l2, l3] (.ref a :: st) h Q := x_aload (len := 1) rfl rfl
theorem s_8_34_n : wp V (cdT Ev) mx d 8 34 [some .null, l1, l2, l3] st h Q = wp V (cdT Ev) mx d 8 35 [some .null, l1, l2, l3] (.null :: st) h Q := x_aloadN (len := 1) rfl rfl
theorem s_8_35 {a : Nat} : wp V (cdT Ev) mx d 8 35 ls (.ref a :: st) h Q = gf [0] 0 h a (fun v => wp V (cdT Ev) mx d 8 38 ls (v :: st) h Q) := x_getf rfl
theorem s_8_38 {a : Nat} : wp V (cdT Ev) mx d 8 38 [some (.ref a), l1, l2, l3] st h Q = wp V (cdT Ev) mx d 8 39 [some (.ref a), l1, l2, l3] (.ref a :: st) h Q := x_aload (len := 1) rfl rfl
theorem s_8_38_n : wp V (cdT Ev) mx d 8 38 [some .null, l1, l2, l3] st h Q = wp V (cdT Ev) mx d 8 39 [some .null, l1, l2, l3] (.null :: st) h Q := x_aloadN (len := 1) rfl rfl
theorem s_8_39 {a : Nat} : wp V (cdT Ev) mx d 8 39 ls (.ref a :: st) h Q = gf [0] 2 h a (fun v => wp V (cdT Ev) mx d 8 42 ls (v :: st) h Q) := x_getf rfl
theorem s_8_42 {i : Int32} {a : Nat} : wp V (cdT Ev) mx d 8 42 ls (.int i :: .ref a :: st) h Q = ai 0 i V h a (fun x => wp V (cdT Ev) mx d 8 43 ls (.int x :: st) h Q) := x_iald rfl
theorem s_8_43 {x : Int32} : wp V (cdT Ev) mx d 8 43 ls (.int x :: st) h Q = wp V (cdT Ev) mx d 8 44 ls (.int ((x.toUInt32 % 65536).toInt32) :: st) h Q := x_iu (f := fun x => (x.toUInt32 % 65536).toInt32) rfl
theorem s_8_44 {b : Nat} {v0 : Value} (hst : st.length ≤ 4) : wp V (cdT Ev) mx d 8 44 ls (v0 :: .ref b :: st) h Q = cstr V b (WP V (cdT Ev) mx d 200 [.ref b, v0] h (fun r h' => wp V (cdT Ev) mx d 8 47 ls (rts r st) h' Q)) := x_cstr (sg := [v0]) rfl hst rfl rfl
theorem s_8_47 {x : Int32} (hn : nl l1 = true) : wp V (cdT Ev) mx d 8 47 [l0, l1, l2, l3] (.int x :: st) h Q = wp V (cdT Ev) mx d 8 48 [l0, l1, some (.int x), l3] st h Q := x_istore (len := 1) rfl (Nat.le_of_ble_eq_true rfl) (okp_nl rfl hn) rfl
theorem s_8_48 {x : Int32} : wp V (cdT Ev) mx d 8 48 [l0, l1, some (.int x), l3] st h Q = wp V (cdT Ev) mx d 8 49 [l0, l1, some (.int x), l3] (.int x :: st) h Q := x_iload (len := 1) rfl rfl
theorem s_8_49 {x : Int32} : wp V (cdT Ev) mx d 8 49 ls (.int x :: st) h Q = (if 0 ≤ x then wp V (cdT Ev) mx d 8 54 ls st h Q else wp V (cdT Ev) mx d 8 52 ls st h Q) := x_if1 (c := fun x => 0 ≤ x) rfl
theorem s_8_52 : wp V (cdT Ev) mx d 8 52 ls st h Q = wp V (cdT Ev) mx d 8 53 ls ((.int (0)) :: st) h Q := x_push (v := (.int (0))) (len := 1) rfl
theorem s_8_53 {x : Int32} (hx : okr 1 (.int x) = true) : wp V (cdT Ev) mx d 8 53 ls [.int x] h Q = Q (some (.int x)) h := x_ret rfl hx
theorem s_8_54 {a : Nat} : wp V (cdT Ev) mx d 8 54 [some (.ref a), l1, l2, l3] st h Q = wp V (cdT Ev) mx d 8 55 [some (.ref a), l1, l2, l3] (.ref a :: st) h Q := x_aload (len := 1) rfl rfl
theorem s_8_54_n : wp V (cdT Ev) mx d 8 54 [some .null, l1, l2, l3] st h Q = wp V (cdT Ev) mx d 8 55 [some .null, l1, l2, l3] (.null :: st) h Q := x_aloadN (len := 1) rfl rfl
theorem s_8_55 {a : Nat} : wp V (cdT Ev) mx d 8 55 ls (.ref a :: st) h Q = wp V (cdT Ev) mx d 8 56 ls (.ref a :: .ref a :: st) h Q := x_dup rfl rfl
theorem s_8_55_i {x : Int32} : wp V (cdT Ev) mx d 8 55 ls (.int x :: st) h Q = wp V (cdT Ev) mx d 8 56 ls (.int x :: .int x :: st) h Q := x_dup rfl rfl
theorem s_8_56 {a : Nat} : wp V (cdT Ev) mx d 8 56 ls (.ref a :: st) h Q = gf [0] 2 h a (fun v => wp V (cdT Ev) mx d 8 59 ls (v :: st) h Q) := x_getf rfl
theorem s_8_59 : wp V (cdT Ev) mx d 8 59 ls st h Q = wp V (cdT Ev) mx d 8 60 ls ((.int (1)) :: st) h Q := x_push (v := (.int (1))) (len := 1) rfl
theorem s_8_60 {x z : Int32} : wp V (cdT Ev) mx d 8 60 ls (.int z :: .int x :: st) h Q = wp V (cdT Ev) mx d 8 61 ls (.int (x + z) :: st) h Q := x_ib (f := fun x z => x + z) rfl
theorem s_8_61 {w : Value} {a : Nat} : wp V (cdT Ev) mx d 8 61 ls (w :: .ref a :: st) h Q = pf [0] 2 0 w h a (fun hh => wp V (cdT Ev) mx d 8 64 ls st hh Q) := x_putf rfl
theorem s_8_64 {a : Nat} : wp V (cdT Ev) mx d 8 64 [some (.ref a), l1, l2, l3] st h Q = wp V (cdT Ev) mx d 8 65 [some (.ref a), l1, l2, l3] (.ref a :: st) h Q := x_aload (len := 1) rfl rfl
theorem s_8_64_n : wp V (cdT Ev) mx d 8 64 [some .null, l1, l2, l3] st h Q = wp V (cdT Ev) mx d 8 65 [some .null, l1, l2, l3] (.null :: st) h Q := x_aloadN (len := 1) rfl rfl
theorem s_8_65 {b : Nat} (hst : st.length ≤ 4) : wp V (cdT Ev) mx d 8 65 ls (.ref b :: st) h Q = cv [(0, 12)] h b (fun y' => WP V (cdT Ev) mx d y' [.ref b] h (fun r h' => wp V (cdT Ev) mx d 8 68 ls (rts r st) h' Q)) := x_cv (sg := []) rfl hst rfl rfl
theorem s_8_68 {x : Int32} (hn : nl l2 = true) : wp V (cdT Ev) mx d 8 68 [l0, l1, l2, l3] (.int x :: st) h Q = wp V (cdT Ev) mx d 8 69 [l0, l1, l2, some (.int x)] st h Q := x_istore (len := 1) rfl (Nat.le_of_ble_eq_true rfl) (okp_nl rfl hn) rfl
theorem s_8_69 {x : Int32} : wp V (cdT Ev) mx d 8 69 [l0, l1, l2, some (.int x)] st h Q = wp V (cdT Ev) mx d 8 70 [l0, l1, l2, some (.int x)] (.int x :: st) h Q := x_iload (len := 1) rfl rfl
theorem s_8_70 {x : Int32} : wp V (cdT Ev) mx d 8 70 ls (.int x :: st) h Q = (if x < 0 then wp V (cdT Ev) mx d 8 94 ls st h Q else wp V (cdT Ev) mx d 8 73 ls st h Q) := x_if1 (c := fun x => x < 0) rfl
theorem s_8_73 {a : Nat} : wp V (cdT Ev) mx d 8 73 [some (.ref a), l1, l2, l3] st h Q = wp V (cdT Ev) mx d 8 74 [some (.ref a), l1, l2, l3] (.ref a :: st) h Q := x_aload (len := 1) rfl rfl
theorem s_8_73_n : wp V (cdT Ev) mx d 8 73 [some .null, l1, l2, l3] st h Q = wp V (cdT Ev) mx d 8 74 [some .null, l1, l2, l3] (.null :: st) h Q := x_aloadN (len := 1) rfl rfl
theorem s_8_74 {x : Int32} : wp V (cdT Ev) mx d 8 74 [l0, some (.int x), l2, l3] st h Q = wp V (cdT Ev) mx d 8 75 [l0, some (.int x), l2, l3] (.int x :: st) h Q := x_iload (len := 1) rfl rfl
theorem s_8_75 : wp V (cdT Ev) mx d 8 75 ls st h Q = wp V (cdT Ev) mx d 8 76 ls ((.int (3)) :: st) h Q := x_push (v := (.int (3))) (len := 1) rfl
theorem s_8_76 {x z : Int32} : wp V (cdT Ev) mx d 8 76 ls (.int z :: .int x :: st) h Q = wp V (cdT Ev) mx d 8 77 ls (.int (x * z) :: st) h Q := x_ib (f := fun x z => x * z) rfl
theorem s_8_77 {x : Int32} : wp V (cdT Ev) mx d 8 77 [l0, l1, some (.int x), l3] st h Q = wp V (cdT Ev) mx d 8 78 [l0, l1, some (.int x), l3] (.int x :: st) h Q := x_iload (len := 1) rfl rfl
theorem s_8_78 {x z : Int32} : wp V (cdT Ev) mx d 8 78 ls (.int z :: .int x :: st) h Q = wp V (cdT Ev) mx d 8 79 ls (.int (x + z) :: st) h Q := x_ib (f := fun x z => x + z) rfl
theorem s_8_79 : wp V (cdT Ev) mx d 8 79 ls st h Q = wp V (cdT Ev) mx d 8 81 ls ((.int (100)) :: st) h Q := x_push (v := (.int (100))) (len := 2) rfl
theorem s_8_81 {x z : Int32} : wp V (cdT Ev) mx d 8 81 ls (.int z :: .int x :: st) h Q = wp V (cdT Ev) mx d 8 82 ls (.int (x * z) :: st) h Q := x_ib (f := fun x z => x * z) rfl
theorem s_8_82 {x : Int32} : wp V (cdT Ev) mx d 8 82 [l0, l1, l2, some (.int x)] st h Q = wp V (cdT Ev) mx d 8 83 [l0, l1, l2, some (.int x)] (.int x :: st) h Q := x_iload (len := 1) rfl rfl
theorem s_8_83 {x z : Int32} : wp V (cdT Ev) mx d 8 83 ls (.int z :: .int x :: st) h Q = wp V (cdT Ev) mx d 8 84 ls (.int (x + z) :: st) h Q := x_ib (f := fun x z => x + z) rfl
theorem s_8_84 {b : Nat} {v0 : Value} (hst : st.length ≤ 4) : wp V (cdT Ev) mx d 8 84 ls (v0 :: .ref b :: st) h Q = cv [(0, 9)] h b (fun y' => WP V (cdT Ev) mx d y' [.ref b, v0] h (fun r h' => wp V (cdT Ev) mx d 8 87 ls (rts r st) h' Q)) := x_cv (sg := [v0]) rfl hst rfl rfl
theorem s_8_87 {x : Int32} : wp V (cdT Ev) mx d 8 87 ls (.int x :: st) h Q = (if x = 0 then wp V (cdT Ev) mx d 8 94 ls st h Q else wp V (cdT Ev) mx d 8 90 ls st h Q) := x_if1 (c := fun x => x = 0) rfl
theorem s_8_90 : wp V (cdT Ev) mx d 8 90 ls st h Q = wp V (cdT Ev) mx d 8 91 ls ((.int (1)) :: st) h Q := x_push (v := (.int (1))) (len := 1) rfl
theorem s_8_91 : wp V (cdT Ev) mx d 8 91 ls st h Q = wp V (cdT Ev) mx d 8 95 ls st h Q := x_goto rfl
theorem s_8_94 : wp V (cdT Ev) mx d 8 94 ls st h Q = wp V (cdT Ev) mx d 8 95 ls ((.int (0)) :: st) h Q := x_push (v := (.int (0))) (len := 1) rfl
theorem s_8_95 {x : Int32} (hx : okr 1 (.int x) = true) : wp V (cdT Ev) mx d 8 95 ls [.int x] h Q = Q (some (.int x)) h := x_ret rfl hx
theorem e_8 {a : Nat} : WP V (cdT Ev) mx (d + 1) 8 [.ref a] h Q = wp V (cdT Ev) mx d 8 0 [some (.ref a), none, none, none] [] h Q := propext (WP_eq (Nat.le_of_ble_eq_true rfl))
theorem s_9_0 {a : Nat} : wp V (cdT Ev) mx d 9 0 [some (.ref a), l1] st h Q = wp V (cdT Ev) mx d 9 1 [some (.ref a), l1] (.ref a :: st) h Q := x_aload (len := 1) rfl rfl
theorem s_9_0_n : wp V (cdT Ev) mx d 9 0 [some .null, l1] st h Q = wp V (cdT Ev) mx d 9 1 [some .null, l1] (.null :: st) h Q := x_aloadN (len := 1) rfl rfl
theorem s_9_1 {a : Nat} : wp V (cdT Ev) mx d 9 1 ls (.ref a :: st) h Q = gf [0] 4 h a (fun v => wp V (cdT Ev) mx d 9 4 ls (v :: st) h Q) := x_getf rfl
theorem s_9_4 {a : Nat} : wp V (cdT Ev) mx d 9 4 [some (.ref a), l1] st h Q = wp V (cdT Ev) mx d 9 5 [some (.ref a), l1] (.ref a :: st) h Q := x_aload (len := 1) rfl rfl
theorem s_9_4_n : wp V (cdT Ev) mx d 9 4 [some .null, l1] st h Q = wp V (cdT Ev) mx d 9 5 [some .null, l1] (.null :: st) h Q := x_aloadN (len := 1) rfl rfl
theorem s_9_5 {a : Nat} : wp V (cdT Ev) mx d 9 5 ls (.ref a :: st) h Q = gf [0] 3 h a (fun v => wp V (cdT Ev) mx d 9 8 ls (v :: st) h Q) := x_getf rfl
theorem s_9_8 {a : Nat} : wp V (cdT Ev) mx d 9 8 ls (.ref a :: st) h Q = ln V h a (fun x => wp V (cdT Ev) mx d 9 9 ls (.int x :: st) h Q) := x_alen rfl
theorem s_9_9 {x z : Int32} : wp V (cdT Ev) mx d 9 9 ls (.int z :: .int x :: st) h Q = (if x < z then wp V (cdT Ev) mx d 9 14 ls st h Q else wp V (cdT Ev) mx d 9 12 ls st h Q) := x_if2 (c := fun x z => x < z) rfl
theorem s_9_12 : wp V (cdT Ev) mx d 9 12 ls st h Q = wp V (cdT Ev) mx d 9 13 ls ((.int (0)) :: st) h Q := x_push (v := (.int (0))) (len := 1) rfl
theorem s_9_13 {x : Int32} (hx : okr 1 (.int x) = true) : wp V (cdT Ev) mx d 9 13 ls [.int x] h Q = Q (some (.int x)) h := x_ret rfl hx
theorem s_9_14 {a : Nat} : wp V (cdT Ev) mx d 9 14 [some (.ref a), l1] st h Q = wp V (cdT Ev) mx d 9 15 [some (.ref a), l1] (.ref a :: st) h Q := x_aload (len := 1) rfl rfl
theorem s_9_14_n : wp V (cdT Ev) mx d 9 14 [some .null, l1] st h Q = wp V (cdT Ev) mx d 9 15 [some .null, l1] (.null :: st) h Q := x_aloadN (len := 1) rfl rfl
theorem s_9_15 {a : Nat} : wp V (cdT Ev) mx d 9 15 ls (.ref a :: st) h Q = gf [0] 3 h a (fun v => wp V (cdT Ev) mx d 9 18 ls (v :: st) h Q) := x_getf rfl
theorem s_9_18 {a : Nat} : wp V (cdT Ev) mx d 9 18 [some (.ref a), l1] st h Q = wp V (cdT Ev) mx d 9 19 [some (.ref a), l1] (.ref a :: st) h Q := x_aload (len := 1) rfl rfl
theorem s_9_18_n : wp V (cdT Ev) mx d 9 18 [some .null, l1] st h Q = wp V (cdT Ev) mx d 9 19 [some .null, l1] (.null :: st) h Q := x_aloadN (len := 1) rfl rfl
theorem s_9_19 {a : Nat} : wp V (cdT Ev) mx d 9 19 ls (.ref a :: st) h Q = gf [0] 4 h a (fun v => wp V (cdT Ev) mx d 9 22 ls (v :: st) h Q) := x_getf rfl
theorem s_9_22 {x : Int32} : wp V (cdT Ev) mx d 9 22 [l0, some (.int x)] st h Q = wp V (cdT Ev) mx d 9 23 [l0, some (.int x)] (.int x :: st) h Q := x_iload (len := 1) rfl rfl
theorem s_9_23 {x i : Int32} {a : Nat} : wp V (cdT Ev) mx d 9 23 ls (.int x :: .int i :: .ref a :: st) h Q = si 2 i (x) h a (fun hh => wp V (cdT Ev) mx d 9 24 ls st hh Q) := x_iast (nw := fun x => x) rfl
theorem s_9_24 {a : Nat} : wp V (cdT Ev) mx d 9 24 [some (.ref a), l1] st h Q = wp V (cdT Ev) mx d 9 25 [some (.ref a), l1] (.ref a :: st) h Q := x_aload (len := 1) rfl rfl
theorem s_9_24_n : wp V (cdT Ev) mx d 9 24 [some .null, l1] st h Q = wp V (cdT Ev) mx d 9 25 [some .null, l1] (.null :: st) h Q := x_aloadN (len := 1) rfl rfl
theorem s_9_25 {a : Nat} : wp V (cdT Ev) mx d 9 25 ls (.ref a :: st) h Q = wp V (cdT Ev) mx d 9 26 ls (.ref a :: .ref a :: st) h Q := x_dup rfl rfl
theorem s_9_25_i {x : Int32} : wp V (cdT Ev) mx d 9 25 ls (.int x :: st) h Q = wp V (cdT Ev) mx d 9 26 ls (.int x :: .int x :: st) h Q := x_dup rfl rfl
theorem s_9_26 {a : Nat} : wp V (cdT Ev) mx d 9 26 ls (.ref a :: st) h Q = gf [0] 4 h a (fun v => wp V (cdT Ev) mx d 9 29 ls (v :: st) h Q) := x_getf rfl
theorem s_9_29 : wp V (cdT Ev) mx d 9 29 ls st h Q = wp V (cdT Ev) mx d 9 30 ls ((.int (1)) :: st) h Q := x_push (v := (.int (1))) (len := 1) rfl
theorem s_9_30 {x z : Int32} : wp V (cdT Ev) mx d 9 30 ls (.int z :: .int x :: st) h Q = wp V (cdT Ev) mx d 9 31 ls (.int (x + z) :: st) h Q := x_ib (f := fun x z => x + z) rfl
theorem s_9_31 {w : Value} {a : Nat} : wp V (cdT Ev) mx d 9 31 ls (w :: .ref a :: st) h Q = pf [0] 4 0 w h a (fun hh => wp V (cdT Ev) mx d 9 34 ls st hh Q) := x_putf rfl
theorem s_9_34 : wp V (cdT Ev) mx d 9 34 ls st h Q = wp V (cdT Ev) mx d 9 35 ls ((.int (1)) :: st) h Q := x_push (v := (.int (1))) (len := 1) rfl
theorem s_9_35 {x : Int32} (hx : okr 1 (.int x) = true) : wp V (cdT Ev) mx d 9 35 ls [.int x] h Q = Q (some (.int x)) h := x_ret rfl hx
theorem e_9 {a : Nat} {p0 : Int32} : WP V (cdT Ev) mx (d + 1) 9 [.ref a, .int p0] h Q = wp V (cdT Ev) mx d 9 0 [some (.ref a), some (.int p0)] [] h Q := propext (WP_eq (Nat.le_of_ble_eq_true rfl))
theorem s_10_0 {a : Nat} : wp V (cdT Ev) mx d 10 0 [some (.ref a), l1] st h Q = wp V (cdT Ev) mx d 10 1 [some (.ref a), l1] (.ref a :: st) h Q := x_aload (len := 1) rfl rfl
theorem s_10_0_n : wp V (cdT Ev) mx d 10 0 [some .null, l1] st h Q = wp V (cdT Ev) mx d 10 1 [some .null, l1] (.null :: st) h Q := x_aloadN (len := 1) rfl rfl
theorem s_10_1 {a : Nat} : wp V (cdT Ev) mx d 10 1 ls (.ref a :: st) h Q = gf [0] 0 h a (fun v => wp V (cdT Ev) mx d 10 4 ls (v :: st) h Q) := x_getf rfl
theorem s_10_4 {a : Nat} : wp V (cdT Ev) mx d 10 4 [some (.ref a), l1] st h Q = wp V (cdT Ev) mx d 10 5 [some (.ref a), l1] (.ref a :: st) h Q := x_aload (len := 1) rfl rfl
theorem s_10_4_n : wp V (cdT Ev) mx d 10 4 [some .null, l1] st h Q = wp V (cdT Ev) mx d 10 5 [some .null, l1] (.null :: st) h Q := x_aloadN (len := 1) rfl rfl
theorem s_10_5 {a : Nat} : wp V (cdT Ev) mx d 10 5 ls (.ref a :: st) h Q = gf [0] 2 h a (fun v => wp V (cdT Ev) mx d 10 8 ls (v :: st) h Q) := x_getf rfl
theorem s_10_8 {i : Int32} {a : Nat} : wp V (cdT Ev) mx d 10 8 ls (.int i :: .ref a :: st) h Q = ai 0 i V h a (fun x => wp V (cdT Ev) mx d 10 9 ls (.int x :: st) h Q) := x_iald rfl
theorem s_10_9 {x : Int32} : wp V (cdT Ev) mx d 10 9 [l0, some (.int x)] st h Q = wp V (cdT Ev) mx d 10 10 [l0, some (.int x)] (.int x :: st) h Q := x_iload (len := 1) rfl rfl
theorem s_10_10 {x z : Int32} : wp V (cdT Ev) mx d 10 10 ls (.int z :: .int x :: st) h Q = (if x = z then wp V (cdT Ev) mx d 10 15 ls st h Q else wp V (cdT Ev) mx d 10 13 ls st h Q) := x_if2 (c := fun x z => x = z) rfl
theorem s_10_13 : wp V (cdT Ev) mx d 10 13 ls st h Q = wp V (cdT Ev) mx d 10 14 ls ((.int (0)) :: st) h Q := x_push (v := (.int (0))) (len := 1) rfl
theorem s_10_14 {x : Int32} (hx : okr 1 (.int x) = true) : wp V (cdT Ev) mx d 10 14 ls [.int x] h Q = Q (some (.int x)) h := x_ret rfl hx
theorem s_10_15 {a : Nat} : wp V (cdT Ev) mx d 10 15 [some (.ref a), l1] st h Q = wp V (cdT Ev) mx d 10 16 [some (.ref a), l1] (.ref a :: st) h Q := x_aload (len := 1) rfl rfl
theorem s_10_15_n : wp V (cdT Ev) mx d 10 15 [some .null, l1] st h Q = wp V (cdT Ev) mx d 10 16 [some .null, l1] (.null :: st) h Q := x_aloadN (len := 1) rfl rfl
theorem s_10_16 {a : Nat} : wp V (cdT Ev) mx d 10 16 ls (.ref a :: st) h Q = wp V (cdT Ev) mx d 10 17 ls (.ref a :: .ref a :: st) h Q := x_dup rfl rfl
theorem s_10_16_i {x : Int32} : wp V (cdT Ev) mx d 10 16 ls (.int x :: st) h Q = wp V (cdT Ev) mx d 10 17 ls (.int x :: .int x :: st) h Q := x_dup rfl rfl
theorem s_10_17 {a : Nat} : wp V (cdT Ev) mx d 10 17 ls (.ref a :: st) h Q = gf [0] 2 h a (fun v => wp V (cdT Ev) mx d 10 20 ls (v :: st) h Q) := x_getf rfl
theorem s_10_20 : wp V (cdT Ev) mx d 10 20 ls st h Q = wp V (cdT Ev) mx d 10 21 ls ((.int (1)) :: st) h Q := x_push (v := (.int (1))) (len := 1) rfl
theorem s_10_21 {x z : Int32} : wp V (cdT Ev) mx d 10 21 ls (.int z :: .int x :: st) h Q = wp V (cdT Ev) mx d 10 22 ls (.int (x + z) :: st) h Q := x_ib (f := fun x z => x + z) rfl
theorem s_10_22 {w : Value} {a : Nat} : wp V (cdT Ev) mx d 10 22 ls (w :: .ref a :: st) h Q = pf [0] 2 0 w h a (fun hh => wp V (cdT Ev) mx d 10 25 ls st hh Q) := x_putf rfl
theorem s_10_25 : wp V (cdT Ev) mx d 10 25 ls st h Q = wp V (cdT Ev) mx d 10 26 ls ((.int (1)) :: st) h Q := x_push (v := (.int (1))) (len := 1) rfl
theorem s_10_26 {x : Int32} (hx : okr 1 (.int x) = true) : wp V (cdT Ev) mx d 10 26 ls [.int x] h Q = Q (some (.int x)) h := x_ret rfl hx
theorem e_10 {a : Nat} {p0 : Int32} : WP V (cdT Ev) mx (d + 1) 10 [.ref a, .int p0] h Q = wp V (cdT Ev) mx d 10 0 [some (.ref a), some (.int p0)] [] h Q := propext (WP_eq (Nat.le_of_ble_eq_true rfl))
theorem s_11_0 : wp V (cdT Ev) mx d 11 0 ls st h Q = wp V (cdT Ev) mx d 11 1 ls ((.int (0)) :: st) h Q := x_push (v := (.int (0))) (len := 1) rfl
theorem s_11_1 {x : Int32} (hn : nl l1 = true) : wp V (cdT Ev) mx d 11 1 [l0, l1, l2] (.int x :: st) h Q = wp V (cdT Ev) mx d 11 2 [l0, l1, some (.int x)] st h Q := x_istore (len := 1) rfl (Nat.le_of_ble_eq_true rfl) (okp_nl rfl hn) rfl
theorem s_11_2 {x : Int32} : wp V (cdT Ev) mx d 11 2 [l0, l1, some (.int x)] st h Q = wp V (cdT Ev) mx d 11 3 [l0, l1, some (.int x)] (.int x :: st) h Q := x_iload (len := 1) rfl rfl
theorem s_11_3 {a : Nat} : wp V (cdT Ev) mx d 11 3 [l0, some (.ref a), l2] st h Q = wp V (cdT Ev) mx d 11 4 [l0, some (.ref a), l2] (.ref a :: st) h Q := x_aload (len := 1) rfl rfl
theorem s_11_3_n : wp V (cdT Ev) mx d 11 3 [l0, some .null, l2] st h Q = wp V (cdT Ev) mx d 11 4 [l0, some .null, l2] (.null :: st) h Q := x_aloadN (len := 1) rfl rfl
theorem s_11_4 {b : Nat} (hst : st.length ≤ 4) : wp V (cdT Ev) mx d 11 4 ls (.ref b :: st) h Q = cstr V b (WP V (cdT Ev) mx d 198 [.ref b] h (fun r h' => wp V (cdT Ev) mx d 11 7 ls (rts r st) h' Q)) := x_cstr (sg := []) rfl hst rfl rfl
theorem s_11_7 {x z : Int32} : wp V (cdT Ev) mx d 11 7 ls (.int z :: .int x :: st) h Q = (if z ≤ x then wp V (cdT Ev) mx d 11 30 ls st h Q else wp V (cdT Ev) mx d 11 10 ls st h Q) := x_if2 (c := fun x z => z ≤ x) rfl
theorem s_11_10 {a : Nat} : wp V (cdT Ev) mx d 11 10 [some (.ref a), l1, l2] st h Q = wp V (cdT Ev) mx d 11 11 [some (.ref a), l1, l2] (.ref a :: st) h Q := x_aload (len := 1) rfl rfl
theorem s_11_10_n : wp V (cdT Ev) mx d 11 10 [some .null, l1, l2] st h Q = wp V (cdT Ev) mx d 11 11 [some .null, l1, l2] (.null :: st) h Q := x_aloadN (len := 1) rfl rfl
theorem s_11_11 {a : Nat} : wp V (cdT Ev) mx d 11 11 [l0, some (.ref a), l2] st h Q = wp V (cdT Ev) mx d 11 12 [l0, some (.ref a), l2] (.ref a :: st) h Q := x_aload (len := 1) rfl rfl
theorem s_11_11_n : wp V (cdT Ev) mx d 11 11 [l0, some .null, l2] st h Q = wp V (cdT Ev) mx d 11 12 [l0, some .null, l2] (.null :: st) h Q := x_aloadN (len := 1) rfl rfl
theorem s_11_12 {x : Int32} : wp V (cdT Ev) mx d 11 12 [l0, l1, some (.int x)] st h Q = wp V (cdT Ev) mx d 11 13 [l0, l1, some (.int x)] (.int x :: st) h Q := x_iload (len := 1) rfl rfl
theorem s_11_13 {b : Nat} {v0 : Value} (hst : st.length ≤ 4) : wp V (cdT Ev) mx d 11 13 ls (v0 :: .ref b :: st) h Q = cstr V b (WP V (cdT Ev) mx d 199 [.ref b, v0] h (fun r h' => wp V (cdT Ev) mx d 11 16 ls (rts r st) h' Q)) := x_cstr (sg := [v0]) rfl hst rfl rfl
theorem s_11_16 {b : Nat} {v0 : Value} (hst : st.length ≤ 4) : wp V (cdT Ev) mx d 11 16 ls (v0 :: .ref b :: st) h Q = cv [(0, 10)] h b (fun y' => WP V (cdT Ev) mx d y' [.ref b, v0] h (fun r h' => wp V (cdT Ev) mx d 11 19 ls (rts r st) h' Q)) := x_cv (sg := [v0]) rfl hst rfl rfl
theorem s_11_19 {x : Int32} : wp V (cdT Ev) mx d 11 19 ls (.int x :: st) h Q = (if ¬ x = 0 then wp V (cdT Ev) mx d 11 24 ls st h Q else wp V (cdT Ev) mx d 11 22 ls st h Q) := x_if1 (c := fun x => ¬ x = 0) rfl
theorem s_11_22 : wp V (cdT Ev) mx d 11 22 ls st h Q = wp V (cdT Ev) mx d 11 23 ls ((.int (0)) :: st) h Q := x_push (v := (.int (0))) (len := 1) rfl
theorem s_11_23 {x : Int32} (hx : okr 1 (.int x) = true) : wp V (cdT Ev) mx d 11 23 ls [.int x] h Q = Q (some (.int x)) h := x_ret rfl hx
theorem s_11_24 {x : Int32} : wp V (cdT Ev) mx d 11 24 [l0, l1, some (.int x)] st h Q = wp V (cdT Ev) mx d 11 27 [l0, l1, some (.int (x + (1)))] st h Q := x_iinc rfl rfl rfl
theorem s_11_27 : wp V (cdT Ev) mx d 11 27 ls st h Q = wp V (cdT Ev) mx d 11 2 ls st h Q := x_goto rfl
theorem s_11_30 : wp V (cdT Ev) mx d 11 30 ls st h Q = wp V (cdT Ev) mx d 11 31 ls ((.int (1)) :: st) h Q := x_push (v := (.int (1))) (len := 1) rfl
theorem s_11_31 {x : Int32} (hx : okr 1 (.int x) = true) : wp V (cdT Ev) mx d 11 31 ls [.int x] h Q = Q (some (.int x)) h := x_ret rfl hx
theorem e_11 {a : Nat} {p0 : Nat} : WP V (cdT Ev) mx (d + 1) 11 [.ref a, .ref p0] h Q = wp V (cdT Ev) mx d 11 0 [some (.ref a), some (.ref p0), none] [] h Q := propext (WP_eq (Nat.le_of_ble_eq_true rfl))
theorem s_12_0 : wp V (cdT Ev) mx d 12 0 ls st h Q = wp V (cdT Ev) mx d 12 1 ls ((.int (0)) :: st) h Q := x_push (v := (.int (0))) (len := 1) rfl
theorem s_12_1 {x : Int32} (hn : nl l0 = true) : wp V (cdT Ev) mx d 12 1 [l0, l1, l2] (.int x :: st) h Q = wp V (cdT Ev) mx d 12 2 [l0, some (.int x), l2] st h Q := x_istore (len := 1) rfl (Nat.le_of_ble_eq_true rfl) (okp_nl rfl hn) rfl
theorem s_12_2 : wp V (cdT Ev) mx d 12 2 ls st h Q = wp V (cdT Ev) mx d 12 3 ls ((.int (0)) :: st) h Q := x_push (v := (.int (0))) (len := 1) rfl
theorem s_12_3 {x : Int32} (hn : nl l1 = true) : wp V (cdT Ev) mx d 12 3 [l0, l1, l2] (.int x :: st) h Q = wp V (cdT Ev) mx d 12 4 [l0, l1, some (.int x)] st h Q := x_istore (len := 1) rfl (Nat.le_of_ble_eq_true rfl) (okp_nl rfl hn) rfl
theorem s_12_4 {x : Int32} : wp V (cdT Ev) mx d 12 4 [l0, l1, some (.int x)] st h Q = wp V (cdT Ev) mx d 12 5 [l0, l1, some (.int x)] (.int x :: st) h Q := x_iload (len := 1) rfl rfl
theorem s_12_5 : wp V (cdT Ev) mx d 12 5 ls st h Q = wp V (cdT Ev) mx d 12 6 ls ((.int (2)) :: st) h Q := x_push (v := (.int (2))) (len := 1) rfl
theorem s_12_6 {x z : Int32} : wp V (cdT Ev) mx d 12 6 ls (.int z :: .int x :: st) h Q = (if z ≤ x then wp V (cdT Ev) mx d 12 71 ls st h Q else wp V (cdT Ev) mx d 12 9 ls st h Q) := x_if2 (c := fun x z => z ≤ x) rfl
theorem s_12_9 {a : Nat} : wp V (cdT Ev) mx d 12 9 [some (.ref a), l1, l2] st h Q = wp V (cdT Ev) mx d 12 10 [some (.ref a), l1, l2] (.ref a :: st) h Q := x_aload (len := 1) rfl rfl
theorem s_12_9_n : wp V (cdT Ev) mx d 12 9 [some .null, l1, l2] st h Q = wp V (cdT Ev) mx d 12 10 [some .null, l1, l2] (.null :: st) h Q := x_aloadN (len := 1) rfl rfl
theorem s_12_10 {a : Nat} : wp V (cdT Ev) mx d 12 10 ls (.ref a :: st) h Q = gf [0] 0 h a (fun v => wp V (cdT Ev) mx d 12 13 ls (v :: st) h Q) := x_getf rfl
theorem s_12_13 {a : Nat} : wp V (cdT Ev) mx d 12 13 [some (.ref a), l1, l2] st h Q = wp V (cdT Ev) mx d 12 14 [some (.ref a), l1, l2] (.ref a :: st) h Q := x_aload (len := 1) rfl rfl
theorem s_12_13_n : wp V (cdT Ev) mx d 12 13 [some .null, l1, l2] st h Q = wp V (cdT Ev) mx d 12 14 [some .null, l1, l2] (.null :: st) h Q := x_aloadN (len := 1) rfl rfl
theorem s_12_14 {a : Nat} : wp V (cdT Ev) mx d 12 14 ls (.ref a :: st) h Q = gf [0] 2 h a (fun v => wp V (cdT Ev) mx d 12 17 ls (v :: st) h Q) := x_getf rfl
theorem s_12_17 {i : Int32} {a : Nat} : wp V (cdT Ev) mx d 12 17 ls (.int i :: .ref a :: st) h Q = ai 0 i V h a (fun x => wp V (cdT Ev) mx d 12 18 ls (.int x :: st) h Q) := x_iald rfl
theorem s_12_18 : wp V (cdT Ev) mx d 12 18 ls st h Q = wp V (cdT Ev) mx d 12 20 ls ((.int (48)) :: st) h Q := x_push (v := (.int (48))) (len := 2) rfl
theorem s_12_20 {x z : Int32} : wp V (cdT Ev) mx d 12 20 ls (.int z :: .int x :: st) h Q = (if x < z then wp V (cdT Ev) mx d 12 71 ls st h Q else wp V (cdT Ev) mx d 12 23 ls st h Q) := x_if2 (c := fun x z => x < z) rfl
theorem s_12_23 {a : Nat} : wp V (cdT Ev) mx d 12 23 [some (.ref a), l1, l2] st h Q = wp V (cdT Ev) mx d 12 24 [some (.ref a), l1, l2] (.ref a :: st) h Q := x_aload (len := 1) rfl rfl
theorem s_12_23_n : wp V (cdT Ev) mx d 12 23 [some .null, l1, l2] st h Q = wp V (cdT Ev) mx d 12 24 [some .null, l1, l2] (.null :: st) h Q := x_aloadN (len := 1) rfl rfl
theorem s_12_24 {a : Nat} : wp V (cdT Ev) mx d 12 24 ls (.ref a :: st) h Q = gf [0] 0 h a (fun v => wp V (cdT Ev) mx d 12 27 ls (v :: st) h Q) := x_getf rfl
theorem s_12_27 {a : Nat} : wp V (cdT Ev) mx d 12 27 [some (.ref a), l1, l2] st h Q = wp V (cdT Ev) mx d 12 28 [some (.ref a), l1, l2] (.ref a :: st) h Q := x_aload (len := 1) rfl rfl
theorem s_12_27_n : wp V (cdT Ev) mx d 12 27 [some .null, l1, l2] st h Q = wp V (cdT Ev) mx d 12 28 [some .null, l1, l2] (.null :: st) h Q := x_aloadN (len := 1) rfl rfl
theorem s_12_28 {a : Nat} : wp V (cdT Ev) mx d 12 28 ls (.ref a :: st) h Q = gf [0] 2 h a (fun v => wp V (cdT Ev) mx d 12 31 ls (v :: st) h Q) := x_getf rfl
theorem s_12_31 {i : Int32} {a : Nat} : wp V (cdT Ev) mx d 12 31 ls (.int i :: .ref a :: st) h Q = ai 0 i V h a (fun x => wp V (cdT Ev) mx d 12 32 ls (.int x :: st) h Q) := x_iald rfl
theorem s_12_32 : wp V (cdT Ev) mx d 12 32 ls st h Q = wp V (cdT Ev) mx d 12 34 ls ((.int (57)) :: st) h Q := x_push (v := (.int (57))) (len := 2) rfl
theorem s_12_34 {x z : Int32} : wp V (cdT Ev) mx d 12 34 ls (.int z :: .int x :: st) h Q = (if z < x then wp V (cdT Ev) mx d 12 71 ls st h Q else wp V (cdT Ev) mx d 12 37 ls st h Q) := x_if2 (c := fun x z => z < x) rfl
theorem s_12_37 {x : Int32} : wp V (cdT Ev) mx d 12 37 [l0, some (.int x), l2] st h Q = wp V (cdT Ev) mx d 12 38 [l0, some (.int x), l2] (.int x :: st) h Q := x_iload (len := 1) rfl rfl
theorem s_12_38 : wp V (cdT Ev) mx d 12 38 ls st h Q = wp V (cdT Ev) mx d 12 40 ls ((.int (10)) :: st) h Q := x_push (v := (.int (10))) (len := 2) rfl
theorem s_12_40 {x z : Int32} : wp V (cdT Ev) mx d 12 40 ls (.int z :: .int x :: st) h Q = wp V (cdT Ev) mx d 12 41 ls (.int (x * z) :: st) h Q := x_ib (f := fun x z => x * z) rfl
theorem s_12_41 {a : Nat} : wp V (cdT Ev) mx d 12 41 [some (.ref a), l1, l2] st h Q = wp V (cdT Ev) mx d 12 42 [some (.ref a), l1, l2] (.ref a :: st) h Q := x_aload (len := 1) rfl rfl
theorem s_12_41_n : wp V (cdT Ev) mx d 12 41 [some .null, l1, l2] st h Q = wp V (cdT Ev) mx d 12 42 [some .null, l1, l2] (.null :: st) h Q := x_aloadN (len := 1) rfl rfl
theorem s_12_42 {a : Nat} : wp V (cdT Ev) mx d 12 42 ls (.ref a :: st) h Q = gf [0] 0 h a (fun v => wp V (cdT Ev) mx d 12 45 ls (v :: st) h Q) := x_getf rfl
theorem s_12_45 {a : Nat} : wp V (cdT Ev) mx d 12 45 [some (.ref a), l1, l2] st h Q = wp V (cdT Ev) mx d 12 46 [some (.ref a), l1, l2] (.ref a :: st) h Q := x_aload (len := 1) rfl rfl
theorem s_12_45_n : wp V (cdT Ev) mx d 12 45 [some .null, l1, l2] st h Q = wp V (cdT Ev) mx d 12 46 [some .null, l1, l2] (.null :: st) h Q := x_aloadN (len := 1) rfl rfl
theorem s_12_46 {a : Nat} : wp V (cdT Ev) mx d 12 46 ls (.ref a :: st) h Q = gf [0] 2 h a (fun v => wp V (cdT Ev) mx d 12 49 ls (v :: st) h Q) := x_getf rfl
theorem s_12_49 {i : Int32} {a : Nat} : wp V (cdT Ev) mx d 12 49 ls (.int i :: .ref a :: st) h Q = ai 0 i V h a (fun x => wp V (cdT Ev) mx d 12 50 ls (.int x :: st) h Q) := x_iald rfl
theorem s_12_50 {x z : Int32} : wp V (cdT Ev) mx d 12 50 ls (.int z :: .int x :: st) h Q = wp V (cdT Ev) mx d 12 51 ls (.int (x + z) :: st) h Q := x_ib (f := fun x z => x + z) rfl
theorem s_12_51 : wp V (cdT Ev) mx d 12 51 ls st h Q = wp V (cdT Ev) mx d 12 53 ls ((.int (48)) :: st) h Q := x_push (v := (.int (48))) (len := 2) rfl
theorem s_12_53 {x z : Int32} : wp V (cdT Ev) mx d 12 53 ls (.int z :: .int x :: st) h Q = wp V (cdT Ev) mx d 12 54 ls (.int (x - z) :: st) h Q := x_ib (f := fun x z => x - z) rfl
theorem s_12_54 {x : Int32} (hn : nl l0 = true) : wp V (cdT Ev) mx d 12 54 [l0, l1, l2] (.int x :: st) h Q = wp V (cdT Ev) mx d 12 55 [l0, some (.int x), l2] st h Q := x_istore (len := 1) rfl (Nat.le_of_ble_eq_true rfl) (okp_nl rfl hn) rfl
theorem s_12_55 {a : Nat} : wp V (cdT Ev) mx d 12 55 [some (.ref a), l1, l2] st h Q = wp V (cdT Ev) mx d 12 56 [some (.ref a), l1, l2] (.ref a :: st) h Q := x_aload (len := 1) rfl rfl
theorem s_12_55_n : wp V (cdT Ev) mx d 12 55 [some .null, l1, l2] st h Q = wp V (cdT Ev) mx d 12 56 [some .null, l1, l2] (.null :: st) h Q := x_aloadN (len := 1) rfl rfl
theorem s_12_56 {a : Nat} : wp V (cdT Ev) mx d 12 56 ls (.ref a :: st) h Q = wp V (cdT Ev) mx d 12 57 ls (.ref a :: .ref a :: st) h Q := x_dup rfl rfl
theorem s_12_56_i {x : Int32} : wp V (cdT Ev) mx d 12 56 ls (.int x :: st) h Q = wp V (cdT Ev) mx d 12 57 ls (.int x :: .int x :: st) h Q := x_dup rfl rfl
theorem s_12_57 {a : Nat} : wp V (cdT Ev) mx d 12 57 ls (.ref a :: st) h Q = gf [0] 2 h a (fun v => wp V (cdT Ev) mx d 12 60 ls (v :: st) h Q) := x_getf rfl
theorem s_12_60 : wp V (cdT Ev) mx d 12 60 ls st h Q = wp V (cdT Ev) mx d 12 61 ls ((.int (1)) :: st) h Q := x_push (v := (.int (1))) (len := 1) rfl
theorem s_12_61 {x z : Int32} : wp V (cdT Ev) mx d 12 61 ls (.int z :: .int x :: st) h Q = wp V (cdT Ev) mx d 12 62 ls (.int (x + z) :: st) h Q := x_ib (f := fun x z => x + z) rfl
theorem s_12_62 {w : Value} {a : Nat} : wp V (cdT Ev) mx d 12 62 ls (w :: .ref a :: st) h Q = pf [0] 2 0 w h a (fun hh => wp V (cdT Ev) mx d 12 65 ls st hh Q) := x_putf rfl
theorem s_12_65 {x : Int32} : wp V (cdT Ev) mx d 12 65 [l0, l1, some (.int x)] st h Q = wp V (cdT Ev) mx d 12 68 [l0, l1, some (.int (x + (1)))] st h Q := x_iinc rfl rfl rfl
theorem s_12_68 : wp V (cdT Ev) mx d 12 68 ls st h Q = wp V (cdT Ev) mx d 12 4 ls st h Q := x_goto rfl
theorem s_12_71 {x : Int32} : wp V (cdT Ev) mx d 12 71 [l0, l1, some (.int x)] st h Q = wp V (cdT Ev) mx d 12 72 [l0, l1, some (.int x)] (.int x :: st) h Q := x_iload (len := 1) rfl rfl
theorem s_12_72 {x : Int32} : wp V (cdT Ev) mx d 12 72 ls (.int x :: st) h Q = (if ¬ x = 0 then wp V (cdT Ev) mx d 12 79 ls st h Q else wp V (cdT Ev) mx d 12 75 ls st h Q) := x_if1 (c := fun x => ¬ x = 0) rfl
theorem s_12_75 : wp V (cdT Ev) mx d 12 75 ls st h Q = wp V (cdT Ev) mx d 12 76 ls ((.int (-1)) :: st) h Q := x_push (v := (.int (-1))) (len := 1) rfl
theorem s_12_76 : wp V (cdT Ev) mx d 12 76 ls st h Q = wp V (cdT Ev) mx d 12 80 ls st h Q := x_goto rfl
theorem s_12_79 {x : Int32} : wp V (cdT Ev) mx d 12 79 [l0, some (.int x), l2] st h Q = wp V (cdT Ev) mx d 12 80 [l0, some (.int x), l2] (.int x :: st) h Q := x_iload (len := 1) rfl rfl
theorem s_12_80 {x : Int32} : wp V (cdT Ev) mx d 12 80 ls [.int x] h Q = Q (some (.int x)) h := x_ret rfl rfl
theorem e_12 {a : Nat} : WP V (cdT Ev) mx (d + 1) 12 [.ref a] h Q = wp V (cdT Ev) mx d 12 0 [some (.ref a), none, none] [] h Q := propext (WP_eq (Nat.le_of_ble_eq_true rfl))
theorem s_13_0 : wp V (cdT Ev) mx d 13 0 ls st h Q = wp V (cdT Ev) mx d 13 1 ls ((.int (0)) :: st) h Q := x_push (v := (.int (0))) (len := 1) rfl
theorem s_13_1 {x : Int32} (hn : nl l1 = true) : wp V (cdT Ev) mx d 13 1 [l0, l1, l2, l3, l4] (.int x :: st) h Q = wp V (cdT Ev) mx d 13 2 [l0, l1, some (.int x), l3, l4] st h Q := x_istore (len := 1) rfl (Nat.le_of_ble_eq_true rfl) (okp_nl rfl hn) rfl
theorem s_13_2 : wp V (cdT Ev) mx d 13 2 ls st h Q = wp V (cdT Ev) mx d 13 3 ls ((.int (0)) :: st) h Q := x_push (v := (.int (0))) (len := 1) rfl
theorem s_13_3 {x : Int32} (hn : nl l2 = true) : wp V (cdT Ev) mx d 13 3 [l0, l1, l2, l3, l4] (.int x :: st) h Q = wp V (cdT Ev) mx d 13 4 [l0, l1, l2, some (.int x), l4] st h Q := x_istore (len := 1) rfl (Nat.le_of_ble_eq_true rfl) (okp_nl rfl hn) rfl
theorem s_13_4 : wp V (cdT Ev) mx d 13 4 ls st h Q = wp V (cdT Ev) mx d 13 5 ls ((.int (0)) :: st) h Q := x_push (v := (.int (0))) (len := 1) rfl
theorem s_13_5 {x : Int32} (hn : nl l3 = true) : wp V (cdT Ev) mx d 13 5 [l0, l1, l2, l3, l4] (.int x :: st) h Q = wp V (cdT Ev) mx d 13 7 [l0, l1, l2, l3, some (.int x)] st h Q := x_istore (len := 2) rfl (Nat.le_of_ble_eq_true rfl) (okp_nl rfl hn) rfl
theorem s_13_7 {x : Int32} : wp V (cdT Ev) mx d 13 7 [l0, l1, l2, l3, some (.int x)] st h Q = wp V (cdT Ev) mx d 13 9 [l0, l1, l2, l3, some (.int x)] (.int x :: st) h Q := x_iload (len := 2) rfl rfl
theorem s_13_9 {a : Nat} : wp V (cdT Ev) mx d 13 9 [some (.ref a), l1, l2, l3, l4] st h Q = wp V (cdT Ev) mx d 13 10 [some (.ref a), l1, l2, l3, l4] (.ref a :: st) h Q := x_aload (len := 1) rfl rfl
theorem s_13_9_n : wp V (cdT Ev) mx d 13 9 [some .null, l1, l2, l3, l4] st h Q = wp V (cdT Ev) mx d 13 10 [some .null, l1, l2, l3, l4] (.null :: st) h Q := x_aloadN (len := 1) rfl rfl
theorem s_13_10 {a : Nat} : wp V (cdT Ev) mx d 13 10 ls (.ref a :: st) h Q = gf [0] 7 h a (fun v => wp V (cdT Ev) mx d 13 13 ls (v :: st) h Q) := x_getf rfl
theorem s_13_13 {x z : Int32} : wp V (cdT Ev) mx d 13 13 ls (.int z :: .int x :: st) h Q = (if z ≤ x then wp V (cdT Ev) mx d 13 66 ls st h Q else wp V (cdT Ev) mx d 13 16 ls st h Q) := x_if2 (c := fun x z => z ≤ x) rfl
theorem s_13_16 {a : Nat} : wp V (cdT Ev) mx d 13 16 [some (.ref a), l1, l2, l3, l4] st h Q = wp V (cdT Ev) mx d 13 17 [some (.ref a), l1, l2, l3, l4] (.ref a :: st) h Q := x_aload (len := 1) rfl rfl
theorem s_13_16_n : wp V (cdT Ev) mx d 13 16 [some .null, l1, l2, l3, l4] st h Q = wp V (cdT Ev) mx d 13 17 [some .null, l1, l2, l3, l4] (.null :: st) h Q := x_aloadN (len := 1) rfl rfl
theorem s_13_17 {a : Nat} : wp V (cdT Ev) mx d 13 17 ls (.ref a :: st) h Q = gf [0] 5 h a (fun v => wp V (cdT Ev) mx d 13 20 ls (v :: st) h Q) := x_getf rfl
theorem s_13_20 {x : Int32} : wp V (cdT Ev) mx d 13 20 [l0, l1, l2, l3, some (.int x)] st h Q = wp V (cdT Ev) mx d 13 22 [l0, l1, l2, l3, some (.int x)] (.int x :: st) h Q := x_iload (len := 2) rfl rfl
theorem s_13_22 {i : Int32} {a : Nat} : wp V (cdT Ev) mx d 13 22 ls (.int i :: .ref a :: st) h Q = ai 2 i V h a (fun x => wp V (cdT Ev) mx d 13 23 ls (.int x :: st) h Q) := x_iald rfl
theorem s_13_23 {x : Int32} : wp V (cdT Ev) mx d 13 23 ls (.int x :: st) h Q = (if x = 0 then wp V (cdT Ev) mx d 13 52 ls st h Q else wp V (cdT Ev) mx d 13 26 ls st h Q) := x_if1 (c := fun x => x = 0) rfl
theorem s_13_26 {a : Nat} : wp V (cdT Ev) mx d 13 26 [some (.ref a), l1, l2, l3, l4] st h Q = wp V (cdT Ev) mx d 13 27 [some (.ref a), l1, l2, l3, l4] (.ref a :: st) h Q := x_aload (len := 1) rfl rfl
theorem s_13_26_n : wp V (cdT Ev) mx d 13 26 [some .null, l1, l2, l3, l4] st h Q = wp V (cdT Ev) mx d 13 27 [some .null, l1, l2, l3, l4] (.null :: st) h Q := x_aloadN (len := 1) rfl rfl
theorem s_13_27 {x : Int32} : wp V (cdT Ev) mx d 13 27 [l0, l1, l2, some (.int x), l4] st h Q = wp V (cdT Ev) mx d 13 28 [l0, l1, l2, some (.int x), l4] (.int x :: st) h Q := x_iload (len := 1) rfl rfl
theorem s_13_28 {a : Nat} : wp V (cdT Ev) mx d 13 28 [some (.ref a), l1, l2, l3, l4] st h Q = wp V (cdT Ev) mx d 13 29 [some (.ref a), l1, l2, l3, l4] (.ref a :: st) h Q := x_aload (len := 1) rfl rfl
theorem s_13_28_n : wp V (cdT Ev) mx d 13 28 [some .null, l1, l2, l3, l4] st h Q = wp V (cdT Ev) mx d 13 29 [some .null, l1, l2, l3, l4] (.null :: st) h Q := x_aloadN (len := 1) rfl rfl
theorem s_13_29 {a : Nat} : wp V (cdT Ev) mx d 13 29 ls (.ref a :: st) h Q = gf [0] 6 h a (fun v => wp V (cdT Ev) mx d 13 32 ls (v :: st) h Q) := x_getf rfl
theorem s_13_32 {x : Int32} : wp V (cdT Ev) mx d 13 32 [l0, l1, l2, l3, some (.int x)] st h Q = wp V (cdT Ev) mx d 13 34 [l0, l1, l2, l3, some (.int x)] (.int x :: st) h Q := x_iload (len := 2) rfl rfl
theorem s_13_34 {i : Int32} {a : Nat} : wp V (cdT Ev) mx d 13 34 ls (.int i :: .ref a :: st) h Q = ai 2 i V h a (fun x => wp V (cdT Ev) mx d 13 35 ls (.int x :: st) h Q) := x_iald rfl
theorem s_13_35 {a : Nat} : wp V (cdT Ev) mx d 13 35 [l0, some (.ref a), l2, l3, l4] st h Q = wp V (cdT Ev) mx d 13 36 [l0, some (.ref a), l2, l3, l4] (.ref a :: st) h Q := x_aload (len := 1) rfl rfl
theorem s_13_35_n : wp V (cdT Ev) mx d 13 35 [l0, some .null, l2, l3, l4] st h Q = wp V (cdT Ev) mx d 13 36 [l0, some .null, l2, l3, l4] (.null :: st) h Q := x_aloadN (len := 1) rfl rfl
theorem s_13_36 {b : Nat} {v0 v1 v2 : Value} (hst : st.length ≤ 4) : wp V (cdT Ev) mx d 13 36 ls (v2 :: v1 :: v0 :: .ref b :: st) h Q = cv [(0, 14)] h b (fun y' => WP V (cdT Ev) mx d y' [.ref b, v0, v1, v2] h (fun r h' => wp V (cdT Ev) mx d 13 39 ls (rts r st) h' Q)) := x_cv (sg := [v2, v1, v0]) rfl hst rfl rfl
theorem s_13_39 {x : Int32} : wp V (cdT Ev) mx d 13 39 ls (.int x :: st) h Q = (if x = 0 then wp V (cdT Ev) mx d 13 52 ls st h Q else wp V (cdT Ev) mx d 13 42 ls st h Q) := x_if1 (c := fun x => x = 0) rfl
theorem s_13_42 {x : Int32} : wp V (cdT Ev) mx d 13 42 [l0, l1, some (.int x), l3, l4] st h Q = wp V (cdT Ev) mx d 13 43 [l0, l1, some (.int x), l3, l4] (.int x :: st) h Q := x_iload (len := 1) rfl rfl
theorem s_13_43 {a : Nat} : wp V (cdT Ev) mx d 13 43 [some (.ref a), l1, l2, l3, l4] st h Q = wp V (cdT Ev) mx d 13 44 [some (.ref a), l1, l2, l3, l4] (.ref a :: st) h Q := x_aload (len := 1) rfl rfl
theorem s_13_43_n : wp V (cdT Ev) mx d 13 43 [some .null, l1, l2, l3, l4] st h Q = wp V (cdT Ev) mx d 13 44 [some .null, l1, l2, l3, l4] (.null :: st) h Q := x_aloadN (len := 1) rfl rfl
theorem s_13_44 {a : Nat} : wp V (cdT Ev) mx d 13 44 ls (.ref a :: st) h Q = gf [0] 5 h a (fun v => wp V (cdT Ev) mx d 13 47 ls (v :: st) h Q) := x_getf rfl
theorem s_13_47 {x : Int32} : wp V (cdT Ev) mx d 13 47 [l0, l1, l2, l3, some (.int x)] st h Q = wp V (cdT Ev) mx d 13 49 [l0, l1, l2, l3, some (.int x)] (.int x :: st) h Q := x_iload (len := 2) rfl rfl
theorem s_13_49 {i : Int32} {a : Nat} : wp V (cdT Ev) mx d 13 49 ls (.int i :: .ref a :: st) h Q = ai 2 i V h a (fun x => wp V (cdT Ev) mx d 13 50 ls (.int x :: st) h Q) := x_iald rfl
theorem s_13_50 {x z : Int32} : wp V (cdT Ev) mx d 13 50 ls (.int z :: .int x :: st) h Q = wp V (cdT Ev) mx d 13 51 ls (.int (x + z) :: st) h Q := x_ib (f := fun x z => x + z) rfl
theorem s_13_51 {x : Int32} (hn : nl l1 = true) : wp V (cdT Ev) mx d 13 51 [l0, l1, l2, l3, l4] (.int x :: st) h Q = wp V (cdT Ev) mx d 13 52 [l0, l1, some (.int x), l3, l4] st h Q := x_istore (len := 1) rfl (Nat.le_of_ble_eq_true rfl) (okp_nl rfl hn) rfl
theorem s_13_52 {a : Nat} : wp V (cdT Ev) mx d 13 52 [some (.ref a), l1, l2, l3, l4] st h Q = wp V (cdT Ev) mx d 13 53 [some (.ref a), l1, l2, l3, l4] (.ref a :: st) h Q := x_aload (len := 1) rfl rfl
theorem s_13_52_n : wp V (cdT Ev) mx d 13 52 [some .null, l1, l2, l3, l4] st h Q = wp V (cdT Ev) mx d 13 53 [some .null, l1, l2, l3, l4] (.null :: st) h Q := x_aloadN (len := 1) rfl rfl
theorem s_13_53 {a : Nat} : wp V (cdT Ev) mx d 13 53 ls (.ref a :: st) h Q = gf [0] 6 h a (fun v => wp V (cdT Ev) mx d 13 56 ls (v :: st) h Q) := x_getf rfl
theorem s_13_56 {x : Int32} : wp V (cdT Ev) mx d 13 56 [l0, l1, l2, l3, some (.int x)] st h Q = wp V (cdT Ev) mx d 13 58 [l0, l1, l2, l3, some (.int x)] (.int x :: st) h Q := x_iload (len := 2) rfl rfl
theorem s_13_58 {i : Int32} {a : Nat} : wp V (cdT Ev) mx d 13 58 ls (.int i :: .ref a :: st) h Q = ai 2 i V h a (fun x => wp V (cdT Ev) mx d 13 59 ls (.int x :: st) h Q) := x_iald rfl
theorem s_13_59 {x : Int32} (hn : nl l2 = true) : wp V (cdT Ev) mx d 13 59 [l0, l1, l2, l3, l4] (.int x :: st) h Q = wp V (cdT Ev) mx d 13 60 [l0, l1, l2, some (.int x), l4] st h Q := x_istore (len := 1) rfl (Nat.le_of_ble_eq_true rfl) (okp_nl rfl hn) rfl
theorem s_13_60 {x : Int32} : wp V (cdT Ev) mx d 13 60 [l0, l1, l2, l3, some (.int x)] st h Q = wp V (cdT Ev) mx d 13 63 [l0, l1, l2, l3, some (.int (x + (1)))] st h Q := x_iinc rfl rfl rfl
theorem s_13_63 : wp V (cdT Ev) mx d 13 63 ls st h Q = wp V (cdT Ev) mx d 13 7 ls st h Q := x_goto rfl
theorem s_13_66 {x : Int32} : wp V (cdT Ev) mx d 13 66 [l0, l1, some (.int x), l3, l4] st h Q = wp V (cdT Ev) mx d 13 67 [l0, l1, some (.int x), l3, l4] (.int x :: st) h Q := x_iload (len := 1) rfl rfl
theorem s_13_67 {x : Int32} : wp V (cdT Ev) mx d 13 67 ls [.int x] h Q = Q (some (.int x)) h := x_ret rfl rfl
theorem e_13 {a : Nat} {p0 : Nat} : WP V (cdT Ev) mx (d + 1) 13 [.ref a, .ref p0] h Q = wp V (cdT Ev) mx d 13 0 [some (.ref a), some (.ref p0), none, none, none] [] h Q := propext (WP_eq (Nat.le_of_ble_eq_true rfl))
theorem s_14_0 : wp V (cdT Ev) mx d 14 0 ls st h Q = wp V (cdT Ev) mx d 14 1 ls ((.int (0)) :: st) h Q := x_push (v := (.int (0))) (len := 1) rfl
theorem s_14_1 {x : Int32} (hn : nl l3 = true) : wp V (cdT Ev) mx d 14 1 [l0, l1, l2, l3, l4, l5, l6, l7, l8, l9] (.int x :: st) h Q = wp V (cdT Ev) mx d 14 3 [l0, l1, l2, l3, some (.int x), l5, l6, l7, l8, l9] st h Q := x_istore (len := 2) rfl (Nat.le_of_ble_eq_true rfl) (okp_nl rfl hn) rfl
theorem s_14_3 {x : Int32} : wp V (cdT Ev) mx d 14 3 [l0, some (.int x), l2, l3, l4, l5, l6, l7, l8, l9] st h Q = wp V (cdT Ev) mx d 14 4 [l0, some (.int x), l2, l3, l4, l5, l6, l7, l8, l9] (.int x :: st) h Q := x_iload (len := 1) rfl rfl
theorem s_14_4 {x : Int32} (hn : nl l4 = true) : wp V (cdT Ev) mx d 14 4 [l0, l1, l2, l3, l4, l5, l6, l7, l8, l9] (.int x :: st) h Q = wp V (cdT Ev) mx d 14 6 [l0, l1, l2, l3, l4, some (.int x), l6, l7, l8, l9] st h Q := x_istore (len := 2) rfl (Nat.le_of_ble_eq_true rfl) (okp_nl rfl hn) rfl
theorem s_14_6 {x : Int32} : wp V (cdT Ev) mx d 14 6 [l0, l1, l2, l3, l4, some (.int x), l6, l7, l8, l9] st h Q = wp V (cdT Ev) mx d 14 8 [l0, l1, l2, l3, l4, some (.int x), l6, l7, l8, l9] (.int x :: st) h Q := x_iload (len := 2) rfl rfl
theorem s_14_8 {x : Int32} : wp V (cdT Ev) mx d 14 8 [l0, l1, some (.int x), l3, l4, l5, l6, l7, l8, l9] st h Q = wp V (cdT Ev) mx d 14 9 [l0, l1, some (.int x), l3, l4, l5, l6, l7, l8, l9] (.int x :: st) h Q := x_iload (len := 1) rfl rfl
theorem s_14_9 {x z : Int32} : wp V (cdT Ev) mx d 14 9 ls (.int z :: .int x :: st) h Q = (if z ≤ x then wp V (cdT Ev) mx d 14 163 ls st h Q else wp V (cdT Ev) mx d 14 12 ls st h Q) := x_if2 (c := fun x z => z ≤ x) rfl
theorem s_14_12 {a : Nat} : wp V (cdT Ev) mx d 14 12 [some (.ref a), l1, l2, l3, l4, l5, l6, l7, l8, l9] st h Q = wp V (cdT Ev) mx d 14 13 [some (.ref a), l1, l2, l3, l4, l5, l6, l7, l8, l9] (.ref a :: st) h Q := x_aload (len := 1) rfl rfl
theorem s_14_12_n : wp V (cdT Ev) mx d 14 12 [some .null, l1, l2, l3, l4, l5, l6, l7, l8, l9] st h Q = wp V (cdT Ev) mx d 14 13 [some .null, l1, l2, l3, l4, l5, l6, l7, l8, l9] (.null :: st) h Q := x_aloadN (len := 1) rfl rfl
theorem s_14_13 {a : Nat} : wp V (cdT Ev) mx d 14 13 ls (.ref a :: st) h Q = gf [0] 3 h a (fun v => wp V (cdT Ev) mx d 14 16 ls (v :: st) h Q) := x_getf rfl
theorem s_14_16 {x : Int32} : wp V (cdT Ev) mx d 14 16 [l0, l1, l2, l3, l4, some (.int x), l6, l7, l8, l9] st h Q = wp V (cdT Ev) mx d 14 18 [l0, l1, l2, l3, l4, some (.int x), l6, l7, l8, l9] (.int x :: st) h Q := x_iload (len := 2) rfl rfl
theorem s_14_18 {i : Int32} {a : Nat} : wp V (cdT Ev) mx d 14 18 ls (.int i :: .ref a :: st) h Q = ai 2 i V h a (fun x => wp V (cdT Ev) mx d 14 19 ls (.int x :: st) h Q) := x_iald rfl
theorem s_14_19 {x : Int32} (hn : nl l5 = true) : wp V (cdT Ev) mx d 14 19 [l0, l1, l2, l3, l4, l5, l6, l7, l8, l9] (.int x :: st) h Q = wp V (cdT Ev) mx d 14 21 [l0, l1, l2, l3, l4, l5, some (.int x), l7, l8, l9] st h Q := x_istore (len := 2) rfl (Nat.le_of_ble_eq_true rfl) (okp_nl rfl hn) rfl
theorem s_14_21 {x : Int32} : wp V (cdT Ev) mx d 14 21 [l0, l1, l2, l3, l4, l5, some (.int x), l7, l8, l9] st h Q = wp V (cdT Ev) mx d 14 23 [l0, l1, l2, l3, l4, l5, some (.int x), l7, l8, l9] (.int x :: st) h Q := x_iload (len := 2) rfl rfl
theorem s_14_23 : wp V (cdT Ev) mx d 14 23 ls st h Q = wp V (cdT Ev) mx d 14 24 ls ((.int (-1)) :: st) h Q := x_push (v := (.int (-1))) (len := 1) rfl
theorem s_14_24 {x z : Int32} : wp V (cdT Ev) mx d 14 24 ls (.int z :: .int x :: st) h Q = (if ¬ x = z then wp V (cdT Ev) mx d 14 36 ls st h Q else wp V (cdT Ev) mx d 14 27 ls st h Q) := x_if2 (c := fun x z => ¬ x = z) rfl
theorem s_14_27 {x : Int32} : wp V (cdT Ev) mx d 14 27 [l0, l1, l2, l3, some (.int x), l5, l6, l7, l8, l9] st h Q = wp V (cdT Ev) mx d 14 29 [l0, l1, l2, l3, some (.int x), l5, l6, l7, l8, l9] (.int x :: st) h Q := x_iload (len := 2) rfl rfl
theorem s_14_29 : wp V (cdT Ev) mx d 14 29 ls st h Q = wp V (cdT Ev) mx d 14 30 ls ((.int (1)) :: st) h Q := x_push (v := (.int (1))) (len := 1) rfl
theorem s_14_30 {x z : Int32} : wp V (cdT Ev) mx d 14 30 ls (.int z :: .int x :: st) h Q = wp V (cdT Ev) mx d 14 31 ls (.int (x ^^^ z) :: st) h Q := x_ib (f := fun x z => x ^^^ z) rfl
theorem s_14_31 {x : Int32} (hn : nl l3 = true) : wp V (cdT Ev) mx d 14 31 [l0, l1, l2, l3, l4, l5, l6, l7, l8, l9] (.int x :: st) h Q = wp V (cdT Ev) mx d 14 33 [l0, l1, l2, l3, some (.int x), l5, l6, l7, l8, l9] st h Q := x_istore (len := 2) rfl (Nat.le_of_ble_eq_true rfl) (okp_nl rfl hn) rfl
theorem s_14_33 : wp V (cdT Ev) mx d 14 33 ls st h Q = wp V (cdT Ev) mx d 14 157 ls st h Q := x_goto rfl
theorem s_14_36 {x : Int32} : wp V (cdT Ev) mx d 14 36 [l0, l1, l2, l3, l4, l5, some (.int x), l7, l8, l9] st h Q = wp V (cdT Ev) mx d 14 38 [l0, l1, l2, l3, l4, l5, some (.int x), l7, l8, l9] (.int x :: st) h Q := x_iload (len := 2) rfl rfl
theorem s_14_38 : wp V (cdT Ev) mx d 14 38 ls st h Q = wp V (cdT Ev) mx d 14 40 ls ((.int (-2)) :: st) h Q := x_push (v := (.int (-2))) (len := 2) rfl
theorem s_14_40 {x z : Int32} : wp V (cdT Ev) mx d 14 40 ls (.int z :: .int x :: st) h Q = (if ¬ x = z then wp V (cdT Ev) mx d 14 70 ls st h Q else wp V (cdT Ev) mx d 14 43 ls st h Q) := x_if2 (c := fun x z => ¬ x = z) rfl
theorem s_14_43 {x : Int32} : wp V (cdT Ev) mx d 14 43 [l0, l1, l2, l3, some (.int x), l5, l6, l7, l8, l9] st h Q = wp V (cdT Ev) mx d 14 45 [l0, l1, l2, l3, some (.int x), l5, l6, l7, l8, l9] (.int x :: st) h Q := x_iload (len := 2) rfl rfl
theorem s_14_45 : wp V (cdT Ev) mx d 14 45 ls st h Q = wp V (cdT Ev) mx d 14 46 ls ((.int (1)) :: st) h Q := x_push (v := (.int (1))) (len := 1) rfl
theorem s_14_46 {x z : Int32} : wp V (cdT Ev) mx d 14 46 ls (.int z :: .int x :: st) h Q = wp V (cdT Ev) mx d 14 47 ls (.int (x &&& z) :: st) h Q := x_ib (f := fun x z => x &&& z) rfl
theorem s_14_47 : wp V (cdT Ev) mx d 14 47 ls st h Q = wp V (cdT Ev) mx d 14 48 ls ((.int (1)) :: st) h Q := x_push (v := (.int (1))) (len := 1) rfl
theorem s_14_48 {x z : Int32} : wp V (cdT Ev) mx d 14 48 ls (.int z :: .int x :: st) h Q = (if ¬ x = z then wp V (cdT Ev) mx d 14 58 ls st h Q else wp V (cdT Ev) mx d 14 51 ls st h Q) := x_if2 (c := fun x z => ¬ x = z) rfl
theorem s_14_51 {x : Int32} : wp V (cdT Ev) mx d 14 51 [l0, l1, l2, l3, some (.int x), l5, l6, l7, l8, l9] st h Q = wp V (cdT Ev) mx d 14 53 [l0, l1, l2, l3, some (.int x), l5, l6, l7, l8, l9] (.int x :: st) h Q := x_iload (len := 2) rfl rfl
theorem s_14_53 : wp V (cdT Ev) mx d 14 53 ls st h Q = wp V (cdT Ev) mx d 14 54 ls ((.int (1)) :: st) h Q := x_push (v := (.int (1))) (len := 1) rfl
theorem s_14_54 {x z : Int32} : wp V (cdT Ev) mx d 14 54 ls (.int z :: .int x :: st) h Q = wp V (cdT Ev) mx d 14 55 ls (.int (x >>> (z &&& 31)) :: st) h Q := x_ib (f := fun x z => x >>> (z &&& 31)) rfl
theorem s_14_55 : wp V (cdT Ev) mx d 14 55 ls st h Q = wp V (cdT Ev) mx d 14 65 ls st h Q := x_goto rfl
theorem s_14_58 {x : Int32} : wp V (cdT Ev) mx d 14 58 [l0, l1, l2, l3, some (.int x), l5, l6, l7, l8, l9] st h Q = wp V (cdT Ev) mx d 14 60 [l0, l1, l2, l3, some (.int x), l5, l6, l7, l8, l9] (.int x :: st) h Q := x_iload (len := 2) rfl rfl
theorem s_14_60 : wp V (cdT Ev) mx d 14 60 ls st h Q = wp V (cdT Ev) mx d 14 61 ls ((.int (1)) :: st) h Q := x_push (v := (.int (1))) (len := 1) rfl
theorem s_14_61 {x z : Int32} : wp V (cdT Ev) mx d 14 61 ls (.int z :: .int x :: st) h Q = wp V (cdT Ev) mx d 14 62 ls (.int (x >>> (z &&& 31)) :: st) h Q := x_ib (f := fun x z => x >>> (z &&& 31)) rfl
theorem s_14_62 : wp V (cdT Ev) mx d 14 62 ls st h Q = wp V (cdT Ev) mx d 14 64 ls ((.int (-2)) :: st) h Q := x_push (v := (.int (-2))) (len := 2) rfl
theorem s_14_64 {x z : Int32} : wp V (cdT Ev) mx d 14 64 ls (.int z :: .int x :: st) h Q = wp V (cdT Ev) mx d 14 65 ls (.int (x &&& z) :: st) h Q := x_ib (f := fun x z => x &&& z) rfl
theorem s_14_65 {x : Int32} (hn : nl l3 = true) : wp V (cdT Ev) mx d 14 65 [l0, l1, l2, l3, l4, l5, l6, l7, l8, l9] (.int x :: st) h Q = wp V (cdT Ev) mx d 14 67 [l0, l1, l2, l3, some (.int x), l5, l6, l7, l8, l9] st h Q := x_istore (len := 2) rfl (Nat.le_of_ble_eq_true rfl) (okp_nl rfl hn) rfl
theorem s_14_67 : wp V (cdT Ev) mx d 14 67 ls st h Q = wp V (cdT Ev) mx d 14 157 ls st h Q := x_goto rfl
theorem s_14_70 {x : Int32} : wp V (cdT Ev) mx d 14 70 [l0, l1, l2, l3, l4, l5, some (.int x), l7, l8, l9] st h Q = wp V (cdT Ev) mx d 14 72 [l0, l1, l2, l3, l4, l5, some (.int x), l7, l8, l9] (.int x :: st) h Q := x_iload (len := 2) rfl rfl
theorem s_14_72 : wp V (cdT Ev) mx d 14 72 ls st h Q = wp V (cdT Ev) mx d 14 74 ls ((.int (-3)) :: st) h Q := x_push (v := (.int (-3))) (len := 2) rfl
theorem s_14_74 {x z : Int32} : wp V (cdT Ev) mx d 14 74 ls (.int z :: .int x :: st) h Q = (if ¬ x = z then wp V (cdT Ev) mx d 14 91 ls st h Q else wp V (cdT Ev) mx d 14 77 ls st h Q) := x_if2 (c := fun x z => ¬ x = z) rfl
theorem s_14_77 {x : Int32} : wp V (cdT Ev) mx d 14 77 [l0, l1, l2, l3, some (.int x), l5, l6, l7, l8, l9] st h Q = wp V (cdT Ev) mx d 14 79 [l0, l1, l2, l3, some (.int x), l5, l6, l7, l8, l9] (.int x :: st) h Q := x_iload (len := 2) rfl rfl
theorem s_14_79 : wp V (cdT Ev) mx d 14 79 ls st h Q = wp V (cdT Ev) mx d 14 80 ls ((.int (1)) :: st) h Q := x_push (v := (.int (1))) (len := 1) rfl
theorem s_14_80 {x z : Int32} : wp V (cdT Ev) mx d 14 80 ls (.int z :: .int x :: st) h Q = wp V (cdT Ev) mx d 14 81 ls (.int (x >>> (z &&& 31)) :: st) h Q := x_ib (f := fun x z => x >>> (z &&& 31)) rfl
theorem s_14_81 {x : Int32} : wp V (cdT Ev) mx d 14 81 [l0, l1, l2, l3, some (.int x), l5, l6, l7, l8, l9] st h Q = wp V (cdT Ev) mx d 14 83 [l0, l1, l2, l3, some (.int x), l5, l6, l7, l8, l9] (.int x :: st) h Q := x_iload (len := 2) rfl rfl
theorem s_14_83 : wp V (cdT Ev) mx d 14 83 ls st h Q = wp V (cdT Ev) mx d 14 84 ls ((.int (1)) :: st) h Q := x_push (v := (.int (1))) (len := 1) rfl
theorem s_14_84 {x z : Int32} : wp V (cdT Ev) mx d 14 84 ls (.int z :: .int x :: st) h Q = wp V (cdT Ev) mx d 14 85 ls (.int (x &&& z) :: st) h Q := x_ib (f := fun x z => x &&& z) rfl
theorem s_14_85 {x z : Int32} : wp V (cdT Ev) mx d 14 85 ls (.int z :: .int x :: st) h Q = wp V (cdT Ev) mx d 14 86 ls (.int (x ||| z) :: st) h Q := x_ib (f := fun x z => x ||| z) rfl
theorem s_14_86 {x : Int32} (hn : nl l3 = true) : wp V (cdT Ev) mx d 14 86 [l0, l1, l2, l3, l4, l5, l6, l7, l8, l9] (.int x :: st) h Q = wp V (cdT Ev) mx d 14 88 [l0, l1, l2, l3, some (.int x), l5, l6, l7, l8, l9] st h Q := x_istore (len := 2) rfl (Nat.le_of_ble_eq_true rfl) (okp_nl rfl hn) rfl
theorem s_14_88 : wp V (cdT Ev) mx d 14 88 ls st h Q = wp V (cdT Ev) mx d 14 157 ls st h Q := x_goto rfl
theorem s_14_91 {a : Nat} : wp V (cdT Ev) mx d 14 91 [l0, l1, l2, some (.ref a), l4, l5, l6, l7, l8, l9] st h Q = wp V (cdT Ev) mx d 14 92 [l0, l1, l2, some (.ref a), l4, l5, l6, l7, l8, l9] (.ref a :: st) h Q := x_aload (len := 1) rfl rfl
theorem s_14_91_n : wp V (cdT Ev) mx d 14 91 [l0, l1, l2, some .null, l4, l5, l6, l7, l8, l9] st h Q = wp V (cdT Ev) mx d 14 92 [l0, l1, l2, some .null, l4, l5, l6, l7, l8, l9] (.null :: st) h Q := x_aloadN (len := 1) rfl rfl
theorem s_14_92 {x : Int32} : wp V (cdT Ev) mx d 14 92 [l0, l1, l2, l3, l4, l5, some (.int x), l7, l8, l9] st h Q = wp V (cdT Ev) mx d 14 94 [l0, l1, l2, l3, l4, l5, some (.int x), l7, l8, l9] (.int x :: st) h Q := x_iload (len := 2) rfl rfl
theorem s_14_94 : wp V (cdT Ev) mx d 14 94 ls st h Q = wp V (cdT Ev) mx d 14 97 ls ((.int (300)) :: st) h Q := x_push (v := (.int (300))) (len := 3) rfl
theorem s_14_97 {x z : Int32} : wp V (cdT Ev) mx d 14 97 ls (.int z :: .int x :: st) h Q = (¬ z = 0 ∧ wp V (cdT Ev) mx d 14 98 ls (.int (x / z) :: st) h Q) := x_ibz (f := fun x z => x / z) rfl
theorem s_14_98 {i : Int32} {a : Nat} : wp V (cdT Ev) mx d 14 98 ls (.int i :: .ref a :: st) h Q = ai 2 i V h a (fun x => wp V (cdT Ev) mx d 14 99 ls (.int x :: st) h Q) := x_iald rfl
theorem s_14_99 {x : Int32} (hn : nl l6 = true) : wp V (cdT Ev) mx d 14 99 [l0, l1, l2, l3, l4, l5, l6, l7, l8, l9] (.int x :: st) h Q = wp V (cdT Ev) mx d 14 101 [l0, l1, l2, l3, l4, l5, l6, some (.int x), l8, l9] st h Q := x_istore (len := 2) rfl (Nat.le_of_ble_eq_true rfl) (okp_nl rfl hn) rfl
theorem s_14_101 {x : Int32} : wp V (cdT Ev) mx d 14 101 [l0, l1, l2, l3, l4, l5, some (.int x), l7, l8, l9] st h Q = wp V (cdT Ev) mx d 14 103 [l0, l1, l2, l3, l4, l5, some (.int x), l7, l8, l9] (.int x :: st) h Q := x_iload (len := 2) rfl rfl
theorem s_14_103 : wp V (cdT Ev) mx d 14 103 ls st h Q = wp V (cdT Ev) mx d 14 105 ls ((.int (100)) :: st) h Q := x_push (v := (.int (100))) (len := 2) rfl
theorem s_14_105 {x z : Int32} : wp V (cdT Ev) mx d 14 105 ls (.int z :: .int x :: st) h Q = (¬ z = 0 ∧ wp V (cdT Ev) mx d 14 106 ls (.int (x - x / z * z) :: st) h Q) := x_ibz (f := fun x z => x - x / z * z) rfl
theorem s_14_106 {x : Int32} (hn : nl l7 = true) : wp V (cdT Ev) mx d 14 106 [l0, l1, l2, l3, l4, l5, l6, l7, l8, l9] (.int x :: st) h Q = wp V (cdT Ev) mx d 14 108 [l0, l1, l2, l3, l4, l5, l6, l7, some (.int x), l9] st h Q := x_istore (len := 2) rfl (Nat.le_of_ble_eq_true rfl) (okp_nl rfl hn) rfl
theorem s_14_108 {x : Int32} : wp V (cdT Ev) mx d 14 108 [l0, l1, l2, l3, l4, l5, l6, some (.int x), l8, l9] st h Q = wp V (cdT Ev) mx d 14 110 [l0, l1, l2, l3, l4, l5, l6, some (.int x), l8, l9] (.int x :: st) h Q := x_iload (len := 2) rfl rfl
theorem s_14_110 {x : Int32} : wp V (cdT Ev) mx d 14 110 [l0, l1, l2, l3, l4, l5, l6, l7, some (.int x), l9] st h Q = wp V (cdT Ev) mx d 14 112 [l0, l1, l2, l3, l4, l5, l6, l7, some (.int x), l9] (.int x :: st) h Q := x_iload (len := 2) rfl rfl
theorem s_14_112 {x z : Int32} : wp V (cdT Ev) mx d 14 112 ls (.int z :: .int x :: st) h Q = (if z ≤ x then wp V (cdT Ev) mx d 14 119 ls st h Q else wp V (cdT Ev) mx d 14 115 ls st h Q) := x_if2 (c := fun x z => z ≤ x) rfl
theorem s_14_115 : wp V (cdT Ev) mx d 14 115 ls st h Q = wp V (cdT Ev) mx d 14 116 ls ((.int (0)) :: st) h Q := x_push (v := (.int (0))) (len := 1) rfl
theorem s_14_116 : wp V (cdT Ev) mx d 14 116 ls st h Q = wp V (cdT Ev) mx d 14 131 ls st h Q := x_goto rfl
theorem s_14_119 {x : Int32} : wp V (cdT Ev) mx d 14 119 [l0, l1, l2, l3, l4, l5, l6, some (.int x), l8, l9] st h Q = wp V (cdT Ev) mx d 14 121 [l0, l1, l2, l3, l4, l5, l6, some (.int x), l8, l9] (.int x :: st) h Q := x_iload (len := 2) rfl rfl
theorem s_14_121 {x : Int32} : wp V (cdT Ev) mx d 14 121 [l0, l1, l2, l3, l4, l5, l6, l7, some (.int x), l9] st h Q = wp V (cdT Ev) mx d 14 123 [l0, l1, l2, l3, l4, l5, l6, l7, some (.int x), l9] (.int x :: st) h Q := x_iload (len := 2) rfl rfl
theorem s_14_123 {x z : Int32} : wp V (cdT Ev) mx d 14 123 ls (.int z :: .int x :: st) h Q = (if ¬ x = z then wp V (cdT Ev) mx d 14 130 ls st h Q else wp V (cdT Ev) mx d 14 126 ls st h Q) := x_if2 (c := fun x z => ¬ x = z) rfl
theorem s_14_126 : wp V (cdT Ev) mx d 14 126 ls st h Q = wp V (cdT Ev) mx d 14 127 ls ((.int (1)) :: st) h Q := x_push (v := (.int (1))) (len := 1) rfl
theorem s_14_127 : wp V (cdT Ev) mx d 14 127 ls st h Q = wp V (cdT Ev) mx d 14 131 ls st h Q := x_goto rfl
theorem s_14_130 : wp V (cdT Ev) mx d 14 130 ls st h Q = wp V (cdT Ev) mx d 14 131 ls ((.int (2)) :: st) h Q := x_push (v := (.int (2))) (len := 1) rfl
theorem s_14_131 {x : Int32} (hn : nl l8 = true) : wp V (cdT Ev) mx d 14 131 [l0, l1, l2, l3, l4, l5, l6, l7, l8, l9] (.int x :: st) h Q = wp V (cdT Ev) mx d 14 133 [l0, l1, l2, l3, l4, l5, l6, l7, l8, some (.int x)] st h Q := x_istore (len := 2) rfl (Nat.le_of_ble_eq_true rfl) (okp_nl rfl hn) rfl
theorem s_14_133 {x : Int32} : wp V (cdT Ev) mx d 14 133 [l0, l1, l2, l3, some (.int x), l5, l6, l7, l8, l9] st h Q = wp V (cdT Ev) mx d 14 135 [l0, l1, l2, l3, some (.int x), l5, l6, l7, l8, l9] (.int x :: st) h Q := x_iload (len := 2) rfl rfl
theorem s_14_135 : wp V (cdT Ev) mx d 14 135 ls st h Q = wp V (cdT Ev) mx d 14 136 ls ((.int (1)) :: st) h Q := x_push (v := (.int (1))) (len := 1) rfl
theorem s_14_136 {x z : Int32} : wp V (cdT Ev) mx d 14 136 ls (.int z :: .int x :: st) h Q = wp V (cdT Ev) mx d 14 137 ls (.int (x <<< (z &&& 31)) :: st) h Q := x_ib (f := fun x z => x <<< (z &&& 31)) rfl
theorem s_14_137 {x : Int32} : wp V (cdT Ev) mx d 14 137 [l0, l1, l2, l3, l4, l5, l6, l7, l8, some (.int x)] st h Q = wp V (cdT Ev) mx d 14 139 [l0, l1, l2, l3, l4, l5, l6, l7, l8, some (.int x)] (.int x :: st) h Q := x_iload (len := 2) rfl rfl
theorem s_14_139 {x : Int32} : wp V (cdT Ev) mx d 14 139 [l0, l1, l2, l3, l4, l5, some (.int x), l7, l8, l9] st h Q = wp V (cdT Ev) mx d 14 141 [l0, l1, l2, l3, l4, l5, some (.int x), l7, l8, l9] (.int x :: st) h Q := x_iload (len := 2) rfl rfl
theorem s_14_141 : wp V (cdT Ev) mx d 14 141 ls st h Q = wp V (cdT Ev) mx d 14 143 ls ((.int (100)) :: st) h Q := x_push (v := (.int (100))) (len := 2) rfl
theorem s_14_143 {x z : Int32} : wp V (cdT Ev) mx d 14 143 ls (.int z :: .int x :: st) h Q = (¬ z = 0 ∧ wp V (cdT Ev) mx d 14 144 ls (.int (x / z) :: st) h Q) := x_ibz (f := fun x z => x / z) rfl
theorem s_14_144 : wp V (cdT Ev) mx d 14 144 ls st h Q = wp V (cdT Ev) mx d 14 145 ls ((.int (3)) :: st) h Q := x_push (v := (.int (3))) (len := 1) rfl
theorem s_14_145 {x z : Int32} : wp V (cdT Ev) mx d 14 145 ls (.int z :: .int x :: st) h Q = (¬ z = 0 ∧ wp V (cdT Ev) mx d 14 146 ls (.int (x - x / z * z) :: st) h Q) := x_ibz (f := fun x z => x - x / z * z) rfl
theorem s_14_146 {x z : Int32} : wp V (cdT Ev) mx d 14 146 ls (.int z :: .int x :: st) h Q = (if ¬ x = z then wp V (cdT Ev) mx d 14 153 ls st h Q else wp V (cdT Ev) mx d 14 149 ls st h Q) := x_if2 (c := fun x z => ¬ x = z) rfl
theorem s_14_149 : wp V (cdT Ev) mx d 14 149 ls st h Q = wp V (cdT Ev) mx d 14 150 ls ((.int (1)) :: st) h Q := x_push (v := (.int (1))) (len := 1) rfl
theorem s_14_150 : wp V (cdT Ev) mx d 14 150 ls st h Q = wp V (cdT Ev) mx d 14 154 ls st h Q := x_goto rfl
theorem s_14_153 : wp V (cdT Ev) mx d 14 153 ls st h Q = wp V (cdT Ev) mx d 14 154 ls ((.int (0)) :: st) h Q := x_push (v := (.int (0))) (len := 1) rfl
theorem s_14_154 {x z : Int32} : wp V (cdT Ev) mx d 14 154 ls (.int z :: .int x :: st) h Q = wp V (cdT Ev) mx d 14 155 ls (.int (x ||| z) :: st) h Q := x_ib (f := fun x z => x ||| z) rfl
theorem s_14_155 {x : Int32} (hn : nl l3 = true) : wp V (cdT Ev) mx d 14 155 [l0, l1, l2, l3, l4, l5, l6, l7, l8, l9] (.int x :: st) h Q = wp V (cdT Ev) mx d 14 157 [l0, l1, l2, l3, some (.int x), l5, l6, l7, l8, l9] st h Q := x_istore (len := 2) rfl (Nat.le_of_ble_eq_true rfl) (okp_nl rfl hn) rfl
theorem s_14_157 {x : Int32} : wp V (cdT Ev) mx d 14 157 [l0, l1, l2, l3, l4, some (.int x), l6, l7, l8, l9] st h Q = wp V (cdT Ev) mx d 14 160 [l0, l1, l2, l3, l4, some (.int (x + (1))), l6, l7, l8, l9] st h Q := x_iinc rfl rfl rfl
theorem s_14_160 : wp V (cdT Ev) mx d 14 160 ls st h Q = wp V (cdT Ev) mx d 14 6 ls st h Q := x_goto rfl
theorem s_14_163 {x : Int32} : wp V (cdT Ev) mx d 14 163 [l0, l1, l2, l3, some (.int x), l5, l6, l7, l8, l9] st h Q = wp V (cdT Ev) mx d 14 165 [l0, l1, l2, l3, some (.int x), l5, l6, l7, l8, l9] (.int x :: st) h Q := x_iload (len := 2) rfl rfl
theorem s_14_165 : wp V (cdT Ev) mx d 14 165 ls st h Q = wp V (cdT Ev) mx d 14 166 ls ((.int (1)) :: st) h Q := x_push (v := (.int (1))) (len := 1) rfl
theorem s_14_166 {x z : Int32} : wp V (cdT Ev) mx d 14 166 ls (.int z :: .int x :: st) h Q = wp V (cdT Ev) mx d 14 167 ls (.int (x &&& z) :: st) h Q := x_ib (f := fun x z => x &&& z) rfl
theorem s_14_167 : wp V (cdT Ev) mx d 14 167 ls st h Q = wp V (cdT Ev) mx d 14 168 ls ((.int (1)) :: st) h Q := x_push (v := (.int (1))) (len := 1) rfl
theorem s_14_168 {x z : Int32} : wp V (cdT Ev) mx d 14 168 ls (.int z :: .int x :: st) h Q = (if ¬ x = z then wp V (cdT Ev) mx d 14 175 ls st h Q else wp V (cdT Ev) mx d 14 171 ls st h Q) := x_if2 (c := fun x z => ¬ x = z) rfl
theorem s_14_171 : wp V (cdT Ev) mx d 14 171 ls st h Q = wp V (cdT Ev) mx d 14 172 ls ((.int (1)) :: st) h Q := x_push (v := (.int (1))) (len := 1) rfl
theorem s_14_172 : wp V (cdT Ev) mx d 14 172 ls st h Q = wp V (cdT Ev) mx d 14 176 ls st h Q := x_goto rfl
theorem s_14_175 : wp V (cdT Ev) mx d 14 175 ls st h Q = wp V (cdT Ev) mx d 14 176 ls ((.int (0)) :: st) h Q := x_push (v := (.int (0))) (len := 1) rfl
theorem s_14_176 {x : Int32} (hx : okr 1 (.int x) = true) : wp V (cdT Ev) mx d 14 176 ls [.int x] h Q = Q (some (.int x)) h := x_ret rfl hx
theorem e_14 {a : Nat} {p0 : Int32} {p1 : Int32} {p2 : Nat} : WP V (cdT Ev) mx (d + 1) 14 [.ref a, .int p0, .int p1, .ref p2] h Q = wp V (cdT Ev) mx d 14 0 [some (.ref a), some (.int p0), some (.int p1), some (.ref p2), none, none, none, none, none, none] [] h Q := propext (WP_eq (Nat.le_of_ble_eq_true rfl))
theorem s_15_0 {a : Nat} : wp V (cdT Ev) mx d 15 0 [some (.ref a), l1, l2] st h Q = wp V (cdT Ev) mx d 15 1 [some (.ref a), l1, l2] (.ref a :: st) h Q := x_aload (len := 1) rfl rfl
theorem s_15_0_n : wp V (cdT Ev) mx d 15 0 [some .null, l1, l2] st h Q = wp V (cdT Ev) mx d 15 1 [some .null, l1, l2] (.null :: st) h Q := x_aloadN (len := 1) rfl rfl
theorem s_15_1 {x : Int32} : wp V (cdT Ev) mx d 15 1 [l0, some (.int x), l2] st h Q = wp V (cdT Ev) mx d 15 2 [l0, some (.int x), l2] (.int x :: st) h Q := x_iload (len := 1) rfl rfl
theorem s_15_2 {x : Int32} : wp V (cdT Ev) mx d 15 2 [l0, l1, some (.int x)] st h Q = wp V (cdT Ev) mx d 15 3 [l0, l1, some (.int x)] (.int x :: st) h Q := x_iload (len := 1) rfl rfl
theorem s_15_3 {b : Nat} {v0 v1 : Value} (hst : st.length ≤ 4) : wp V (cdT Ev) mx d 15 3 ls (v1 :: v0 :: .ref b :: st) h Q = WP V (cdT Ev) mx d 18 [.ref b, v0, v1] h (fun r h' => wp V (cdT Ev) mx d 15 6 ls (rts r st) h' Q) := x_ci (sg := [v1, v0]) rfl hst rfl rfl
theorem s_15_6 : wp V (cdT Ev) mx d 15 6 ls [] h Q = Q none h := x_retv rfl
theorem e_15 {a : Nat} {p0 : Int32} {p1 : Int32} : WP V (cdT Ev) mx (d + 1) 15 [.ref a, .int p0, .int p1] h Q = wp V (cdT Ev) mx d 15 0 [some (.ref a), some (.int p0), some (.int p1)] [] h Q := propext (WP_eq (Nat.le_of_ble_eq_true rfl))
theorem s_16_0 {a : Nat} : wp V (cdT Ev) mx d 16 0 [some (.ref a), l1, l2, l3] st h Q = wp V (cdT Ev) mx d 16 1 [some (.ref a), l1, l2, l3] (.ref a :: st) h Q := x_aload (len := 1) rfl rfl
theorem s_16_0_n : wp V (cdT Ev) mx d 16 0 [some .null, l1, l2, l3] st h Q = wp V (cdT Ev) mx d 16 1 [some .null, l1, l2, l3] (.null :: st) h Q := x_aloadN (len := 1) rfl rfl
theorem s_16_1 {x : Int32} : wp V (cdT Ev) mx d 16 1 [l0, some (.int x), l2, l3] st h Q = wp V (cdT Ev) mx d 16 2 [l0, some (.int x), l2, l3] (.int x :: st) h Q := x_iload (len := 1) rfl rfl
theorem s_16_2 {x : Int32} : wp V (cdT Ev) mx d 16 2 [l0, l1, some (.int x), l3] st h Q = wp V (cdT Ev) mx d 16 3 [l0, l1, some (.int x), l3] (.int x :: st) h Q := x_iload (len := 1) rfl rfl
theorem s_16_3 {x : Int32} : wp V (cdT Ev) mx d 16 3 [l0, l1, l2, some (.int x)] st h Q = wp V (cdT Ev) mx d 16 4 [l0, l1, l2, some (.int x)] (.int x :: st) h Q := x_iload (len := 1) rfl rfl
theorem s_16_4 {b : Nat} {v0 v1 v2 : Value} (hst : st.length ≤ 4) : wp V (cdT Ev) mx d 16 4 ls (v2 :: v1 :: v0 :: .ref b :: st) h Q = cv [(1, 19)] h b (fun y' => WP V (cdT Ev) mx d y' [.ref b, v0, v1, v2] h (fun r h' => wp V (cdT Ev) mx d 16 7 ls (rts r st) h' Q)) := x_cv (sg := [v2, v1, v0]) rfl hst rfl rfl
theorem s_16_7 {a : Nat} : wp V (cdT Ev) mx d 16 7 [some (.ref a), l1, l2, l3] st h Q = wp V (cdT Ev) mx d 16 8 [some (.ref a), l1, l2, l3] (.ref a :: st) h Q := x_aload (len := 1) rfl rfl
theorem s_16_7_n : wp V (cdT Ev) mx d 16 7 [some .null, l1, l2, l3] st h Q = wp V (cdT Ev) mx d 16 8 [some .null, l1, l2, l3] (.null :: st) h Q := x_aloadN (len := 1) rfl rfl
theorem s_16_8 {a : Nat} : wp V (cdT Ev) mx d 16 8 ls (.ref a :: st) h Q = gf [1] 5 h a (fun v => wp V (cdT Ev) mx d 16 11 ls (v :: st) h Q) := x_getf rfl
theorem s_16_11 : wp V (cdT Ev) mx d 16 11 ls st h Q = wp V (cdT Ev) mx d 16 13 ls ((.int (9)) :: st) h Q := x_push (v := (.int (9))) (len := 2) rfl
theorem s_16_13 {v0 v1 : Value} (hst : st.length ≤ 4) : wp V (cdT Ev) mx d 16 13 ls (v1 :: v0 :: st) h Q = WP V (cdT Ev) mx d 197 [v0, v1] h (fun r h' => wp V (cdT Ev) mx d 16 16 ls (rts r st) h' Q) := x_cs (sg := [v1, v0]) rfl hst rfl rfl
theorem s_16_16 {x z : Int32} : wp V (cdT Ev) mx d 16 16 ls (.int z :: .int x :: st) h Q = wp V (cdT Ev) mx d 16 17 ls (.int (x - z) :: st) h Q := x_ib (f := fun x z => x - z) rfl
theorem s_16_17 {x : Int32} : wp V (cdT Ev) mx d 16 17 ls [.int x] h Q = Q (some (.int x)) h := x_ret rfl rfl
theorem e_16 {a : Nat} {p0 : Int32} {p1 : Int32} {p2 : Int32} : WP V (cdT Ev) mx (d + 1) 16 [.ref a, .int p0, .int p1, .int p2] h Q = wp V (cdT Ev) mx d 16 0 [some (.ref a), some (.int p0), some (.int p1), some (.int p2)] [] h Q := propext (WP_eq (Nat.le_of_ble_eq_true rfl))
theorem s_17_0 {a : Nat} : wp V (cdT Ev) mx d 17 0 [l0, some (.ref a), l2] st h Q = wp V (cdT Ev) mx d 17 1 [l0, some (.ref a), l2] (.ref a :: st) h Q := x_aload (len := 1) rfl rfl
theorem s_17_0_n : wp V (cdT Ev) mx d 17 0 [l0, some .null, l2] st h Q = wp V (cdT Ev) mx d 17 1 [l0, some .null, l2] (.null :: st) h Q := x_aloadN (len := 1) rfl rfl
theorem s_17_1 : wp V (cdT Ev) mx d 17 1 ls st h Q = wp V (cdT Ev) mx d 17 3 ls ((.int (60)) :: st) h Q := x_push (v := (.int (60))) (len := 2) rfl
theorem s_17_3 {b : Nat} {v0 : Value} (hst : st.length ≤ 4) : wp V (cdT Ev) mx d 17 3 ls (v0 :: .ref b :: st) h Q = cv [(9, 47)] h b (fun y' => WP V (cdT Ev) mx d y' [.ref b, v0] h (fun r h' => wp V (cdT Ev) mx d 17 6 ls (rts r st) h' Q)) := x_cv (sg := [v0]) rfl hst rfl rfl
theorem s_17_6 {a : Nat} : wp V (cdT Ev) mx d 17 6 [some (.ref a), l1, l2] st h Q = wp V (cdT Ev) mx d 17 7 [some (.ref a), l1, l2] (.ref a :: st) h Q := x_aload (len := 1) rfl rfl
theorem s_17_6_n : wp V (cdT Ev) mx d 17 6 [some .null, l1, l2] st h Q = wp V (cdT Ev) mx d 17 7 [some .null, l1, l2] (.null :: st) h Q := x_aloadN (len := 1) rfl rfl
theorem s_17_7 {a : Nat} : wp V (cdT Ev) mx d 17 7 [l0, some (.ref a), l2] st h Q = wp V (cdT Ev) mx d 17 8 [l0, some (.ref a), l2] (.ref a :: st) h Q := x_aload (len := 1) rfl rfl
theorem s_17_7_n : wp V (cdT Ev) mx d 17 7 [l0, some .null, l2] st h Q = wp V (cdT Ev) mx d 17 8 [l0, some .null, l2] (.null :: st) h Q := x_aloadN (len := 1) rfl rfl
theorem s_17_8 {x : Int32} : wp V (cdT Ev) mx d 17 8 [l0, l1, some (.int x)] st h Q = wp V (cdT Ev) mx d 17 9 [l0, l1, some (.int x)] (.int x :: st) h Q := x_iload (len := 1) rfl rfl
theorem s_17_9 {a : Nat} : wp V (cdT Ev) mx d 17 9 [some (.ref a), l1, l2] st h Q = wp V (cdT Ev) mx d 17 10 [some (.ref a), l1, l2] (.ref a :: st) h Q := x_aload (len := 1) rfl rfl
theorem s_17_9_n : wp V (cdT Ev) mx d 17 9 [some .null, l1, l2] st h Q = wp V (cdT Ev) mx d 17 10 [some .null, l1, l2] (.null :: st) h Q := x_aloadN (len := 1) rfl rfl
theorem s_17_10 {a : Nat} : wp V (cdT Ev) mx d 17 10 ls (.ref a :: st) h Q = gf [1] 1 h a (fun v => wp V (cdT Ev) mx d 17 13 ls (v :: st) h Q) := x_getf rfl
theorem s_17_13 {x z : Int32} : wp V (cdT Ev) mx d 17 13 ls (.int z :: .int x :: st) h Q = wp V (cdT Ev) mx d 17 14 ls (.int (x - z) :: st) h Q := x_ib (f := fun x z => x - z) rfl
theorem s_17_14 {b : Nat} {v0 v1 : Value} (hst : st.length ≤ 4) : wp V (cdT Ev) mx d 17 14 ls (v1 :: v0 :: .ref b :: st) h Q = cv [(1, 29)] h b (fun y' => WP V (cdT Ev) mx d y' [.ref b, v0, v1] h (fun r h' => wp V (cdT Ev) mx d 17 17 ls (rts r st) h' Q)) := x_cv (sg := [v1, v0]) rfl hst rfl rfl
theorem s_17_17 {x : Int32} : wp V (cdT Ev) mx d 17 17 ls [.int x] h Q = Q (some (.int x)) h := x_ret rfl rfl
theorem e_17 {a : Nat} {p0 : Nat} {p1 : Int32} : WP V (cdT Ev) mx (d + 1) 17 [.ref a, .ref p0, .int p1] h Q = wp V (cdT Ev) mx d 17 0 [some (.ref a), some (.ref p0), some (.int p1)] [] h Q := propext (WP_eq (Nat.le_of_ble_eq_true rfl))
theorem s_18_0 {a : Nat} : wp V (cdT Ev) mx d 18 0 [some (.ref a), l1, l2] st h Q = wp V (cdT Ev) mx d 18 1 [some (.ref a), l1, l2] (.ref a :: st) h Q := x_aload (len := 1) rfl rfl
theorem s_18_0_n : wp V (cdT Ev) mx d 18 0 [some .null, l1, l2] st h Q = wp V (cdT Ev) mx d 18 1 [some .null, l1, l2] (.null :: st) h Q := x_aloadN (len := 1) rfl rfl
theorem s_18_1 {x : Int32} : wp V (cdT Ev) mx d 18 1 [l0, some (.int x), l2] st h Q = wp V (cdT Ev) mx d 18 2 [l0, some (.int x), l2] (.int x :: st) h Q := x_iload (len := 1) rfl rfl
theorem s_18_2 {x : Int32} : wp V (cdT Ev) mx d 18 2 [l0, l1, some (.int x)] st h Q = wp V (cdT Ev) mx d 18 3 [l0, l1, some (.int x)] (.int x :: st) h Q := x_iload (len := 1) rfl rfl
theorem s_18_3 {b : Nat} {v0 v1 : Value} (hst : st.length ≤ 4) : wp V (cdT Ev) mx d 18 3 ls (v1 :: v0 :: .ref b :: st) h Q = WP V (cdT Ev) mx d 24 [.ref b, v0, v1] h (fun r h' => wp V (cdT Ev) mx d 18 6 ls (rts r st) h' Q) := x_ci (sg := [v1, v0]) rfl hst rfl rfl
theorem s_18_6 : wp V (cdT Ev) mx d 18 6 ls [] h Q = Q none h := x_retv rfl
theorem e_18 {a : Nat} {p0 : Int32} {p1 : Int32} : WP V (cdT Ev) mx (d + 1) 18 [.ref a, .int p0, .int p1] h Q = wp V (cdT Ev) mx d 18 0 [some (.ref a), some (.int p0), some (.int p1)] [] h Q := propext (WP_eq (Nat.le_of_ble_eq_true rfl))
theorem s_19_0 {x : Int32} : wp V (cdT Ev) mx d 19 0 [l0, l1, some (.int x), l3] st h Q = wp V (cdT Ev) mx d 19 1 [l0, l1, some (.int x), l3] (.int x :: st) h Q := x_iload (len := 1) rfl rfl
theorem s_19_1 : wp V (cdT Ev) mx d 19 1 ls st h Q = wp V (cdT Ev) mx d 19 2 ls ((.int (2)) :: st) h Q := x_push (v := (.int (2))) (len := 1) rfl
theorem s_19_2 {x z : Int32} : wp V (cdT Ev) mx d 19 2 ls (.int z :: .int x :: st) h Q = (¬ z = 0 ∧ wp V (cdT Ev) mx d 19 3 ls (.int (x / z) :: st) h Q) := x_ibz (f := fun x z => x / z) rfl
theorem s_19_3 {x : Int32} : wp V (cdT Ev) mx d 19 3 ls [.int x] h Q = Q (some (.int x)) h := x_ret rfl rfl
theorem e_19 {a : Nat} {p0 : Int32} {p1 : Int32} {p2 : Int32} : WP V (cdT Ev) mx (d + 1) 19 [.ref a, .int p0, .int p1, .int p2] h Q = wp V (cdT Ev) mx d 19 0 [some (.ref a), some (.int p0), some (.int p1), some (.int p2)] [] h Q := propext (WP_eq (Nat.le_of_ble_eq_true rfl))
theorem s_20_0 {a : Nat} : wp V (cdT Ev) mx d 20 0 [l0, some (.ref a), l2] st h Q = wp V (cdT Ev) mx d 20 1 [l0, some (.ref a), l2] (.ref a :: st) h Q := x_aload (len := 1) rfl rfl
theorem s_20_0_n : wp V (cdT Ev) mx d 20 0 [l0, some .null, l2] st h Q = wp V (cdT Ev) mx d 20 1 [l0, some .null, l2] (.null :: st) h Q := x_aloadN (len := 1) rfl rfl
theorem s_20_1 : wp V (cdT Ev) mx d 20 1 ls st h Q = wp V (cdT Ev) mx d 20 3 ls ((.int (30)) :: st) h Q := x_push (v := (.int (30))) (len := 2) rfl
theorem s_20_3 {b : Nat} {v0 : Value} (hst : st.length ≤ 4) : wp V (cdT Ev) mx d 20 3 ls (v0 :: .ref b :: st) h Q = cv [(9, 47)] h b (fun y' => WP V (cdT Ev) mx d y' [.ref b, v0] h (fun r h' => wp V (cdT Ev) mx d 20 6 ls (rts r st) h' Q)) := x_cv (sg := [v0]) rfl hst rfl rfl
theorem s_20_6 {a : Nat} : wp V (cdT Ev) mx d 20 6 [some (.ref a), l1, l2] st h Q = wp V (cdT Ev) mx d 20 7 [some (.ref a), l1, l2] (.ref a :: st) h Q := x_aload (len := 1) rfl rfl
theorem s_20_6_n : wp V (cdT Ev) mx d 20 6 [some .null, l1, l2] st h Q = wp V (cdT Ev) mx d 20 7 [some .null, l1, l2] (.null :: st) h Q := x_aloadN (len := 1) rfl rfl
theorem s_20_7 {a : Nat} : wp V (cdT Ev) mx d 20 7 [l0, some (.ref a), l2] st h Q = wp V (cdT Ev) mx d 20 8 [l0, some (.ref a), l2] (.ref a :: st) h Q := x_aload (len := 1) rfl rfl
theorem s_20_7_n : wp V (cdT Ev) mx d 20 7 [l0, some .null, l2] st h Q = wp V (cdT Ev) mx d 20 8 [l0, some .null, l2] (.null :: st) h Q := x_aloadN (len := 1) rfl rfl
theorem s_20_8 {x : Int32} : wp V (cdT Ev) mx d 20 8 [l0, l1, some (.int x)] st h Q = wp V (cdT Ev) mx d 20 9 [l0, l1, some (.int x)] (.int x :: st) h Q := x_iload (len := 1) rfl rfl
theorem s_20_9 : wp V (cdT Ev) mx d 20 9 ls st h Q = wp V (cdT Ev) mx d 20 10 ls ((.int (3)) :: st) h Q := x_push (v := (.int (3))) (len := 1) rfl
theorem s_20_10 {x z : Int32} : wp V (cdT Ev) mx d 20 10 ls (.int z :: .int x :: st) h Q = wp V (cdT Ev) mx d 20 11 ls (.int (x * z) :: st) h Q := x_ib (f := fun x z => x * z) rfl
theorem s_20_11 {b : Nat} {v0 v1 : Value} (hst : st.length ≤ 4) : wp V (cdT Ev) mx d 20 11 ls (v1 :: v0 :: .ref b :: st) h Q = cv [(1, 27), (2, 27)] h b (fun y' => WP V (cdT Ev) mx d y' [.ref b, v0, v1] h (fun r h' => wp V (cdT Ev) mx d 20 14 ls (rts r st) h' Q)) := x_cv (sg := [v1, v0]) rfl hst rfl rfl
theorem s_20_14 {x : Int32} : wp V (cdT Ev) mx d 20 14 ls [.int x] h Q = Q (some (.int x)) h := x_ret rfl rfl
theorem e_20 {a : Nat} {p0 : Nat} {p1 : Int32} : WP V (cdT Ev) mx (d + 1) 20 [.ref a, .ref p0, .int p1] h Q = wp V (cdT Ev) mx d 20 0 [some (.ref a), some (.ref p0), some (.int p1)] [] h Q := propext (WP_eq (Nat.le_of_ble_eq_true rfl))
theorem s_21_0 {a : Nat} : wp V (cdT Ev) mx d 21 0 [some (.ref a), l1, l2] st h Q = wp V (cdT Ev) mx d 21 1 [some (.ref a), l1, l2] (.ref a :: st) h Q := x_aload (len := 1) rfl rfl
theorem s_21_0_n : wp V (cdT Ev) mx d 21 0 [some .null, l1, l2] st h Q = wp V (cdT Ev) mx d 21 1 [some .null, l1, l2] (.null :: st) h Q := x_aloadN (len := 1) rfl rfl
theorem s_21_1 {x : Int32} : wp V (cdT Ev) mx d 21 1 [l0, some (.int x), l2] st h Q = wp V (cdT Ev) mx d 21 2 [l0, some (.int x), l2] (.int x :: st) h Q := x_iload (len := 1) rfl rfl
theorem s_21_2 {x : Int32} : wp V (cdT Ev) mx d 21 2 [l0, l1, some (.int x)] st h Q = wp V (cdT Ev) mx d 21 3 [l0, l1, some (.int x)] (.int x :: st) h Q := x_iload (len := 1) rfl rfl
theorem s_21_3 {b : Nat} {v0 v1 : Value} (hst : st.length ≤ 4) : wp V (cdT Ev) mx d 21 3 ls (v1 :: v0 :: .ref b :: st) h Q = WP V (cdT Ev) mx d 24 [.ref b, v0, v1] h (fun r h' => wp V (cdT Ev) mx d 21 6 ls (rts r st) h' Q) := x_ci (sg := [v1, v0]) rfl hst rfl rfl
theorem s_21_6 : wp V (cdT Ev) mx d 21 6 ls [] h Q = Q none h := x_retv rfl
theorem e_21 {a : Nat} {p0 : Int32} {p1 : Int32} : WP V (cdT Ev) mx (d + 1) 21 [.ref a, .int p0, .int p1] h Q = wp V (cdT Ev) mx d 21 0 [some (.ref a), some (.int p0), some (.int p1)] [] h Q := propext (WP_eq (Nat.le_of_ble_eq_true rfl))
theorem s_22_0 {x : Int32} : wp V (cdT Ev) mx d 22 0 [l0, l1, some (.int x), l3] st h Q = wp V (cdT Ev) mx d 22 1 [l0, l1, some (.int x), l3] (.int x :: st) h Q := x_iload (len := 1) rfl rfl
theorem s_22_1 {x : Int32} : wp V (cdT Ev) mx d 22 1 [l0, l1, l2, some (.int x)] st h Q = wp V (cdT Ev) mx d 22 2 [l0, l1, l2, some (.int x)] (.int x :: st) h Q := x_iload (len := 1) rfl rfl
theorem s_22_2 {x z : Int32} : wp V (cdT Ev) mx d 22 2 ls (.int z :: .int x :: st) h Q = wp V (cdT Ev) mx d 22 3 ls (.int (x - z) :: st) h Q := x_ib (f := fun x z => x - z) rfl
theorem s_22_3 {x : Int32} : wp V (cdT Ev) mx d 22 3 ls [.int x] h Q = Q (some (.int x)) h := x_ret rfl rfl
theorem e_22 {a : Nat} {p0 : Int32} {p1 : Int32} {p2 : Int32} : WP V (cdT Ev) mx (d + 1) 22 [.ref a, .int p0, .int p1, .int p2] h Q = wp V (cdT Ev) mx d 22 0 [some (.ref a), some (.int p0), some (.int p1), some (.int p2)] [] h Q := propext (WP_eq (Nat.le_of_ble_eq_true rfl))
theorem s_23_0 {a : Nat} : wp V (cdT Ev) mx d 23 0 [l0, some (.ref a), l2] st h Q = wp V (cdT Ev) mx d 23 1 [l0, some (.ref a), l2] (.ref a :: st) h Q := x_aload (len := 1) rfl rfl
theorem s_23_0_n : wp V (cdT Ev) mx d 23 0 [l0, some .null, l2] st h Q = wp V (cdT Ev) mx d 23 1 [l0, some .null, l2] (.null :: st) h Q := x_aloadN (len := 1) rfl rfl
theorem s_23_1 : wp V (cdT Ev) mx d 23 1 ls st h Q = wp V (cdT Ev) mx d 23 3 ls ((.int (40)) :: st) h Q := x_push (v := (.int (40))) (len := 2) rfl
theorem s_23_3 {b : Nat} {v0 : Value} (hst : st.length ≤ 4) : wp V (cdT Ev) mx d 23 3 ls (v0 :: .ref b :: st) h Q = cv [(9, 47)] h b (fun y' => WP V (cdT Ev) mx d y' [.ref b, v0] h (fun r h' => wp V (cdT Ev) mx d 23 6 ls (rts r st) h' Q)) := x_cv (sg := [v0]) rfl hst rfl rfl
theorem s_23_6 {a : Nat} : wp V (cdT Ev) mx d 23 6 [some (.ref a), l1, l2] st h Q = wp V (cdT Ev) mx d 23 7 [some (.ref a), l1, l2] (.ref a :: st) h Q := x_aload (len := 1) rfl rfl
theorem s_23_6_n : wp V (cdT Ev) mx d 23 6 [some .null, l1, l2] st h Q = wp V (cdT Ev) mx d 23 7 [some .null, l1, l2] (.null :: st) h Q := x_aloadN (len := 1) rfl rfl
theorem s_23_7 {a : Nat} : wp V (cdT Ev) mx d 23 7 [l0, some (.ref a), l2] st h Q = wp V (cdT Ev) mx d 23 8 [l0, some (.ref a), l2] (.ref a :: st) h Q := x_aload (len := 1) rfl rfl
theorem s_23_7_n : wp V (cdT Ev) mx d 23 7 [l0, some .null, l2] st h Q = wp V (cdT Ev) mx d 23 8 [l0, some .null, l2] (.null :: st) h Q := x_aloadN (len := 1) rfl rfl
theorem s_23_8 {x : Int32} : wp V (cdT Ev) mx d 23 8 [l0, l1, some (.int x)] st h Q = wp V (cdT Ev) mx d 23 9 [l0, l1, some (.int x)] (.int x :: st) h Q := x_iload (len := 1) rfl rfl
theorem s_23_9 {b : Nat} {v0 v1 : Value} (hst : st.length ≤ 4) : wp V (cdT Ev) mx d 23 9 ls (v1 :: v0 :: .ref b :: st) h Q = cv [(3, 29), (8, 29)] h b (fun y' => WP V (cdT Ev) mx d y' [.ref b, v0, v1] h (fun r h' => wp V (cdT Ev) mx d 23 12 ls (rts r st) h' Q)) := x_cv (sg := [v1, v0]) rfl hst rfl rfl
theorem s_23_12 {a : Nat} : wp V (cdT Ev) mx d 23 12 [some (.ref a), l1, l2] st h Q = wp V (cdT Ev) mx d 23 13 [some (.ref a), l1, l2] (.ref a :: st) h Q := x_aload (len := 1) rfl rfl
theorem s_23_12_n : wp V (cdT Ev) mx d 23 12 [some .null, l1, l2] st h Q = wp V (cdT Ev) mx d 23 13 [some .null, l1, l2] (.null :: st) h Q := x_aloadN (len := 1) rfl rfl
theorem s_23_13 {a : Nat} : wp V (cdT Ev) mx d 23 13 [l0, some (.ref a), l2] st h Q = wp V (cdT Ev) mx d 23 14 [l0, some (.ref a), l2] (.ref a :: st) h Q := x_aload (len := 1) rfl rfl
theorem s_23_13_n : wp V (cdT Ev) mx d 23 13 [l0, some .null, l2] st h Q = wp V (cdT Ev) mx d 23 14 [l0, some .null, l2] (.null :: st) h Q := x_aloadN (len := 1) rfl rfl
theorem s_23_14 : wp V (cdT Ev) mx d 23 14 ls st h Q = wp V (cdT Ev) mx d 23 15 ls ((.int (1)) :: st) h Q := x_push (v := (.int (1))) (len := 1) rfl
theorem s_23_15 {b : Nat} {v0 v1 : Value} (hst : st.length ≤ 4) : wp V (cdT Ev) mx d 23 15 ls (v1 :: v0 :: .ref b :: st) h Q = cv [(3, 28), (8, 44)] h b (fun y' => WP V (cdT Ev) mx d y' [.ref b, v0, v1] h (fun r h' => wp V (cdT Ev) mx d 23 18 ls (rts r st) h' Q)) := x_cv (sg := [v1, v0]) rfl hst rfl rfl
theorem s_23_18 {x z : Int32} : wp V (cdT Ev) mx d 23 18 ls (.int z :: .int x :: st) h Q = wp V (cdT Ev) mx d 23 19 ls (.int (x + z) :: st) h Q := x_ib (f := fun x z => x + z) rfl
theorem s_23_19 {x : Int32} : wp V (cdT Ev) mx d 23 19 ls [.int x] h Q = Q (some (.int x)) h := x_ret rfl rfl
theorem e_23 {a : Nat} {p0 : Nat} {p1 : Int32} : WP V (cdT Ev) mx (d + 1) 23 [.ref a, .ref p0, .int p1] h Q = wp V (cdT Ev) mx d 23 0 [some (.ref a), some (.ref p0), some (.int p1)] [] h Q := propext (WP_eq (Nat.le_of_ble_eq_true rfl))
theorem s_24_0 {a : Nat} : wp V (cdT Ev) mx d 24 0 [some (.ref a), l1, l2] st h Q = wp V (cdT Ev) mx d 24 1 [some (.ref a), l1, l2] (.ref a :: st) h Q := x_aload (len := 1) rfl rfl
theorem s_24_0_n : wp V (cdT Ev) mx d 24 0 [some .null, l1, l2] st h Q = wp V (cdT Ev) mx d 24 1 [some .null, l1, l2] (.null :: st) h Q := x_aloadN (len := 1) rfl rfl
theorem s_24_1 {a : Nat} (hst : st.length ≤ 4) : wp V (cdT Ev) mx d 24 1 ls (.ref a :: st) h Q = wp V (cdT Ev) mx d 24 4 ls st h Q := x_oi rfl hst
theorem s_24_4 {a : Nat} : wp V (cdT Ev) mx d 24 4 [some (.ref a), l1, l2] st h Q = wp V (cdT Ev) mx d 24 5 [some (.ref a), l1, l2] (.ref a :: st) h Q := x_aload (len := 1) rfl rfl
theorem s_24_4_n : wp V (cdT Ev) mx d 24 4 [some .null, l1, l2] st h Q = wp V (cdT Ev) mx d 24 5 [some .null, l1, l2] (.null :: st) h Q := x_aloadN (len := 1) rfl rfl
theorem s_24_5 {x : Int32} : wp V (cdT Ev) mx d 24 5 [l0, some (.int x), l2] st h Q = wp V (cdT Ev) mx d 24 6 [l0, some (.int x), l2] (.int x :: st) h Q := x_iload (len := 1) rfl rfl
theorem s_24_6 {w : Value} {a : Nat} : wp V (cdT Ev) mx d 24 6 ls (w :: .ref a :: st) h Q = pf [1, 2, 3, 4, 5, 6, 8] 0 0 w h a (fun hh => wp V (cdT Ev) mx d 24 9 ls st hh Q) := x_putf rfl
theorem s_24_9 {a : Nat} : wp V (cdT Ev) mx d 24 9 [some (.ref a), l1, l2] st h Q = wp V (cdT Ev) mx d 24 10 [some (.ref a), l1, l2] (.ref a :: st) h Q := x_aload (len := 1) rfl rfl
theorem s_24_9_n : wp V (cdT Ev) mx d 24 9 [some .null, l1, l2] st h Q = wp V (cdT Ev) mx d 24 10 [some .null, l1, l2] (.null :: st) h Q := x_aloadN (len := 1) rfl rfl
theorem s_24_10 {x : Int32} : wp V (cdT Ev) mx d 24 10 [l0, l1, some (.int x)] st h Q = wp V (cdT Ev) mx d 24 11 [l0, l1, some (.int x)] (.int x :: st) h Q := x_iload (len := 1) rfl rfl
theorem s_24_11 {w : Value} {a : Nat} : wp V (cdT Ev) mx d 24 11 ls (w :: .ref a :: st) h Q = pf [1, 2, 3, 4, 5, 6, 8] 1 0 w h a (fun hh => wp V (cdT Ev) mx d 24 14 ls st hh Q) := x_putf rfl
theorem s_24_14 : wp V (cdT Ev) mx d 24 14 ls [] h Q = Q none h := x_retv rfl
theorem e_24 {a : Nat} {p0 : Int32} {p1 : Int32} : WP V (cdT Ev) mx (d + 1) 24 [.ref a, .int p0, .int p1] h Q = wp V (cdT Ev) mx d 24 0 [some (.ref a), some (.int p0), some (.int p1)] [] h Q := propext (WP_eq (Nat.le_of_ble_eq_true rfl))
theorem s_25_0 {a : Nat} : wp V (cdT Ev) mx d 25 0 [some (.ref a), l1] st h Q = wp V (cdT Ev) mx d 25 1 [some (.ref a), l1] (.ref a :: st) h Q := x_aload (len := 1) rfl rfl
theorem s_25_0_n : wp V (cdT Ev) mx d 25 0 [some .null, l1] st h Q = wp V (cdT Ev) mx d 25 1 [some .null, l1] (.null :: st) h Q := x_aloadN (len := 1) rfl rfl
theorem s_25_1 {a : Nat} : wp V (cdT Ev) mx d 25 1 [l0, some (.ref a)] st h Q = wp V (cdT Ev) mx d 25 2 [l0, some (.ref a)] (.ref a :: st) h Q := x_aload (len := 1) rfl rfl
theorem s_25_1_n : wp V (cdT Ev) mx d 25 1 [l0, some .null] st h Q = wp V (cdT Ev) mx d 25 2 [l0, some .null] (.null :: st) h Q := x_aloadN (len := 1) rfl rfl
theorem s_25_2 {a : Nat} : wp V (cdT Ev) mx d 25 2 ls (.ref a :: st) h Q = gf [1, 2, 3, 4, 5, 6, 8] 2 h a (fun v => wp V (cdT Ev) mx d 25 5 ls (v :: st) h Q) := x_getf rfl
theorem s_25_5 {w : Value} {a : Nat} : wp V (cdT Ev) mx d 25 5 ls (w :: .ref a :: st) h Q = pf [1, 2, 3, 4, 5, 6, 8] 2 0 w h a (fun hh => wp V (cdT Ev) mx d 25 8 ls st hh Q) := x_putf rfl
theorem s_25_8 {a : Nat} : wp V (cdT Ev) mx d 25 8 [some (.ref a), l1] st h Q = wp V (cdT Ev) mx d 25 9 [some (.ref a), l1] (.ref a :: st) h Q := x_aload (len := 1) rfl rfl
theorem s_25_8_n : wp V (cdT Ev) mx d 25 8 [some .null, l1] st h Q = wp V (cdT Ev) mx d 25 9 [some .null, l1] (.null :: st) h Q := x_aloadN (len := 1) rfl rfl
theorem s_25_9 {a : Nat} : wp V (cdT Ev) mx d 25 9 [l0, some (.ref a)] st h Q = wp V (cdT Ev) mx d 25 10 [l0, some (.ref a)] (.ref a :: st) h Q := x_aload (len := 1) rfl rfl
theorem s_25_9_n : wp V (cdT Ev) mx d 25 9 [l0, some .null] st h Q = wp V (cdT Ev) mx d 25 10 [l0, some .null] (.null :: st) h Q := x_aloadN (len := 1) rfl rfl
theorem s_25_10 {a : Nat} : wp V (cdT Ev) mx d 25 10 ls (.ref a :: st) h Q = gf [1, 2, 3, 4, 5, 6, 8] 3 h a (fun v => wp V (cdT Ev) mx d 25 13 ls (v :: st) h Q) := x_getf rfl
theorem s_25_13 {w : Value} {a : Nat} : wp V (cdT Ev) mx d 25 13 ls (w :: .ref a :: st) h Q = pf [1, 2, 3, 4, 5, 6, 8] 3 0 w h a (fun hh => wp V (cdT Ev) mx d 25 16 ls st hh Q) := x_putf rfl
theorem s_25_16 {a : Nat} : wp V (cdT Ev) mx d 25 16 [some (.ref a), l1] st h Q = wp V (cdT Ev) mx d 25 17 [some (.ref a), l1] (.ref a :: st) h Q := x_aload (len := 1) rfl rfl
theorem s_25_16_n : wp V (cdT Ev) mx d 25 16 [some .null, l1] st h Q = wp V (cdT Ev) mx d 25 17 [some .null, l1] (.null :: st) h Q := x_aloadN (len := 1) rfl rfl
theorem s_25_17 {a : Nat} : wp V (cdT Ev) mx d 25 17 [l0, some (.ref a)] st h Q = wp V (cdT Ev) mx d 25 18 [l0, some (.ref a)] (.ref a :: st) h Q := x_aload (len := 1) rfl rfl
theorem s_25_17_n : wp V (cdT Ev) mx d 25 17 [l0, some .null] st h Q = wp V (cdT Ev) mx d 25 18 [l0, some .null] (.null :: st) h Q := x_aloadN (len := 1) rfl rfl
theorem s_25_18 {a : Nat} : wp V (cdT Ev) mx d 25 18 ls (.ref a :: st) h Q = gf [1, 2, 3, 4, 5, 6, 8] 4 h a (fun v => wp V (cdT Ev) mx d 25 21 ls (v :: st) h Q) := x_getf rfl
theorem s_25_21 {w : Value} {a : Nat} : wp V (cdT Ev) mx d 25 21 ls (w :: .ref a :: st) h Q = pf [1, 2, 3, 4, 5, 6, 8] 4 1 w h a (fun hh => wp V (cdT Ev) mx d 25 24 ls st hh Q) := x_putf rfl
theorem s_25_24 {a : Nat} : wp V (cdT Ev) mx d 25 24 [some (.ref a), l1] st h Q = wp V (cdT Ev) mx d 25 25 [some (.ref a), l1] (.ref a :: st) h Q := x_aload (len := 1) rfl rfl
theorem s_25_24_n : wp V (cdT Ev) mx d 25 24 [some .null, l1] st h Q = wp V (cdT Ev) mx d 25 25 [some .null, l1] (.null :: st) h Q := x_aloadN (len := 1) rfl rfl
theorem s_25_25 {a : Nat} : wp V (cdT Ev) mx d 25 25 [l0, some (.ref a)] st h Q = wp V (cdT Ev) mx d 25 26 [l0, some (.ref a)] (.ref a :: st) h Q := x_aload (len := 1) rfl rfl
theorem s_25_25_n : wp V (cdT Ev) mx d 25 25 [l0, some .null] st h Q = wp V (cdT Ev) mx d 25 26 [l0, some .null] (.null :: st) h Q := x_aloadN (len := 1) rfl rfl
theorem s_25_26 {a : Nat} : wp V (cdT Ev) mx d 25 26 ls (.ref a :: st) h Q = gf [1, 2, 3, 4, 5, 6, 8] 5 h a (fun v => wp V (cdT Ev) mx d 25 29 ls (v :: st) h Q) := x_getf rfl
theorem s_25_29 {w : Value} {a : Nat} : wp V (cdT Ev) mx d 25 29 ls (w :: .ref a :: st) h Q = pf [1, 2, 3, 4, 5, 6, 8] 5 0 w h a (fun hh => wp V (cdT Ev) mx d 25 32 ls st hh Q) := x_putf rfl
theorem s_25_32 : wp V (cdT Ev) mx d 25 32 ls [] h Q = Q none h := x_retv rfl
theorem e_25 {a : Nat} {p0 : Nat} : WP V (cdT Ev) mx (d + 1) 25 [.ref a, .ref p0] h Q = wp V (cdT Ev) mx d 25 0 [some (.ref a), some (.ref p0)] [] h Q := propext (WP_eq (Nat.le_of_ble_eq_true rfl))
theorem s_26_0 {x : Int32} : wp V (cdT Ev) mx d 26 0 [l0, l1, some (.int x), l3] st h Q = wp V (cdT Ev) mx d 26 1 [l0, l1, some (.int x), l3] (.int x :: st) h Q := x_iload (len := 1) rfl rfl
theorem s_26_1 {x : Int32} : wp V (cdT Ev) mx d 26 1 ls [.int x] h Q = Q (some (.int x)) h := x_ret rfl rfl
theorem e_26 {a : Nat} {p0 : Int32} {p1 : Int32} {p2 : Int32} : WP V (cdT Ev) mx (d + 1) 26 [.ref a, .int p0, .int p1, .int p2] h Q = wp V (cdT Ev) mx d 26 0 [some (.ref a), some (.int p0), some (.int p1), some (.int p2)] [] h Q := propext (WP_eq (Nat.le_of_ble_eq_true rfl))
theorem s_27_0 {a : Nat} : wp V (cdT Ev) mx d 27 0 [l0, some (.ref a), l2] st h Q = wp V (cdT Ev) mx d 27 1 [l0, some (.ref a), l2] (.ref a :: st) h Q := x_aload (len := 1) rfl rfl
theorem s_27_0_n : wp V (cdT Ev) mx d 27 0 [l0, some .null, l2] st h Q = wp V (cdT Ev) mx d 27 1 [l0, some .null, l2] (.null :: st) h Q := x_aloadN (len := 1) rfl rfl
theorem s_27_1 : wp V (cdT Ev) mx d 27 1 ls st h Q = wp V (cdT Ev) mx d 27 3 ls ((.int (10)) :: st) h Q := x_push (v := (.int (10))) (len := 2) rfl
theorem s_27_3 {b : Nat} {v0 : Value} (hst : st.length ≤ 4) : wp V (cdT Ev) mx d 27 3 ls (v0 :: .ref b :: st) h Q = cv [(9, 47)] h b (fun y' => WP V (cdT Ev) mx d y' [.ref b, v0] h (fun r h' => wp V (cdT Ev) mx d 27 6 ls (rts r st) h' Q)) := x_cv (sg := [v0]) rfl hst rfl rfl
theorem s_27_6 {x : Int32} : wp V (cdT Ev) mx d 27 6 [l0, l1, some (.int x)] st h Q = wp V (cdT Ev) mx d 27 7 [l0, l1, some (.int x)] (.int x :: st) h Q := x_iload (len := 1) rfl rfl
theorem s_27_7 {a : Nat} : wp V (cdT Ev) mx d 27 7 [some (.ref a), l1, l2] st h Q = wp V (cdT Ev) mx d 27 8 [some (.ref a), l1, l2] (.ref a :: st) h Q := x_aload (len := 1) rfl rfl
theorem s_27_7_n : wp V (cdT Ev) mx d 27 7 [some .null, l1, l2] st h Q = wp V (cdT Ev) mx d 27 8 [some .null, l1, l2] (.null :: st) h Q := x_aloadN (len := 1) rfl rfl
theorem s_27_8 {a : Nat} : wp V (cdT Ev) mx d 27 8 ls (.ref a :: st) h Q = gf [1, 2, 3, 4, 5, 6, 8] 1 h a (fun v => wp V (cdT Ev) mx d 27 11 ls (v :: st) h Q) := x_getf rfl
theorem s_27_11 {x z : Int32} : wp V (cdT Ev) mx d 27 11 ls (.int z :: .int x :: st) h Q = wp V (cdT Ev) mx d 27 12 ls (.int (x + z) :: st) h Q := x_ib (f := fun x z => x + z) rfl
theorem s_27_12 {x : Int32} : wp V (cdT Ev) mx d 27 12 ls [.int x] h Q = Q (some (.int x)) h := x_ret rfl rfl
theorem e_27 {a : Nat} {p0 : Nat} {p1 : Int32} : WP V (cdT Ev) mx (d + 1) 27 [.ref a, .ref p0, .int p1] h Q = wp V (cdT Ev) mx d 27 0 [some (.ref a), some (.ref p0), some (.int p1)] [] h Q := propext (WP_eq (Nat.le_of_ble_eq_true rfl))
theorem s_28_0 {a : Nat} : wp V (cdT Ev) mx d 28 0 [l0, some (.ref a), l2] st h Q = wp V (cdT Ev) mx d 28 1 [l0, some (.ref a), l2] (.ref a :: st) h Q := x_aload (len := 1) rfl rfl
theorem s_28_0_n : wp V (cdT Ev) mx d 28 0 [l0, some .null, l2] st h Q = wp V (cdT Ev) mx d 28 1 [l0, some .null, l2] (.null :: st) h Q := x_aloadN (len := 1) rfl rfl
theorem s_28_1 : wp V (cdT Ev) mx d 28 1 ls st h Q = wp V (cdT Ev) mx d 28 3 ls ((.int (11)) :: st) h Q := x_push (v := (.int (11))) (len := 2) rfl
theorem s_28_3 {b : Nat} {v0 : Value} (hst : st.length ≤ 4) : wp V (cdT Ev) mx d 28 3 ls (v0 :: .ref b :: st) h Q = cv [(9, 47)] h b (fun y' => WP V (cdT Ev) mx d y' [.ref b, v0] h (fun r h' => wp V (cdT Ev) mx d 28 6 ls (rts r st) h' Q)) := x_cv (sg := [v0]) rfl hst rfl rfl
theorem s_28_6 {a : Nat} : wp V (cdT Ev) mx d 28 6 [some (.ref a), l1, l2] st h Q = wp V (cdT Ev) mx d 28 7 [some (.ref a), l1, l2] (.ref a :: st) h Q := x_aload (len := 1) rfl rfl
theorem s_28_6_n : wp V (cdT Ev) mx d 28 6 [some .null, l1, l2] st h Q = wp V (cdT Ev) mx d 28 7 [some .null, l1, l2] (.null :: st) h Q := x_aloadN (len := 1) rfl rfl
theorem s_28_7 {a : Nat} : wp V (cdT Ev) mx d 28 7 [l0, some (.ref a), l2] st h Q = wp V (cdT Ev) mx d 28 8 [l0, some (.ref a), l2] (.ref a :: st) h Q := x_aload (len := 1) rfl rfl
theorem s_28_7_n : wp V (cdT Ev) mx d 28 7 [l0, some .null, l2] st h Q = wp V (cdT Ev) mx d 28 8 [l0, some .null, l2] (.null :: st) h Q := x_aloadN (len := 1) rfl rfl
theorem s_28_8 {x : Int32} : wp V (cdT Ev) mx d 28 8 [l0, l1, some (.int x)] st h Q = wp V (cdT Ev) mx d 28 9 [l0, l1, some (.int x)] (.int x :: st) h Q := x_iload (len := 1) rfl rfl
theorem s_28_9 {b : Nat} {v0 v1 : Value} (hst : st.length ≤ 4) : wp V (cdT Ev) mx d 28 9 ls (v1 :: v0 :: .ref b :: st) h Q = cv [(1, 20), (2, 20), (3, 27), (4, 27), (5, 32), (6, 27), (8, 45)] h b (fun y' => WP V (cdT Ev) mx d y' [.ref b, v0, v1] h (fun r h' => wp V (cdT Ev) mx d 28 12 ls (rts r st) h' Q)) := x_cv (sg := [v1, v0]) rfl hst rfl rfl
theorem s_28_12 {a : Nat} : wp V (cdT Ev) mx d 28 12 [some (.ref a), l1, l2] st h Q = wp V (cdT Ev) mx d 28 13 [some (.ref a), l1, l2] (.ref a :: st) h Q := x_aload (len := 1) rfl rfl
theorem s_28_12_n : wp V (cdT Ev) mx d 28 12 [some .null, l1, l2] st h Q = wp V (cdT Ev) mx d 28 13 [some .null, l1, l2] (.null :: st) h Q := x_aloadN (len := 1) rfl rfl
theorem s_28_13 {a : Nat} : wp V (cdT Ev) mx d 28 13 ls (.ref a :: st) h Q = gf [1, 2, 3, 4, 5, 6, 8] 2 h a (fun v => wp V (cdT Ev) mx d 28 16 ls (v :: st) h Q) := x_getf rfl
theorem s_28_16 {x z : Int32} : wp V (cdT Ev) mx d 28 16 ls (.int z :: .int x :: st) h Q = wp V (cdT Ev) mx d 28 17 ls (.int (x - z) :: st) h Q := x_ib (f := fun x z => x - z) rfl
theorem s_28_17 {x : Int32} : wp V (cdT Ev) mx d 28 17 ls [.int x] h Q = Q (some (.int x)) h := x_ret rfl rfl
theorem e_28 {a : Nat} {p0 : Nat} {p1 : Int32} : WP V (cdT Ev) mx (d + 1) 28 [.ref a, .ref p0, .int p1] h Q = wp V (cdT Ev) mx d 28 0 [some (.ref a), some (.ref p0), some (.int p1)] [] h Q := propext (WP_eq (Nat.le_of_ble_eq_true rfl))
theorem s_29_0 {a : Nat} : wp V (cdT Ev) mx d 29 0 [l0, some (.ref a), l2] st h Q = wp V (cdT Ev) mx d 29 1 [l0, some (.ref a), l2] (.ref a :: st) h Q := x_aload (len := 1) rfl rfl
theorem s_29_0_n : wp V (cdT Ev) mx d 29 0 [l0, some .null, l2] st h Q = wp V (cdT Ev) mx d 29 1 [l0, some .null, l2] (.null :: st) h Q := x_aloadN (len := 1) rfl rfl
theorem s_29_1 : wp V (cdT Ev) mx d 29 1 ls st h Q = wp V (cdT Ev) mx d 29 3 ls ((.int (12)) :: st) h Q := x_push (v := (.int (12))) (len := 2) rfl
theorem s_29_3 {b : Nat} {v0 : Value} (hst : st.length ≤ 4) : wp V (cdT Ev) mx d 29 3 ls (v0 :: .ref b :: st) h Q = cv [(9, 47)] h b (fun y' => WP V (cdT Ev) mx d y' [.ref b, v0] h (fun r h' => wp V (cdT Ev) mx d 29 6 ls (rts r st) h' Q)) := x_cv (sg := [v0]) rfl hst rfl rfl
theorem s_29_6 {a : Nat} : wp V (cdT Ev) mx d 29 6 [some (.ref a), l1, l2] st h Q = wp V (cdT Ev) mx d 29 7 [some (.ref a), l1, l2] (.ref a :: st) h Q := x_aload (len := 1) rfl rfl
theorem s_29_6_n : wp V (cdT Ev) mx d 29 6 [some .null, l1, l2] st h Q = wp V (cdT Ev) mx d 29 7 [some .null, l1, l2] (.null :: st) h Q := x_aloadN (len := 1) rfl rfl
theorem s_29_7 {a : Nat} : wp V (cdT Ev) mx d 29 7 [l0, some (.ref a), l2] st h Q = wp V (cdT Ev) mx d 29 8 [l0, some (.ref a), l2] (.ref a :: st) h Q := x_aload (len := 1) rfl rfl
theorem s_29_7_n : wp V (cdT Ev) mx d 29 7 [l0, some .null, l2] st h Q = wp V (cdT Ev) mx d 29 8 [l0, some .null, l2] (.null :: st) h Q := x_aloadN (len := 1) rfl rfl
theorem s_29_8 {x : Int32} : wp V (cdT Ev) mx d 29 8 [l0, l1, some (.int x)] st h Q = wp V (cdT Ev) mx d 29 9 [l0, l1, some (.int x)] (.int x :: st) h Q := x_iload (len := 1) rfl rfl
theorem s_29_9 {b : Nat} {v0 v1 : Value} (hst : st.length ≤ 4) : wp V (cdT Ev) mx d 29 9 ls (v1 :: v0 :: .ref b :: st) h Q = cv [(1, 28), (2, 28), (3, 28), (4, 28), (5, 33), (6, 36), (8, 44)] h b (fun y' => WP V (cdT Ev) mx d y' [.ref b, v0, v1] h (fun r h' => wp V (cdT Ev) mx d 29 12 ls (rts r st) h' Q)) := x_cv (sg := [v1, v0]) rfl hst rfl rfl
theorem s_29_12 : wp V (cdT Ev) mx d 29 12 ls st h Q = wp V (cdT Ev) mx d 29 13 ls ((.int (2)) :: st) h Q := x_push (v := (.int (2))) (len := 1) rfl
theorem s_29_13 {x z : Int32} : wp V (cdT Ev) mx d 29 13 ls (.int z :: .int x :: st) h Q = wp V (cdT Ev) mx d 29 14 ls (.int (x * z) :: st) h Q := x_ib (f := fun x z => x * z) rfl
theorem s_29_14 {x : Int32} : wp V (cdT Ev) mx d 29 14 ls [.int x] h Q = Q (some (.int x)) h := x_ret rfl rfl
theorem e_29 {a : Nat} {p0 : Nat} {p1 : Int32} : WP V (cdT Ev) mx (d + 1) 29 [.ref a, .ref p0, .int p1] h Q = wp V (cdT Ev) mx d 29 0 [some (.ref a), some (.ref p0), some (.int p1)] [] h Q := propext (WP_eq (Nat.le_of_ble_eq_true rfl))
theorem s_30_0 {a : Nat} : wp V (cdT Ev) mx d 30 0 [some (.ref a), l1, l2] st h Q = wp V (cdT Ev) mx d 30 1 [some (.ref a), l1, l2] (.ref a :: st) h Q := x_aload (len := 1) rfl rfl
theorem s_30_0_n : wp V (cdT Ev) mx d 30 0 [some .null, l1, l2] st h Q = wp V (cdT Ev) mx d 30 1 [some .null, l1, l2] (.null :: st) h Q := x_aloadN (len := 1) rfl rfl
theorem s_30_1 {x : Int32} : wp V (cdT Ev) mx d 30 1 [l0, some (.int x), l2] st h Q = wp V (cdT Ev) mx d 30 2 [l0, some (.int x), l2] (.int x :: st) h Q := x_iload (len := 1) rfl rfl
theorem s_30_2 {x : Int32} : wp V (cdT Ev) mx d 30 2 [l0, l1, some (.int x)] st h Q = wp V (cdT Ev) mx d 30 3 [l0, l1, some (.int x)] (.int x :: st) h Q := x_iload (len := 1) rfl rfl
theorem s_30_3 {b : Nat} {v0 v1 : Value} (hst : st.length ≤ 4) : wp V (cdT Ev) mx d 30 3 ls (v1 :: v0 :: .ref b :: st) h Q = WP V (cdT Ev) mx d 34 [.ref b, v0, v1] h (fun r h' => wp V (cdT Ev) mx d 30 6 ls (rts r st) h' Q) := x_ci (sg := [v1, v0]) rfl hst rfl rfl
theorem s_30_6 : wp V (cdT Ev) mx d 30 6 ls [] h Q = Q none h := x_retv rfl
theorem e_30 {a : Nat} {p0 : Int32} {p1 : Int32} : WP V (cdT Ev) mx (d + 1) 30 [.ref a, .int p0, .int p1] h Q = wp V (cdT Ev) mx d 30 0 [some (.ref a), some (.int p0), some (.int p1)] [] h Q := propext (WP_eq (Nat.le_of_ble_eq_true rfl))
theorem s_31_0 {a : Nat} : wp V (cdT Ev) mx d 31 0 [some (.ref a), l1, l2, l3, l4] st h Q = wp V (cdT Ev) mx d 31 1 [some (.ref a), l1, l2, l3, l4] (.ref a :: st) h Q := x_aload (len := 1) rfl rfl
theorem s_31_0_n : wp V (cdT Ev) mx d 31 0 [some .null, l1, l2, l3, l4] st h Q = wp V (cdT Ev) mx d 31 1 [some .null, l1, l2, l3, l4] (.null :: st) h Q := x_aloadN (len := 1) rfl rfl
theorem s_31_1 {x : Int32} : wp V (cdT Ev) mx d 31 1 [l0, some (.int x), l2, l3, l4] st h Q = wp V (cdT Ev) mx d 31 2 [l0, some (.int x), l2, l3, l4] (.int x :: st) h Q := x_iload (len := 1) rfl rfl
theorem s_31_2 {x : Int32} : wp V (cdT Ev) mx d 31 2 [l0, l1, some (.int x), l3, l4] st h Q = wp V (cdT Ev) mx d 31 3 [l0, l1, some (.int x), l3, l4] (.int x :: st) h Q := x_iload (len := 1) rfl rfl
theorem s_31_3 {x : Int32} : wp V (cdT Ev) mx d 31 3 [l0, l1, l2, some (.int x), l4] st h Q = wp V (cdT Ev) mx d 31 4 [l0, l1, l2, some (.int x), l4] (.int x :: st) h Q := x_iload (len := 1) rfl rfl
theorem s_31_4 {b : Nat} {v0 v1 v2 : Value} (hst : st.length ≤ 4) : wp V (cdT Ev) mx d 31 4 ls (v2 :: v1 :: v0 :: .ref b :: st) h Q = cv [(5, 35)] h b (fun y' => WP V (cdT Ev) mx d y' [.ref b, v0, v1, v2] h (fun r h' => wp V (cdT Ev) mx d 31 7 ls (rts r st) h' Q)) := x_cv (sg := [v2, v1, v0]) rfl hst rfl rfl
theorem s_31_7 {x : Int32} (hn : nl l3 = true) : wp V (cdT Ev) mx d 31 7 [l0, l1, l2, l3, l4] (.int x :: st) h Q = wp V (cdT Ev) mx d 31 9 [l0, l1, l2, l3, some (.int x)] st h Q := x_istore (len := 2) rfl (Nat.le_of_ble_eq_true rfl) (okp_nl rfl hn) rfl
theorem s_31_9 {x : Int32} : wp V (cdT Ev) mx d 31 9 [l0, some (.int x), l2, l3, l4] st h Q = wp V (cdT Ev) mx d 31 10 [l0, some (.int x), l2, l3, l4] (.int x :: st) h Q := x_iload (len := 1) rfl rfl
theorem s_31_10 : wp V (cdT Ev) mx d 31 10 ls st h Q = wp V (cdT Ev) mx d 31 11 ls ((.int (2)) :: st) h Q := x_push (v := (.int (2))) (len := 1) rfl
theorem s_31_11 {x z : Int32} : wp V (cdT Ev) mx d 31 11 ls (.int z :: .int x :: st) h Q = (¬ z = 0 ∧ wp V (cdT Ev) mx d 31 12 ls (.int (x - x / z * z) :: st) h Q) := x_ibz (f := fun x z => x - x / z * z) rfl
theorem s_31_12 {x : Int32} : wp V (cdT Ev) mx d 31 12 ls (.int x :: st) h Q = (if ¬ x = 0 then wp V (cdT Ev) mx d 31 22 ls st h Q else wp V (cdT Ev) mx d 31 15 ls st h Q) := x_if1 (c := fun x => ¬ x = 0) rfl
theorem s_31_15 {x : Int32} : wp V (cdT Ev) mx d 31 15 [l0, l1, l2, l3, some (.int x)] st h Q = wp V (cdT Ev) mx d 31 17 [l0, l1, l2, l3, some (.int x)] (.int x :: st) h Q := x_iload (len := 2) rfl rfl
theorem s_31_17 : wp V (cdT Ev) mx d 31 17 ls st h Q = wp V (cdT Ev) mx d 31 18 ls ((.int (2)) :: st) h Q := x_push (v := (.int (2))) (len := 1) rfl
theorem s_31_18 {x z : Int32} : wp V (cdT Ev) mx d 31 18 ls (.int z :: .int x :: st) h Q = wp V (cdT Ev) mx d 31 19 ls (.int (x * z) :: st) h Q := x_ib (f := fun x z => x * z) rfl
theorem s_31_19 : wp V (cdT Ev) mx d 31 19 ls st h Q = wp V (cdT Ev) mx d 31 24 ls st h Q := x_goto rfl
theorem s_31_22 {x : Int32} : wp V (cdT Ev) mx d 31 22 [l0, l1, l2, l3, some (.int x)] st h Q = wp V (cdT Ev) mx d 31 24 [l0, l1, l2, l3, some (.int x)] (.int x :: st) h Q := x_iload (len := 2) rfl rfl
theorem s_31_24 {x : Int32} : wp V (cdT Ev) mx d 31 24 ls [.int x] h Q = Q (some (.int x)) h := x_ret rfl rfl
theorem e_31 {a : Nat} {p0 : Int32} {p1 : Int32} {p2 : Int32} : WP V (cdT Ev) mx (d + 1) 31 [.ref a, .int p0, .int p1, .int p2] h Q = wp V (cdT Ev) mx d 31 0 [some (.ref a), some (.int p0), some (.int p1), some (.int p2), none] [] h Q := propext (WP_eq (Nat.le_of_ble_eq_true rfl))
theorem s_32_0 {a : Nat} : wp V (cdT Ev) mx d 32 0 [l0, some (.ref a), l2] st h Q = wp V (cdT Ev) mx d 32 1 [l0, some (.ref a), l2] (.ref a :: st) h Q := x_aload (len := 1) rfl rfl
theorem s_32_0_n : wp V (cdT Ev) mx d 32 0 [l0, some .null, l2] st h Q = wp V (cdT Ev) mx d 32 1 [l0, some .null, l2] (.null :: st) h Q := x_aloadN (len := 1) rfl rfl
theorem s_32_1 : wp V (cdT Ev) mx d 32 1 ls st h Q = wp V (cdT Ev) mx d 32 3 ls ((.int (50)) :: st) h Q := x_push (v := (.int (50))) (len := 2) rfl
theorem s_32_3 {b : Nat} {v0 : Value} (hst : st.length ≤ 4) : wp V (cdT Ev) mx d 32 3 ls (v0 :: .ref b :: st) h Q = cv [(9, 47)] h b (fun y' => WP V (cdT Ev) mx d y' [.ref b, v0] h (fun r h' => wp V (cdT Ev) mx d 32 6 ls (rts r st) h' Q)) := x_cv (sg := [v0]) rfl hst rfl rfl
theorem s_32_6 {a : Nat} : wp V (cdT Ev) mx d 32 6 [some (.ref a), l1, l2] st h Q = wp V (cdT Ev) mx d 32 7 [some (.ref a), l1, l2] (.ref a :: st) h Q := x_aload (len := 1) rfl rfl
theorem s_32_6_n : wp V (cdT Ev) mx d 32 6 [some .null, l1, l2] st h Q = wp V (cdT Ev) mx d 32 7 [some .null, l1, l2] (.null :: st) h Q := x_aloadN (len := 1) rfl rfl
theorem s_32_7 {a : Nat} : wp V (cdT Ev) mx d 32 7 [l0, some (.ref a), l2] st h Q = wp V (cdT Ev) mx d 32 8 [l0, some (.ref a), l2] (.ref a :: st) h Q := x_aload (len := 1) rfl rfl
theorem s_32_7_n : wp V (cdT Ev) mx d 32 7 [l0, some .null, l2] st h Q = wp V (cdT Ev) mx d 32 8 [l0, some .null, l2] (.null :: st) h Q := x_aloadN (len := 1) rfl rfl
theorem s_32_8 {x : Int32} : wp V (cdT Ev) mx d 32 8 [l0, l1, some (.int x)] st h Q = wp V (cdT Ev) mx d 32 9 [l0, l1, some (.int x)] (.int x :: st) h Q := x_iload (len := 1) rfl rfl
theorem s_32_9 {b : Nat} {v0 v1 : Value} (hst : st.length ≤ 4) : wp V (cdT Ev) mx d 32 9 ls (v1 :: v0 :: .ref b :: st) h Q = cv [(5, 27)] h b (fun y' => WP V (cdT Ev) mx d y' [.ref b, v0, v1] h (fun r h' => wp V (cdT Ev) mx d 32 12 ls (rts r st) h' Q)) := x_cv (sg := [v1, v0]) rfl hst rfl rfl
theorem s_32_12 {x : Int32} : wp V (cdT Ev) mx d 32 12 ls (.int x :: st) h Q = wp V (cdT Ev) mx d 32 13 ls (.int (-x) :: st) h Q := x_iu (f := fun x => -x) rfl
theorem s_32_13 {x : Int32} : wp V (cdT Ev) mx d 32 13 ls [.int x] h Q = Q (some (.int x)) h := x_ret rfl rfl
theorem e_32 {a : Nat} {p0 : Nat} {p1 : Int32} : WP V (cdT Ev) mx (d + 1) 32 [.ref a, .ref p0, .int p1] h Q = wp V (cdT Ev) mx d 32 0 [some (.ref a), some (.ref p0), some (.int p1)] [] h Q := propext (WP_eq (Nat.le_of_ble_eq_true rfl))
theorem s_33_0 {a : Nat} : wp V (cdT Ev) mx d 33 0 [l0, some (.ref a), l2] st h Q = wp V (cdT Ev) mx d 33 1 [l0, some (.ref a), l2] (.ref a :: st) h Q := x_aload (len := 1) rfl rfl
theorem s_33_0_n : wp V (cdT Ev) mx d 33 0 [l0, some .null, l2] st h Q = wp V (cdT Ev) mx d 33 1 [l0, some .null, l2] (.null :: st) h Q := x_aloadN (len := 1) rfl rfl
theorem s_33_1 : wp V (cdT Ev) mx d 33 1 ls st h Q = wp V (cdT Ev) mx d 33 3 ls ((.int (51)) :: st) h Q := x_push (v := (.int (51))) (len := 2) rfl
theorem s_33_3 {b : Nat} {v0 : Value} (hst : st.length ≤ 4) : wp V (cdT Ev) mx d 33 3 ls (v0 :: .ref b :: st) h Q = cv [(9, 47)] h b (fun y' => WP V (cdT Ev) mx d y' [.ref b, v0] h (fun r h' => wp V (cdT Ev) mx d 33 6 ls (rts r st) h' Q)) := x_cv (sg := [v0]) rfl hst rfl rfl
theorem s_33_6 {a : Nat} : wp V (cdT Ev) mx d 33 6 [some (.ref a), l1, l2] st h Q = wp V (cdT Ev) mx d 33 7 [some (.ref a), l1, l2] (.ref a :: st) h Q := x_aload (len := 1) rfl rfl
theorem s_33_6_n : wp V (cdT Ev) mx d 33 6 [some .null, l1, l2] st h Q = wp V (cdT Ev) mx d 33 7 [some .null, l1, l2] (.null :: st) h Q := x_aloadN (len := 1) rfl rfl
theorem s_33_7 {a : Nat} : wp V (cdT Ev) mx d 33 7 [l0, some (.ref a), l2] st h Q = wp V (cdT Ev) mx d 33 8 [l0, some (.ref a), l2] (.ref a :: st) h Q := x_aload (len := 1) rfl rfl
theorem s_33_7_n : wp V (cdT Ev) mx d 33 7 [l0, some .null, l2] st h Q = wp V (cdT Ev) mx d 33 8 [l0, some .null, l2] (.null :: st) h Q := x_aloadN (len := 1) rfl rfl
theorem s_33_8 {x : Int32} : wp V (cdT Ev) mx d 33 8 [l0, l1, some (.int x)] st h Q = wp V (cdT Ev) mx d 33 9 [l0, l1, some (.int x)] (.int x :: st) h Q := x_iload (len := 1) rfl rfl
theorem s_33_9 : wp V (cdT Ev) mx d 33 9 ls st h Q = wp V (cdT Ev) mx d 33 10 ls ((.int (1)) :: st) h Q := x_push (v := (.int (1))) (len := 1) rfl
theorem s_33_10 {x z : Int32} : wp V (cdT Ev) mx d 33 10 ls (.int z :: .int x :: st) h Q = wp V (cdT Ev) mx d 33 11 ls (.int (x + z) :: st) h Q := x_ib (f := fun x z => x + z) rfl
theorem s_33_11 {b : Nat} {v0 v1 : Value} (hst : st.length ≤ 4) : wp V (cdT Ev) mx d 33 11 ls (v1 :: v0 :: .ref b :: st) h Q = cv [(5, 36)] h b (fun y' => WP V (cdT Ev) mx d y' [.ref b, v0, v1] h (fun r h' => wp V (cdT Ev) mx d 33 14 ls (rts r st) h' Q)) := x_cv (sg := [v1, v0]) rfl hst rfl rfl
theorem s_33_14 {x : Int32} : wp V (cdT Ev) mx d 33 14 ls [.int x] h Q = Q (some (.int x)) h := x_ret rfl rfl
theorem e_33 {a : Nat} {p0 : Nat} {p1 : Int32} : WP V (cdT Ev) mx (d + 1) 33 [.ref a, .ref p0, .int p1] h Q = wp V (cdT Ev) mx d 33 0 [some (.ref a), some (.ref p0), some (.int p1)] [] h Q := propext (WP_eq (Nat.le_of_ble_eq_true rfl))
theorem s_34_0 {a : Nat} : wp V (cdT Ev) mx d 34 0 [some (.ref a), l1, l2] st h Q = wp V (cdT Ev) mx d 34 1 [some (.ref a), l1, l2] (.ref a :: st) h Q := x_aload (len := 1) rfl rfl
theorem s_34_0_n : wp V (cdT Ev) mx d 34 0 [some .null, l1, l2] st h Q = wp V (cdT Ev) mx d 34 1 [some .null, l1, l2] (.null :: st) h Q := x_aloadN (len := 1) rfl rfl
theorem s_34_1 {x : Int32} : wp V (cdT Ev) mx d 34 1 [l0, some (.int x), l2] st h Q = wp V (cdT Ev) mx d 34 2 [l0, some (.int x), l2] (.int x :: st) h Q := x_iload (len := 1) rfl rfl
theorem s_34_2 {x : Int32} : wp V (cdT Ev) mx d 34 2 [l0, l1, some (.int x)] st h Q = wp V (cdT Ev) mx d 34 3 [l0, l1, some (.int x)] (.int x :: st) h Q := x_iload (len := 1) rfl rfl
theorem s_34_3 {b : Nat} {v0 v1 : Value} (hst : st.length ≤ 4) : wp V (cdT Ev) mx d 34 3 ls (v1 :: v0 :: .ref b :: st) h Q = WP V (cdT Ev) mx d 24 [.ref b, v0, v1] h (fun r h' => wp V (cdT Ev) mx d 34 6 ls (rts r st) h' Q) := x_ci (sg := [v1, v0]) rfl hst rfl rfl
theorem s_34_6 : wp V (cdT Ev) mx d 34 6 ls [] h Q = Q none h := x_retv rfl
theorem e_34 {a : Nat} {p0 : Int32} {p1 : Int32} : WP V (cdT Ev) mx (d + 1) 34 [.ref a, .int p0, .int p1] h Q = wp V (cdT Ev) mx d 34 0 [some (.ref a), some (.int p0), some (.int p1)] [] h Q := propext (WP_eq (Nat.le_of_ble_eq_true rfl))
theorem s_35_0 {a : Nat} : wp V (cdT Ev) mx d 35 0 [some (.ref a), l1, l2, l3] st h Q = wp V (cdT Ev) mx d 35 1 [some (.ref a), l1, l2, l3] (.ref a :: st) h Q := x_aload (len := 1) rfl rfl
theorem s_35_0_n : wp V (cdT Ev) mx d 35 0 [some .null, l1, l2, l3] st h Q = wp V (cdT Ev) mx d 35 1 [some .null, l1, l2, l3] (.null :: st) h Q := x_aloadN (len := 1) rfl rfl
theorem s_35_1 {a : Nat} : wp V (cdT Ev) mx d 35 1 ls (.ref a :: st) h Q = gf [5, 6] 4 h a (fun v => wp V (cdT Ev) mx d 35 4 ls (v :: st) h Q) := x_getf rfl
theorem s_35_4 {x : Int32} : wp V (cdT Ev) mx d 35 4 ls (.int x :: st) h Q = (if x = 0 then wp V (cdT Ev) mx d 35 16 ls st h Q else wp V (cdT Ev) mx d 35 7 ls st h Q) := x_if1 (c := fun x => x = 0) rfl
theorem s_35_7 {x : Int32} : wp V (cdT Ev) mx d 35 7 [l0, l1, some (.int x), l3] st h Q = wp V (cdT Ev) mx d 35 8 [l0, l1, some (.int x), l3] (.int x :: st) h Q := x_iload (len := 1) rfl rfl
theorem s_35_8 {a : Nat} : wp V (cdT Ev) mx d 35 8 [some (.ref a), l1, l2, l3] st h Q = wp V (cdT Ev) mx d 35 9 [some (.ref a), l1, l2, l3] (.ref a :: st) h Q := x_aload (len := 1) rfl rfl
theorem s_35_8_n : wp V (cdT Ev) mx d 35 8 [some .null, l1, l2, l3] st h Q = wp V (cdT Ev) mx d 35 9 [some .null, l1, l2, l3] (.null :: st) h Q := x_aloadN (len := 1) rfl rfl
theorem s_35_9 {a : Nat} : wp V (cdT Ev) mx d 35 9 ls (.ref a :: st) h Q = gf [5, 6] 2 h a (fun v => wp V (cdT Ev) mx d 35 12 ls (v :: st) h Q) := x_getf rfl
theorem s_35_12 {x z : Int32} : wp V (cdT Ev) mx d 35 12 ls (.int z :: .int x :: st) h Q = wp V (cdT Ev) mx d 35 13 ls (.int (x + z) :: st) h Q := x_ib (f := fun x z => x + z) rfl
theorem s_35_13 : wp V (cdT Ev) mx d 35 13 ls st h Q = wp V (cdT Ev) mx d 35 17 ls st h Q := x_goto rfl
theorem s_35_16 {x : Int32} : wp V (cdT Ev) mx d 35 16 [l0, l1, some (.int x), l3] st h Q = wp V (cdT Ev) mx d 35 17 [l0, l1, some (.int x), l3] (.int x :: st) h Q := x_iload (len := 1) rfl rfl
theorem s_35_17 {x : Int32} : wp V (cdT Ev) mx d 35 17 ls [.int x] h Q = Q (some (.int x)) h := x_ret rfl rfl
theorem e_35 {a : Nat} {p0 : Int32} {p1 : Int32} {p2 : Int32} : WP V (cdT Ev) mx (d + 1) 35 [.ref a, .int p0, .int p1, .int p2] h Q = wp V (cdT Ev) mx d 35 0 [some (.ref a), some (.int p0), some (.int p1), some (.int p2)] [] h Q := propext (WP_eq (Nat.le_of_ble_eq_true rfl))
theorem s_36_0 {a : Nat} : wp V (cdT Ev) mx d 36 0 [l0, some (.ref a), l2] st h Q = wp V (cdT Ev) mx d 36 1 [l0, some (.ref a), l2] (.ref a :: st) h Q := x_aload (len := 1) rfl rfl
theorem s_36_0_n : wp V (cdT Ev) mx d 36 0 [l0, some .null, l2] st h Q = wp V (cdT Ev) mx d 36 1 [l0, some .null, l2] (.null :: st) h Q := x_aloadN (len := 1) rfl rfl
theorem s_36_1 : wp V (cdT Ev) mx d 36 1 ls st h Q = wp V (cdT Ev) mx d 36 3 ls ((.int (20)) :: st) h Q := x_push (v := (.int (20))) (len := 2) rfl
theorem s_36_3 {b : Nat} {v0 : Value} (hst : st.length ≤ 4) : wp V (cdT Ev) mx d 36 3 ls (v0 :: .ref b :: st) h Q = cv [(9, 47)] h b (fun y' => WP V (cdT Ev) mx d y' [.ref b, v0] h (fun r h' => wp V (cdT Ev) mx d 36 6 ls (rts r st) h' Q)) := x_cv (sg := [v0]) rfl hst rfl rfl
theorem s_36_6 {a : Nat} : wp V (cdT Ev) mx d 36 6 [some (.ref a), l1, l2] st h Q = wp V (cdT Ev) mx d 36 7 [some (.ref a), l1, l2] (.ref a :: st) h Q := x_aload (len := 1) rfl rfl
theorem s_36_6_n : wp V (cdT Ev) mx d 36 6 [some .null, l1, l2] st h Q = wp V (cdT Ev) mx d 36 7 [some .null, l1, l2] (.null :: st) h Q := x_aloadN (len := 1) rfl rfl
theorem s_36_7 {a : Nat} : wp V (cdT Ev) mx d 36 7 [l0, some (.ref a), l2] st h Q = wp V (cdT Ev) mx d 36 8 [l0, some (.ref a), l2] (.ref a :: st) h Q := x_aload (len := 1) rfl rfl
theorem s_36_7_n : wp V (cdT Ev) mx d 36 7 [l0, some .null, l2] st h Q = wp V (cdT Ev) mx d 36 8 [l0, some .null, l2] (.null :: st) h Q := x_aloadN (len := 1) rfl rfl
theorem s_36_8 {x : Int32} : wp V (cdT Ev) mx d 36 8 [l0, l1, some (.int x)] st h Q = wp V (cdT Ev) mx d 36 9 [l0, l1, some (.int x)] (.int x :: st) h Q := x_iload (len := 1) rfl rfl
theorem s_36_9 {b : Nat} {v0 v1 : Value} (hst : st.length ≤ 4) : wp V (cdT Ev) mx d 36 9 ls (v1 :: v0 :: .ref b :: st) h Q = cv [(5, 28), (6, 28)] h b (fun y' => WP V (cdT Ev) mx d y' [.ref b, v0, v1] h (fun r h' => wp V (cdT Ev) mx d 36 12 ls (rts r st) h' Q)) := x_cv (sg := [v1, v0]) rfl hst rfl rfl
theorem s_36_12 : wp V (cdT Ev) mx d 36 12 ls st h Q = wp V (cdT Ev) mx d 36 14 ls ((.int (6)) :: st) h Q := x_push (v := (.int (6))) (len := 2) rfl
theorem s_36_14 {x z : Int32} : wp V (cdT Ev) mx d 36 14 ls (.int z :: .int x :: st) h Q = wp V (cdT Ev) mx d 36 15 ls (.int (x ^^^ z) :: st) h Q := x_ib (f := fun x z => x ^^^ z) rfl
theorem s_36_15 {x : Int32} : wp V (cdT Ev) mx d 36 15 ls [.int x] h Q = Q (some (.int x)) h := x_ret rfl rfl
theorem e_36 {a : Nat} {p0 : Nat} {p1 : Int32} : WP V (cdT Ev) mx (d + 1) 36 [.ref a, .ref p0, .int p1] h Q = wp V (cdT Ev) mx d 36 0 [some (.ref a), some (.ref p0), some (.int p1)] [] h Q := propext (WP_eq (Nat.le_of_ble_eq_true rfl))
theorem s_37_0 {a : Nat} : wp V (cdT Ev) mx d 37 0 [some (.ref a), l1, l2] st h Q = wp V (cdT Ev) mx d 37 1 [some (.ref a), l1, l2] (.ref a :: st) h Q := x_aload (len := 1) rfl rfl
theorem s_37_0_n : wp V (cdT Ev) mx d 37 0 [some .null, l1, l2] st h Q = wp V (cdT Ev) mx d 37 1 [some .null, l1, l2] (.null :: st) h Q := x_aloadN (len := 1) rfl rfl
theorem s_37_1 {a : Nat} (hst : st.length ≤ 4) : wp V (cdT Ev) mx d 37 1 ls (.ref a :: st) h Q = wp V (cdT Ev) mx d 37 4 ls st h Q := x_oi rfl hst
theorem s_37_4 {x : Int32} : wp V (cdT Ev) mx d 37 4 [l0, some (.int x), l2] st h Q = wp V (cdT Ev) mx d 37 5 [l0, some (.int x), l2] (.int x :: st) h Q := x_iload (len := 1) rfl rfl
theorem s_37_5 : wp V (cdT Ev) mx d 37 5 ls st h Q = wp V (cdT Ev) mx d 37 6 ls ((.int (0)) :: st) h Q := x_push (v := (.int (0))) (len := 1) rfl
theorem s_37_6 {v0 v1 : Value} (hst : st.length ≤ 4) : wp V (cdT Ev) mx d 37 6 ls (v1 :: v0 :: st) h Q = WP V (cdT Ev) mx d 196 [v0, v1] h (fun r h' => wp V (cdT Ev) mx d 37 9 ls (rts r st) h' Q) := x_cs (sg := [v1, v0]) rfl hst rfl rfl
theorem s_37_9 {x : Int32} (hn : nl l1 = true) : wp V (cdT Ev) mx d 37 9 [l0, l1, l2] (.int x :: st) h Q = wp V (cdT Ev) mx d 37 10 [l0, l1, some (.int x)] st h Q := x_istore (len := 1) rfl (Nat.le_of_ble_eq_true rfl) (okp_nl rfl hn) rfl
theorem s_37_10 {a : Nat} : wp V (cdT Ev) mx d 37 10 [some (.ref a), l1, l2] st h Q = wp V (cdT Ev) mx d 37 11 [some (.ref a), l1, l2] (.ref a :: st) h Q := x_aload (len := 1) rfl rfl
theorem s_37_10_n : wp V (cdT Ev) mx d 37 10 [some .null, l1, l2] st h Q = wp V (cdT Ev) mx d 37 11 [some .null, l1, l2] (.null :: st) h Q := x_aloadN (len := 1) rfl rfl
theorem s_37_11 {x : Int32} : wp V (cdT Ev) mx d 37 11 [l0, l1, some (.int x)] st h Q = wp V (cdT Ev) mx d 37 12 [l0, l1, some (.int x)] (.int x :: st) h Q := x_iload (len := 1) rfl rfl
theorem s_37_12 {x : Int32} : wp V (cdT Ev) mx d 37 12 ls (.int x :: st) h Q = (¬ (x < 0 ∨ 1000 < x.toNatClampNeg) ∧ wp V (cdT Ev) mx d 37 14 ls (.ref h.2.1 :: st) (hnew h (.inl (2, x.toNatClampNeg, (.inl (fun _ => 0)))) x.toNatClampNeg) Q) := x_newa (len := 2) rfl
theorem s_37_14 {w : Value} {a : Nat} : wp V (cdT Ev) mx d 37 14 ls (w :: .ref a :: st) h Q = pf [7] 0 2 w h a (fun hh => wp V (cdT Ev) mx d 37 17 ls st hh Q) := x_putf rfl
theorem s_37_17 {a : Nat} : wp V (cdT Ev) mx d 37 17 [some (.ref a), l1, l2] st h Q = wp V (cdT Ev) mx d 37 18 [some (.ref a), l1, l2] (.ref a :: st) h Q := x_aload (len := 1) rfl rfl
theorem s_37_17_n : wp V (cdT Ev) mx d 37 17 [some .null, l1, l2] st h Q = wp V (cdT Ev) mx d 37 18 [some .null, l1, l2] (.null :: st) h Q := x_aloadN (len := 1) rfl rfl
theorem s_37_18 {x : Int32} : wp V (cdT Ev) mx d 37 18 [l0, l1, some (.int x)] st h Q = wp V (cdT Ev) mx d 37 19 [l0, l1, some (.int x)] (.int x :: st) h Q := x_iload (len := 1) rfl rfl
theorem s_37_19 {x : Int32} : wp V (cdT Ev) mx d 37 19 ls (.int x :: st) h Q = (¬ (x < 0 ∨ 1000 < x.toNatClampNeg) ∧ wp V (cdT Ev) mx d 37 21 ls (.ref h.2.1 :: st) (hnew h (.inl (2, x.toNatClampNeg, (.inl (fun _ => 0)))) x.toNatClampNeg) Q) := x_newa (len := 2) rfl
theorem s_37_21 {w : Value} {a : Nat} : wp V (cdT Ev) mx d 37 21 ls (w :: .ref a :: st) h Q = pf [7] 1 2 w h a (fun hh => wp V (cdT Ev) mx d 37 24 ls st hh Q) := x_putf rfl
theorem s_37_24 : wp V (cdT Ev) mx d 37 24 ls [] h Q = Q none h := x_retv rfl
theorem e_37 {a : Nat} {p0 : Int32} : WP V (cdT Ev) mx (d + 1) 37 [.ref a, .int p0] h Q = wp V (cdT Ev) mx d 37 0 [some (.ref a), some (.int p0), none] [] h Q := propext (WP_eq (Nat.le_of_ble_eq_true rfl))
theorem s_38_0 {a : Nat} : wp V (cdT Ev) mx d 38 0 [some (.ref a)] st h Q = wp V (cdT Ev) mx d 38 1 [some (.ref a)] (.ref a :: st) h Q := x_aload (len := 1) rfl rfl
theorem s_38_0_n : wp V (cdT Ev) mx d 38 0 [some .null] st h Q = wp V (cdT Ev) mx d 38 1 [some .null] (.null :: st) h Q := x_aloadN (len := 1) rfl rfl
theorem s_38_1 : wp V (cdT Ev) mx d 38 1 ls st h Q = wp V (cdT Ev) mx d 38 2 ls ((.int (0)) :: st) h Q := x_push (v := (.int (0))) (len := 1) rfl
theorem s_38_2 {w : Value} {a : Nat} : wp V (cdT Ev) mx d 38 2 ls (w :: .ref a :: st) h Q = pf [7] 2 0 w h a (fun hh => wp V (cdT Ev) mx d 38 5 ls st hh Q) := x_putf rfl
theorem s_38_5 : wp V (cdT Ev) mx d 38 5 ls st h Q = wp V (cdT Ev) mx d 38 6 ls ((.int (0)) :: st) h Q := x_push (v := (.int (0))) (len := 1) rfl
theorem s_38_6 {x : Int32} : wp V (cdT Ev) mx d 38 6 ls [.int x] h Q = Q (some (.int x)) h := x_ret rfl rfl
theorem e_38 {a : Nat} : WP V (cdT Ev) mx (d + 1) 38 [.ref a] h Q = wp V (cdT Ev) mx d 38 0 [some (.ref a)] [] h Q := propext (WP_eq (Nat.le_of_ble_eq_true rfl))
theorem s_39_0 {a : Nat} : wp V (cdT Ev) mx d 39 0 [some (.ref a), l1, l2] st h Q = wp V (cdT Ev) mx d 39 1 [some (.ref a), l1, l2] (.ref a :: st) h Q := x_aload (len := 1) rfl rfl
theorem s_39_0_n : wp V (cdT Ev) mx d 39 0 [some .null, l1, l2] st h Q = wp V (cdT Ev) mx d 39 1 [some .null, l1, l2] (.null :: st) h Q := x_aloadN (len := 1) rfl rfl
theorem s_39_1 {a : Nat} : wp V (cdT Ev) mx d 39 1 ls (.ref a :: st) h Q = gf [7] 2 h a (fun v => wp V (cdT Ev) mx d 39 4 ls (v :: st) h Q) := x_getf rfl
theorem s_39_4 {a : Nat} : wp V (cdT Ev) mx d 39 4 [some (.ref a), l1, l2] st h Q = wp V (cdT Ev) mx d 39 5 [some (.ref a), l1, l2] (.ref a :: st) h Q := x_aload (len := 1) rfl rfl
theorem s_39_4_n : wp V (cdT Ev) mx d 39 4 [some .null, l1, l2] st h Q = wp V (cdT Ev) mx d 39 5 [some .null, l1, l2] (.null :: st) h Q := x_aloadN (len := 1) rfl rfl
theorem s_39_5 {a : Nat} : wp V (cdT Ev) mx d 39 5 ls (.ref a :: st) h Q = gf [7] 0 h a (fun v => wp V (cdT Ev) mx d 39 8 ls (v :: st) h Q) := x_getf rfl
theorem s_39_8 {a : Nat} : wp V (cdT Ev) mx d 39 8 ls (.ref a :: st) h Q = ln V h a (fun x => wp V (cdT Ev) mx d 39 9 ls (.int x :: st) h Q) := x_alen rfl
theorem s_39_9 {x z : Int32} : wp V (cdT Ev) mx d 39 9 ls (.int z :: .int x :: st) h Q = (if x < z then wp V (cdT Ev) mx d 39 15 ls st h Q else wp V (cdT Ev) mx d 39 12 ls st h Q) := x_if2 (c := fun x z => x < z) rfl
theorem s_39_12 : wp V (cdT Ev) mx d 39 12 ls st h Q = wp V (cdT Ev) mx d 39 14 ls ((.int (-4)) :: st) h Q := x_push (v := (.int (-4))) (len := 2) rfl
theorem s_39_14 {x : Int32} : wp V (cdT Ev) mx d 39 14 ls [.int x] h Q = Q (some (.int x)) h := x_ret rfl rfl
theorem s_39_15 {a : Nat} : wp V (cdT Ev) mx d 39 15 [some (.ref a), l1, l2] st h Q = wp V (cdT Ev) mx d 39 16 [some (.ref a), l1, l2] (.ref a :: st) h Q := x_aload (len := 1) rfl rfl
theorem s_39_15_n : wp V (cdT Ev) mx d 39 15 [some .null, l1, l2] st h Q = wp V (cdT Ev) mx d 39 16 [some .null, l1, l2] (.null :: st) h Q := x_aloadN (len := 1) rfl rfl
theorem s_39_16 {a : Nat} : wp V (cdT Ev) mx d 39 16 ls (.ref a :: st) h Q = gf [7] 0 h a (fun v => wp V (cdT Ev) mx d 39 19 ls (v :: st) h Q) := x_getf rfl
theorem s_39_19 {a : Nat} : wp V (cdT Ev) mx d 39 19 [some (.ref a), l1, l2] st h Q = wp V (cdT Ev) mx d 39 20 [some (.ref a), l1, l2] (.ref a :: st) h Q := x_aload (len := 1) rfl rfl
theorem s_39_19_n : wp V (cdT Ev) mx d 39 19 [some .null, l1, l2] st h Q = wp V (cdT Ev) mx d 39 20 [some .null, l1, l2] (.null :: st) h Q := x_aloadN (len := 1) rfl rfl
theorem s_39_20 {a : Nat} : wp V (cdT Ev) mx d 39 20 ls (.ref a :: st) h Q = gf [7] 2 h a (fun v => wp V (cdT Ev) mx d 39 23 ls (v :: st) h Q) := x_getf rfl
theorem s_39_23 {x : Int32} : wp V (cdT Ev) mx d 39 23 [l0, some (.int x), l2] st h Q = wp V (cdT Ev) mx d 39 24 [l0, some (.int x), l2] (.int x :: st) h Q := x_iload (len := 1) rfl rfl
theorem s_39_24 {x i : Int32} {a : Nat} : wp V (cdT Ev) mx d 39 24 ls (.int x :: .int i :: .ref a :: st) h Q = si 2 i (x) h a (fun hh => wp V (cdT Ev) mx d 39 25 ls st hh Q) := x_iast (nw := fun x => x) rfl
theorem s_39_25 {a : Nat} : wp V (cdT Ev) mx d 39 25 [some (.ref a), l1, l2] st h Q = wp V (cdT Ev) mx d 39 26 [some (.ref a), l1, l2] (.ref a :: st) h Q := x_aload (len := 1) rfl rfl
theorem s_39_25_n : wp V (cdT Ev) mx d 39 25 [some .null, l1, l2] st h Q = wp V (cdT Ev) mx d 39 26 [some .null, l1, l2] (.null :: st) h Q := x_aloadN (len := 1) rfl rfl
theorem s_39_26 {a : Nat} : wp V (cdT Ev) mx d 39 26 ls (.ref a :: st) h Q = gf [7] 1 h a (fun v => wp V (cdT Ev) mx d 39 29 ls (v :: st) h Q) := x_getf rfl
theorem s_39_29 {a : Nat} : wp V (cdT Ev) mx d 39 29 [some (.ref a), l1, l2] st h Q = wp V (cdT Ev) mx d 39 30 [some (.ref a), l1, l2] (.ref a :: st) h Q := x_aload (len := 1) rfl rfl
theorem s_39_29_n : wp V (cdT Ev) mx d 39 29 [some .null, l1, l2] st h Q = wp V (cdT Ev) mx d 39 30 [some .null, l1, l2] (.null :: st) h Q := x_aloadN (len := 1) rfl rfl
theorem s_39_30 {a : Nat} : wp V (cdT Ev) mx d 39 30 ls (.ref a :: st) h Q = gf [7] 2 h a (fun v => wp V (cdT Ev) mx d 39 33 ls (v :: st) h Q) := x_getf rfl
theorem s_39_33 {x : Int32} : wp V (cdT Ev) mx d 39 33 [l0, l1, some (.int x)] st h Q = wp V (cdT Ev) mx d 39 34 [l0, l1, some (.int x)] (.int x :: st) h Q := x_iload (len := 1) rfl rfl
theorem s_39_34 {x i : Int32} {a : Nat} : wp V (cdT Ev) mx d 39 34 ls (.int x :: .int i :: .ref a :: st) h Q = si 2 i (x) h a (fun hh => wp V (cdT Ev) mx d 39 35 ls st hh Q) := x_iast (nw := fun x => x) rfl
theorem s_39_35 {a : Nat} : wp V (cdT Ev) mx d 39 35 [some (.ref a), l1, l2] st h Q = wp V (cdT Ev) mx d 39 36 [some (.ref a), l1, l2] (.ref a :: st) h Q := x_aload (len := 1) rfl rfl
theorem s_39_35_n : wp V (cdT Ev) mx d 39 35 [some .null, l1, l2] st h Q = wp V (cdT Ev) mx d 39 36 [some .null, l1, l2] (.null :: st) h Q := x_aloadN (len := 1) rfl rfl
theorem s_39_36 {a : Nat} : wp V (cdT Ev) mx d 39 36 ls (.ref a :: st) h Q = wp V (cdT Ev) mx d 39 37 ls (.ref a :: .ref a :: st) h Q := x_dup rfl rfl
theorem s_39_36_i {x : Int32} : wp V (cdT Ev) mx d 39 36 ls (.int x :: st) h Q = wp V (cdT Ev) mx d 39 37 ls (.int x :: .int x :: st) h Q := x_dup rfl rfl
theorem s_39_37 {a : Nat} : wp V (cdT Ev) mx d 39 37 ls (.ref a :: st) h Q = gf [7] 2 h a (fun v => wp V (cdT Ev) mx d 39 40 ls (v :: st) h Q) := x_getf rfl
theorem s_39_40 : wp V (cdT Ev) mx d 39 40 ls st h Q = wp V (cdT Ev) mx d 39 41 ls ((.int (1)) :: st) h Q := x_push (v := (.int (1))) (len := 1) rfl
theorem s_39_41 {x z : Int32} : wp V (cdT Ev) mx d 39 41 ls (.int z :: .int x :: st) h Q = wp V (cdT Ev) mx d 39 42 ls (.int (x + z) :: st) h Q := x_ib (f := fun x z => x + z) rfl
theorem s_39_42 {w : Value} {a : Nat} : wp V (cdT Ev) mx d 39 42 ls (w :: .ref a :: st) h Q = pf [7] 2 0 w h a (fun hh => wp V (cdT Ev) mx d 39 45 ls st hh Q) := x_putf rfl
theorem s_39_45 {a : Nat} : wp V (cdT Ev) mx d 39 45 [some (.ref a), l1, l2] st h Q = wp V (cdT Ev) mx d 39 46 [some (.ref a), l1, l2] (.ref a :: st) h Q := x_aload (len := 1) rfl rfl
theorem s_39_45_n : wp V (cdT Ev) mx d 39 45 [some .null, l1, l2] st h Q = wp V (cdT Ev) mx d 39 46 [some .null, l1, l2] (.null :: st) h Q := x_aloadN (len := 1) rfl rfl
theorem s_39_46 {a : Nat} : wp V (cdT Ev) mx d 39 46 ls (.ref a :: st) h Q = gf [7] 2 h a (fun v => wp V (cdT Ev) mx d 39 49 ls (v :: st) h Q) := x_getf rfl
theorem s_39_49 {x : Int32} : wp V (cdT Ev) mx d 39 49 ls [.int x] h Q = Q (some (.int x)) h := x_ret rfl rfl
theorem e_39 {a : Nat} {p0 : Int32} {p1 : Int32} : WP V (cdT Ev) mx (d + 1) 39 [.ref a, .int p0, .int p1] h Q = wp V (cdT Ev) mx d 39 0 [some (.ref a), some (.int p0), some (.int p1)] [] h Q := propext (WP_eq (Nat.le_of_ble_eq_true rfl))
theorem s_40_0 {a : Nat} : wp V (cdT Ev) mx d 40 0 [some (.ref a), l1, l2] st h Q = wp V (cdT Ev) mx d 40 1 [some (.ref a), l1, l2] (.ref a :: st) h Q := x_aload (len := 1) rfl rfl
theorem s_40_0_n : wp V (cdT Ev) mx d 40 0 [some .null, l1, l2] st h Q = wp V (cdT Ev) mx d 40 1 [some .null, l1, l2] (.null :: st) h Q := x_aloadN (len := 1) rfl rfl
theorem s_40_1 : wp V (cdT Ev) mx d 40 1 ls st h Q = wp V (cdT Ev) mx d 40 2 ls ((.int (0)) :: st) h Q := x_push (v := (.int (0))) (len := 1) rfl
theorem s_40_2 {w : Value} {a : Nat} : wp V (cdT Ev) mx d 40 2 ls (w :: .ref a :: st) h Q = pf [7] 2 0 w h a (fun hh => wp V (cdT Ev) mx d 40 5 ls st hh Q) := x_putf rfl
theorem s_40_5 : wp V (cdT Ev) mx d 40 5 ls st h Q = wp V (cdT Ev) mx d 40 6 ls ((.int (0)) :: st) h Q := x_push (v := (.int (0))) (len := 1) rfl
theorem s_40_6 {x : Int32} (hn : nl l1 = true) : wp V (cdT Ev) mx d 40 6 [l0, l1, l2] (.int x :: st) h Q = wp V (cdT Ev) mx d 40 7 [l0, l1, some (.int x)] st h Q := x_istore (len := 1) rfl (Nat.le_of_ble_eq_true rfl) (okp_nl rfl hn) rfl
theorem s_40_7 {x : Int32} : wp V (cdT Ev) mx d 40 7 [l0, l1, some (.int x)] st h Q = wp V (cdT Ev) mx d 40 8 [l0, l1, some (.int x)] (.int x :: st) h Q := x_iload (len := 1) rfl rfl
theorem s_40_8 {a : Nat} : wp V (cdT Ev) mx d 40 8 [l0, some (.ref a), l2] st h Q = wp V (cdT Ev) mx d 40 9 [l0, some (.ref a), l2] (.ref a :: st) h Q := x_aload (len := 1) rfl rfl
theorem s_40_8_n : wp V (cdT Ev) mx d 40 8 [l0, some .null, l2] st h Q = wp V (cdT Ev) mx d 40 9 [l0, some .null, l2] (.null :: st) h Q := x_aloadN (len := 1) rfl rfl
theorem s_40_9 {a : Nat} : wp V (cdT Ev) mx d 40 9 ls (.ref a :: st) h Q = gf [7] 2 h a (fun v => wp V (cdT Ev) mx d 40 12 ls (v :: st) h Q) := x_getf rfl
theorem s_40_12 {x z : Int32} : wp V (cdT Ev) mx d 40 12 ls (.int z :: .int x :: st) h Q = (if z ≤ x then wp V (cdT Ev) mx d 40 38 ls st h Q else wp V (cdT Ev) mx d 40 15 ls st h Q) := x_if2 (c := fun x z => z ≤ x) rfl
theorem s_40_15 {a : Nat} : wp V (cdT Ev) mx d 40 15 [some (.ref a), l1, l2] st h Q = wp V (cdT Ev) mx d 40 16 [some (.ref a), l1, l2] (.ref a :: st) h Q := x_aload (len := 1) rfl rfl
theorem s_40_15_n : wp V (cdT Ev) mx d 40 15 [some .null, l1, l2] st h Q = wp V (cdT Ev) mx d 40 16 [some .null, l1, l2] (.null :: st) h Q := x_aloadN (len := 1) rfl rfl
theorem s_40_16 {a : Nat} : wp V (cdT Ev) mx d 40 16 [l0, some (.ref a), l2] st h Q = wp V (cdT Ev) mx d 40 17 [l0, some (.ref a), l2] (.ref a :: st) h Q := x_aload (len := 1) rfl rfl
theorem s_40_16_n : wp V (cdT Ev) mx d 40 16 [l0, some .null, l2] st h Q = wp V (cdT Ev) mx d 40 17 [l0, some .null, l2] (.null :: st) h Q := x_aloadN (len := 1) rfl rfl
theorem s_40_17 {a : Nat} : wp V (cdT Ev) mx d 40 17 ls (.ref a :: st) h Q = gf [7] 0 h a (fun v => wp V (cdT Ev) mx d 40 20 ls (v :: st) h Q) := x_getf rfl
theorem s_40_20 {x : Int32} : wp V (cdT Ev) mx d 40 20 [l0, l1, some (.int x)] st h Q = wp V (cdT Ev) mx d 40 21 [l0, l1, some (.int x)] (.int x :: st) h Q := x_iload (len := 1) rfl rfl
theorem s_40_21 {i : Int32} {a : Nat} : wp V (cdT Ev) mx d 40 21 ls (.int i :: .ref a :: st) h Q = ai 2 i V h a (fun x => wp V (cdT Ev) mx d 40 22 ls (.int x :: st) h Q) := x_iald rfl
theorem s_40_22 {a : Nat} : wp V (cdT Ev) mx d 40 22 [l0, some (.ref a), l2] st h Q = wp V (cdT Ev) mx d 40 23 [l0, some (.ref a), l2] (.ref a :: st) h Q := x_aload (len := 1) rfl rfl
theorem s_40_22_n : wp V (cdT Ev) mx d 40 22 [l0, some .null, l2] st h Q = wp V (cdT Ev) mx d 40 23 [l0, some .null, l2] (.null :: st) h Q := x_aloadN (len := 1) rfl rfl
theorem s_40_23 {a : Nat} : wp V (cdT Ev) mx d 40 23 ls (.ref a :: st) h Q = gf [7] 1 h a (fun v => wp V (cdT Ev) mx d 40 26 ls (v :: st) h Q) := x_getf rfl
theorem s_40_26 {x : Int32} : wp V (cdT Ev) mx d 40 26 [l0, l1, some (.int x)] st h Q = wp V (cdT Ev) mx d 40 27 [l0, l1, some (.int x)] (.int x :: st) h Q := x_iload (len := 1) rfl rfl
theorem s_40_27 {i : Int32} {a : Nat} : wp V (cdT Ev) mx d 40 27 ls (.int i :: .ref a :: st) h Q = ai 2 i V h a (fun x => wp V (cdT Ev) mx d 40 28 ls (.int x :: st) h Q) := x_iald rfl
theorem s_40_28 {b : Nat} {v0 v1 : Value} (hst : st.length ≤ 4) : wp V (cdT Ev) mx d 40 28 ls (v1 :: v0 :: .ref b :: st) h Q = cv [(7, 39)] h b (fun y' => WP V (cdT Ev) mx d y' [.ref b, v0, v1] h (fun r h' => wp V (cdT Ev) mx d 40 31 ls (rts r st) h' Q)) := x_cv (sg := [v1, v0]) rfl hst rfl rfl
theorem s_40_31 {a : Nat} : wp V (cdT Ev) mx d 40 31 ls (.ref a :: st) h Q = wp V (cdT Ev) mx d 40 32 ls st h Q := x_pop rfl rfl
theorem s_40_31_i {x : Int32} : wp V (cdT Ev) mx d 40 31 ls (.int x :: st) h Q = wp V (cdT Ev) mx d 40 32 ls st h Q := x_pop rfl rfl
theorem s_40_32 {x : Int32} : wp V (cdT Ev) mx d 40 32 [l0, l1, some (.int x)] st h Q = wp V (cdT Ev) mx d 40 35 [l0, l1, some (.int (x + (1)))] st h Q := x_iinc rfl rfl rfl
theorem s_40_35 : wp V (cdT Ev) mx d 40 35 ls st h Q = wp V (cdT Ev) mx d 40 7 ls st h Q := x_goto rfl
theorem s_40_38 : wp V (cdT Ev) mx d 40 38 ls [] h Q = Q none h := x_retv rfl
theorem e_40 {a : Nat} {p0 : Nat} : WP V (cdT Ev) mx (d + 1) 40 [.ref a, .ref p0] h Q = wp V (cdT Ev) mx d 40 0 [some (.ref a), some (.ref p0), none] [] h Q := propext (WP_eq (Nat.le_of_ble_eq_true rfl))
theorem s_41_0 {a : Nat} : wp V (cdT Ev) mx d 41 0 [some (.ref a), l1, l2] st h Q = wp V (cdT Ev) mx d 41 1 [some (.ref a), l1, l2] (.ref a :: st) h Q := x_aload (len := 1) rfl rfl
theorem s_41_0_n : wp V (cdT Ev) mx d 41 0 [some .null, l1, l2] st h Q = wp V (cdT Ev) mx d 41 1 [some .null, l1, l2] (.null :: st) h Q := x_aloadN (len := 1) rfl rfl
theorem s_41_1 {x : Int32} : wp V (cdT Ev) mx d 41 1 [l0, some (.int x), l2] st h Q = wp V (cdT Ev) mx d 41 2 [l0, some (.int x), l2] (.int x :: st) h Q := x_iload (len := 1) rfl rfl
theorem s_41_2 {x : Int32} : wp V (cdT Ev) mx d 41 2 [l0, l1, some (.int x)] st h Q = wp V (cdT Ev) mx d 41 3 [l0, l1, some (.int x)] (.int x :: st) h Q := x_iload (len := 1) rfl rfl
theorem s_41_3 {b : Nat} {v0 v1 : Value} (hst : st.length ≤ 4) : wp V (cdT Ev) mx d 41 3 ls (v1 :: v0 :: .ref b :: st) h Q = WP V (cdT Ev) mx d 21 [.ref b, v0, v1] h (fun r h' => wp V (cdT Ev) mx d 41 6 ls (rts r st) h' Q) := x_ci (sg := [v1, v0]) rfl hst rfl rfl
theorem s_41_6 {a : Nat} : wp V (cdT Ev) mx d 41 6 [some (.ref a), l1, l2] st h Q = wp V (cdT Ev) mx d 41 7 [some (.ref a), l1, l2] (.ref a :: st) h Q := x_aload (len := 1) rfl rfl
theorem s_41_6_n : wp V (cdT Ev) mx d 41 6 [some .null, l1, l2] st h Q = wp V (cdT Ev) mx d 41 7 [some .null, l1, l2] (.null :: st) h Q := x_aloadN (len := 1) rfl rfl
theorem s_41_7 : wp V (cdT Ev) mx d 41 7 ls st h Q = wp V (cdT Ev) mx d 41 8 ls ((.int (4)) :: st) h Q := x_push (v := (.int (4))) (len := 1) rfl
theorem s_41_8 {x : Int32} : wp V (cdT Ev) mx d 41 8 ls (.int x :: st) h Q = (¬ (x < 0 ∨ 1000 < x.toNatClampNeg) ∧ wp V (cdT Ev) mx d 41 10 ls (.ref h.2.1 :: st) (hnew h (.inl (2, x.toNatClampNeg, (.inl (fun _ => 0)))) x.toNatClampNeg) Q) := x_newa (len := 2) rfl
theorem s_41_10 {w : Value} {a : Nat} : wp V (cdT Ev) mx d 41 10 ls (w :: .ref a :: st) h Q = pf [8] 6 2 w h a (fun hh => wp V (cdT Ev) mx d 41 13 ls st hh Q) := x_putf rfl
theorem s_41_13 : wp V (cdT Ev) mx d 41 13 ls [] h Q = Q none h := x_retv rfl
theorem e_41 {a : Nat} {p0 : Int32} {p1 : Int32} : WP V (cdT Ev) mx (d + 1) 41 [.ref a, .int p0, .int p1] h Q = wp V (cdT Ev) mx d 41 0 [some (.ref a), some (.int p0), some (.int p1)] [] h Q := propext (WP_eq (Nat.le_of_ble_eq_true rfl))
theorem s_42_0 {a : Nat} : wp V (cdT Ev) mx d 42 0 [some (.ref a), l1, l2] st h Q = wp V (cdT Ev) mx d 42 1 [some (.ref a), l1, l2] (.ref a :: st) h Q := x_aload (len := 1) rfl rfl
theorem s_42_0_n : wp V (cdT Ev) mx d 42 0 [some .null, l1, l2] st h Q = wp V (cdT Ev) mx d 42 1 [some .null, l1, l2] (.null :: st) h Q := x_aloadN (len := 1) rfl rfl
theorem s_42_1 {a : Nat} : wp V (cdT Ev) mx d 42 1 [l0, some (.ref a), l2] st h Q = wp V (cdT Ev) mx d 42 2 [l0, some (.ref a), l2] (.ref a :: st) h Q := x_aload (len := 1) rfl rfl
theorem s_42_1_n : wp V (cdT Ev) mx d 42 1 [l0, some .null, l2] st h Q = wp V (cdT Ev) mx d 42 2 [l0, some .null, l2] (.null :: st) h Q := x_aloadN (len := 1) rfl rfl
theorem s_42_2 {b : Nat} {v0 : Value} (hst : st.length ≤ 4) : wp V (cdT Ev) mx d 42 2 ls (v0 :: .ref b :: st) h Q = cv [(8, 25)] h b (fun y' => WP V (cdT Ev) mx d y' [.ref b, v0] h (fun r h' => wp V (cdT Ev) mx d 42 5 ls (rts r st) h' Q)) := x_cv (sg := [v0]) rfl hst rfl rfl
theorem s_42_5 {a : Nat} : wp V (cdT Ev) mx d 42 5 [l0, some (.ref a), l2] st h Q = wp V (cdT Ev) mx d 42 6 [l0, some (.ref a), l2] (.ref a :: st) h Q := x_aload (len := 1) rfl rfl
theorem s_42_5_n : wp V (cdT Ev) mx d 42 5 [l0, some .null, l2] st h Q = wp V (cdT Ev) mx d 42 6 [l0, some .null, l2] (.null :: st) h Q := x_aloadN (len := 1) rfl rfl
theorem s_42_6 {a : Nat} : wp V (cdT Ev) mx d 42 6 ls (.ref a :: st) h Q = io [8] [1, 2, 3, 4, 5, 6] h a (fun x => wp V (cdT Ev) mx d 42 9 ls (.int x :: st) h Q) := x_inst rfl
theorem s_42_6_n : wp V (cdT Ev) mx d 42 6 ls (.null :: st) h Q = wp V (cdT Ev) mx d 42 9 ls (.int 0 :: st) h Q := x_instN rfl
theorem s_42_9 {x : Int32} : wp V (cdT Ev) mx d 42 9 ls (.int x :: st) h Q = (if x = 0 then wp V (cdT Ev) mx d 42 31 ls st h Q else wp V (cdT Ev) mx d 42 12 ls st h Q) := x_if1 (c := fun x => x = 0) rfl
theorem s_42_12 {a : Nat} : wp V (cdT Ev) mx d 42 12 [l0, some (.ref a), l2] st h Q = wp V (cdT Ev) mx d 42 13 [l0, some (.ref a), l2] (.ref a :: st) h Q := x_aload (len := 1) rfl rfl
theorem s_42_12_n : wp V (cdT Ev) mx d 42 12 [l0, some .null, l2] st h Q = wp V (cdT Ev) mx d 42 13 [l0, some .null, l2] (.null :: st) h Q := x_aloadN (len := 1) rfl rfl
theorem s_42_13 {a : Nat} : wp V (cdT Ev) mx d 42 13 ls (.ref a :: st) h Q = co [8] h a (wp V (cdT Ev) mx d 42 16 ls (.ref a :: st) h Q) := x_cast rfl
theorem s_42_16 {a : Nat} (hn : nl l1 = true) : wp V (cdT Ev) mx d 42 16 [l0, l1, l2] (.ref a :: st) h Q = wp V (cdT Ev) mx d 42 17 [l0, l1, some (.ref a)] st h Q := x_astore (len := 1) rfl (Nat.le_of_ble_eq_true rfl) (okp_nl rfl hn) rfl
theorem s_42_16_n (hn : nl l1 = true) : wp V (cdT Ev) mx d 42 16 [l0, l1, l2] (.null :: st) h Q = wp V (cdT Ev) mx d 42 17 [l0, l1, some .null] st h Q := x_astoreN (len := 1) rfl (Nat.le_of_ble_eq_true rfl) (okp_nl rfl hn) rfl
theorem s_42_17 {a : Nat} : wp V (cdT Ev) mx d 42 17 [l0, l1, some (.ref a)] st h Q = wp V (cdT Ev) mx d 42 18 [l0, l1, some (.ref a)] (.ref a :: st) h Q := x_aload (len := 1) rfl rfl
theorem s_42_17_n : wp V (cdT Ev) mx d 42 17 [l0, l1, some .null] st h Q = wp V (cdT Ev) mx d 42 18 [l0, l1, some .null] (.null :: st) h Q := x_aloadN (len := 1) rfl rfl
theorem s_42_18 {a : Nat} : wp V (cdT Ev) mx d 42 18 ls (.ref a :: st) h Q = gf [8] 6 h a (fun v => wp V (cdT Ev) mx d 42 21 ls (v :: st) h Q) := x_getf rfl
theorem s_42_21 : wp V (cdT Ev) mx d 42 21 ls st h Q = wp V (cdT Ev) mx d 42 22 ls ((.int (0)) :: st) h Q := x_push (v := (.int (0))) (len := 1) rfl
theorem s_42_22 {a : Nat} : wp V (cdT Ev) mx d 42 22 [some (.ref a), l1, l2] st h Q = wp V (cdT Ev) mx d 42 23 [some (.ref a), l1, l2] (.ref a :: st) h Q := x_aload (len := 1) rfl rfl
theorem s_42_22_n : wp V (cdT Ev) mx d 42 22 [some .null, l1, l2] st h Q = wp V (cdT Ev) mx d 42 23 [some .null, l1, l2] (.null :: st) h Q := x_aloadN (len := 1) rfl rfl
theorem s_42_23 {a : Nat} : wp V (cdT Ev) mx d 42 23 ls (.ref a :: st) h Q = gf [8] 6 h a (fun v => wp V (cdT Ev) mx d 42 26 ls (v :: st) h Q) := x_getf rfl
theorem s_42_26 : wp V (cdT Ev) mx d 42 26 ls st h Q = wp V (cdT Ev) mx d 42 27 ls ((.int (0)) :: st) h Q := x_push (v := (.int (0))) (len := 1) rfl
theorem s_42_27 : wp V (cdT Ev) mx d 42 27 ls st h Q = wp V (cdT Ev) mx d 42 28 ls ((.int (4)) :: st) h Q := x_push (v := (.int (4))) (len := 1) rfl
theorem s_42_28 {n dp sp : Int32} {a b : Nat} (hst : st.length ≤ 4) : wp V (cdT Ev) mx d 42 28 ls (.int n :: .int dp :: .ref b :: .int sp :: .ref a :: st) h Q = ci2 h a b n dp sp (fun hh => wp V (cdT Ev) mx d 42 31 ls st hh Q) := x_cpyi rfl hst
theorem s_42_31 : wp V (cdT Ev) mx d 42 31 ls [] h Q = Q none h := x_retv rfl
theorem e_42 {a : Nat} {p0 : Nat} : WP V (cdT Ev) mx (d + 1) 42 [.ref a, .ref p0] h Q = wp V (cdT Ev) mx d 42 0 [some (.ref a), some (.ref p0), none] [] h Q := propext (WP_eq (Nat.le_of_ble_eq_true rfl))
theorem s_43_0 {a : Nat} : wp V (cdT Ev) mx d 43 0 [some (.ref a), l1, l2, l3] st h Q = wp V (cdT Ev) mx d 43 1 [some (.ref a), l1, l2, l3] (.ref a :: st) h Q := x_aload (len := 1) rfl rfl
theorem s_43_0_n : wp V (cdT Ev) mx d 43 0 [some .null, l1, l2, l3] st h Q = wp V (cdT Ev) mx d 43 1 [some .null, l1, l2, l3] (.null :: st) h Q := x_aloadN (len := 1) rfl rfl
theorem s_43_1 {x : Int32} : wp V (cdT Ev) mx d 43 1 [l0, some (.int x), l2, l3] st h Q = wp V (cdT Ev) mx d 43 2 [l0, some (.int x), l2, l3] (.int x :: st) h Q := x_iload (len := 1) rfl rfl
theorem s_43_2 {x : Int32} : wp V (cdT Ev) mx d 43 2 [l0, l1, some (.int x), l3] st h Q = wp V (cdT Ev) mx d 43 3 [l0, l1, some (.int x), l3] (.int x :: st) h Q := x_iload (len := 1) rfl rfl
theorem s_43_3 {x : Int32} : wp V (cdT Ev) mx d 43 3 [l0, l1, l2, some (.int x)] st h Q = wp V (cdT Ev) mx d 43 4 [l0, l1, l2, some (.int x)] (.int x :: st) h Q := x_iload (len := 1) rfl rfl
theorem s_43_4 {b : Nat} {v0 v1 v2 : Value} (hst : st.length ≤ 4) : wp V (cdT Ev) mx d 43 4 ls (v2 :: v1 :: v0 :: .ref b :: st) h Q = cv [(8, 22)] h b (fun y' => WP V (cdT Ev) mx d y' [.ref b, v0, v1, v2] h (fun r h' => wp V (cdT Ev) mx d 43 7 ls (rts r st) h' Q)) := x_cv (sg := [v2, v1, v0]) rfl hst rfl rfl
theorem s_43_7 {a : Nat} : wp V (cdT Ev) mx d 43 7 [some (.ref a), l1, l2, l3] st h Q = wp V (cdT Ev) mx d 43 8 [some (.ref a), l1, l2, l3] (.ref a :: st) h Q := x_aload (len := 1) rfl rfl
theorem s_43_7_n : wp V (cdT Ev) mx d 43 7 [some .null, l1, l2, l3] st h Q = wp V (cdT Ev) mx d 43 8 [some .null, l1, l2, l3] (.null :: st) h Q := x_aloadN (len := 1) rfl rfl
theorem s_43_8 {a : Nat} : wp V (cdT Ev) mx d 43 8 ls (.ref a :: st) h Q = gf [8] 6 h a (fun v => wp V (cdT Ev) mx d 43 11 ls (v :: st) h Q) := x_getf rfl
theorem s_43_11 {x : Int32} : wp V (cdT Ev) mx d 43 11 [l0, some (.int x), l2, l3] st h Q = wp V (cdT Ev) mx d 43 12 [l0, some (.int x), l2, l3] (.int x :: st) h Q := x_iload (len := 1) rfl rfl
theorem s_43_12 : wp V (cdT Ev) mx d 43 12 ls st h Q = wp V (cdT Ev) mx d 43 13 ls ((.int (4)) :: st) h Q := x_push (v := (.int (4))) (len := 1) rfl
theorem s_43_13 {x z : Int32} : wp V (cdT Ev) mx d 43 13 ls (.int z :: .int x :: st) h Q = (¬ z = 0 ∧ wp V (cdT Ev) mx d 43 14 ls (.int (x - x / z * z) :: st) h Q) := x_ibz (f := fun x z => x - x / z * z) rfl
theorem s_43_14 {i : Int32} {a : Nat} : wp V (cdT Ev) mx d 43 14 ls (.int i :: .ref a :: st) h Q = ai 2 i V h a (fun x => wp V (cdT Ev) mx d 43 15 ls (.int x :: st) h Q) := x_iald rfl
theorem s_43_15 {x z : Int32} : wp V (cdT Ev) mx d 43 15 ls (.int z :: .int x :: st) h Q = wp V (cdT Ev) mx d 43 16 ls (.int (x + z) :: st) h Q := x_ib (f := fun x z => x + z) rfl
theorem s_43_16 {x : Int32} : wp V (cdT Ev) mx d 43 16 ls [.int x] h Q = Q (some (.int x)) h := x_ret rfl rfl
theorem e_43 {a : Nat} {p0 : Int32} {p1 : Int32} {p2 : Int32} : WP V (cdT Ev) mx (d + 1) 43 [.ref a, .int p0, .int p1, .int p2] h Q = wp V (cdT Ev) mx d 43 0 [some (.ref a), some (.int p0), some (.int p1), some (.int p2)] [] h Q := propext (WP_eq (Nat.le_of_ble_eq_true rfl))
theorem s_44_0 {a : Nat} : wp V (cdT Ev) mx d 44 0 [l0, some (.ref a), l2] st h Q = wp V (cdT Ev) mx d 44 1 [l0, some (.ref a), l2] (.ref a :: st) h Q := x_aload (len := 1) rfl rfl
theorem s_44_0_n : wp V (cdT Ev) mx d 44 0 [l0, some .null, l2] st h Q = wp V (cdT Ev) mx d 44 1 [l0, some .null, l2] (.null :: st) h Q := x_aloadN (len := 1) rfl rfl
theorem s_44_1 : wp V (cdT Ev) mx d 44 1 ls st h Q = wp V (cdT Ev) mx d 44 3 ls ((.int (70)) :: st) h Q := x_push (v := (.int (70))) (len := 2) rfl
theorem s_44_3 {b : Nat} {v0 : Value} (hst : st.length ≤ 4) : wp V (cdT Ev) mx d 44 3 ls (v0 :: .ref b :: st) h Q = cv [(9, 47)] h b (fun y' => WP V (cdT Ev) mx d y' [.ref b, v0] h (fun r h' => wp V (cdT Ev) mx d 44 6 ls (rts r st) h' Q)) := x_cv (sg := [v0]) rfl hst rfl rfl
theorem s_44_6 {a : Nat} : wp V (cdT Ev) mx d 44 6 [some (.ref a), l1, l2] st h Q = wp V (cdT Ev) mx d 44 7 [some (.ref a), l1, l2] (.ref a :: st) h Q := x_aload (len := 1) rfl rfl
theorem s_44_6_n : wp V (cdT Ev) mx d 44 6 [some .null, l1, l2] st h Q = wp V (cdT Ev) mx d 44 7 [some .null, l1, l2] (.null :: st) h Q := x_aloadN (len := 1) rfl rfl
theorem s_44_7 {a : Nat} : wp V (cdT Ev) mx d 44 7 [l0, some (.ref a), l2] st h Q = wp V (cdT Ev) mx d 44 8 [l0, some (.ref a), l2] (.ref a :: st) h Q := x_aload (len := 1) rfl rfl
theorem s_44_7_n : wp V (cdT Ev) mx d 44 7 [l0, some .null, l2] st h Q = wp V (cdT Ev) mx d 44 8 [l0, some .null, l2] (.null :: st) h Q := x_aloadN (len := 1) rfl rfl
theorem s_44_8 {x : Int32} : wp V (cdT Ev) mx d 44 8 [l0, l1, some (.int x)] st h Q = wp V (cdT Ev) mx d 44 9 [l0, l1, some (.int x)] (.int x :: st) h Q := x_iload (len := 1) rfl rfl
theorem s_44_9 {b : Nat} {v0 v1 : Value} (hst : st.length ≤ 4) : wp V (cdT Ev) mx d 44 9 ls (v1 :: v0 :: .ref b :: st) h Q = cv [(8, 28)] h b (fun y' => WP V (cdT Ev) mx d y' [.ref b, v0, v1] h (fun r h' => wp V (cdT Ev) mx d 44 12 ls (rts r st) h' Q)) := x_cv (sg := [v1, v0]) rfl hst rfl rfl
theorem s_44_12 {a : Nat} : wp V (cdT Ev) mx d 44 12 [some (.ref a), l1, l2] st h Q = wp V (cdT Ev) mx d 44 13 [some (.ref a), l1, l2] (.ref a :: st) h Q := x_aload (len := 1) rfl rfl
theorem s_44_12_n : wp V (cdT Ev) mx d 44 12 [some .null, l1, l2] st h Q = wp V (cdT Ev) mx d 44 13 [some .null, l1, l2] (.null :: st) h Q := x_aloadN (len := 1) rfl rfl
theorem s_44_13 {a : Nat} : wp V (cdT Ev) mx d 44 13 [l0, some (.ref a), l2] st h Q = wp V (cdT Ev) mx d 44 14 [l0, some (.ref a), l2] (.ref a :: st) h Q := x_aload (len := 1) rfl rfl
theorem s_44_13_n : wp V (cdT Ev) mx d 44 13 [l0, some .null, l2] st h Q = wp V (cdT Ev) mx d 44 14 [l0, some .null, l2] (.null :: st) h Q := x_aloadN (len := 1) rfl rfl
theorem s_44_14 : wp V (cdT Ev) mx d 44 14 ls st h Q = wp V (cdT Ev) mx d 44 15 ls ((.int (2)) :: st) h Q := x_push (v := (.int (2))) (len := 1) rfl
theorem s_44_15 {b : Nat} {v0 v1 : Value} (hst : st.length ≤ 4) : wp V (cdT Ev) mx d 44 15 ls (v1 :: v0 :: .ref b :: st) h Q = cv [(8, 27)] h b (fun y' => WP V (cdT Ev) mx d y' [.ref b, v0, v1] h (fun r h' => wp V (cdT Ev) mx d 44 18 ls (rts r st) h' Q)) := x_cv (sg := [v1, v0]) rfl hst rfl rfl
theorem s_44_18 {x z : Int32} : wp V (cdT Ev) mx d 44 18 ls (.int z :: .int x :: st) h Q = wp V (cdT Ev) mx d 44 19 ls (.int (x + z) :: st) h Q := x_ib (f := fun x z => x + z) rfl
theorem s_44_19 {x : Int32} : wp V (cdT Ev) mx d 44 19 ls [.int x] h Q = Q (some (.int x)) h := x_ret rfl rfl
theorem e_44 {a : Nat} {p0 : Nat} {p1 : Int32} : WP V (cdT Ev) mx (d + 1) 44 [.ref a, .ref p0, .int p1] h Q = wp V (cdT Ev) mx d 44 0 [some (.ref a), some (.ref p0), some (.int p1)] [] h Q := propext (WP_eq (Nat.le_of_ble_eq_true rfl))
theorem s_45_0 {a : Nat} : wp V (cdT Ev) mx d 45 0 [l0, some (.ref a), l2] st h Q = wp V (cdT Ev) mx d 45 1 [l0, some (.ref a), l2] (.ref a :: st) h Q := x_aload (len := 1) rfl rfl
theorem s_45_0_n : wp V (cdT Ev) mx d 45 0 [l0, some .null, l2] st h Q = wp V (cdT Ev) mx d 45 1 [l0, some .null, l2] (.null :: st) h Q := x_aloadN (len := 1) rfl rfl
theorem s_45_1 : wp V (cdT Ev) mx d 45 1 ls st h Q = wp V (cdT Ev) mx d 45 3 ls ((.int (71)) :: st) h Q := x_push (v := (.int (71))) (len := 2) rfl
theorem s_45_3 {b : Nat} {v0 : Value} (hst : st.length ≤ 4) : wp V (cdT Ev) mx d 45 3 ls (v0 :: .ref b :: st) h Q = cv [(9, 47)] h b (fun y' => WP V (cdT Ev) mx d y' [.ref b, v0] h (fun r h' => wp V (cdT Ev) mx d 45 6 ls (rts r st) h' Q)) := x_cv (sg := [v0]) rfl hst rfl rfl
theorem s_45_6 {a : Nat} : wp V (cdT Ev) mx d 45 6 [some (.ref a), l1, l2] st h Q = wp V (cdT Ev) mx d 45 7 [some (.ref a), l1, l2] (.ref a :: st) h Q := x_aload (len := 1) rfl rfl
theorem s_45_6_n : wp V (cdT Ev) mx d 45 6 [some .null, l1, l2] st h Q = wp V (cdT Ev) mx d 45 7 [some .null, l1, l2] (.null :: st) h Q := x_aloadN (len := 1) rfl rfl
theorem s_45_7 {a : Nat} : wp V (cdT Ev) mx d 45 7 [l0, some (.ref a), l2] st h Q = wp V (cdT Ev) mx d 45 8 [l0, some (.ref a), l2] (.ref a :: st) h Q := x_aload (len := 1) rfl rfl
theorem s_45_7_n : wp V (cdT Ev) mx d 45 7 [l0, some .null, l2] st h Q = wp V (cdT Ev) mx d 45 8 [l0, some .null, l2] (.null :: st) h Q := x_aloadN (len := 1) rfl rfl
theorem s_45_8 {x : Int32} : wp V (cdT Ev) mx d 45 8 [l0, l1, some (.int x)] st h Q = wp V (cdT Ev) mx d 45 9 [l0, l1, some (.int x)] (.int x :: st) h Q := x_iload (len := 1) rfl rfl
theorem s_45_9 {b : Nat} {v0 v1 : Value} (hst : st.length ≤ 4) : wp V (cdT Ev) mx d 45 9 ls (v1 :: v0 :: .ref b :: st) h Q = cv [(8, 27)] h b (fun y' => WP V (cdT Ev) mx d y' [.ref b, v0, v1] h (fun r h' => wp V (cdT Ev) mx d 45 12 ls (rts r st) h' Q)) := x_cv (sg := [v1, v0]) rfl hst rfl rfl
theorem s_45_12 {a : Nat} : wp V (cdT Ev) mx d 45 12 [some (.ref a), l1, l2] st h Q = wp V (cdT Ev) mx d 45 13 [some (.ref a), l1, l2] (.ref a :: st) h Q := x_aload (len := 1) rfl rfl
theorem s_45_12_n : wp V (cdT Ev) mx d 45 12 [some .null, l1, l2] st h Q = wp V (cdT Ev) mx d 45 13 [some .null, l1, l2] (.null :: st) h Q := x_aloadN (len := 1) rfl rfl
theorem s_45_13 {a : Nat} : wp V (cdT Ev) mx d 45 13 ls (.ref a :: st) h Q = gf [8] 2 h a (fun v => wp V (cdT Ev) mx d 45 16 ls (v :: st) h Q) := x_getf rfl
theorem s_45_16 {x z : Int32} : wp V (cdT Ev) mx d 45 16 ls (.int z :: .int x :: st) h Q = wp V (cdT Ev) mx d 45 17 ls (.int (x ^^^ z) :: st) h Q := x_ib (f := fun x z => x ^^^ z) rfl
theorem s_45_17 {x : Int32} : wp V (cdT Ev) mx d 45 17 ls [.int x] h Q = Q (some (.int x)) h := x_ret rfl rfl
theorem e_45 {a : Nat} {p0 : Nat} {p1 : Int32} : WP V (cdT Ev) mx (d + 1) 45 [.ref a, .ref p0, .int p1] h Q = wp V (cdT Ev) mx d 45 0 [some (.ref a), some (.ref p0), some (.int p1)] [] h Q := propext (WP_eq (Nat.le_of_ble_eq_true rfl))
theorem s_46_0 {a : Nat} : wp V (cdT Ev) mx d 46 0 [some (.ref a)] st h Q = wp V (cdT Ev) mx d 46 1 [some (.ref a)] (.ref a :: st) h Q := x_aload (len := 1) rfl rfl
theorem s_46_0_n : wp V (cdT Ev) mx d 46 0 [some .null] st h Q = wp V (cdT Ev) mx d 46 1 [some .null] (.null :: st) h Q := x_aloadN (len := 1) rfl rfl
theorem s_46_1 {a : Nat} (hst : st.length ≤ 4) : wp V (cdT Ev) mx d 46 1 ls (.ref a :: st) h Q = wp V (cdT Ev) mx d 46 4 ls st h Q := x_oi rfl hst
theorem s_46_4 {a : Nat} : wp V (cdT Ev) mx d 46 4 [some (.ref a)] st h Q = wp V (cdT Ev) mx d 46 5 [some (.ref a)] (.ref a :: st) h Q := x_aload (len := 1) rfl rfl
theorem s_46_4_n : wp V (cdT Ev) mx d 46 4 [some .null] st h Q = wp V (cdT Ev) mx d 46 5 [some .null] (.null :: st) h Q := x_aloadN (len := 1) rfl rfl
theorem s_46_5 : wp V (cdT Ev) mx d 46 5 ls st h Q = wp V (cdT Ev) mx d 46 7 ls ((.int (20)) :: st) h Q := x_push (v := (.int (20))) (len := 2) rfl
theorem s_46_7 {x : Int32} : wp V (cdT Ev) mx d 46 7 ls (.int x :: st) h Q = (¬ (x < 0 ∨ 1000 < x.toNatClampNeg) ∧ wp V (cdT Ev) mx d 46 9 ls (.ref h.2.1 :: st) (hnew h (.inl (2, x.toNatClampNeg, (.inl (fun _ => 0)))) x.toNatClampNeg) Q) := x_newa (len := 2) rfl
theorem s_46_9 {w : Value} {a : Nat} : wp V (cdT Ev) mx d 46 9 ls (w :: .ref a :: st) h Q = pf [9] 0 2 w h a (fun hh => wp V (cdT Ev) mx d 46 12 ls st hh Q) := x_putf rfl
theorem s_46_12 : wp V (cdT Ev) mx d 46 12 ls [] h Q = Q none h := x_retv rfl
theorem e_46 {a : Nat} : WP V (cdT Ev) mx (d + 1) 46 [.ref a] h Q = wp V (cdT Ev) mx d 46 0 [some (.ref a)] [] h Q := propext (WP_eq (Nat.le_of_ble_eq_true rfl))
end
