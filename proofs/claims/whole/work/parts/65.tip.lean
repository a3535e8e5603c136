/-! Tips, a person's day: the class. -/
theorem okr3_r {a : Nat} : okr 3 (.ref a) = true := id rfl
theorem okr3_n : okr 3 .null = true := id rfl
def bc1 (x : Int32) : Int32 := x - ((x.toUInt32 >>> ((1 : Int32).toUInt32 &&& Int32.toUInt32 31)).toInt32 &&& 1431655765)
def bc2 (x : Int32) : Int32 := (x &&& 858993459) + ((x.toUInt32 >>> ((2 : Int32).toUInt32 &&& Int32.toUInt32 31)).toInt32 &&& 858993459)
def bc3 (x : Int32) : Int32 := x + (x.toUInt32 >>> ((4 : Int32).toUInt32 &&& Int32.toUInt32 31)).toInt32 &&& 252645135
def bc4 (x : Int32) : Int32 := x + (x.toUInt32 >>> ((8 : Int32).toUInt32 &&& Int32.toUInt32 31)).toInt32
def bc5 (x : Int32) : Int32 := x + (x.toUInt32 >>> ((16 : Int32).toUInt32 &&& Int32.toUInt32 31)).toInt32
theorem bc_k : ∀ k, k < 4096 → bc5 (bc4 (bc3 (bc2 (bc1 (nI k))))) &&& 63 = mn (nI k) := all64 (by decide +kernel)
/-- what holds of the people of a world -/
def WK (M : Nat → Int32) (ex : Nat → Bool) (c : Nat) : Prop := c6 M c ∧ ∀ i, i < c → ex i = true ∧ P1 M i
theorem WK_1 {M : Nat → Int32} {ex : Nat → Bool} {c i : Nat} (h : WK M ex c) (hi : i < c) : ex i = true := (h.2 i hi).1
theorem WK_P {M : Nat → Int32} {ex : Nat → Bool} {c i : Nat} (h : WK M ex c) (hi : i < c) : P1 M i := (h.2 i hi).2
theorem WK_6 {M : Nat → Int32} {ex : Nat → Bool} {c i : Nat} (h : WK M ex c) (hi : i < c) : i < 6 := by
  have := h.1.2
  omega
section
variable {V : Nat → Option AE} {Ev : Nat → Value} {d : Nat} {Q : Option Value → HS → Prop}
theorem c_bitCount {x : Int32} {h : HS} (hx : isS x) : WP V (cdT Ev) mx (d + 1) 195 [.int x] h Q = Q (some (.int (mn x))) h := by
  obtain ⟨k, hk, e⟩ := isS_of hx
  rw [e_195]
  simp only [s_195_0, s_195_1, s_195_2, s_195_3, s_195_4, s_195_7, s_195_8, s_195_9, s_195_10, s_195_11, s_195_14, s_195_15, s_195_16, s_195_17, s_195_18, s_195_21, s_195_22, s_195_23, s_195_24, s_195_25, s_195_26, s_195_27, s_195_28, s_195_29, s_195_32, s_195_33, s_195_34, s_195_35, s_195_36, s_195_38, s_195_39, s_195_40, s_195_41, s_195_42, s_195_43, s_195_45, s_195_46, s_195_47, s_195_48, s_195_49, s_195_51, s_195_52, ↓reduceIte, eq_self, rts_some, rts_none, nq_int, nq_ref, nq_null, nq_none, okr1_0, okr1_1, okr_b, List.length_nil, List.length_cons, Nat.zero_le, Nat.reduceAdd, Nat.reduceLeDiff, b2i_0, b2i_n0, b2i_1, b2i_n1, ite_not, if_true, if_false, not_true_eq_false, not_false_eq_true, true_and, and_true, false_and, and_false]
  show Q (some (.int (bc5 (bc4 (bc3 (bc2 (bc1 x)))) &&& 63))) h = _
  rw [e, bc_k k hk]
variable {LG gr : Nat → Nat} {B : Nat} {M F : Nat → Int32} {ex : Nat → Bool} {hd : Option Nat} {C G : Nat → Option AE} {z : Nat × Nat}
variable {Bp : Nat} {Mp W : Nat → Int32} {cl : List Cls}
theorem c_tipOf_l (hg : ∀ r, gr (LG r) = r) {i : Nat} {has : Int32} (hp : ∀ F, PO LG (WC LG B M F ex hd C) Bp Mp i) (hP : P1 Mp i) (hW : AG W M Mp i) (hb : HB LG C B hd cl) (H : ∀ F', Q (some (.int (tipF W cl i has))) (GW LG gr B M F' ex hd C G z)) : ∀ m j, j + m = 12 → ∀ F l7, nl l7 = true → wp V (cdT Ev) mx (d + 3) 58 14 [some (.ref (LG B)), some (.ref (LG (Bp + 13 + i))), some (.int has), some (.int (mn has)), some (.int (tpL (fun s => urg W i s (smF W cl i s) (mn has)) has j).1), some (.int (tpL (fun s => urg W i s (smF W cl i s) (mn has)) has j).2), some (.int (nI j)), l7] [] (GW LG gr B M F ex hd C G z) Q := by
  intro m
  induction m with
  | zero =>
    intro j hj F l7 n7
    have : j = 12 := by omega
    subst this
    simp only [s_58_0, s_58_1, s_58_4, s_58_5, s_58_6, s_58_8, s_58_9, s_58_11, s_58_12, s_58_14, s_58_16, s_58_18, s_58_21, s_58_22, s_58_24, s_58_25, s_58_26, s_58_27, s_58_28, s_58_31, s_58_31_n, s_58_32, s_58_34, s_58_34_n, s_58_35, s_58_35_n, s_58_36, s_58_38, s_58_41, s_58_42, s_58_45, s_58_47, s_58_49, s_58_51, s_58_54, s_58_56, s_58_58, s_58_60, s_58_62, s_58_65, s_58_68, s_58_70, ↓reduceIte, eq_self, rts_some, rts_none, nq_int, nq_ref, nq_null, nq_none, okr1_0, okr1_1, okr_b, List.length_nil, List.length_cons, Nat.zero_le, Nat.reduceAdd, Nat.reduceLeDiff, b2i_0, b2i_n0, b2i_1, b2i_n1, ite_not, if_true, if_false, not_true_eq_false, not_false_eq_true, true_and, and_true, false_and, and_false, show ((12 : Int32) ≤ nI 12) = True from by decide]
    exact H F
  | succ m ih =>
    intro j hj F l7 n7
    have hj2 : j < 12 := by omega
    have hlt : ((12 : Int32) ≤ nI j) = False := eq_false (nI_ge hj2 (by decide))
    obtain ⟨F', e⟩ := c_sumOf (V := V) (Ev := Ev) (d := d) (F := F) (G := G) (z := z) hg hp hj2 hW hb
    have cu := fun (Q : Option Value → HS → Prop) => c_uv (V := V) (Ev := Ev) (d := d) (Q := Q) (G := G) (z := z) (sum := smF W cl i j) (sz := mn has) hg (hp F') hj2 hP
    have eu : urg W i j (smF W cl i j) (mn has) = urg Mp i j (smF W cl i j) (mn has) := urg_ag hW.1
    rw [s_58_14]
    by_cases hbt : bt has j = 1
    · have hb1 : (has >>> (nI j &&& 31) &&& 1 = 1) = True := eq_true hbt
      by_cases hm : (tpL (fun s => urg W i s (smF W cl i s) (mn has)) has j).2 < urg Mp i j (smF W cl i j) (mn has)
      · have et : tpL (fun s => urg W i s (smF W cl i s) (mn has)) has (j + 1) = (nI j, urg W i j (smF W cl i j) (mn has)) := by
          simp only [tpL, hbt, if_true]
          rw [eu, if_pos hm]
        have := ih (j + 1) (by omega) F' (some (.int (urg Mp i j (smF W cl i j) (mn has)))) nq_int
        rw [et] at this
        simp only [s_58_0, s_58_1, s_58_4, s_58_5, s_58_6, s_58_8, s_58_9, s_58_11, s_58_12, s_58_16, s_58_18, s_58_21, s_58_22, s_58_24, s_58_25, s_58_26, s_58_27, s_58_28, s_58_31, s_58_31_n, s_58_32, s_58_34, s_58_34_n, s_58_35, s_58_35_n, s_58_36, s_58_38, s_58_41, s_58_42, s_58_45, s_58_47, s_58_49, s_58_51, s_58_54, s_58_56, s_58_58, s_58_60, s_58_62, s_58_65, s_58_68, s_58_70, ↓reduceIte, eq_self, rts_some, rts_none, nq_int, nq_ref, nq_null, nq_none, okr1_0, okr1_1, okr_b, List.length_nil, List.length_cons, Nat.zero_le, Nat.reduceAdd, Nat.reduceLeDiff, b2i_0, b2i_n0, b2i_1, b2i_n1, ite_not, if_true, if_false, not_true_eq_false, not_false_eq_true, true_and, and_true, false_and, and_false, hlt, hb1, wcv hg, e, cu, Int32.not_le.mpr hm, nI_1, n7]
        rw [eu] at this
        exact this
      · have et : tpL (fun s => urg W i s (smF W cl i s) (mn has)) has (j + 1) = tpL (fun s => urg W i s (smF W cl i s) (mn has)) has j := by
          simp only [tpL, hbt, if_true]
          rw [eu, if_neg hm]
        have := ih (j + 1) (by omega) F' (some (.int (urg Mp i j (smF W cl i j) (mn has)))) nq_int
        rw [et] at this
        simp only [s_58_0, s_58_1, s_58_4, s_58_5, s_58_6, s_58_8, s_58_9, s_58_11, s_58_12, s_58_16, s_58_18, s_58_21, s_58_22, s_58_24, s_58_25, s_58_26, s_58_27, s_58_28, s_58_31, s_58_31_n, s_58_32, s_58_34, s_58_34_n, s_58_35, s_58_35_n, s_58_36, s_58_38, s_58_41, s_58_42, s_58_45, s_58_47, s_58_49, s_58_51, s_58_54, s_58_56, s_58_58, s_58_60, s_58_62, s_58_65, s_58_68, s_58_70, ↓reduceIte, eq_self, rts_some, rts_none, nq_int, nq_ref, nq_null, nq_none, okr1_0, okr1_1, okr_b, List.length_nil, List.length_cons, Nat.zero_le, Nat.reduceAdd, Nat.reduceLeDiff, b2i_0, b2i_n0, b2i_1, b2i_n1, ite_not, if_true, if_false, not_true_eq_false, not_false_eq_true, true_and, and_true, false_and, and_false, hlt, hb1, wcv hg, e, cu, Int32.not_lt.mp hm, nI_1, n7]
        exact this
    · have hb1 : (has >>> (nI j &&& 31) &&& 1 = 1) = False := eq_false hbt
      have et : tpL (fun s => urg W i s (smF W cl i s) (mn has)) has (j + 1) = tpL (fun s => urg W i s (smF W cl i s) (mn has)) has j := by
        simp only [tpL, hbt, if_false]
      have := ih (j + 1) (by omega) F l7 n7
      rw [et] at this
      simp only [s_58_0, s_58_1, s_58_4, s_58_5, s_58_6, s_58_8, s_58_9, s_58_11, s_58_12, s_58_16, s_58_18, s_58_21, s_58_22, s_58_24, s_58_25, s_58_26, s_58_27, s_58_28, s_58_31, s_58_31_n, s_58_32, s_58_34, s_58_34_n, s_58_35, s_58_35_n, s_58_36, s_58_38, s_58_41, s_58_42, s_58_45, s_58_47, s_58_49, s_58_51, s_58_54, s_58_56, s_58_58, s_58_60, s_58_62, s_58_65, s_58_68, s_58_70, ↓reduceIte, eq_self, rts_some, rts_none, nq_int, nq_ref, nq_null, nq_none, okr1_0, okr1_1, okr_b, List.length_nil, List.length_cons, Nat.zero_le, Nat.reduceAdd, Nat.reduceLeDiff, b2i_0, b2i_n0, b2i_1, b2i_n1, ite_not, if_true, if_false, not_true_eq_false, not_false_eq_true, true_and, and_true, false_and, and_false, hlt, hb1, nI_1, n7]
      exact this
theorem c_tipOf (hg : ∀ r, gr (LG r) = r) {i : Nat} {has : Int32} (hs : isS has) (hp : ∀ F, PO LG (WC LG B M F ex hd C) Bp Mp i) (hP : P1 Mp i) (hW : AG W M Mp i) (hb : HB LG C B hd cl) (H : ∀ F', Q (some (.int (tipF W cl i has))) (GW LG gr B M F' ex hd C G z)) : WP V (cdT Ev) mx (d + 4) 58 [.ref (LG B), .ref (LG (Bp + 13 + i)), .int has] (GW LG gr B M F ex hd C G z) Q := by
  rw [e_58]
  simp only [s_58_0, s_58_1, s_58_4, s_58_5, s_58_6, s_58_8, s_58_9, s_58_11, s_58_12, ↓reduceIte, eq_self, rts_some, rts_none, nq_int, nq_ref, nq_null, nq_none, okr1_0, okr1_1, okr_b, List.length_nil, List.length_cons, Nat.zero_le, Nat.reduceAdd, Nat.reduceLeDiff, b2i_0, b2i_n0, b2i_1, b2i_n1, ite_not, if_true, if_false, not_true_eq_false, not_false_eq_true, true_and, and_true, false_and, and_false, c_bitCount hs]
  exact c_tipOf_l hg hp hP hW hb H 12 0 rfl F none nq_none
theorem c_pAt_y (hg : ∀ r, gr (LG r) = r) {c i : Nat} (hk : WK M ex c) (hi : i < c) : WP V (cdT Ev) mx (d + 1) 51 [.ref (LG B), .int (nI i)] (GW LG gr B M F ex hd C G z) Q = Q (some (.ref (LG (B + 13 + i)))) (GW LG gr B M F ex hd C G z) := by
  have h6 := WK_6 hk hi
  have hc := hk.1
  rw [e_51]
  simp only [s_51_0, s_51_1, s_51_4, s_51_5, s_51_5_n, s_51_6, s_51_9, s_51_12, s_51_12_n, s_51_13, s_51_16, s_51_17, s_51_18, s_51_21, s_51_22, s_51_22_n, ↓reduceIte, eq_self, rts_some, rts_none, nq_int, nq_ref, nq_null, nq_none, okr1_0, okr1_1, okr_b, List.length_nil, List.length_cons, Nat.zero_le, Nat.reduceAdd, Nat.reduceLeDiff, b2i_0, b2i_n0, b2i_1, b2i_n1, ite_not, if_true, if_false, not_true_eq_false, not_false_eq_true, true_and, and_true, false_and, and_false, wg_2 hg, wg_1 hg, wpe hg, hc.1, eq_false (nI_pos (show i < 2 ^ 31 by omega)), eq_false (nI_ge hi (show c < 2 ^ 31 by have := hc.2; omega)), ix_nIT h6 (show 6 < 2 ^ 31 by decide), nI_clamp (show i < 2 ^ 31 by omega), WK_1 hk hi, okr3_r]
theorem c_pAt_n (hg : ∀ r, gr (LG r) = r) {c : Nat} {n : Int32} (hc : c6 M c) (hn : ¬ oneQ M n) : WP V (cdT Ev) mx (d + 1) 51 [.ref (LG B), .int n] (GW LG gr B M F ex hd C G z) Q = Q (some .null) (GW LG gr B M F ex hd C G z) := by
  rw [e_51]
  by_cases h0 : n < 0
  · simp only [s_51_0, s_51_1, s_51_4, s_51_5, s_51_5_n, s_51_6, s_51_9, s_51_12, s_51_12_n, s_51_13, s_51_16, s_51_17, s_51_18, s_51_21, s_51_22, s_51_22_n, ↓reduceIte, eq_self, rts_some, rts_none, nq_int, nq_ref, nq_null, nq_none, okr1_0, okr1_1, okr_b, List.length_nil, List.length_cons, Nat.zero_le, Nat.reduceAdd, Nat.reduceLeDiff, b2i_0, b2i_n0, b2i_1, b2i_n1, ite_not, if_true, if_false, not_true_eq_false, not_false_eq_true, true_and, and_true, false_and, and_false, wg_2 hg, wg_1 hg, h0, okr3_n]
  · have h1 : M 68 ≤ n := by
      obtain ⟨j, hj, rfl⟩ := nI_of h0
      rw [hc.1]
      have hc2 := hc.2
      rcases Nat.lt_or_ge j c with h | h
      · exact absurd (by unfold oneQ; rw [hc.1]; exact k_one hc.2 h) hn
      · exact nI_le h hj
    simp only [s_51_0, s_51_1, s_51_4, s_51_5, s_51_5_n, s_51_6, s_51_9, s_51_12, s_51_12_n, s_51_13, s_51_16, s_51_17, s_51_18, s_51_21, s_51_22, s_51_22_n, ↓reduceIte, eq_self, rts_some, rts_none, nq_int, nq_ref, nq_null, nq_none, okr1_0, okr1_1, okr_b, List.length_nil, List.length_cons, Nat.zero_le, Nat.reduceAdd, Nat.reduceLeDiff, b2i_0, b2i_n0, b2i_1, b2i_n1, ite_not, if_true, if_false, not_true_eq_false, not_false_eq_true, true_and, and_true, false_and, and_false, wg_2 hg, wg_1 hg, h0, h1, okr3_n]
theorem c_freeNow (hg : ∀ r, gr (LG r) = r) (hb : HB LG C B hd cl) : WP V (cdT Ev) mx (d + 1) 52 [.ref (LG B)] (GW LG gr B M F ex hd C G z) Q = Q (some (.int (freeC 0 cl))) (GW LG gr B M F ex hd C G z) := by
  rw [e_52]
  match hd, hb with
  | none, hb =>
    have hb' : cl = [] := hb
    subst hb'
    have hr : rfv LG none = .null := rfl
    simp only [s_52_0, s_52_0_n, s_52_1, s_52_4, s_52_4_n, s_52_7, s_52_8, s_52_11, s_52_11_n, s_52_12, s_52_15, s_52_18, ↓reduceIte, eq_self, rts_some, rts_none, nq_int, nq_ref, nq_null, nq_none, okr1_0, okr1_1, okr_b, List.length_nil, List.length_cons, Nat.zero_le, Nat.reduceAdd, Nat.reduceLeDiff, b2i_0, b2i_n0, b2i_1, b2i_n1, ite_not, if_true, if_false, not_true_eq_false, not_false_eq_true, true_and, and_true, false_and, and_false, wg_9 hg, hr, freeC, List.foldl_nil]
  | some r, hb =>
    have hr : rfv LG (some r) = .ref (LG r) := rfl
    have g8 : ∀ K : Value → Prop, gf [0] 8 (GW LG gr B M F ex (some r) C G z) (LG r) K = K (.int (freeC 0 cl)) := by
      intro K
      obtain ⟨x1, x2, x4, code, wt, en, h1, -⟩ := BrC_W (M' := M) (F' := F) (ex' := ex) (hd' := some r) hb
      exact r_gf hg h1 (by decide) rfl
    simp only [s_52_0, s_52_0_n, s_52_1, s_52_4, s_52_4_n, s_52_7, s_52_8, s_52_11, s_52_11_n, s_52_12, s_52_15, s_52_18, ↓reduceIte, eq_self, rts_some, rts_none, nq_int, nq_ref, nq_null, nq_none, okr1_0, okr1_1, okr_b, List.length_nil, List.length_cons, Nat.zero_le, Nat.reduceAdd, Nat.reduceLeDiff, b2i_0, b2i_n0, b2i_1, b2i_n1, ite_not, if_true, if_false, not_true_eq_false, not_false_eq_true, true_and, and_true, false_and, and_false, wg_9 hg, hr, g8]
theorem c_letGo (hg : ∀ r, gr (LG r) = r) {x : Int32} : WP V (cdT Ev) mx (d + 1) 62 [.ref (LG B), .int x] (GW LG gr B M F ex hd C G z) Q = Q none (GW LG gr B (upd (upd M 13 (M 13 ||| x)) 12 (M 12 &&& (x ^^^ (-1)))) F ex hd C G z) := by
  rw [e_62]
  simp only [s_62_0, s_62_0_n, s_62_1, s_62_1_i, s_62_2, s_62_5, s_62_6, s_62_7, s_62_10, s_62_10_n, s_62_11, s_62_11_i, s_62_12, s_62_15, s_62_16, s_62_17, s_62_18, s_62_19, s_62_22, ↓reduceIte, eq_self, rts_some, rts_none, nq_int, nq_ref, nq_null, nq_none, okr1_0, okr1_1, okr_b, List.length_nil, List.length_cons, Nat.zero_le, Nat.reduceAdd, Nat.reduceLeDiff, b2i_0, b2i_n0, b2i_1, b2i_n1, ite_not, if_true, if_false, not_true_eq_false, not_false_eq_true, true_and, and_true, false_and, and_false, wg_3 hg, wg_4 hg, wp_3 hg, wp_4 hg, pk_un (show 12 ≠ 13 by decide)]
theorem upd_id {f : Nat → Int32} {k : Nat} {x : Int32} (h : f k = x) : upd f k x = f := by
  rw [← h]
  exact upd_us
theorem c_goOne (hg : ∀ r, gr (LG r) = r) {i : Nat} {mb : Int32} (hi : i < 6) (he : ex i = true) (hP : P1 M i) (hbk : M (14 + 9 * i + 4) < mb) (hb : HB LG C B hd cl) (H : ∀ F', Q none (GW LG gr B (goF M cl i) F' ex hd C G z)) : WP V (cdT Ev) mx (d + 5) 61 [.ref (LG B), .ref (LG (B + 13 + i)), .int mb] (GW LG gr B M F ex hd C G z) Q := by
  rw [e_61]
  simp only [s_61_0, s_61_1, s_61_2, s_61_3, s_61_6, ↓reduceIte, eq_self, rts_some, rts_none, nq_int, nq_ref, nq_null, nq_none, okr1_0, okr1_1, okr_b, List.length_nil, List.length_cons, Nat.zero_le, Nat.reduceAdd, Nat.reduceLeDiff, b2i_0, b2i_n0, b2i_1, b2i_n1, ite_not, if_true, if_false, not_true_eq_false, not_false_eq_true, true_and, and_true, false_and, and_false, pg_3 hg hi he, wcv hg]
  refine c_tipOf hg hP.2.2 (fun F => PO_W hi he) hP AG_self hb (fun F' => ?_)
  have H' := H F'
  rcases tipF_k M cl i (M (14 + 9 * i + 2)) with ht | ⟨s, hs, ht, -⟩
  · have hn : ((0 : Int32) ≤ -1) = False := by decide
    rcases hP.2.1 with hb0 | hb1
    · have eg : goF M cl i = upd M (14 + 9 * i + 4) (M (14 + 9 * i + 4) + 1) := by
        unfold goF
        rw [if_pos ht, hb0]
        rfl
      rw [eg] at H'
      simp only [s_61_0, s_61_0_n, s_61_1, s_61_1_n, s_61_2, s_61_2_n, s_61_3, s_61_6, s_61_9, s_61_10, s_61_11, s_61_14, s_61_14_n, s_61_15, s_61_18, s_61_21, s_61_21_n, s_61_22, s_61_25, s_61_26, s_61_29, s_61_29_n, s_61_30, s_61_30_i, s_61_31, s_61_34, s_61_35, s_61_36, s_61_39, s_61_40, s_61_41, s_61_42, s_61_43, s_61_45, s_61_45_n, s_61_46, s_61_46_i, s_61_47, s_61_50, s_61_52, s_61_53, s_61_54, s_61_55, s_61_58, s_61_58_n, s_61_59, s_61_62, s_61_65, s_61_65_n, s_61_66, s_61_66_i, s_61_67, s_61_70, s_61_72, s_61_73, s_61_76, s_61_79, s_61_79_n, s_61_80, s_61_80_i, s_61_81, s_61_84, s_61_86, s_61_87, s_61_90, s_61_90_n, s_61_91, s_61_92, s_61_95, ↓reduceIte, eq_self, rts_some, rts_none, nq_int, nq_ref, nq_null, nq_none, okr1_0, okr1_1, okr_b, List.length_nil, List.length_cons, Nat.zero_le, Nat.reduceAdd, Nat.reduceLeDiff, b2i_0, b2i_n0, b2i_1, b2i_n1, ite_not, if_true, if_false, not_true_eq_false, not_false_eq_true, true_and, and_true, false_and, and_false, pg_4 hg hi he, pg_5 hg hi he, pp_5 hg hi he, ht, hn, hb0, Int32.not_le.mpr hbk]
      exact H'
    · have eg : goF M cl i = M := by
        unfold goF
        rw [if_pos ht, hb1, if_pos rfl, Int32.add_zero]
        exact upd_us
      have z10 : ((1 : Int32) = 0) = False := by decide
      rw [eg] at H'
      simp only [s_61_0, s_61_0_n, s_61_1, s_61_1_n, s_61_2, s_61_2_n, s_61_3, s_61_6, s_61_9, s_61_10, s_61_11, s_61_14, s_61_14_n, s_61_15, s_61_18, s_61_21, s_61_21_n, s_61_22, s_61_25, s_61_26, s_61_29, s_61_29_n, s_61_30, s_61_30_i, s_61_31, s_61_34, s_61_35, s_61_36, s_61_39, s_61_40, s_61_41, s_61_42, s_61_43, s_61_45, s_61_45_n, s_61_46, s_61_46_i, s_61_47, s_61_50, s_61_52, s_61_53, s_61_54, s_61_55, s_61_58, s_61_58_n, s_61_59, s_61_62, s_61_65, s_61_65_n, s_61_66, s_61_66_i, s_61_67, s_61_70, s_61_72, s_61_73, s_61_76, s_61_79, s_61_79_n, s_61_80, s_61_80_i, s_61_81, s_61_84, s_61_86, s_61_87, s_61_90, s_61_90_n, s_61_91, s_61_92, s_61_95, ↓reduceIte, eq_self, rts_some, rts_none, nq_int, nq_ref, nq_null, nq_none, okr1_0, okr1_1, okr_b, List.length_nil, List.length_cons, Nat.zero_le, Nat.reduceAdd, Nat.reduceLeDiff, b2i_0, b2i_n0, b2i_1, b2i_n1, ite_not, if_true, if_false, not_true_eq_false, not_false_eq_true, true_and, and_true, false_and, and_false, pg_4 hg hi he, pg_5 hg hi he, pp_5 hg hi he, ht, hn, hb1, z10]
      exact H'
  · have hn : ((0 : Int32) ≤ nI s) = True := eq_true (nI_pos' (by omega))
    have hne : ¬ nI s = -1 := nI_neg (by omega) (by decide)
    have u1 : ∀ {x y : Int32}, upd (upd M (14 + 9 * i + 2) x) y.toNatClampNeg y = upd (upd M (14 + 9 * i + 2) x) y.toNatClampNeg y := rfl
    rcases hP.2.1 with hb0 | hb1
    · have eg : goF M cl i = upd (upd (upd M (14 + 9 * i + 2) (M (14 + 9 * i + 2) &&& (((1 : Int32) <<< (nI s &&& 31)) ^^^ (-1)))) 12 (M 12 ||| ((1 : Int32) <<< (nI s &&& 31)))) (14 + 9 * i + 3) 1 := by
        unfold goF
        rw [ht, if_neg hne, hb0]
        rfl
      rw [eg] at H'
      simp only [s_61_0, s_61_0_n, s_61_1, s_61_1_n, s_61_2, s_61_2_n, s_61_3, s_61_6, s_61_9, s_61_10, s_61_11, s_61_14, s_61_14_n, s_61_15, s_61_18, s_61_21, s_61_21_n, s_61_22, s_61_25, s_61_26, s_61_29, s_61_29_n, s_61_30, s_61_30_i, s_61_31, s_61_34, s_61_35, s_61_36, s_61_39, s_61_40, s_61_41, s_61_42, s_61_43, s_61_45, s_61_45_n, s_61_46, s_61_46_i, s_61_47, s_61_50, s_61_52, s_61_53, s_61_54, s_61_55, s_61_58, s_61_58_n, s_61_59, s_61_62, s_61_65, s_61_65_n, s_61_66, s_61_66_i, s_61_67, s_61_70, s_61_72, s_61_73, s_61_76, s_61_79, s_61_79_n, s_61_80, s_61_80_i, s_61_81, s_61_84, s_61_86, s_61_87, s_61_90, s_61_90_n, s_61_91, s_61_92, s_61_95, ↓reduceIte, eq_self, rts_some, rts_none, nq_int, nq_ref, nq_null, nq_none, okr1_0, okr1_1, okr_b, List.length_nil, List.length_cons, Nat.zero_le, Nat.reduceAdd, Nat.reduceLeDiff, b2i_0, b2i_n0, b2i_1, b2i_n1, ite_not, if_true, if_false, not_true_eq_false, not_false_eq_true, true_and, and_true, false_and, and_false, pg_3 hg hi he, pg_4 hg hi he, pp_3 hg hi he, pp_4 hg hi he okv1_1, wg_3 hg, wp_3 hg, ht, hn, pk_un (show 14 + 9 * i + 3 ≠ 14 + 9 * i + 2 by omega), pk_un (show 12 ≠ 14 + 9 * i + 2 by omega), hb0]
      exact H'
    · have eg : goF M cl i = upd (upd M (14 + 9 * i + 2) (M (14 + 9 * i + 2) &&& (((1 : Int32) <<< (nI s &&& 31)) ^^^ (-1)))) 13 (M 13 ||| ((1 : Int32) <<< (nI s &&& 31))) := by
        unfold goF
        rw [ht, if_neg hne, hb1]
        show upd (upd (upd M _ _) 13 _) _ 1 = _
        refine upd_id ?_
        rw [pk_un (by omega), pk_un (by omega), hb1]
      have z10 : ((1 : Int32) = 0) = False := by decide
      rw [eg] at H'
      simp only [s_61_0, s_61_0_n, s_61_1, s_61_1_n, s_61_2, s_61_2_n, s_61_3, s_61_6, s_61_9, s_61_10, s_61_11, s_61_14, s_61_14_n, s_61_15, s_61_18, s_61_21, s_61_21_n, s_61_22, s_61_25, s_61_26, s_61_29, s_61_29_n, s_61_30, s_61_30_i, s_61_31, s_61_34, s_61_35, s_61_36, s_61_39, s_61_40, s_61_41, s_61_42, s_61_43, s_61_45, s_61_45_n, s_61_46, s_61_46_i, s_61_47, s_61_50, s_61_52, s_61_53, s_61_54, s_61_55, s_61_58, s_61_58_n, s_61_59, s_61_62, s_61_65, s_61_65_n, s_61_66, s_61_66_i, s_61_67, s_61_70, s_61_72, s_61_73, s_61_76, s_61_79, s_61_79_n, s_61_80, s_61_80_i, s_61_81, s_61_84, s_61_86, s_61_87, s_61_90, s_61_90_n, s_61_91, s_61_92, s_61_95, ↓reduceIte, eq_self, rts_some, rts_none, nq_int, nq_ref, nq_null, nq_none, okr1_0, okr1_1, okr_b, List.length_nil, List.length_cons, Nat.zero_le, Nat.reduceAdd, Nat.reduceLeDiff, b2i_0, b2i_n0, b2i_1, b2i_n1, ite_not, if_true, if_false, not_true_eq_false, not_false_eq_true, true_and, and_true, false_and, and_false, pg_3 hg hi he, pg_4 hg hi he, pp_3 hg hi he, wg_4 hg, wp_4 hg, ht, hn, pk_un (show 14 + 9 * i + 3 ≠ 14 + 9 * i + 2 by omega), pk_un (show 13 ≠ 14 + 9 * i + 2 by omega), hb1, z10]
      exact H'
end
