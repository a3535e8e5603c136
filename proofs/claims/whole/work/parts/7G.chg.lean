/-! Methods that change the world now: the class. -/
section
variable {V : Nat → Option AE} {Ev : Nat → Value} {d : Nat} {Q : Option Value → HS → Prop}
variable {LG gr : Nat → Nat} {M F : Nat → Int32} {ex : Nat → Bool} {hd : Option Nat} {C G : Nat → Option AE} {z : Nat × Nat} {cl : List Cls} {kf : Int32} {nb c k : Nat}
theorem c_learn (hg : ∀ r, gr (LG r) = r) (hm : DM LG C kf nb) (hk : WK M ex c) {p s : Int32} : WP V (cdT Ev) mx (d + 2) 72 [.ref (LG 0), .int p, .int s] (GW LG gr 100 M F ex hd C G z) Q = Q (some (.int (leR M p s).1)) (GW LG gr 100 (leR M p s).2 F ex hd C G z) := by
  have hm1 := DM_W (M := M) (F := F) (ex := ex) (hd := hd) (B := 100) (by decide) hm
  have z10 : ((1 : Int32) = 0) = False := by decide
  have hc := hk.1
  unfold leR
  rw [e_72]
  by_cases ho : oneQ M p
  · rw [if_pos ho]
    obtain ⟨i, hi, rfl⟩ := oneQ_k hc ho
    have h6 := WK_6 hk hi
    have he := WK_1 hk hi
    have pa := fun (Q : Option Value → HS → Prop) => c_pAt_y (V := V) (Ev := Ev) (d := d) (Q := Q) (B := 100) (F := F) (hd := hd) (C := C) (G := G) (z := z) hg hk hi
    rw [nI_clamp (by omega)]
    by_cases hs : 0 ≤ s ∧ s ≤ 4095
    · rw [if_pos hs]
      simp only [s_72_0, s_72_0_n, s_72_1, s_72_4, s_72_5, s_72_8, s_72_8_n, s_72_9, s_72_9_n, s_72_10, s_72_10_n, s_72_13, s_72_14, s_72_15, s_72_16, s_72_19, s_72_22, s_72_24, s_72_25, s_72_25_n, s_72_26, s_72_29, s_72_31, s_72_31_n, s_72_32, s_72_33, s_72_36, s_72_38, ↓reduceIte, eq_self, rts_some, rts_none, nq_int, nq_ref, nq_null, nq_none, okr1_0, okr1_1, okr_b, List.length_nil, List.length_cons, Nat.zero_le, Nat.reduceAdd, Nat.reduceLeDiff, b2i_0, b2i_n0, b2i_1, b2i_n1, ite_not, if_true, if_false, not_true_eq_false, not_false_eq_true, true_and, and_true, false_and, and_false, dg_0 hg hm1, wcv hg, pa, c_isSet, b2i_t hs, z10, pg_3 hg h6 he, pp_3 hg h6 he]
    · rw [if_neg hs]
      simp only [s_72_0, s_72_0_n, s_72_1, s_72_4, s_72_5, s_72_8, s_72_8_n, s_72_9, s_72_9_n, s_72_10, s_72_10_n, s_72_13, s_72_14, s_72_15, s_72_16, s_72_19, s_72_22, s_72_24, s_72_25, s_72_25_n, s_72_26, s_72_29, s_72_31, s_72_31_n, s_72_32, s_72_33, s_72_36, s_72_38, ↓reduceIte, eq_self, rts_some, rts_none, nq_int, nq_ref, nq_null, nq_none, okr1_0, okr1_1, okr_b, List.length_nil, List.length_cons, Nat.zero_le, Nat.reduceAdd, Nat.reduceLeDiff, b2i_0, b2i_n0, b2i_1, b2i_n1, ite_not, if_true, if_false, not_true_eq_false, not_false_eq_true, true_and, and_true, false_and, and_false, dg_0 hg hm1, wcv hg, pa, c_isSet, b2i_f hs]
  · rw [if_neg ho]
    have pn := fun (Q : Option Value → HS → Prop) => c_pAt_n (V := V) (Ev := Ev) (d := d) (Q := Q) (LG := LG) (gr := gr) (B := 100) (F := F) (ex := ex) (hd := hd) (C := C) (G := G) (z := z) hg hc ho
    simp only [s_72_0, s_72_0_n, s_72_1, s_72_4, s_72_5, s_72_8, s_72_8_n, s_72_9, s_72_9_n, s_72_10, s_72_10_n, s_72_13, s_72_14, s_72_15, s_72_16, s_72_19, s_72_22, s_72_24, s_72_25, s_72_25_n, s_72_26, s_72_29, s_72_31, s_72_31_n, s_72_32, s_72_33, s_72_36, s_72_38, ↓reduceIte, eq_self, rts_some, rts_none, nq_int, nq_ref, nq_null, nq_none, okr1_0, okr1_1, okr_b, List.length_nil, List.length_cons, Nat.zero_le, Nat.reduceAdd, Nat.reduceLeDiff, b2i_0, b2i_n0, b2i_1, b2i_n1, ite_not, if_true, if_false, not_true_eq_false, not_false_eq_true, true_and, and_true, false_and, and_false, dg_0 hg hm1, wcv hg, pn]
theorem c_ford (hg : ∀ r, gr (LG r) = r) (hm : DM LG C kf nb) (hk : WK M ex c) {p f : Int32} (hf : f = 0 ∨ f = 1) : WP V (cdT Ev) mx (d + 2) 73 [.ref (LG 0), .int p, .int f] (GW LG gr 100 M F ex hd C G z) Q = Q (some (.int (foR M p f).1)) (GW LG gr 100 (foR M p f).2 F ex hd C G z) := by
  have hm1 := DM_W (M := M) (F := F) (ex := ex) (hd := hd) (B := 100) (by decide) hm
  have z10 : ((1 : Int32) = 0) = False := by decide
  have hc := hk.1
  have ef : (if f = 0 then 0 else 1) = f := by
    rcases hf with h | h <;> rw [h] <;> decide
  unfold foR
  rw [e_73, ef]
  by_cases ho : oneQ M p
  · rw [if_pos ho]
    obtain ⟨i, hi, rfl⟩ := oneQ_k hc ho
    have h6 := WK_6 hk hi
    have he := WK_1 hk hi
    have pa := fun (Q : Option Value → HS → Prop) => c_pAt_y (V := V) (Ev := Ev) (d := d) (Q := Q) (B := 100) (F := F) (hd := hd) (C := C) (G := G) (z := z) hg hk hi
    rw [nI_clamp (by omega)]
    rcases (WK_P hk hi).2.1 with hb | hb
    · simp only [s_73_0, s_73_0_n, s_73_1, s_73_4, s_73_5, s_73_8, s_73_8_n, s_73_9, s_73_9_n, s_73_10, s_73_10_n, s_73_13, s_73_14, s_73_15, s_73_15_n, s_73_16, s_73_19, s_73_22, s_73_23, s_73_26, s_73_27, s_73_29, s_73_29_n, s_73_30, s_73_31, s_73_34, s_73_36, ↓reduceIte, eq_self, rts_some, rts_none, nq_int, nq_ref, nq_null, nq_none, okr1_0, okr1_1, okr_b, List.length_nil, List.length_cons, Nat.zero_le, Nat.reduceAdd, Nat.reduceLeDiff, b2i_0, b2i_n0, b2i_1, b2i_n1, ite_not, if_true, if_false, not_true_eq_false, not_false_eq_true, true_and, and_true, false_and, and_false, dg_0 hg hm1, wcv hg, pa, pg_4 hg h6 he, pp_4 hg h6 he (okv1_b hf), hb]
    · simp only [s_73_0, s_73_0_n, s_73_1, s_73_4, s_73_5, s_73_8, s_73_8_n, s_73_9, s_73_9_n, s_73_10, s_73_10_n, s_73_13, s_73_14, s_73_15, s_73_15_n, s_73_16, s_73_19, s_73_22, s_73_23, s_73_26, s_73_27, s_73_29, s_73_29_n, s_73_30, s_73_31, s_73_34, s_73_36, ↓reduceIte, eq_self, rts_some, rts_none, nq_int, nq_ref, nq_null, nq_none, okr1_0, okr1_1, okr_b, List.length_nil, List.length_cons, Nat.zero_le, Nat.reduceAdd, Nat.reduceLeDiff, b2i_0, b2i_n0, b2i_1, b2i_n1, ite_not, if_true, if_false, not_true_eq_false, not_false_eq_true, true_and, and_true, false_and, and_false, dg_0 hg hm1, wcv hg, pa, pg_4 hg h6 he, pp_4 hg h6 he (okv1_b hf), hb, z10]
  · rw [if_neg ho]
    have pn := fun (Q : Option Value → HS → Prop) => c_pAt_n (V := V) (Ev := Ev) (d := d) (Q := Q) (LG := LG) (gr := gr) (B := 100) (F := F) (ex := ex) (hd := hd) (C := C) (G := G) (z := z) hg hc ho
    simp only [s_73_0, s_73_0_n, s_73_1, s_73_4, s_73_5, s_73_8, s_73_8_n, s_73_9, s_73_9_n, s_73_10, s_73_10_n, s_73_13, s_73_14, s_73_15, s_73_15_n, s_73_16, s_73_19, s_73_22, s_73_23, s_73_26, s_73_27, s_73_29, s_73_29_n, s_73_30, s_73_31, s_73_34, s_73_36, ↓reduceIte, eq_self, rts_some, rts_none, nq_int, nq_ref, nq_null, nq_none, okr1_0, okr1_1, okr_b, List.length_nil, List.length_cons, Nat.zero_le, Nat.reduceAdd, Nat.reduceLeDiff, b2i_0, b2i_n0, b2i_1, b2i_n1, ite_not, if_true, if_false, not_true_eq_false, not_false_eq_true, true_and, and_true, false_and, and_false, dg_0 hg hm1, wcv hg, pn]
theorem c_worth (hg : ∀ r, gr (LG r) = r) (hm : DM LG C kf nb) {s n : Int32} : WP V (cdT Ev) mx (d + 2) 74 [.ref (LG 0), .int s, .int n] (GW LG gr 100 M F ex hd C G z) Q = Q (some (.int (woR M s n).1)) (GW LG gr 100 (woR M s n).2 F ex hd C G z) := by
  have hm1 := DM_W (M := M) (F := F) (ex := ex) (hd := hd) (B := 100) (by decide) hm
  have z10 : ((1 : Int32) = 0) = False := by decide
  unfold woR
  rw [e_74]
  by_cases hs : senQ s
  · have hs' : 0 ≤ s ∧ s ≤ 11 := hs
    rw [if_pos hs]
    obtain ⟨j, hj, rfl⟩ := senQ_k hs
    by_cases hn : 0 ≤ n ∧ n ≤ 20
    · rw [if_pos hn]
      simp only [s_74_0, s_74_1, s_74_4, s_74_7, s_74_8, s_74_9, s_74_10, s_74_13, s_74_16, s_74_18, s_74_19, s_74_19_n, s_74_20, s_74_23, s_74_26, s_74_27, s_74_28, s_74_29, s_74_29_n, s_74_30, s_74_33, s_74_36, s_74_37, s_74_38, s_74_39, s_74_40, ↓reduceIte, eq_self, rts_some, rts_none, nq_int, nq_ref, nq_null, nq_none, okr1_0, okr1_1, okr_b, List.length_nil, List.length_cons, Nat.zero_le, Nat.reduceAdd, Nat.reduceLeDiff, b2i_0, b2i_n0, b2i_1, b2i_n1, ite_not, if_true, if_false, not_true_eq_false, not_false_eq_true, true_and, and_true, false_and, and_false, c_isSen, c_isWor, b2i_t hs', b2i_t hn, z10, dg_0 hg hm1, wg_0 hg, wa_1 hg, ws_1 hg, ix_nIT hj (show 12 < 2 ^ 31 by decide)]
    · rw [if_neg hn]
      simp only [s_74_0, s_74_1, s_74_4, s_74_7, s_74_8, s_74_9, s_74_10, s_74_13, s_74_16, s_74_18, s_74_19, s_74_19_n, s_74_20, s_74_23, s_74_26, s_74_27, s_74_28, s_74_29, s_74_29_n, s_74_30, s_74_33, s_74_36, s_74_37, s_74_38, s_74_39, s_74_40, ↓reduceIte, eq_self, rts_some, rts_none, nq_int, nq_ref, nq_null, nq_none, okr1_0, okr1_1, okr_b, List.length_nil, List.length_cons, Nat.zero_le, Nat.reduceAdd, Nat.reduceLeDiff, b2i_0, b2i_n0, b2i_1, b2i_n1, ite_not, if_true, if_false, not_true_eq_false, not_false_eq_true, true_and, and_true, false_and, and_false, c_isSen, c_isWor, b2i_t hs', b2i_f hn, z10]
  · have hs' : ¬ (0 ≤ s ∧ s ≤ 11) := hs
    rw [if_neg hs]
    simp only [s_74_0, s_74_1, s_74_4, s_74_7, s_74_8, s_74_9, s_74_10, s_74_13, s_74_16, s_74_18, s_74_19, s_74_19_n, s_74_20, s_74_23, s_74_26, s_74_27, s_74_28, s_74_29, s_74_29_n, s_74_30, s_74_33, s_74_36, s_74_37, s_74_38, s_74_39, s_74_40, ↓reduceIte, eq_self, rts_some, rts_none, nq_int, nq_ref, nq_null, nq_none, okr1_0, okr1_1, okr_b, List.length_nil, List.length_cons, Nat.zero_le, Nat.reduceAdd, Nat.reduceLeDiff, b2i_0, b2i_n0, b2i_1, b2i_n1, ite_not, if_true, if_false, not_true_eq_false, not_false_eq_true, true_and, and_true, false_and, and_false, c_isSen, b2i_f hs']
theorem c_row (hg : ∀ r, gr (LG r) = r) (hm : DM LG C kf nb) (hk : WK M ex c) {p t n : Int32} : WP V (cdT Ev) mx (d + 2) 75 [.ref (LG 0), .int p, .int t, .int n] (GW LG gr 100 M F ex hd C G z) Q = Q (some (.int (roR M p t n).1)) (GW LG gr 100 (roR M p t n).2 F ex hd C G z) := by
  have hm1 := DM_W (M := M) (F := F) (ex := ex) (hd := hd) (B := 100) (by decide) hm
  have z10 : ((1 : Int32) = 0) = False := by decide
  have e4 : ∀ x : Int32, (x < 4) = (x ≤ 3) := fun x => by
    rw [Int32.lt_iff_toInt_lt, Int32.le_iff_toInt_le]
    exact propext (by rw [show (4 : Int32).toInt = 4 from rfl, show (3 : Int32).toInt = 3 from rfl]; omega)
  have hc := hk.1
  unfold roR
  rw [e_75]
  by_cases ho : oneQ M p
  · obtain ⟨i, hi, rfl⟩ := oneQ_k hc ho
    have h6 := WK_6 hk hi
    have he := WK_1 hk hi
    have pa := fun (Q : Option Value → HS → Prop) => c_pAt_y (V := V) (Ev := Ev) (d := d) (Q := Q) (B := 100) (F := F) (hd := hd) (C := C) (G := G) (z := z) hg hk hi
    by_cases ht0 : t < 0
    · rw [if_neg (fun h => absurd ht0 (Int32.not_lt.mpr h.2.1))]
      simp only [s_75_0, s_75_0_n, s_75_1, s_75_4, s_75_5, s_75_8, s_75_8_n, s_75_10, s_75_10_n, s_75_12, s_75_12_n, s_75_15, s_75_16, s_75_19, s_75_20, s_75_21, s_75_24, s_75_25, s_75_26, s_75_27, s_75_30, s_75_31, s_75_33, s_75_36, s_75_38, s_75_39, s_75_39_n, s_75_41, s_75_41_n, s_75_44, s_75_47, s_75_47_n, s_75_49, s_75_52, s_75_52_n, s_75_54, s_75_54_n, s_75_56, s_75_59, s_75_60, s_75_61, s_75_63, s_75_63_n, s_75_65, s_75_68, s_75_69, s_75_70, s_75_71, s_75_73, s_75_74, s_75_76, ↓reduceIte, eq_self, rts_some, rts_none, nq_int, nq_ref, nq_null, nq_none, okr1_0, okr1_1, okr_b, List.length_nil, List.length_cons, Nat.zero_le, Nat.reduceAdd, Nat.reduceLeDiff, b2i_0, b2i_n0, b2i_1, b2i_n1, ite_not, if_true, if_false, not_true_eq_false, not_false_eq_true, true_and, and_true, false_and, and_false, dg_0 hg hm1, wcv hg, pa, ht0]
    · by_cases ht3 : t ≤ 3
      · have htt : 0 ≤ t ∧ t ≤ 3 := ⟨Int32.not_lt.mp ht0, ht3⟩
        rw [if_pos ⟨ho, htt⟩]
        obtain ⟨j, hj, rfl⟩ : ∃ j, j ≤ 3 ∧ t = nI j := nI_of2 (M := 3) (n := 3) (by decide) ht0 ht3
        rw [nI_clamp (show i < 2 ^ 31 by omega), nI_clamp (show j < 2 ^ 31 by omega)]
        by_cases hn0 : n < 0
        · rw [if_neg (fun h => absurd hn0 (Int32.not_lt.mpr h.1))]
          simp only [s_75_0, s_75_0_n, s_75_1, s_75_4, s_75_5, s_75_8, s_75_8_n, s_75_10, s_75_10_n, s_75_12, s_75_12_n, s_75_15, s_75_16, s_75_19, s_75_20, s_75_21, s_75_24, s_75_25, s_75_26, s_75_27, s_75_30, s_75_31, s_75_33, s_75_36, s_75_38, s_75_39, s_75_39_n, s_75_41, s_75_41_n, s_75_44, s_75_47, s_75_47_n, s_75_49, s_75_52, s_75_52_n, s_75_54, s_75_54_n, s_75_56, s_75_59, s_75_60, s_75_61, s_75_63, s_75_63_n, s_75_65, s_75_68, s_75_69, s_75_70, s_75_71, s_75_73, s_75_74, s_75_76, ↓reduceIte, eq_self, rts_some, rts_none, nq_int, nq_ref, nq_null, nq_none, okr1_0, okr1_1, okr_b, List.length_nil, List.length_cons, Nat.zero_le, Nat.reduceAdd, Nat.reduceLeDiff, b2i_0, b2i_n0, b2i_1, b2i_n1, ite_not, if_true, if_false, not_true_eq_false, not_false_eq_true, true_and, and_true, false_and, and_false, dg_0 hg hm1, wcv hg, pa, ht0, e4, ht3, hn0]
        · by_cases hn9 : n ≤ 9
          · rw [if_pos ⟨Int32.not_lt.mp hn0, hn9⟩]
            by_cases hk6 : M (14 + 9 * i + 0) = 6
            · rw [if_pos hk6]
              simp only [s_75_0, s_75_0_n, s_75_1, s_75_4, s_75_5, s_75_8, s_75_8_n, s_75_10, s_75_10_n, s_75_12, s_75_12_n, s_75_15, s_75_16, s_75_19, s_75_20, s_75_21, s_75_24, s_75_25, s_75_26, s_75_27, s_75_30, s_75_31, s_75_33, s_75_36, s_75_38, s_75_39, s_75_39_n, s_75_41, s_75_41_n, s_75_44, s_75_47, s_75_47_n, s_75_49, s_75_52, s_75_52_n, s_75_54, s_75_54_n, s_75_56, s_75_59, s_75_60, s_75_61, s_75_63, s_75_63_n, s_75_65, s_75_68, s_75_69, s_75_70, s_75_71, s_75_73, s_75_74, s_75_76, ↓reduceIte, eq_self, rts_some, rts_none, nq_int, nq_ref, nq_null, nq_none, okr1_0, okr1_1, okr_b, List.length_nil, List.length_cons, Nat.zero_le, Nat.reduceAdd, Nat.reduceLeDiff, b2i_0, b2i_n0, b2i_1, b2i_n1, ite_not, if_true, if_false, not_true_eq_false, not_false_eq_true, true_and, and_true, false_and, and_false, dg_0 hg hm1, wcv hg, pa, ht0, e4, ht3, hn0, hn9, pio hg h6 he, hk6, z10, pco hg h6 he hk6, pg_6 hg h6 he hk6, pa_m hg h6 he hk6, ps_m hg h6 he hk6, ix_nIT (show j < 4 by omega) (show 4 < 2 ^ 31 by decide), nI_clamp (show j < 2 ^ 31 by omega)]
            · rw [if_neg hk6]
              simp only [s_75_0, s_75_0_n, s_75_1, s_75_4, s_75_5, s_75_8, s_75_8_n, s_75_10, s_75_10_n, s_75_12, s_75_12_n, s_75_15, s_75_16, s_75_19, s_75_20, s_75_21, s_75_24, s_75_25, s_75_26, s_75_27, s_75_30, s_75_31, s_75_33, s_75_36, s_75_38, s_75_39, s_75_39_n, s_75_41, s_75_41_n, s_75_44, s_75_47, s_75_47_n, s_75_49, s_75_52, s_75_52_n, s_75_54, s_75_54_n, s_75_56, s_75_59, s_75_60, s_75_61, s_75_63, s_75_63_n, s_75_65, s_75_68, s_75_69, s_75_70, s_75_71, s_75_73, s_75_74, s_75_76, ↓reduceIte, eq_self, rts_some, rts_none, nq_int, nq_ref, nq_null, nq_none, okr1_0, okr1_1, okr_b, List.length_nil, List.length_cons, Nat.zero_le, Nat.reduceAdd, Nat.reduceLeDiff, b2i_0, b2i_n0, b2i_1, b2i_n1, ite_not, if_true, if_false, not_true_eq_false, not_false_eq_true, true_and, and_true, false_and, and_false, dg_0 hg hm1, wcv hg, pa, ht0, e4, ht3, hn0, hn9, pio hg h6 he, hk6]
          · rw [if_neg (fun h => hn9 h.2)]
            simp only [s_75_0, s_75_0_n, s_75_1, s_75_4, s_75_5, s_75_8, s_75_8_n, s_75_10, s_75_10_n, s_75_12, s_75_12_n, s_75_15, s_75_16, s_75_19, s_75_20, s_75_21, s_75_24, s_75_25, s_75_26, s_75_27, s_75_30, s_75_31, s_75_33, s_75_36, s_75_38, s_75_39, s_75_39_n, s_75_41, s_75_41_n, s_75_44, s_75_47, s_75_47_n, s_75_49, s_75_52, s_75_52_n, s_75_54, s_75_54_n, s_75_56, s_75_59, s_75_60, s_75_61, s_75_63, s_75_63_n, s_75_65, s_75_68, s_75_69, s_75_70, s_75_71, s_75_73, s_75_74, s_75_76, ↓reduceIte, eq_self, rts_some, rts_none, nq_int, nq_ref, nq_null, nq_none, okr1_0, okr1_1, okr_b, List.length_nil, List.length_cons, Nat.zero_le, Nat.reduceAdd, Nat.reduceLeDiff, b2i_0, b2i_n0, b2i_1, b2i_n1, ite_not, if_true, if_false, not_true_eq_false, not_false_eq_true, true_and, and_true, false_and, and_false, dg_0 hg hm1, wcv hg, pa, ht0, e4, ht3, hn0, hn9]
      · rw [if_neg (fun h => ht3 h.2.2)]
        simp only [s_75_0, s_75_0_n, s_75_1, s_75_4, s_75_5, s_75_8, s_75_8_n, s_75_10, s_75_10_n, s_75_12, s_75_12_n, s_75_15, s_75_16, s_75_19, s_75_20, s_75_21, s_75_24, s_75_25, s_75_26, s_75_27, s_75_30, s_75_31, s_75_33, s_75_36, s_75_38, s_75_39, s_75_39_n, s_75_41, s_75_41_n, s_75_44, s_75_47, s_75_47_n, s_75_49, s_75_52, s_75_52_n, s_75_54, s_75_54_n, s_75_56, s_75_59, s_75_60, s_75_61, s_75_63, s_75_63_n, s_75_65, s_75_68, s_75_69, s_75_70, s_75_71, s_75_73, s_75_74, s_75_76, ↓reduceIte, eq_self, rts_some, rts_none, nq_int, nq_ref, nq_null, nq_none, okr1_0, okr1_1, okr_b, List.length_nil, List.length_cons, Nat.zero_le, Nat.reduceAdd, Nat.reduceLeDiff, b2i_0, b2i_n0, b2i_1, b2i_n1, ite_not, if_true, if_false, not_true_eq_false, not_false_eq_true, true_and, and_true, false_and, and_false, dg_0 hg hm1, wcv hg, pa, ht0, e4, ht3]
  · rw [if_neg (fun h => ho h.1)]
    have pn := fun (Q : Option Value → HS → Prop) => c_pAt_n (V := V) (Ev := Ev) (d := d) (Q := Q) (LG := LG) (gr := gr) (B := 100) (F := F) (ex := ex) (hd := hd) (C := C) (G := G) (z := z) hg hc ho
    simp only [s_75_0, s_75_0_n, s_75_1, s_75_4, s_75_5, s_75_8, s_75_8_n, s_75_10, s_75_10_n, s_75_12, s_75_12_n, s_75_15, s_75_16, s_75_19, s_75_20, s_75_21, s_75_24, s_75_25, s_75_26, s_75_27, s_75_30, s_75_31, s_75_33, s_75_36, s_75_38, s_75_39, s_75_39_n, s_75_41, s_75_41_n, s_75_44, s_75_47, s_75_47_n, s_75_49, s_75_52, s_75_52_n, s_75_54, s_75_54_n, s_75_56, s_75_59, s_75_60, s_75_61, s_75_63, s_75_63_n, s_75_65, s_75_68, s_75_69, s_75_70, s_75_71, s_75_73, s_75_74, s_75_76, ↓reduceIte, eq_self, rts_some, rts_none, nq_int, nq_ref, nq_null, nq_none, okr1_0, okr1_1, okr_b, List.length_nil, List.length_cons, Nat.zero_le, Nat.reduceAdd, Nat.reduceLeDiff, b2i_0, b2i_n0, b2i_1, b2i_n1, ite_not, if_true, if_false, not_true_eq_false, not_false_eq_true, true_and, and_true, false_and, and_false, dg_0 hg hm1, wcv hg, pn]
theorem m1_sen {s : Int32} : (-1 ≤ s ∧ s ≤ 11) = (s = -1 ∨ senQ s) := by
  unfold senQ
  rw [Int32.le_iff_toInt_le, Int32.le_iff_toInt_le, Int32.le_iff_toInt_le, ← Int32.toInt_inj, show (-1 : Int32).toInt = -1 from rfl, show (11 : Int32).toInt = 11 from rfl, show (0 : Int32).toInt = 0 from rfl]
  exact propext (by omega)
theorem c_see (hg : ∀ r, gr (LG r) = r) (hm : DM LG C kf nb) (hk : WK M ex c) (hk5 : k ≤ 5) (h71 : M 71 = nI k) {p s : Int32} : WP V (cdT Ev) mx (d + 2) 82 [.ref (LG 0), .int p, .int s] (GW LG gr 100 M F ex hd C G z) Q = Q (some (.int (seR M p s).1)) (GW LG gr 100 (seR M p s).2 F ex hd C G z) := by
  have hm1 := DM_W (M := M) (F := F) (ex := ex) (hd := hd) (B := 100) (by decide) hm
  have z10 : ((1 : Int32) = 0) = False := by decide
  have hc := hk.1
  unfold seR
  rw [e_82]
  by_cases hp : p = -1
  · rw [if_pos hp]
    simp only [s_82_0, s_82_1, s_82_2, s_82_5, s_82_5_n, s_82_6, s_82_9, s_82_12, s_82_15, s_82_16, s_82_16_n, s_82_17, s_82_20, s_82_21, s_82_24, s_82_24_n, s_82_27, s_82_28, s_82_29, s_82_32, s_82_33, s_82_36, s_82_39, s_82_40, s_82_41, s_82_41_n, s_82_42, s_82_45, s_82_48, s_82_49, s_82_50, s_82_53, ↓reduceIte, eq_self, rts_some, rts_none, nq_int, nq_ref, nq_null, nq_none, okr1_0, okr1_1, okr_b, List.length_nil, List.length_cons, Nat.zero_le, Nat.reduceAdd, Nat.reduceLeDiff, b2i_0, b2i_n0, b2i_1, b2i_n1, ite_not, if_true, if_false, not_true_eq_false, not_false_eq_true, true_and, and_true, false_and, and_false, hp, dg_0 hg hm1, wg_6 hg, wrc_3 hg, c_clr_3 hg]
  · rw [if_neg hp]
    by_cases ho : oneQ M p
    · obtain ⟨i, hi, rfl⟩ := oneQ_k hc ho
      have pa := fun (Q : Option Value → HS → Prop) => c_pAt_y (V := V) (Ev := Ev) (d := d) (Q := Q) (B := 100) (F := F) (hd := hd) (C := C) (G := G) (z := z) hg hk hi
      by_cases hs1 : s = -1
      · rw [if_pos ⟨ho, by rw [m1_sen]; exact Or.inl hs1⟩]
        simp only [s_82_0, s_82_1, s_82_2, s_82_5, s_82_5_n, s_82_6, s_82_9, s_82_12, s_82_15, s_82_16, s_82_16_n, s_82_17, s_82_20, s_82_21, s_82_24, s_82_24_n, s_82_27, s_82_28, s_82_29, s_82_32, s_82_33, s_82_36, s_82_39, s_82_40, s_82_41, s_82_41_n, s_82_42, s_82_45, s_82_48, s_82_49, s_82_50, s_82_53, ↓reduceIte, eq_self, rts_some, rts_none, nq_int, nq_ref, nq_null, nq_none, okr1_0, okr1_1, okr_b, List.length_nil, List.length_cons, Nat.zero_le, Nat.reduceAdd, Nat.reduceLeDiff, b2i_0, b2i_n0, b2i_1, b2i_n1, ite_not, if_true, if_false, not_true_eq_false, not_false_eq_true, true_and, and_true, false_and, and_false, hp, dg_0 hg hm1, wcv hg, pa, hs1, wg_6 hg, wrc_3 hg, c_add_3 hg hk5 h71]
        split <;> rfl
      · by_cases hs : senQ s
        · have hs' : 0 ≤ s ∧ s ≤ 11 := hs
          rw [if_pos ⟨ho, by rw [m1_sen]; exact Or.inr hs⟩]
          simp only [s_82_0, s_82_1, s_82_2, s_82_5, s_82_5_n, s_82_6, s_82_9, s_82_12, s_82_15, s_82_16, s_82_16_n, s_82_17, s_82_20, s_82_21, s_82_24, s_82_24_n, s_82_27, s_82_28, s_82_29, s_82_32, s_82_33, s_82_36, s_82_39, s_82_40, s_82_41, s_82_41_n, s_82_42, s_82_45, s_82_48, s_82_49, s_82_50, s_82_53, ↓reduceIte, eq_self, rts_some, rts_none, nq_int, nq_ref, nq_null, nq_none, okr1_0, okr1_1, okr_b, List.length_nil, List.length_cons, Nat.zero_le, Nat.reduceAdd, Nat.reduceLeDiff, b2i_0, b2i_n0, b2i_1, b2i_n1, ite_not, if_true, if_false, not_true_eq_false, not_false_eq_true, true_and, and_true, false_and, and_false, hp, dg_0 hg hm1, wcv hg, pa, hs1, c_isSen, b2i_t hs', z10, wg_6 hg, wrc_3 hg, c_add_3 hg hk5 h71]
          split <;> rfl
        · have hs' : ¬ (0 ≤ s ∧ s ≤ 11) := hs
          rw [if_neg (fun h => by
            have h2 := h.2
            rw [m1_sen] at h2
            exact h2.elim hs1 hs)]
          simp only [s_82_0, s_82_1, s_82_2, s_82_5, s_82_5_n, s_82_6, s_82_9, s_82_12, s_82_15, s_82_16, s_82_16_n, s_82_17, s_82_20, s_82_21, s_82_24, s_82_24_n, s_82_27, s_82_28, s_82_29, s_82_32, s_82_33, s_82_36, s_82_39, s_82_40, s_82_41, s_82_41_n, s_82_42, s_82_45, s_82_48, s_82_49, s_82_50, s_82_53, ↓reduceIte, eq_self, rts_some, rts_none, nq_int, nq_ref, nq_null, nq_none, okr1_0, okr1_1, okr_b, List.length_nil, List.length_cons, Nat.zero_le, Nat.reduceAdd, Nat.reduceLeDiff, b2i_0, b2i_n0, b2i_1, b2i_n1, ite_not, if_true, if_false, not_true_eq_false, not_false_eq_true, true_and, and_true, false_and, and_false, hp, dg_0 hg hm1, wcv hg, pa, hs1, c_isSen, b2i_f hs']
    · rw [if_neg (fun h => ho h.1)]
      have pn := fun (Q : Option Value → HS → Prop) => c_pAt_n (V := V) (Ev := Ev) (d := d) (Q := Q) (LG := LG) (gr := gr) (B := 100) (F := F) (ex := ex) (hd := hd) (C := C) (G := G) (z := z) hg hc ho
      simp only [s_82_0, s_82_1, s_82_2, s_82_5, s_82_5_n, s_82_6, s_82_9, s_82_12, s_82_15, s_82_16, s_82_16_n, s_82_17, s_82_20, s_82_21, s_82_24, s_82_24_n, s_82_27, s_82_28, s_82_29, s_82_32, s_82_33, s_82_36, s_82_39, s_82_40, s_82_41, s_82_41_n, s_82_42, s_82_45, s_82_48, s_82_49, s_82_50, s_82_53, ↓reduceIte, eq_self, rts_some, rts_none, nq_int, nq_ref, nq_null, nq_none, okr1_0, okr1_1, okr_b, List.length_nil, List.length_cons, Nat.zero_le, Nat.reduceAdd, Nat.reduceLeDiff, b2i_0, b2i_n0, b2i_1, b2i_n1, ite_not, if_true, if_false, not_true_eq_false, not_false_eq_true, true_and, and_true, false_and, and_false, hp, dg_0 hg hm1, wcv hg, pn]
theorem c_book (hg : ∀ r, gr (LG r) = r) (hm : DM LG C kf nb) (hk8 : k ≤ 8) (h103 : M 103 = nI k) {s n : Int32} : WP V (cdT Ev) mx (d + 2) 88 [.ref (LG 0), .int s, .int n] (GW LG gr 100 M F ex hd C G z) Q = Q (some (.int (boR M s n).1)) (GW LG gr 100 (boR M s n).2 F ex hd C G z) := by
  have hm1 := DM_W (M := M) (F := F) (ex := ex) (hd := hd) (B := 100) (by decide) hm
  have z10 : ((1 : Int32) = 0) = False := by decide
  unfold boR
  rw [e_88]
  by_cases hp : s = -1
  · rw [if_pos hp]
    simp only [s_88_0, s_88_1, s_88_2, s_88_5, s_88_5_n, s_88_6, s_88_9, s_88_12, s_88_15, s_88_16, s_88_17, s_88_20, s_88_23, s_88_24, s_88_25, s_88_26, s_88_29, s_88_32, s_88_34, s_88_35, s_88_35_n, s_88_36, s_88_39, s_88_42, s_88_43, s_88_44, s_88_47, ↓reduceIte, eq_self, rts_some, rts_none, nq_int, nq_ref, nq_null, nq_none, okr1_0, okr1_1, okr_b, List.length_nil, List.length_cons, Nat.zero_le, Nat.reduceAdd, Nat.reduceLeDiff, b2i_0, b2i_n0, b2i_1, b2i_n1, ite_not, if_true, if_false, not_true_eq_false, not_false_eq_true, true_and, and_true, false_and, and_false, hp, dg_0 hg hm1, wg_8 hg, wrc_9 hg, c_clr_9 hg]
  · rw [if_neg hp]
    by_cases hs : senQ s
    · have hs' : 0 ≤ s ∧ s ≤ 11 := hs
      rw [if_pos hs]
      by_cases hn : 0 ≤ n ∧ n ≤ 20
      · rw [if_pos hn]
        simp only [s_88_0, s_88_1, s_88_2, s_88_5, s_88_5_n, s_88_6, s_88_9, s_88_12, s_88_15, s_88_16, s_88_17, s_88_20, s_88_23, s_88_24, s_88_25, s_88_26, s_88_29, s_88_32, s_88_34, s_88_35, s_88_35_n, s_88_36, s_88_39, s_88_42, s_88_43, s_88_44, s_88_47, ↓reduceIte, eq_self, rts_some, rts_none, nq_int, nq_ref, nq_null, nq_none, okr1_0, okr1_1, okr_b, List.length_nil, List.length_cons, Nat.zero_le, Nat.reduceAdd, Nat.reduceLeDiff, b2i_0, b2i_n0, b2i_1, b2i_n1, ite_not, if_true, if_false, not_true_eq_false, not_false_eq_true, true_and, and_true, false_and, and_false, hp, c_isSen, c_isWor, b2i_t hs', b2i_t hn, z10, dg_0 hg hm1, wg_8 hg, wrc_9 hg, c_add_9 hg hk8 h103]
        split <;> rfl
      · rw [if_neg hn]
        simp only [s_88_0, s_88_1, s_88_2, s_88_5, s_88_5_n, s_88_6, s_88_9, s_88_12, s_88_15, s_88_16, s_88_17, s_88_20, s_88_23, s_88_24, s_88_25, s_88_26, s_88_29, s_88_32, s_88_34, s_88_35, s_88_35_n, s_88_36, s_88_39, s_88_42, s_88_43, s_88_44, s_88_47, ↓reduceIte, eq_self, rts_some, rts_none, nq_int, nq_ref, nq_null, nq_none, okr1_0, okr1_1, okr_b, List.length_nil, List.length_cons, Nat.zero_le, Nat.reduceAdd, Nat.reduceLeDiff, b2i_0, b2i_n0, b2i_1, b2i_n1, ite_not, if_true, if_false, not_true_eq_false, not_false_eq_true, true_and, and_true, false_and, and_false, hp, c_isSen, c_isWor, b2i_t hs', b2i_f hn, z10]
    · have hs' : ¬ (0 ≤ s ∧ s ≤ 11) := hs
      rw [if_neg hs]
      simp only [s_88_0, s_88_1, s_88_2, s_88_5, s_88_5_n, s_88_6, s_88_9, s_88_12, s_88_15, s_88_16, s_88_17, s_88_20, s_88_23, s_88_24, s_88_25, s_88_26, s_88_29, s_88_32, s_88_34, s_88_35, s_88_35_n, s_88_36, s_88_39, s_88_42, s_88_43, s_88_44, s_88_47, ↓reduceIte, eq_self, rts_some, rts_none, nq_int, nq_ref, nq_null, nq_none, okr1_0, okr1_1, okr_b, List.length_nil, List.length_cons, Nat.zero_le, Nat.reduceAdd, Nat.reduceLeDiff, b2i_0, b2i_n0, b2i_1, b2i_n1, ite_not, if_true, if_false, not_true_eq_false, not_false_eq_true, true_and, and_true, false_and, and_false, hp, c_isSen, b2i_f hs']
theorem w03 {w : Int32} : (0 ≤ w ∧ w ≤ 3) = (w = 0 ∨ w = 1 ∨ w = 2 ∨ w = 3) := by
  rw [Int32.le_iff_toInt_le, Int32.le_iff_toInt_le, ← Int32.toInt_inj, ← Int32.toInt_inj, ← Int32.toInt_inj, ← Int32.toInt_inj, show (0 : Int32).toInt = 0 from rfl, show (1 : Int32).toInt = 1 from rfl, show (2 : Int32).toInt = 2 from rfl, show (3 : Int32).toInt = 3 from rfl]
  exact propext (by omega)
theorem c_plan (hg : ∀ r, gr (LG r) = r) (hm : DM LG C kf nb) (hk : WK M ex c) (hk10 : k ≤ 10) (h82 : M 82 = nI k) {w n : Int32} : WP V (cdT Ev) mx (d + 2) 86 [.ref (LG 0), .int w, .int n] (GW LG gr 100 M F ex hd C G z) Q = Q (some (.int (plR M w n).1)) (GW LG gr 100 (plR M w n).2 F ex hd C G z) := by
  have hm1 := DM_W (M := M) (F := F) (ex := ex) (hd := hd) (B := 100) (by decide) hm
  have z10 : ((1 : Int32) = 0) = False := by decide
  have hc := hk.1
  unfold plR
  rw [e_86]
  by_cases hp : w = -1
  · rw [if_pos hp]
    simp only [s_86_0, s_86_1, s_86_2, s_86_5, s_86_5_n, s_86_6, s_86_9, s_86_12, s_86_15, s_86_16, s_86_17, s_86_20, s_86_21, s_86_22, s_86_25, s_86_26, s_86_27, s_86_28, s_86_29, s_86_32, s_86_33, s_86_34, s_86_37, s_86_37_n, s_86_38, s_86_41, s_86_42, s_86_45, s_86_45_n, s_86_48, s_86_49, s_86_50, s_86_51, s_86_52, s_86_55, s_86_56, s_86_59, s_86_62, s_86_63, s_86_64, s_86_64_n, s_86_65, s_86_68, s_86_71, s_86_72, s_86_73, s_86_76, ↓reduceIte, eq_self, rts_some, rts_none, nq_int, nq_ref, nq_null, nq_none, okr1_0, okr1_1, okr_b, List.length_nil, List.length_cons, Nat.zero_le, Nat.reduceAdd, Nat.reduceLeDiff, b2i_0, b2i_n0, b2i_1, b2i_n1, ite_not, if_true, if_false, not_true_eq_false, not_false_eq_true, true_and, and_true, false_and, and_false, hp, dg_0 hg hm1, wg_7 hg, wrc_6 hg, c_clr_6 hg]
  · rw [if_neg hp]
    by_cases hw : 0 ≤ w ∧ w ≤ 3
    · have hw0 : (w < 0) = False := eq_false (Int32.not_lt.mpr hw.1)
      rw [w03] at hw
      have le3 : ∀ x : Int32, x = 0 ∨ x = 1 ∨ x = 2 ∨ x = 3 → (x ≤ 3) = True := by
        intro x hx
        rcases hx with h | h | h | h <;> subst h <;> decide
      have hw3 := le3 w hw
      have fin : wp V (cdT Ev) mx (d + 1) 86 64 [some (.ref (LG 0)), some (.int w), some (.int n)] [] (GW LG gr 100 M F ex hd C G z) Q = Q (some (.int (if M 82 = 10 then (-4, M) else (M 82 + 1, addF M 82 w n)).1)) (GW LG gr 100 (if M 82 = 10 then (-4, M) else (M 82 + 1, addF M 82 w n)).2 F ex hd C G z) := by
        simp only [s_86_64, s_86_65, s_86_68, s_86_71, s_86_72, s_86_73, s_86_76, ↓reduceIte, eq_self, rts_some, rts_none, nq_int, nq_ref, nq_null, nq_none, okr1_0, okr1_1, okr_b, List.length_nil, List.length_cons, Nat.zero_le, Nat.reduceAdd, Nat.reduceLeDiff, b2i_0, b2i_n0, b2i_1, b2i_n1, ite_not, if_true, if_false, not_true_eq_false, not_false_eq_true, true_and, and_true, false_and, and_false, dg_0 hg hm1, wg_7 hg, wrc_6 hg, c_add_6 hg hk10 h82]
        split <;> rfl
      rcases hw with e | e | e | e
      · rw [if_pos (Or.inl e), ← fin]
        subst e
        simp only [s_86_0, s_86_1, s_86_2, s_86_16, s_86_17, s_86_20, s_86_21, s_86_22, s_86_27, s_86_28, s_86_29, s_86_32, s_86_33, s_86_34, s_86_50, s_86_51, s_86_52, ↓reduceIte, eq_self, rts_some, rts_none, nq_int, nq_ref, nq_null, nq_none, okr1_0, okr1_1, okr_b, List.length_nil, List.length_cons, Nat.zero_le, Nat.reduceAdd, Nat.reduceLeDiff, b2i_0, b2i_n0, b2i_1, b2i_n1, ite_not, if_true, if_false, not_true_eq_false, not_false_eq_true, true_and, and_true, false_and, and_false, hp, hw0, hw3, show ((0 : Int32) = 1) = False from by decide, show ((0 : Int32) = 2) = False from by decide, show ((0 : Int32) = 3) = False from by decide]
      · by_cases ho : oneQ M n
        · rw [if_pos (Or.inr (Or.inl ⟨Or.inl e, ho⟩)), ← fin]
          obtain ⟨i, hi, rfl⟩ := oneQ_k hc ho
          have pa := fun (Q : Option Value → HS → Prop) => c_pAt_y (V := V) (Ev := Ev) (d := d) (Q := Q) (B := 100) (F := F) (hd := hd) (C := C) (G := G) (z := z) hg hk hi
          subst e
          simp only [s_86_0, s_86_1, s_86_2, s_86_16, s_86_17, s_86_20, s_86_21, s_86_22, s_86_27, s_86_28, s_86_29, s_86_37, s_86_38, s_86_41, s_86_42, s_86_45, s_86_50, s_86_51, s_86_52, ↓reduceIte, eq_self, rts_some, rts_none, nq_int, nq_ref, nq_null, nq_none, okr1_0, okr1_1, okr_b, List.length_nil, List.length_cons, Nat.zero_le, Nat.reduceAdd, Nat.reduceLeDiff, b2i_0, b2i_n0, b2i_1, b2i_n1, ite_not, if_true, if_false, not_true_eq_false, not_false_eq_true, true_and, and_true, false_and, and_false, hp, hw0, hw3, dg_0 hg hm1, wcv hg, pa, show ((1 : Int32) = 3) = False from by decide]
        · have pn := fun (Q : Option Value → HS → Prop) => c_pAt_n (V := V) (Ev := Ev) (d := d) (Q := Q) (LG := LG) (gr := gr) (B := 100) (F := F) (ex := ex) (hd := hd) (C := C) (G := G) (z := z) hg hc ho
          subst e
          rw [if_neg (fun h => by
            rcases h with h | h | h
            · exact absurd h (by decide)
            · exact ho h.2
            · exact absurd h.1 (by decide))]
          simp only [s_86_0, s_86_1, s_86_2, s_86_16, s_86_17, s_86_20, s_86_21, s_86_22, s_86_27, s_86_28, s_86_29, s_86_37, s_86_38, s_86_41, s_86_42, s_86_45_n, s_86_48, s_86_49, ↓reduceIte, eq_self, rts_some, rts_none, nq_int, nq_ref, nq_null, nq_none, okr1_0, okr1_1, okr_b, List.length_nil, List.length_cons, Nat.zero_le, Nat.reduceAdd, Nat.reduceLeDiff, b2i_0, b2i_n0, b2i_1, b2i_n1, ite_not, if_true, if_false, not_true_eq_false, not_false_eq_true, true_and, and_true, false_and, and_false, hp, hw0, hw3, dg_0 hg hm1, wcv hg, pn]
      · by_cases ho : oneQ M n
        · rw [if_pos (Or.inr (Or.inl ⟨Or.inr e, ho⟩)), ← fin]
          obtain ⟨i, hi, rfl⟩ := oneQ_k hc ho
          have pa := fun (Q : Option Value → HS → Prop) => c_pAt_y (V := V) (Ev := Ev) (d := d) (Q := Q) (B := 100) (F := F) (hd := hd) (C := C) (G := G) (z := z) hg hk hi
          subst e
          simp only [s_86_0, s_86_1, s_86_2, s_86_16, s_86_17, s_86_20, s_86_21, s_86_22, s_86_27, s_86_28, s_86_29, s_86_32, s_86_33, s_86_34, s_86_37, s_86_38, s_86_41, s_86_42, s_86_45, s_86_50, s_86_51, s_86_52, ↓reduceIte, eq_self, rts_some, rts_none, nq_int, nq_ref, nq_null, nq_none, okr1_0, okr1_1, okr_b, List.length_nil, List.length_cons, Nat.zero_le, Nat.reduceAdd, Nat.reduceLeDiff, b2i_0, b2i_n0, b2i_1, b2i_n1, ite_not, if_true, if_false, not_true_eq_false, not_false_eq_true, true_and, and_true, false_and, and_false, hp, hw0, hw3, dg_0 hg hm1, wcv hg, pa, show ((2 : Int32) = 1) = False from by decide, show ((2 : Int32) = 3) = False from by decide]
        · have pn := fun (Q : Option Value → HS → Prop) => c_pAt_n (V := V) (Ev := Ev) (d := d) (Q := Q) (LG := LG) (gr := gr) (B := 100) (F := F) (ex := ex) (hd := hd) (C := C) (G := G) (z := z) hg hc ho
          subst e
          rw [if_neg (fun h => by
            rcases h with h | h | h
            · exact absurd h (by decide)
            · exact ho h.2
            · exact absurd h.1 (by decide))]
          simp only [s_86_0, s_86_1, s_86_2, s_86_16, s_86_17, s_86_20, s_86_21, s_86_22, s_86_27, s_86_28, s_86_29, s_86_32, s_86_33, s_86_34, s_86_37, s_86_38, s_86_41, s_86_42, s_86_45_n, s_86_48, s_86_49, ↓reduceIte, eq_self, rts_some, rts_none, nq_int, nq_ref, nq_null, nq_none, okr1_0, okr1_1, okr_b, List.length_nil, List.length_cons, Nat.zero_le, Nat.reduceAdd, Nat.reduceLeDiff, b2i_0, b2i_n0, b2i_1, b2i_n1, ite_not, if_true, if_false, not_true_eq_false, not_false_eq_true, true_and, and_true, false_and, and_false, hp, hw0, hw3, dg_0 hg hm1, wcv hg, pn, show ((2 : Int32) = 1) = False from by decide]
      · by_cases hs : senQ n
        · have hs' : 0 ≤ n ∧ n ≤ 11 := hs
          rw [if_pos (Or.inr (Or.inr ⟨e, hs⟩)), ← fin]
          subst e
          simp only [s_86_0, s_86_1, s_86_2, s_86_16, s_86_17, s_86_20, s_86_21, s_86_22, s_86_27, s_86_28, s_86_29, s_86_32, s_86_33, s_86_34, s_86_50, s_86_51, s_86_52, s_86_55, s_86_56, s_86_59, ↓reduceIte, eq_self, rts_some, rts_none, nq_int, nq_ref, nq_null, nq_none, okr1_0, okr1_1, okr_b, List.length_nil, List.length_cons, Nat.zero_le, Nat.reduceAdd, Nat.reduceLeDiff, b2i_0, b2i_n0, b2i_1, b2i_n1, ite_not, if_true, if_false, not_true_eq_false, not_false_eq_true, true_and, and_true, false_and, and_false, hp, hw0, hw3, c_isSen, b2i_t hs', z10, show ((3 : Int32) = 1) = False from by decide, show ((3 : Int32) = 2) = False from by decide]
        · have hs' : ¬ (0 ≤ n ∧ n ≤ 11) := hs
          subst e
          rw [if_neg (fun h => by
            rcases h with h | h | h
            · exact absurd h (by decide)
            · exact h.1.elim (fun h => absurd h (by decide)) (fun h => absurd h (by decide))
            · exact hs h.2)]
          simp only [s_86_0, s_86_1, s_86_2, s_86_16, s_86_17, s_86_20, s_86_21, s_86_22, s_86_27, s_86_28, s_86_29, s_86_32, s_86_33, s_86_34, s_86_50, s_86_51, s_86_52, s_86_55, s_86_56, s_86_59, s_86_62, s_86_63, ↓reduceIte, eq_self, rts_some, rts_none, nq_int, nq_ref, nq_null, nq_none, okr1_0, okr1_1, okr_b, List.length_nil, List.length_cons, Nat.zero_le, Nat.reduceAdd, Nat.reduceLeDiff, b2i_0, b2i_n0, b2i_1, b2i_n1, ite_not, if_true, if_false, not_true_eq_false, not_false_eq_true, true_and, and_true, false_and, and_false, hp, hw0, hw3, c_isSen, b2i_f hs', show ((3 : Int32) = 1) = False from by decide, show ((3 : Int32) = 2) = False from by decide]
    · have hn : ¬ plQ M w n := by
        intro h
        apply hw
        rw [w03]
        rcases h with h | h | h
        · exact Or.inl h
        · exact h.1.elim (fun h => Or.inr (Or.inl h)) (fun h => Or.inr (Or.inr (Or.inl h)))
        · exact Or.inr (Or.inr (Or.inr h.1))
      rw [if_neg hn]
      by_cases h0 : w < 0
      · simp only [s_86_0, s_86_1, s_86_2, s_86_16, s_86_17, s_86_25, s_86_26, ↓reduceIte, eq_self, rts_some, rts_none, nq_int, nq_ref, nq_null, nq_none, okr1_0, okr1_1, okr_b, List.length_nil, List.length_cons, Nat.zero_le, Nat.reduceAdd, Nat.reduceLeDiff, b2i_0, b2i_n0, b2i_1, b2i_n1, ite_not, if_true, if_false, not_true_eq_false, not_false_eq_true, true_and, and_true, false_and, and_false, hp, h0]
      · have h3 : ¬ w ≤ 3 := fun h => hw ⟨Int32.not_lt.mp h0, h⟩
        simp only [s_86_0, s_86_1, s_86_2, s_86_16, s_86_17, s_86_20, s_86_21, s_86_22, s_86_25, s_86_26, ↓reduceIte, eq_self, rts_some, rts_none, nq_int, nq_ref, nq_null, nq_none, okr1_0, okr1_1, okr_b, List.length_nil, List.length_cons, Nat.zero_le, Nat.reduceAdd, Nat.reduceLeDiff, b2i_0, b2i_n0, b2i_1, b2i_n1, ite_not, if_true, if_false, not_true_eq_false, not_false_eq_true, true_and, and_true, false_and, and_false, hp, h0, h3]
theorem c_pass (hg : ∀ r, gr (LG r) = r) (hm : DM LG C kf nb) (hk : WK M ex c) (hS : isS (M 12)) {t : Nat} (ht : t ≤ 9999) (h69 : M 69 = nI t) (hB : Bk t M c) (hb : HB LG C 100 hd cl) {n : Int32} (H : ∀ F', Q (some (.int (paR M cl n).1)) (GW LG gr 100 (paR M cl n).2 F' ex hd C G z)) : WP V (cdT Ev) mx (d + 8) 79 [.ref (LG 0), .int n] (GW LG gr 100 M F ex hd C G z) Q := by
  have hm1 : ∀ M F, DM LG (WC LG 100 M F ex hd C) kf nb := fun M F => DM_W (by decide) hm
  have z10 : ((1 : Int32) = 0) = False := by decide
  unfold paR at H
  rw [e_79]
  by_cases hn : 0 ≤ n ∧ n ≤ 60
  · rw [if_pos hn] at H
    obtain ⟨j, hj, rfl⟩ := dayQ_k hn
    rw [nI_clamp (by omega)] at H
    by_cases hd9 : M 69 + nI j ≤ 9999
    · rw [if_pos hd9] at H
      have hle : t + j ≤ 9999 := by
        rw [h69, nI_add, show (9999 : Int32) = nI 9999 from rfl, nI_leI (by omega) (by decide)] at hd9
        exact hd9
      simp only [s_79_0, s_79_1, s_79_4, s_79_10, s_79_11, s_79_14, s_79_17, s_79_18, s_79_19, s_79_22, s_79_28, s_79_29, s_79_32, s_79_33, s_79_36, ↓reduceIte, eq_self, rts_some, rts_none, nq_int, nq_ref, nq_null, nq_none, okr1_0, okr1_1, okr_b, List.length_nil, List.length_cons, Nat.zero_le, Nat.reduceAdd, Nat.reduceLeDiff, b2i_0, b2i_n0, b2i_1, b2i_n1, ite_not, if_true, if_false, not_true_eq_false, not_false_eq_true, true_and, and_true, false_and, and_false, c_areD, b2i_t hn, z10, dg_0 hg (hm1 _ _), wg_5 hg, hd9, wcv hg]
      rw [show (9999 : Int32) = nI 9999 from rfl]
      refine c_goDays hg hk hS hB hle (by decide) hb (fun F' => ?_)
      simp only [s_79_39, s_79_40, s_79_43, s_79_46, ↓reduceIte, eq_self, rts_some, rts_none, nq_int, nq_ref, nq_null, nq_none, okr1_0, okr1_1, okr_b, List.length_nil, List.length_cons, Nat.zero_le, Nat.reduceAdd, Nat.reduceLeDiff, b2i_0, b2i_n0, b2i_1, b2i_n1, ite_not, if_true, if_false, not_true_eq_false, not_false_eq_true, true_and, and_true, false_and, and_false, dg_0 hg (hm1 _ _), wg_5 hg]
      exact H F'
    · rw [if_neg hd9] at H
      simp only [s_79_0, s_79_1, s_79_4, s_79_10, s_79_11, s_79_14, s_79_17, s_79_18, s_79_19, s_79_22, s_79_25, s_79_27, ↓reduceIte, eq_self, rts_some, rts_none, nq_int, nq_ref, nq_null, nq_none, okr1_0, okr1_1, okr_b, List.length_nil, List.length_cons, Nat.zero_le, Nat.reduceAdd, Nat.reduceLeDiff, b2i_0, b2i_n0, b2i_1, b2i_n1, ite_not, if_true, if_false, not_true_eq_false, not_false_eq_true, true_and, and_true, false_and, and_false, c_areD, b2i_t hn, z10, dg_0 hg (hm1 _ _), wg_5 hg, hd9]
      exact H F
  · rw [if_neg hn] at H
    simp only [s_79_0, s_79_1, s_79_4, s_79_7, s_79_9, ↓reduceIte, eq_self, rts_some, rts_none, nq_int, nq_ref, nq_null, nq_none, okr1_0, okr1_1, okr_b, List.length_nil, List.length_cons, Nat.zero_le, Nat.reduceAdd, Nat.reduceLeDiff, b2i_0, b2i_n0, b2i_1, b2i_n1, ite_not, if_true, if_false, not_true_eq_false, not_false_eq_true, true_and, and_true, false_and, and_false, c_areD, b2i_f hn]
    exact H F
end
