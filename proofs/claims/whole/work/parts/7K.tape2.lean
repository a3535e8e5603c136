/-! Item, read, shift, judge: the class. -/
def TQ (ts tz : Nat → Int32) : Prop := TPok ts tz ∧ ∀ t, t < 6 → ts t ≤ 4
section
variable {V : Nat → Option AE} {Ev : Nat → Value} {d : Nat} {Q : Option Value → HS → Prop}
variable {LG gr : Nat → Nat} {C G : Nat → Option AE} {z : Nat × Nat} {kf : Int32} {nb : Nat} {ts tz : Nat → Int32} {rw : Nat → Nat → Int64}
theorem ts_m1 {t : Nat} (hq : TQ ts tz) (ht : t < 6) : (ts t = -1) = (ts t < 0) := by
  obtain ⟨n, -, -, h⟩ := hq.1 t ht
  exact propext ⟨fun e => by rw [e]; decide, fun e => (h e).1⟩
theorem rng {i : Int32} {L : Nat} (hL : L ≤ 60) : (0 ≤ i ∧ i ≤ nI L - 1) = (¬ i < 0 ∧ i < nI L) := by
  rw [Int32.le_iff_toInt_le, Int32.le_iff_toInt_le, Int32.lt_iff_toInt_lt, Int32.lt_iff_toInt_lt, nI_toInt (show L < 2 ^ 31 by omega), show (1 : Int32) = nI 1 from rfl, pk_sub_toInt (by omega) (by decide), show (0 : Int32).toInt = 0 from rfl]
  exact propext (by omega)
theorem c_item (hg : ∀ r, gr (LG r) = r) (hm : DM LG C kf nb) (h : TF LG C ts tz rw) (hq : TQ ts tz) {t i : Int32} {v : Int64} : WP V (cdT Ev) mx (d + 2) 98 [.ref (LG 0), .int t, .int i, .long v] (GH LG gr C G z) Q = if tapQ t then (if ts t.toNatClampNeg < 0 then Q (some (.int (-11))) (GH LG gr C G z) else (if 0 ≤ i ∧ i ≤ tz t.toNatClampNeg - 1 then Q (some (.int 1)) (GH LG gr (va_up C (6 + t.toNatClampNeg) (some (.inl (3, 60, .inr (.inl (vp_updL (rw t.toNatClampNeg) i.toNatClampNeg (itF (ts t.toNatClampNeg) v))))))) G z) else Q (some (.int (-13))) (GH LG gr C G z))) else Q (some (.int (-1))) (GH LG gr C G z) := by
  have z10 : ((1 : Int32) = 0) = False := by decide
  rw [e_98]
  by_cases ht : tapQ t
  · have ht' : 0 ≤ t ∧ t ≤ 5 := ht
    rw [if_pos ht]
    obtain ⟨j, hj, rfl⟩ := tapQ_k ht
    have hx := ix_nIT hj (show 6 < 2 ^ 31 by decide)
    have hcl := nI_clamp (show j < 2 ^ 31 by omega)
    obtain ⟨L, hL, eL, -⟩ := hq.1 j hj
    rw [hcl]
    by_cases s0 : ts j < 0
    · rw [if_pos s0]
      simp only [s_98_0, s_98_1, s_98_4, s_98_7, s_98_8, s_98_9, s_98_9_n, s_98_10, s_98_13, s_98_14, s_98_15, s_98_16, s_98_19, s_98_21, s_98_22, s_98_23, s_98_26, s_98_27, s_98_27_n, s_98_28, s_98_31, s_98_32, s_98_33, s_98_36, s_98_38, s_98_39, s_98_39_n, s_98_40, s_98_43, s_98_44, s_98_45, s_98_46, s_98_46_n, s_98_47, s_98_50, s_98_51, s_98_52, s_98_53, s_98_56, s_98_57, s_98_58, ↓reduceIte, eq_self, rts_some, rts_none, nq_int, nq_ref, nq_null, nq_none, okr1_0, okr1_1, okr_b, List.length_nil, List.length_cons, Nat.zero_le, Nat.reduceAdd, Nat.reduceLeDiff, b2i_0, b2i_n0, b2i_1, b2i_n1, ite_not, if_true, if_false, not_true_eq_false, not_false_eq_true, true_and, and_true, false_and, and_false, c_isTap, b2i_t ht', z10, dg_7 hg hm, tf_a3 hg h, hx, hcl, ts_m1 hq hj, s0]
    · rw [if_neg s0, eL]
      have hit := c_asItem (V := V) (Ev := Ev) (d := d) (v := v) (h := GH LG gr C G z) (Q := Q) ⟨Int32.not_lt.mp s0, hq.2 j hj⟩
      have hit' := fun (Q : Option Value → HS → Prop) => c_asItem (V := V) (Ev := Ev) (d := d) (v := v) (h := GH LG gr C G z) (Q := Q) ⟨Int32.not_lt.mp s0, hq.2 j hj⟩
      by_cases hi : 0 ≤ i ∧ i ≤ nI L - 1
      · rw [if_pos hi]
        rw [rng hL] at hi
        obtain ⟨q, hq31, rfl⟩ := nI_of hi.1
        have hqL : q < L := (nI_ltI hq31 (by omega)).mp hi.2
        simp only [s_98_0, s_98_1, s_98_4, s_98_7, s_98_8, s_98_9, s_98_9_n, s_98_10, s_98_13, s_98_14, s_98_15, s_98_16, s_98_19, s_98_21, s_98_22, s_98_23, s_98_26, s_98_27, s_98_27_n, s_98_28, s_98_31, s_98_32, s_98_33, s_98_36, s_98_38, s_98_39, s_98_39_n, s_98_40, s_98_43, s_98_44, s_98_45, s_98_46, s_98_46_n, s_98_47, s_98_50, s_98_51, s_98_52, s_98_53, s_98_56, s_98_57, s_98_58, ↓reduceIte, eq_self, rts_some, rts_none, nq_int, nq_ref, nq_null, nq_none, okr1_0, okr1_1, okr_b, List.length_nil, List.length_cons, Nat.zero_le, Nat.reduceAdd, Nat.reduceLeDiff, b2i_0, b2i_n0, b2i_1, b2i_n1, ite_not, if_true, if_false, not_true_eq_false, not_false_eq_true, true_and, and_true, false_and, and_false, c_isTap, b2i_t ht', z10, dg_7 hg hm, dg_8 hg hm, dg_9 hg hm, tf_a3 hg h, tf_a4 hg h, tf_a5 hg h hj, tf_sl hg h hj, hx, hcl, ts_m1 hq hj, s0, hi.1, eL, hi.2, hit', ix_nIT (show q < 60 by omega) (show 60 < 2 ^ 31 by decide)]
      · rw [if_neg hi]
        rw [rng hL] at hi
        by_cases i0 : i < 0
        · simp only [s_98_0, s_98_1, s_98_4, s_98_7, s_98_8, s_98_9, s_98_9_n, s_98_10, s_98_13, s_98_14, s_98_15, s_98_16, s_98_19, s_98_21, s_98_22, s_98_23, s_98_26, s_98_27, s_98_27_n, s_98_28, s_98_31, s_98_32, s_98_33, s_98_36, s_98_38, s_98_39, s_98_39_n, s_98_40, s_98_43, s_98_44, s_98_45, s_98_46, s_98_46_n, s_98_47, s_98_50, s_98_51, s_98_52, s_98_53, s_98_56, s_98_57, s_98_58, ↓reduceIte, eq_self, rts_some, rts_none, nq_int, nq_ref, nq_null, nq_none, okr1_0, okr1_1, okr_b, List.length_nil, List.length_cons, Nat.zero_le, Nat.reduceAdd, Nat.reduceLeDiff, b2i_0, b2i_n0, b2i_1, b2i_n1, ite_not, if_true, if_false, not_true_eq_false, not_false_eq_true, true_and, and_true, false_and, and_false, c_isTap, b2i_t ht', z10, dg_7 hg hm, tf_a3 hg h, hx, hcl, ts_m1 hq hj, s0, i0]
        · have i1 : ¬ i < nI L := fun h => hi ⟨i0, h⟩
          simp only [s_98_0, s_98_1, s_98_4, s_98_7, s_98_8, s_98_9, s_98_9_n, s_98_10, s_98_13, s_98_14, s_98_15, s_98_16, s_98_19, s_98_21, s_98_22, s_98_23, s_98_26, s_98_27, s_98_27_n, s_98_28, s_98_31, s_98_32, s_98_33, s_98_36, s_98_38, s_98_39, s_98_39_n, s_98_40, s_98_43, s_98_44, s_98_45, s_98_46, s_98_46_n, s_98_47, s_98_50, s_98_51, s_98_52, s_98_53, s_98_56, s_98_57, s_98_58, ↓reduceIte, eq_self, rts_some, rts_none, nq_int, nq_ref, nq_null, nq_none, okr1_0, okr1_1, okr_b, List.length_nil, List.length_cons, Nat.zero_le, Nat.reduceAdd, Nat.reduceLeDiff, b2i_0, b2i_n0, b2i_1, b2i_n1, ite_not, if_true, if_false, not_true_eq_false, not_false_eq_true, true_and, and_true, false_and, and_false, c_isTap, b2i_t ht', z10, dg_7 hg hm, dg_8 hg hm, tf_a3 hg h, tf_a4 hg h, hx, hcl, ts_m1 hq hj, s0, i0, eL, i1]
  · have ht' : ¬ (0 ≤ t ∧ t ≤ 5) := ht
    rw [if_neg ht]
    simp only [s_98_0, s_98_1, s_98_4, s_98_7, s_98_8, s_98_9, s_98_9_n, s_98_10, s_98_13, s_98_14, s_98_15, s_98_16, s_98_19, s_98_21, s_98_22, s_98_23, s_98_26, s_98_27, s_98_27_n, s_98_28, s_98_31, s_98_32, s_98_33, s_98_36, s_98_38, s_98_39, s_98_39_n, s_98_40, s_98_43, s_98_44, s_98_45, s_98_46, s_98_46_n, s_98_47, s_98_50, s_98_51, s_98_52, s_98_53, s_98_56, s_98_57, s_98_58, ↓reduceIte, eq_self, rts_some, rts_none, nq_int, nq_ref, nq_null, nq_none, okr1_0, okr1_1, okr_b, List.length_nil, List.length_cons, Nat.zero_le, Nat.reduceAdd, Nat.reduceLeDiff, b2i_0, b2i_n0, b2i_1, b2i_n1, ite_not, if_true, if_false, not_true_eq_false, not_false_eq_true, true_and, and_true, false_and, and_false, c_isTap, b2i_f ht']
theorem c_read (hg : ∀ r, gr (LG r) = r) (hm : DM LG C kf nb) (h : TF LG C ts tz rw) (hq : TQ ts tz) {t i : Int32} : WP V (cdT Ev) mx (d + 2) 99 [.ref (LG 0), .int t, .int i] (GH LG gr C G z) Q = Q (some (.long (if tapQ t ∧ (0 ≤ i ∧ i ≤ tz t.toNatClampNeg - 1) then rw t.toNatClampNeg i.toNatClampNeg else -9223372036854775808))) (GH LG gr C G z) := by
  have z10 : ((1 : Int32) = 0) = False := by decide
  rw [e_99]
  by_cases ht : tapQ t
  · have ht' : 0 ≤ t ∧ t ≤ 5 := ht
    obtain ⟨j, hj, rfl⟩ := tapQ_k ht
    have hx := ix_nIT hj (show 6 < 2 ^ 31 by decide)
    have hcl := nI_clamp (show j < 2 ^ 31 by omega)
    obtain ⟨L, hL, eL, -⟩ := hq.1 j hj
    rw [hcl, eL]
    by_cases hi : 0 ≤ i ∧ i ≤ nI L - 1
    · rw [if_pos ⟨ht, hi⟩]
      rw [rng hL] at hi
      obtain ⟨q, hq31, rfl⟩ := nI_of hi.1
      have hqL : q < L := (nI_ltI hq31 (by omega)).mp hi.2
      simp only [s_99_0, s_99_1, s_99_4, s_99_7, s_99_8, s_99_11, s_99_12, s_99_12_n, s_99_13, s_99_16, s_99_17, s_99_18, s_99_21, s_99_24, s_99_25, s_99_25_n, s_99_26, s_99_29, s_99_30, s_99_31, s_99_32, s_99_33, ↓reduceIte, eq_self, rts_some, rts_none, nq_int, nq_ref, nq_null, nq_none, okr1_0, okr1_1, okr_b, List.length_nil, List.length_cons, Nat.zero_le, Nat.reduceAdd, Nat.reduceLeDiff, b2i_0, b2i_n0, b2i_1, b2i_n1, ite_not, if_true, if_false, not_true_eq_false, not_false_eq_true, true_and, and_true, false_and, and_false, c_isTap, b2i_t ht', z10, dg_8 hg hm, dg_9 hg hm, tf_a4 hg h, tf_a5 hg h hj, tf_al hg h hj, hx, hcl, hi.1, eL, hi.2, ix_nIT (show q < 60 by omega) (show 60 < 2 ^ 31 by decide), okr2_l]
    · rw [if_neg (fun h => hi h.2)]
      rw [rng hL] at hi
      by_cases i0 : i < 0
      · simp only [s_99_0, s_99_1, s_99_4, s_99_7, s_99_8, s_99_11, s_99_12, s_99_12_n, s_99_13, s_99_16, s_99_17, s_99_18, s_99_21, s_99_24, s_99_25, s_99_25_n, s_99_26, s_99_29, s_99_30, s_99_31, s_99_32, s_99_33, ↓reduceIte, eq_self, rts_some, rts_none, nq_int, nq_ref, nq_null, nq_none, okr1_0, okr1_1, okr_b, List.length_nil, List.length_cons, Nat.zero_le, Nat.reduceAdd, Nat.reduceLeDiff, b2i_0, b2i_n0, b2i_1, b2i_n1, ite_not, if_true, if_false, not_true_eq_false, not_false_eq_true, true_and, and_true, false_and, and_false, c_isTap, b2i_t ht', z10, i0, okr2_l]
      · have i1 : ¬ i < nI L := fun h => hi ⟨i0, h⟩
        simp only [s_99_0, s_99_1, s_99_4, s_99_7, s_99_8, s_99_11, s_99_12, s_99_12_n, s_99_13, s_99_16, s_99_17, s_99_18, s_99_21, s_99_24, s_99_25, s_99_25_n, s_99_26, s_99_29, s_99_30, s_99_31, s_99_32, s_99_33, ↓reduceIte, eq_self, rts_some, rts_none, nq_int, nq_ref, nq_null, nq_none, okr1_0, okr1_1, okr_b, List.length_nil, List.length_cons, Nat.zero_le, Nat.reduceAdd, Nat.reduceLeDiff, b2i_0, b2i_n0, b2i_1, b2i_n1, ite_not, if_true, if_false, not_true_eq_false, not_false_eq_true, true_and, and_true, false_and, and_false, c_isTap, b2i_t ht', z10, dg_8 hg hm, tf_a4 hg h, hx, hcl, i0, eL, i1, okr2_l]
  · have ht' : ¬ (0 ≤ t ∧ t ≤ 5) := ht
    rw [if_neg (fun h => ht h.1)]
    simp only [s_99_0, s_99_1, s_99_4, s_99_7, s_99_8, s_99_11, s_99_12, s_99_12_n, s_99_13, s_99_16, s_99_17, s_99_18, s_99_21, s_99_24, s_99_25, s_99_25_n, s_99_26, s_99_29, s_99_30, s_99_31, s_99_32, s_99_33, ↓reduceIte, eq_self, rts_some, rts_none, nq_int, nq_ref, nq_null, nq_none, okr1_0, okr1_1, okr_b, List.length_nil, List.length_cons, Nat.zero_le, Nat.reduceAdd, Nat.reduceLeDiff, b2i_0, b2i_n0, b2i_1, b2i_n1, ite_not, if_true, if_false, not_true_eq_false, not_false_eq_true, true_and, and_true, false_and, and_false, c_isTap, b2i_f ht', okr2_l]
theorem c_shift (hg : ∀ r, gr (LG r) = r) (hm : DM LG C kf nb) (h : TF LG C ts tz rw) (hq : TQ ts tz) {t i o j n : Int32} (H1 : ¬ (tapQ t ∧ tapQ o) → Q (some (.int (-1))) (GH LG gr C G z)) (H2 : tapQ t → tapQ o → (ts t.toNatClampNeg < 0 ∨ ts o.toNatClampNeg < 0) → Q (some (.int (-11))) (GH LG gr C G z)) (H3 : tapQ t → tapQ o → ¬ ts t.toNatClampNeg < 0 → ¬ ts o.toNatClampNeg < 0 → ¬ ts t.toNatClampNeg = ts o.toNatClampNeg → Q (some (.int (-12))) (GH LG gr C G z)) (H4 : tapQ t → tapQ o → ¬ ts t.toNatClampNeg < 0 → ¬ ts o.toNatClampNeg < 0 → ts t.toNatClampNeg = ts o.toNatClampNeg → ¬ plaQ tz t i o j n → Q (some (.int (-13))) (GH LG gr C G z)) (H5 : tapQ t → tapQ o → ¬ ts t.toNatClampNeg < 0 → ¬ ts o.toNatClampNeg < 0 → ts t.toNatClampNeg = ts o.toNatClampNeg → plaQ tz t i o j n → Q (some (.int n)) (GH LG gr (va_up C (6 + o.toNatClampNeg) (some (.inl (3, 60, .inr (.inl (va_cpy (rw t.toNatClampNeg) (rw o.toNatClampNeg) i.toNatClampNeg j.toNatClampNeg n.toNatClampNeg)))))) G z)) : WP V (cdT Ev) mx (d + 2) 100 [.ref (LG 0), .int t, .int i, .int o, .int j, .int n] (GH LG gr C G z) Q := by
  have z10 : ((1 : Int32) = 0) = False := by decide
  rw [e_100]
  by_cases ht : tapQ t
  · have ht' : 0 ≤ t ∧ t ≤ 5 := ht
    by_cases ho : tapQ o
    · have ho' : 0 ≤ o ∧ o ≤ 5 := ho
      obtain ⟨a, ha, rfl⟩ := tapQ_k ht
      obtain ⟨b, hb, rfl⟩ := tapQ_k ho
      have hx := ix_nIT ha (show 6 < 2 ^ 31 by decide)
      have hcl := nI_clamp (show a < 2 ^ 31 by omega)
      have hx2 := ix_nIT hb (show 6 < 2 ^ 31 by decide)
      have hcl2 := nI_clamp (show b < 2 ^ 31 by omega)
      obtain ⟨L, hL, eL, -⟩ := hq.1 a ha
      obtain ⟨L2, hL2, eL2, -⟩ := hq.1 b hb
      rw [hcl, hcl2] at H2 H3 H4 H5
      by_cases s0 : ts a < 0
      · have := H2 ht ho (Or.inl s0)
        simp only [s_100_0, s_100_1, s_100_4, s_100_7, s_100_8, s_100_11, s_100_14, s_100_15, s_100_16, s_100_16_n, s_100_17, s_100_20, s_100_21, s_100_22, s_100_23, s_100_26, s_100_26_n, s_100_27, s_100_30, s_100_31, s_100_32, s_100_33, s_100_36, s_100_38, s_100_39, s_100_39_n, s_100_40, s_100_43, s_100_44, s_100_45, s_100_45_n, s_100_46, s_100_49, s_100_50, s_100_51, s_100_54, s_100_56, s_100_57, s_100_59, s_100_62, s_100_63, s_100_66, s_100_68, s_100_71, s_100_73, s_100_73_n, s_100_74, s_100_77, s_100_78, s_100_79, s_100_80, s_100_81, s_100_84, s_100_86, s_100_86_n, s_100_87, s_100_90, s_100_91, s_100_92, s_100_94, s_100_95, s_100_98, s_100_100, s_100_101, s_100_101_n, s_100_102, s_100_105, s_100_106, s_100_107, s_100_108, s_100_108_n, s_100_109, s_100_112, s_100_113, s_100_114, s_100_116, s_100_118, s_100_121, s_100_123, ↓reduceIte, eq_self, rts_some, rts_none, nq_int, nq_ref, nq_null, nq_none, okr1_0, okr1_1, okr_b, List.length_nil, List.length_cons, Nat.zero_le, Nat.reduceAdd, Nat.reduceLeDiff, b2i_0, b2i_n0, b2i_1, b2i_n1, ite_not, if_true, if_false, not_true_eq_false, not_false_eq_true, true_and, and_true, false_and, and_false, c_isTap, b2i_t ht', b2i_t ho', z10, dg_7 hg hm, tf_a3 hg h, hx, hcl, ts_m1 hq ha, s0]
        exact this
      · by_cases s1 : ts b < 0
        · have := H2 ht ho (Or.inr s1)
          simp only [s_100_0, s_100_1, s_100_4, s_100_7, s_100_8, s_100_11, s_100_14, s_100_15, s_100_16, s_100_16_n, s_100_17, s_100_20, s_100_21, s_100_22, s_100_23, s_100_26, s_100_26_n, s_100_27, s_100_30, s_100_31, s_100_32, s_100_33, s_100_36, s_100_38, s_100_39, s_100_39_n, s_100_40, s_100_43, s_100_44, s_100_45, s_100_45_n, s_100_46, s_100_49, s_100_50, s_100_51, s_100_54, s_100_56, s_100_57, s_100_59, s_100_62, s_100_63, s_100_66, s_100_68, s_100_71, s_100_73, s_100_73_n, s_100_74, s_100_77, s_100_78, s_100_79, s_100_80, s_100_81, s_100_84, s_100_86, s_100_86_n, s_100_87, s_100_90, s_100_91, s_100_92, s_100_94, s_100_95, s_100_98, s_100_100, s_100_101, s_100_101_n, s_100_102, s_100_105, s_100_106, s_100_107, s_100_108, s_100_108_n, s_100_109, s_100_112, s_100_113, s_100_114, s_100_116, s_100_118, s_100_121, s_100_123, ↓reduceIte, eq_self, rts_some, rts_none, nq_int, nq_ref, nq_null, nq_none, okr1_0, okr1_1, okr_b, List.length_nil, List.length_cons, Nat.zero_le, Nat.reduceAdd, Nat.reduceLeDiff, b2i_0, b2i_n0, b2i_1, b2i_n1, ite_not, if_true, if_false, not_true_eq_false, not_false_eq_true, true_and, and_true, false_and, and_false, c_isTap, b2i_t ht', b2i_t ho', z10, dg_7 hg hm, tf_a3 hg h, hx, hcl, hx2, hcl2, ts_m1 hq ha, ts_m1 hq hb, s0, s1]
          exact this
        · by_cases se : ts a = ts b
          · have pl : plaQ tz (nI a) i (nI b) j n = (¬ n < 0 ∧ ¬ i < 0 ∧ ¬ j < 0 ∧ ¬ tz a - i < n ∧ ¬ tz b - j < n) := by
              unfold plaQ
              rw [hcl, hcl2]
            have pre : ∀ R : Prop, (wp V (cdT Ev) mx (d + 1) 100 57 [some (.ref (LG 0)), some (.int (nI a)), some (.int i), some (.int (nI b)), some (.int j), some (.int n)] [] (GH LG gr C G z) Q = R) → wp V (cdT Ev) mx (d + 1) 100 0 [some (.ref (LG 0)), some (.int (nI a)), some (.int i), some (.int (nI b)), some (.int j), some (.int n)] [] (GH LG gr C G z) Q = R := by
              intro R hR
              simp only [s_100_0, s_100_1, s_100_4, s_100_7, s_100_8, s_100_11, s_100_16, s_100_17, s_100_20, s_100_21, s_100_22, s_100_23, s_100_26, s_100_27, s_100_30, s_100_31, s_100_32, s_100_33, s_100_39, s_100_40, s_100_43, s_100_44, s_100_45, s_100_46, s_100_49, s_100_50, s_100_51, ↓reduceIte, eq_self, rts_some, rts_none, nq_int, nq_ref, nq_null, nq_none, okr1_0, okr1_1, okr_b, List.length_nil, List.length_cons, Nat.zero_le, Nat.reduceAdd, Nat.reduceLeDiff, b2i_0, b2i_n0, b2i_1, b2i_n1, ite_not, if_true, if_false, not_true_eq_false, not_false_eq_true, true_and, and_true, false_and, and_false, c_isTap, b2i_t ht', b2i_t ho', z10, dg_7 hg hm, tf_a3 hg h, hx, hcl, hx2, hcl2, ts_m1 hq ha, ts_m1 hq hb, s0, s1, eq_true se]
              exact hR
            by_cases n0 : n < 0
            · refine (pre _ ?_).mpr (H4 ht ho s0 s1 se (by rw [pl]; exact fun q => q.1 n0))
              simp only [s_100_0, s_100_1, s_100_4, s_100_7, s_100_8, s_100_11, s_100_14, s_100_15, s_100_16, s_100_16_n, s_100_17, s_100_20, s_100_21, s_100_22, s_100_23, s_100_26, s_100_26_n, s_100_27, s_100_30, s_100_31, s_100_32, s_100_33, s_100_36, s_100_38, s_100_39, s_100_39_n, s_100_40, s_100_43, s_100_44, s_100_45, s_100_45_n, s_100_46, s_100_49, s_100_50, s_100_51, s_100_54, s_100_56, s_100_57, s_100_59, s_100_62, s_100_63, s_100_66, s_100_68, s_100_71, s_100_73, s_100_73_n, s_100_74, s_100_77, s_100_78, s_100_79, s_100_80, s_100_81, s_100_84, s_100_86, s_100_86_n, s_100_87, s_100_90, s_100_91, s_100_92, s_100_94, s_100_95, s_100_98, s_100_100, s_100_101, s_100_101_n, s_100_102, s_100_105, s_100_106, s_100_107, s_100_108, s_100_108_n, s_100_109, s_100_112, s_100_113, s_100_114, s_100_116, s_100_118, s_100_121, s_100_123, ↓reduceIte, eq_self, rts_some, rts_none, nq_int, nq_ref, nq_null, nq_none, okr1_0, okr1_1, okr_b, List.length_nil, List.length_cons, Nat.zero_le, Nat.reduceAdd, Nat.reduceLeDiff, b2i_0, b2i_n0, b2i_1, b2i_n1, ite_not, if_true, if_false, not_true_eq_false, not_false_eq_true, true_and, and_true, false_and, and_false, n0]
            · by_cases i0 : i < 0
              · refine (pre _ ?_).mpr (H4 ht ho s0 s1 se (by rw [pl]; exact fun q => q.2.1 i0))
                simp only [s_100_0, s_100_1, s_100_4, s_100_7, s_100_8, s_100_11, s_100_14, s_100_15, s_100_16, s_100_16_n, s_100_17, s_100_20, s_100_21, s_100_22, s_100_23, s_100_26, s_100_26_n, s_100_27, s_100_30, s_100_31, s_100_32, s_100_33, s_100_36, s_100_38, s_100_39, s_100_39_n, s_100_40, s_100_43, s_100_44, s_100_45, s_100_45_n, s_100_46, s_100_49, s_100_50, s_100_51, s_100_54, s_100_56, s_100_57, s_100_59, s_100_62, s_100_63, s_100_66, s_100_68, s_100_71, s_100_73, s_100_73_n, s_100_74, s_100_77, s_100_78, s_100_79, s_100_80, s_100_81, s_100_84, s_100_86, s_100_86_n, s_100_87, s_100_90, s_100_91, s_100_92, s_100_94, s_100_95, s_100_98, s_100_100, s_100_101, s_100_101_n, s_100_102, s_100_105, s_100_106, s_100_107, s_100_108, s_100_108_n, s_100_109, s_100_112, s_100_113, s_100_114, s_100_116, s_100_118, s_100_121, s_100_123, ↓reduceIte, eq_self, rts_some, rts_none, nq_int, nq_ref, nq_null, nq_none, okr1_0, okr1_1, okr_b, List.length_nil, List.length_cons, Nat.zero_le, Nat.reduceAdd, Nat.reduceLeDiff, b2i_0, b2i_n0, b2i_1, b2i_n1, ite_not, if_true, if_false, not_true_eq_false, not_false_eq_true, true_and, and_true, false_and, and_false, n0, i0]
              · by_cases j0 : j < 0
                · refine (pre _ ?_).mpr (H4 ht ho s0 s1 se (by rw [pl]; exact fun q => q.2.2.1 j0))
                  simp only [s_100_0, s_100_1, s_100_4, s_100_7, s_100_8, s_100_11, s_100_14, s_100_15, s_100_16, s_100_16_n, s_100_17, s_100_20, s_100_21, s_100_22, s_100_23, s_100_26, s_100_26_n, s_100_27, s_100_30, s_100_31, s_100_32, s_100_33, s_100_36, s_100_38, s_100_39, s_100_39_n, s_100_40, s_100_43, s_100_44, s_100_45, s_100_45_n, s_100_46, s_100_49, s_100_50, s_100_51, s_100_54, s_100_56, s_100_57, s_100_59, s_100_62, s_100_63, s_100_66, s_100_68, s_100_71, s_100_73, s_100_73_n, s_100_74, s_100_77, s_100_78, s_100_79, s_100_80, s_100_81, s_100_84, s_100_86, s_100_86_n, s_100_87, s_100_90, s_100_91, s_100_92, s_100_94, s_100_95, s_100_98, s_100_100, s_100_101, s_100_101_n, s_100_102, s_100_105, s_100_106, s_100_107, s_100_108, s_100_108_n, s_100_109, s_100_112, s_100_113, s_100_114, s_100_116, s_100_118, s_100_121, s_100_123, ↓reduceIte, eq_self, rts_some, rts_none, nq_int, nq_ref, nq_null, nq_none, okr1_0, okr1_1, okr_b, List.length_nil, List.length_cons, Nat.zero_le, Nat.reduceAdd, Nat.reduceLeDiff, b2i_0, b2i_n0, b2i_1, b2i_n1, ite_not, if_true, if_false, not_true_eq_false, not_false_eq_true, true_and, and_true, false_and, and_false, n0, i0, j0]
                · by_cases c1 : tz a - i < n
                  · refine (pre _ ?_).mpr (H4 ht ho s0 s1 se (by rw [pl]; exact fun q => q.2.2.2.1 c1))
                    simp only [s_100_0, s_100_1, s_100_4, s_100_7, s_100_8, s_100_11, s_100_14, s_100_15, s_100_16, s_100_16_n, s_100_17, s_100_20, s_100_21, s_100_22, s_100_23, s_100_26, s_100_26_n, s_100_27, s_100_30, s_100_31, s_100_32, s_100_33, s_100_36, s_100_38, s_100_39, s_100_39_n, s_100_40, s_100_43, s_100_44, s_100_45, s_100_45_n, s_100_46, s_100_49, s_100_50, s_100_51, s_100_54, s_100_56, s_100_57, s_100_59, s_100_62, s_100_63, s_100_66, s_100_68, s_100_71, s_100_73, s_100_73_n, s_100_74, s_100_77, s_100_78, s_100_79, s_100_80, s_100_81, s_100_84, s_100_86, s_100_86_n, s_100_87, s_100_90, s_100_91, s_100_92, s_100_94, s_100_95, s_100_98, s_100_100, s_100_101, s_100_101_n, s_100_102, s_100_105, s_100_106, s_100_107, s_100_108, s_100_108_n, s_100_109, s_100_112, s_100_113, s_100_114, s_100_116, s_100_118, s_100_121, s_100_123, ↓reduceIte, eq_self, rts_some, rts_none, nq_int, nq_ref, nq_null, nq_none, okr1_0, okr1_1, okr_b, List.length_nil, List.length_cons, Nat.zero_le, Nat.reduceAdd, Nat.reduceLeDiff, b2i_0, b2i_n0, b2i_1, b2i_n1, ite_not, if_true, if_false, not_true_eq_false, not_false_eq_true, true_and, and_true, false_and, and_false, n0, i0, j0, dg_8 hg hm, tf_a4 hg h, hx, hcl, c1]
                  · by_cases c2 : tz b - j < n
                    · refine (pre _ ?_).mpr (H4 ht ho s0 s1 se (by rw [pl]; exact fun q => q.2.2.2.2 c2))
                      simp only [s_100_0, s_100_1, s_100_4, s_100_7, s_100_8, s_100_11, s_100_14, s_100_15, s_100_16, s_100_16_n, s_100_17, s_100_20, s_100_21, s_100_22, s_100_23, s_100_26, s_100_26_n, s_100_27, s_100_30, s_100_31, s_100_32, s_100_33, s_100_36, s_100_38, s_100_39, s_100_39_n, s_100_40, s_100_43, s_100_44, s_100_45, s_100_45_n, s_100_46, s_100_49, s_100_50, s_100_51, s_100_54, s_100_56, s_100_57, s_100_59, s_100_62, s_100_63, s_100_66, s_100_68, s_100_71, s_100_73, s_100_73_n, s_100_74, s_100_77, s_100_78, s_100_79, s_100_80, s_100_81, s_100_84, s_100_86, s_100_86_n, s_100_87, s_100_90, s_100_91, s_100_92, s_100_94, s_100_95, s_100_98, s_100_100, s_100_101, s_100_101_n, s_100_102, s_100_105, s_100_106, s_100_107, s_100_108, s_100_108_n, s_100_109, s_100_112, s_100_113, s_100_114, s_100_116, s_100_118, s_100_121, s_100_123, ↓reduceIte, eq_self, rts_some, rts_none, nq_int, nq_ref, nq_null, nq_none, okr1_0, okr1_1, okr_b, List.length_nil, List.length_cons, Nat.zero_le, Nat.reduceAdd, Nat.reduceLeDiff, b2i_0, b2i_n0, b2i_1, b2i_n1, ite_not, if_true, if_false, not_true_eq_false, not_false_eq_true, true_and, and_true, false_and, and_false, n0, i0, j0, dg_8 hg hm, tf_a4 hg h, hx, hcl, hx2, hcl2, c1, eq_false (Int32.not_le.mpr c2)]
                    · have fin := H5 ht ho s0 s1 se (by rw [pl]; exact ⟨n0, i0, j0, c1, c2⟩)
                      obtain ⟨ii, hii, rfl⟩ := nI_of i0
                      obtain ⟨jj, hjj, rfl⟩ := nI_of j0
                      obtain ⟨nn, hnn, rfl⟩ := nI_of n0
                      have b1 : nn + ii ≤ L := by
                        rw [eL] at c1
                        exact (le_sub60 hnn hL hii).mp c1
                      have b2 : nn + jj ≤ L2 := by
                        rw [eL2] at c2
                        exact (le_sub60 hnn hL2 hjj).mp c2
                      have cp : ∀ K : HS → Prop, cl2 (GH LG gr C G z) (LG (6 + a)) (LG (6 + b)) (nI nn) (nI jj) (nI ii) K = K (GH LG gr (va_up C (6 + b) (some (.inl (3, 60, .inr (.inl (va_cpy (rw a) (rw b) (nI ii).toNatClampNeg (nI jj).toNatClampNeg (nI nn).toNatClampNeg)))))) G z) := by
                        intro K
                        rw [r_cl2 hg (h.2.2.2 a ha) (h.2.2.2 b hb)]
                        refine propext ⟨fun h => h.2, fun h => ⟨?_, h⟩⟩
                        rw [nI_clamp hii, nI_clamp hjj, nI_clamp hnn]
                        intro q
                        rcases q with q | q | q | q | q
                        · exact i0 q
                        · exact j0 q
                        · exact n0 q
                        · omega
                        · omega
                      refine (pre _ ?_).mpr fin
                      simp only [s_100_0, s_100_1, s_100_4, s_100_7, s_100_8, s_100_11, s_100_14, s_100_15, s_100_16, s_100_16_n, s_100_17, s_100_20, s_100_21, s_100_22, s_100_23, s_100_26, s_100_26_n, s_100_27, s_100_30, s_100_31, s_100_32, s_100_33, s_100_36, s_100_38, s_100_39, s_100_39_n, s_100_40, s_100_43, s_100_44, s_100_45, s_100_45_n, s_100_46, s_100_49, s_100_50, s_100_51, s_100_54, s_100_56, s_100_57, s_100_59, s_100_62, s_100_63, s_100_66, s_100_68, s_100_71, s_100_73, s_100_73_n, s_100_74, s_100_77, s_100_78, s_100_79, s_100_80, s_100_81, s_100_84, s_100_86, s_100_86_n, s_100_87, s_100_90, s_100_91, s_100_92, s_100_94, s_100_95, s_100_98, s_100_100, s_100_101, s_100_101_n, s_100_102, s_100_105, s_100_106, s_100_107, s_100_108, s_100_108_n, s_100_109, s_100_112, s_100_113, s_100_114, s_100_116, s_100_118, s_100_121, s_100_123, ↓reduceIte, eq_self, rts_some, rts_none, nq_int, nq_ref, nq_null, nq_none, okr1_0, okr1_1, okr_b, List.length_nil, List.length_cons, Nat.zero_le, Nat.reduceAdd, Nat.reduceLeDiff, b2i_0, b2i_n0, b2i_1, b2i_n1, ite_not, if_true, if_false, not_true_eq_false, not_false_eq_true, true_and, and_true, false_and, and_false, n0, i0, j0, dg_8 hg hm, dg_9 hg hm, tf_a4 hg h, tf_a5 hg h ha, tf_a5 hg h hb, hx, hcl, hx2, hcl2, c1, eq_true (Int32.not_lt.mp c2), cp]
          · have := H3 ht ho s0 s1 se
            simp only [s_100_0, s_100_1, s_100_4, s_100_7, s_100_8, s_100_11, s_100_14, s_100_15, s_100_16, s_100_16_n, s_100_17, s_100_20, s_100_21, s_100_22, s_100_23, s_100_26, s_100_26_n, s_100_27, s_100_30, s_100_31, s_100_32, s_100_33, s_100_36, s_100_38, s_100_39, s_100_39_n, s_100_40, s_100_43, s_100_44, s_100_45, s_100_45_n, s_100_46, s_100_49, s_100_50, s_100_51, s_100_54, s_100_56, s_100_57, s_100_59, s_100_62, s_100_63, s_100_66, s_100_68, s_100_71, s_100_73, s_100_73_n, s_100_74, s_100_77, s_100_78, s_100_79, s_100_80, s_100_81, s_100_84, s_100_86, s_100_86_n, s_100_87, s_100_90, s_100_91, s_100_92, s_100_94, s_100_95, s_100_98, s_100_100, s_100_101, s_100_101_n, s_100_102, s_100_105, s_100_106, s_100_107, s_100_108, s_100_108_n, s_100_109, s_100_112, s_100_113, s_100_114, s_100_116, s_100_118, s_100_121, s_100_123, ↓reduceIte, eq_self, rts_some, rts_none, nq_int, nq_ref, nq_null, nq_none, okr1_0, okr1_1, okr_b, List.length_nil, List.length_cons, Nat.zero_le, Nat.reduceAdd, Nat.reduceLeDiff, b2i_0, b2i_n0, b2i_1, b2i_n1, ite_not, if_true, if_false, not_true_eq_false, not_false_eq_true, true_and, and_true, false_and, and_false, c_isTap, b2i_t ht', b2i_t ho', z10, dg_7 hg hm, tf_a3 hg h, hx, hcl, hx2, hcl2, ts_m1 hq ha, ts_m1 hq hb, s0, s1, eq_false se]
            exact this
    · have ho' : ¬ (0 ≤ o ∧ o ≤ 5) := ho
      have := H1 (fun h => ho h.2)
      simp only [s_100_0, s_100_1, s_100_4, s_100_7, s_100_8, s_100_11, s_100_14, s_100_15, s_100_16, s_100_16_n, s_100_17, s_100_20, s_100_21, s_100_22, s_100_23, s_100_26, s_100_26_n, s_100_27, s_100_30, s_100_31, s_100_32, s_100_33, s_100_36, s_100_38, s_100_39, s_100_39_n, s_100_40, s_100_43, s_100_44, s_100_45, s_100_45_n, s_100_46, s_100_49, s_100_50, s_100_51, s_100_54, s_100_56, s_100_57, s_100_59, s_100_62, s_100_63, s_100_66, s_100_68, s_100_71, s_100_73, s_100_73_n, s_100_74, s_100_77, s_100_78, s_100_79, s_100_80, s_100_81, s_100_84, s_100_86, s_100_86_n, s_100_87, s_100_90, s_100_91, s_100_92, s_100_94, s_100_95, s_100_98, s_100_100, s_100_101, s_100_101_n, s_100_102, s_100_105, s_100_106, s_100_107, s_100_108, s_100_108_n, s_100_109, s_100_112, s_100_113, s_100_114, s_100_116, s_100_118, s_100_121, s_100_123, ↓reduceIte, eq_self, rts_some, rts_none, nq_int, nq_ref, nq_null, nq_none, okr1_0, okr1_1, okr_b, List.length_nil, List.length_cons, Nat.zero_le, Nat.reduceAdd, Nat.reduceLeDiff, b2i_0, b2i_n0, b2i_1, b2i_n1, ite_not, if_true, if_false, not_true_eq_false, not_false_eq_true, true_and, and_true, false_and, and_false, c_isTap, b2i_t ht', b2i_f ho', z10]
      exact this
  · have ht' : ¬ (0 ≤ t ∧ t ≤ 5) := ht
    have := H1 (fun h => ht h.1)
    simp only [s_100_0, s_100_1, s_100_4, s_100_7, s_100_8, s_100_11, s_100_14, s_100_15, s_100_16, s_100_16_n, s_100_17, s_100_20, s_100_21, s_100_22, s_100_23, s_100_26, s_100_26_n, s_100_27, s_100_30, s_100_31, s_100_32, s_100_33, s_100_36, s_100_38, s_100_39, s_100_39_n, s_100_40, s_100_43, s_100_44, s_100_45, s_100_45_n, s_100_46, s_100_49, s_100_50, s_100_51, s_100_54, s_100_56, s_100_57, s_100_59, s_100_62, s_100_63, s_100_66, s_100_68, s_100_71, s_100_73, s_100_73_n, s_100_74, s_100_77, s_100_78, s_100_79, s_100_80, s_100_81, s_100_84, s_100_86, s_100_86_n, s_100_87, s_100_90, s_100_91, s_100_92, s_100_94, s_100_95, s_100_98, s_100_100, s_100_101, s_100_101_n, s_100_102, s_100_105, s_100_106, s_100_107, s_100_108, s_100_108_n, s_100_109, s_100_112, s_100_113, s_100_114, s_100_116, s_100_118, s_100_121, s_100_123, ↓reduceIte, eq_self, rts_some, rts_none, nq_int, nq_ref, nq_null, nq_none, okr1_0, okr1_1, okr_b, List.length_nil, List.length_cons, Nat.zero_le, Nat.reduceAdd, Nat.reduceLeDiff, b2i_0, b2i_n0, b2i_1, b2i_n1, ite_not, if_true, if_false, not_true_eq_false, not_false_eq_true, true_and, and_true, false_and, and_false, c_isTap, b2i_f ht']
    exact this
variable {M F : Nat → Int32} {ex : Nat → Bool} {hd : Option Nat}
theorem TF_W (h : TF LG C ts tz rw) : TF LG (WC LG 100 M F ex hd C) ts tz rw := ⟨(WC_out (by decide)).trans h.1, (WC_out (by decide)).trans h.2.1, (WC_out (by decide)).trans h.2.2.1, fun t ht => (WC_out (by omega)).trans (h.2.2.2 t ht)⟩
theorem lg_eq {x y : Int64} : (lg_cmp x y = 0) = (x = y) := by
  unfold lg_cmp
  by_cases h1 : x > y
  · rw [if_pos h1]
    refine propext ⟨fun h => absurd h (by decide), fun h => ?_⟩
    subst h
    exact absurd h1 Int64.lt_irrefl
  · rw [if_neg h1]
    by_cases h2 : x = y
    · rw [if_pos h2]
      exact propext ⟨fun _ => h2, fun _ => rfl⟩
    · rw [if_neg h2]
      exact propext ⟨fun h => absurd h (by decide), fun h => absurd h h2⟩
theorem c_judge_l (hg : ∀ r, gr (LG r) = r) (hm : DM LG C kf nb) (h : TF LG C ts tz rw) {t i L : Nat} (ht : t < 6) (hi : i < 2 ^ 31) (hL : L ≤ 60) (eL : tz t = nI L) : ∀ m k, k + m = 12 → wp V (cdT Ev) mx d 90 44 [some (.ref (LG 0)), some (.int (nI t)), some (.int (nI i)), some (.int (nI k))] [] (GW LG gr 100 M F ex hd C G z) Q = Q (some (.int (juF M (rw t) L i m k))) (GW LG gr 100 M F ex hd C G z) := by
  have hm1 : DM LG (WC LG 100 M F ex hd C) kf nb := DM_W (by decide) hm
  have h1 : TF LG (WC LG 100 M F ex hd C) ts tz rw := TF_W h
  have hx := ix_nIT ht (show 6 < 2 ^ 31 by decide)
  have hcl := nI_clamp (show t < 2 ^ 31 by omega)
  intro m
  induction m with
  | zero =>
    intro k hk
    have : k = 12 := by omega
    subst this
    rw [s_90_44]
    simp only [s_90_0, s_90_1, s_90_4, s_90_7, s_90_8, s_90_9, s_90_9_n, s_90_10, s_90_13, s_90_14, s_90_15, s_90_16, s_90_19, s_90_21, s_90_22, s_90_22_n, s_90_23, s_90_26, s_90_27, s_90_28, s_90_29, s_90_32, s_90_34, s_90_35, s_90_36, s_90_39, s_90_41, s_90_42, s_90_43, s_90_45, s_90_47, s_90_50, s_90_51, s_90_51_n, s_90_52, s_90_55, s_90_56, s_90_57, s_90_58, s_90_59, s_90_62, s_90_64, s_90_65, s_90_66, s_90_67, s_90_67_n, s_90_68, s_90_71, s_90_72, s_90_73, s_90_74, s_90_75, s_90_76, s_90_77, s_90_77_n, s_90_78, s_90_81, s_90_84, s_90_85, s_90_86, s_90_87, s_90_88, s_90_91, s_90_92, s_90_93, s_90_96, s_90_99, s_90_101, ↓reduceIte, eq_self, rts_some, rts_none, nq_int, nq_ref, nq_null, nq_none, okr1_0, okr1_1, okr_b, List.length_nil, List.length_cons, Nat.zero_le, Nat.reduceAdd, Nat.reduceLeDiff, b2i_0, b2i_n0, b2i_1, b2i_n1, ite_not, if_true, if_false, not_true_eq_false, not_false_eq_true, true_and, and_true, false_and, and_false, show ((12 : Int32) ≤ nI 12) = True from by decide, juF]
  | succ m ih =>
    intro k hk
    have hlt : ((12 : Int32) ≤ nI k) = False := eq_false (nI_ge (show k < 12 by omega) (by decide))
    have ec : (nI i < nI L - nI k) = (i + k < L) := by
      rw [Int32.lt_iff_toInt_lt, nI_toInt hi, pk_sub_toInt (by omega) (by omega)]
      exact propext (by omega)
    rw [s_90_44]
    simp only [juF]
    by_cases hL2 : L ≤ i + k
    · have e1 : (i + k < L) = False := eq_false (by omega)
      rw [if_pos hL2]
      simp only [s_90_0, s_90_1, s_90_4, s_90_7, s_90_8, s_90_9, s_90_9_n, s_90_10, s_90_13, s_90_14, s_90_15, s_90_16, s_90_19, s_90_21, s_90_22, s_90_22_n, s_90_23, s_90_26, s_90_27, s_90_28, s_90_29, s_90_32, s_90_34, s_90_35, s_90_36, s_90_39, s_90_41, s_90_42, s_90_43, s_90_45, s_90_47, s_90_50, s_90_51, s_90_51_n, s_90_52, s_90_55, s_90_56, s_90_57, s_90_58, s_90_59, s_90_62, s_90_64, s_90_65, s_90_66, s_90_67, s_90_67_n, s_90_68, s_90_71, s_90_72, s_90_73, s_90_74, s_90_75, s_90_76, s_90_77, s_90_77_n, s_90_78, s_90_81, s_90_84, s_90_85, s_90_86, s_90_87, s_90_88, s_90_91, s_90_92, s_90_93, s_90_96, s_90_99, s_90_101, ↓reduceIte, eq_self, rts_some, rts_none, nq_int, nq_ref, nq_null, nq_none, okr1_0, okr1_1, okr_b, List.length_nil, List.length_cons, Nat.zero_le, Nat.reduceAdd, Nat.reduceLeDiff, b2i_0, b2i_n0, b2i_1, b2i_n1, ite_not, if_true, if_false, not_true_eq_false, not_false_eq_true, true_and, and_true, false_and, and_false, hlt, dg_8 hg hm1, tf_a4 hg h1, hx, hcl, eL, ec, e1]
    · have e1 : (i + k < L) = True := eq_true (by omega)
      rw [if_neg hL2]
      by_cases he : rw t (i + k) = (M k).toInt64
      · rw [if_pos he]
        simp only [s_90_0, s_90_1, s_90_4, s_90_7, s_90_8, s_90_9, s_90_9_n, s_90_10, s_90_13, s_90_14, s_90_15, s_90_16, s_90_19, s_90_21, s_90_22, s_90_22_n, s_90_23, s_90_26, s_90_27, s_90_28, s_90_29, s_90_32, s_90_34, s_90_35, s_90_36, s_90_39, s_90_41, s_90_42, s_90_43, s_90_45, s_90_47, s_90_50, s_90_51, s_90_51_n, s_90_52, s_90_55, s_90_56, s_90_57, s_90_58, s_90_59, s_90_62, s_90_64, s_90_65, s_90_66, s_90_67, s_90_67_n, s_90_68, s_90_71, s_90_72, s_90_73, s_90_74, s_90_75, s_90_76, s_90_77, s_90_77_n, s_90_78, s_90_81, s_90_84, s_90_85, s_90_86, s_90_87, s_90_88, s_90_91, s_90_92, s_90_93, s_90_96, s_90_99, s_90_101, ↓reduceIte, eq_self, rts_some, rts_none, nq_int, nq_ref, nq_null, nq_none, okr1_0, okr1_1, okr_b, List.length_nil, List.length_cons, Nat.zero_le, Nat.reduceAdd, Nat.reduceLeDiff, b2i_0, b2i_n0, b2i_1, b2i_n1, ite_not, if_true, if_false, not_true_eq_false, not_false_eq_true, true_and, and_true, false_and, and_false, hlt, dg_8 hg hm1, dg_9 hg hm1, dg_0 hg hm1, wg_0 hg, wa_1 hg, tf_a4 hg h1, tf_a5 hg h1 ht, tf_al hg h1 ht, hx, hcl, eL, ec, e1, nI_add, ix_nIT (show i + k < 60 by omega) (show 60 < 2 ^ 31 by decide), nI_clamp (show i + k < 2 ^ 31 by omega), ix_nIT (show k < 12 by omega) (show 12 < 2 ^ 31 by decide), nI_clamp (show k < 2 ^ 31 by omega), lg_eq, eq_true he, nI_1]
        exact ih (k + 1) (by omega)
      · rw [if_neg he]
        simp only [s_90_0, s_90_1, s_90_4, s_90_7, s_90_8, s_90_9, s_90_9_n, s_90_10, s_90_13, s_90_14, s_90_15, s_90_16, s_90_19, s_90_21, s_90_22, s_90_22_n, s_90_23, s_90_26, s_90_27, s_90_28, s_90_29, s_90_32, s_90_34, s_90_35, s_90_36, s_90_39, s_90_41, s_90_42, s_90_43, s_90_45, s_90_47, s_90_50, s_90_51, s_90_51_n, s_90_52, s_90_55, s_90_56, s_90_57, s_90_58, s_90_59, s_90_62, s_90_64, s_90_65, s_90_66, s_90_67, s_90_67_n, s_90_68, s_90_71, s_90_72, s_90_73, s_90_74, s_90_75, s_90_76, s_90_77, s_90_77_n, s_90_78, s_90_81, s_90_84, s_90_85, s_90_86, s_90_87, s_90_88, s_90_91, s_90_92, s_90_93, s_90_96, s_90_99, s_90_101, ↓reduceIte, eq_self, rts_some, rts_none, nq_int, nq_ref, nq_null, nq_none, okr1_0, okr1_1, okr_b, List.length_nil, List.length_cons, Nat.zero_le, Nat.reduceAdd, Nat.reduceLeDiff, b2i_0, b2i_n0, b2i_1, b2i_n1, ite_not, if_true, if_false, not_true_eq_false, not_false_eq_true, true_and, and_true, false_and, and_false, hlt, dg_8 hg hm1, dg_9 hg hm1, dg_0 hg hm1, wg_0 hg, wa_1 hg, tf_a4 hg h1, tf_a5 hg h1 ht, tf_al hg h1 ht, hx, hcl, eL, ec, e1, nI_add, ix_nIT (show i + k < 60 by omega) (show 60 < 2 ^ 31 by decide), nI_clamp (show i + k < 2 ^ 31 by omega), ix_nIT (show k < 12 by omega) (show 12 < 2 ^ 31 by decide), nI_clamp (show k < 2 ^ 31 by omega), lg_eq, eq_false he]
theorem c_judge (hg : ∀ r, gr (LG r) = r) (hm : DM LG C kf nb) (h : TF LG C ts tz rw) (hq : TQ ts tz) {t i : Int32} : WP V (cdT Ev) mx (d + 2) 90 [.ref (LG 0), .int t, .int i] (GW LG gr 100 M F ex hd C G z) Q = Q (some (.int (if tapQ t then (if ts t.toNatClampNeg = -1 ∨ ts t.toNatClampNeg = 3 then (if i < 0 then 100 else juF M (rw t.toNatClampNeg) (tz t.toNatClampNeg).toNatClampNeg i.toNatClampNeg 12 0) else -12) else -1))) (GW LG gr 100 M F ex hd C G z) := by
  have z10 : ((1 : Int32) = 0) = False := by decide
  have hm1 : DM LG (WC LG 100 M F ex hd C) kf nb := DM_W (by decide) hm
  have h1 : TF LG (WC LG 100 M F ex hd C) ts tz rw := TF_W h
  rw [e_90]
  by_cases ht : tapQ t
  · have ht' : 0 ≤ t ∧ t ≤ 5 := ht
    obtain ⟨j, hj, rfl⟩ := tapQ_k ht
    have hx := ix_nIT hj (show 6 < 2 ^ 31 by decide)
    have hcl := nI_clamp (show j < 2 ^ 31 by omega)
    obtain ⟨L, hL, eL, hz⟩ := hq.1 j hj
    rw [if_pos ht, hcl, eL, nI_clamp (show L < 2 ^ 31 by omega)]
    by_cases s1 : ts j = -1
    · rw [if_pos (Or.inl s1)]
      have hz0 := (hz (by rw [s1]; decide)).2
      subst hz0
      have e100 : (if i < 0 then 100 else juF M (rw j) 0 i.toNatClampNeg 12 0) = 100 := by
        split
        · rfl
        · simp only [juF, Nat.zero_le, if_true]
          rfl
      rw [e100]
      simp only [s_90_0, s_90_1, s_90_4, s_90_7, s_90_8, s_90_9, s_90_9_n, s_90_10, s_90_13, s_90_14, s_90_15, s_90_16, s_90_19, s_90_21, s_90_22, s_90_22_n, s_90_23, s_90_26, s_90_27, s_90_28, s_90_29, s_90_32, s_90_34, s_90_35, s_90_36, s_90_39, s_90_41, s_90_42, s_90_43, s_90_45, s_90_47, s_90_50, s_90_51, s_90_51_n, s_90_52, s_90_55, s_90_56, s_90_57, s_90_58, s_90_59, s_90_62, s_90_64, s_90_65, s_90_66, s_90_67, s_90_67_n, s_90_68, s_90_71, s_90_72, s_90_73, s_90_74, s_90_75, s_90_76, s_90_77, s_90_77_n, s_90_78, s_90_81, s_90_84, s_90_85, s_90_86, s_90_87, s_90_88, s_90_91, s_90_92, s_90_93, s_90_96, s_90_99, s_90_101, ↓reduceIte, eq_self, rts_some, rts_none, nq_int, nq_ref, nq_null, nq_none, okr1_0, okr1_1, okr_b, List.length_nil, List.length_cons, Nat.zero_le, Nat.reduceAdd, Nat.reduceLeDiff, b2i_0, b2i_n0, b2i_1, b2i_n1, ite_not, if_true, if_false, not_true_eq_false, not_false_eq_true, true_and, and_true, false_and, and_false, c_isTap, b2i_t ht', z10, dg_7 hg hm1, tf_a3 hg h1, hx, hcl, s1]
    · by_cases s3 : ts j = 3
      · rw [if_pos (Or.inr s3)]
        have s1' : ((3 : Int32) = -1) = False := by decide
        by_cases i0 : i < 0
        · rw [if_pos i0]
          simp only [s_90_0, s_90_1, s_90_4, s_90_7, s_90_8, s_90_9, s_90_9_n, s_90_10, s_90_13, s_90_14, s_90_15, s_90_16, s_90_19, s_90_21, s_90_22, s_90_22_n, s_90_23, s_90_26, s_90_27, s_90_28, s_90_29, s_90_32, s_90_34, s_90_35, s_90_36, s_90_39, s_90_41, s_90_42, s_90_43, s_90_45, s_90_47, s_90_50, s_90_51, s_90_51_n, s_90_52, s_90_55, s_90_56, s_90_57, s_90_58, s_90_59, s_90_62, s_90_64, s_90_65, s_90_66, s_90_67, s_90_67_n, s_90_68, s_90_71, s_90_72, s_90_73, s_90_74, s_90_75, s_90_76, s_90_77, s_90_77_n, s_90_78, s_90_81, s_90_84, s_90_85, s_90_86, s_90_87, s_90_88, s_90_91, s_90_92, s_90_93, s_90_96, s_90_99, s_90_101, ↓reduceIte, eq_self, rts_some, rts_none, nq_int, nq_ref, nq_null, nq_none, okr1_0, okr1_1, okr_b, List.length_nil, List.length_cons, Nat.zero_le, Nat.reduceAdd, Nat.reduceLeDiff, b2i_0, b2i_n0, b2i_1, b2i_n1, ite_not, if_true, if_false, not_true_eq_false, not_false_eq_true, true_and, and_true, false_and, and_false, c_isTap, b2i_t ht', z10, dg_7 hg hm1, tf_a3 hg h1, hx, hcl, s3, s1', eq_false (Int32.not_le.mpr i0)]
        · rw [if_neg i0]
          obtain ⟨q, hq31, rfl⟩ := nI_of i0
          rw [nI_clamp hq31]
          simp only [s_90_0, s_90_1, s_90_4, s_90_7, s_90_8, s_90_9, s_90_9_n, s_90_10, s_90_13, s_90_14, s_90_15, s_90_16, s_90_19, s_90_21, s_90_22, s_90_22_n, s_90_23, s_90_26, s_90_27, s_90_28, s_90_29, s_90_32, s_90_34, s_90_35, s_90_36, s_90_39, s_90_41, s_90_42, s_90_43, s_90_45, s_90_47, s_90_50, s_90_51, s_90_51_n, s_90_52, s_90_55, s_90_56, s_90_57, s_90_58, s_90_59, s_90_62, s_90_64, s_90_65, s_90_66, s_90_67, s_90_67_n, s_90_68, s_90_71, s_90_72, s_90_73, s_90_74, s_90_75, s_90_76, s_90_77, s_90_77_n, s_90_78, s_90_81, s_90_84, s_90_85, s_90_86, s_90_87, s_90_88, s_90_91, s_90_92, s_90_93, s_90_96, s_90_99, s_90_101, ↓reduceIte, eq_self, rts_some, rts_none, nq_int, nq_ref, nq_null, nq_none, okr1_0, okr1_1, okr_b, List.length_nil, List.length_cons, Nat.zero_le, Nat.reduceAdd, Nat.reduceLeDiff, b2i_0, b2i_n0, b2i_1, b2i_n1, ite_not, if_true, if_false, not_true_eq_false, not_false_eq_true, true_and, and_true, false_and, and_false, c_isTap, b2i_t ht', z10, dg_7 hg hm1, tf_a3 hg h1, hx, hcl, s3, s1', eq_true (Int32.not_lt.mp i0)]
          exact c_judge_l hg hm h hj hq31 hL eL 12 0 rfl
      · rw [if_neg (fun h => h.elim s1 s3)]
        simp only [s_90_0, s_90_1, s_90_4, s_90_7, s_90_8, s_90_9, s_90_9_n, s_90_10, s_90_13, s_90_14, s_90_15, s_90_16, s_90_19, s_90_21, s_90_22, s_90_22_n, s_90_23, s_90_26, s_90_27, s_90_28, s_90_29, s_90_32, s_90_34, s_90_35, s_90_36, s_90_39, s_90_41, s_90_42, s_90_43, s_90_45, s_90_47, s_90_50, s_90_51, s_90_51_n, s_90_52, s_90_55, s_90_56, s_90_57, s_90_58, s_90_59, s_90_62, s_90_64, s_90_65, s_90_66, s_90_67, s_90_67_n, s_90_68, s_90_71, s_90_72, s_90_73, s_90_74, s_90_75, s_90_76, s_90_77, s_90_77_n, s_90_78, s_90_81, s_90_84, s_90_85, s_90_86, s_90_87, s_90_88, s_90_91, s_90_92, s_90_93, s_90_96, s_90_99, s_90_101, ↓reduceIte, eq_self, rts_some, rts_none, nq_int, nq_ref, nq_null, nq_none, okr1_0, okr1_1, okr_b, List.length_nil, List.length_cons, Nat.zero_le, Nat.reduceAdd, Nat.reduceLeDiff, b2i_0, b2i_n0, b2i_1, b2i_n1, ite_not, if_true, if_false, not_true_eq_false, not_false_eq_true, true_and, and_true, false_and, and_false, c_isTap, b2i_t ht', z10, dg_7 hg hm1, tf_a3 hg h1, hx, hcl, s1, s3]
  · have ht' : ¬ (0 ≤ t ∧ t ≤ 5) := ht
    rw [if_neg ht]
    simp only [s_90_0, s_90_1, s_90_4, s_90_7, s_90_8, s_90_9, s_90_9_n, s_90_10, s_90_13, s_90_14, s_90_15, s_90_16, s_90_19, s_90_21, s_90_22, s_90_22_n, s_90_23, s_90_26, s_90_27, s_90_28, s_90_29, s_90_32, s_90_34, s_90_35, s_90_36, s_90_39, s_90_41, s_90_42, s_90_43, s_90_45, s_90_47, s_90_50, s_90_51, s_90_51_n, s_90_52, s_90_55, s_90_56, s_90_57, s_90_58, s_90_59, s_90_62, s_90_64, s_90_65, s_90_66, s_90_67, s_90_67_n, s_90_68, s_90_71, s_90_72, s_90_73, s_90_74, s_90_75, s_90_76, s_90_77, s_90_77_n, s_90_78, s_90_81, s_90_84, s_90_85, s_90_86, s_90_87, s_90_88, s_90_91, s_90_92, s_90_93, s_90_96, s_90_99, s_90_101, ↓reduceIte, eq_self, rts_some, rts_none, nq_int, nq_ref, nq_null, nq_none, okr1_0, okr1_1, okr_b, List.length_nil, List.length_cons, Nat.zero_le, Nat.reduceAdd, Nat.reduceLeDiff, b2i_0, b2i_n0, b2i_1, b2i_n1, ite_not, if_true, if_false, not_true_eq_false, not_false_eq_true, true_and, and_true, false_and, and_false, c_isTap, b2i_f ht']
end
