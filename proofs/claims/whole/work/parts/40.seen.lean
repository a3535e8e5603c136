/-! What is seen; what one can have had: the reference. -/
def seF (N : Nat → Int32) (i t : Int32) : Nat → Bool
  | 0 => true
  | r + 1 => seF N i t r && (decide (¬ N (72 + 2 * r) = i) || decide (N (72 + 2 * r + 1) = t))
/-- from the top down: how many, the last -/
def dnF (P : Nat → Bool) (top : Nat) : Nat → Int32 × Int32
  | 0 => (0, -5)
  | m + 1 => if P (top - m) = true then ((dnF P top m).1 + 1, nI (top - m)) else dnF P top m
theorem b2i_t {p : Prop} [Decidable p] (h : p) : b2i p = 1 := by
  unfold b2i
  rw [if_pos h]
theorem b2i_f {p : Prop} [Decidable p] (h : ¬ p) : b2i p = 0 := by
  unfold b2i
  rw [if_neg h]
theorem x722 {r : Nat} : (72 : Int32) + 2 * nI r = nI (72 + 2 * r) := by
  rw [show (72 : Int32) = nI 72 from rfl, show (2 : Int32) = nI 2 from rfl, pk_mul, nI_add]
theorem nI_m1 {n : Nat} : nI (n + 1) + (-1) = nI n := pk_m1 n
section
variable {V : Nat → Option AE} {Ev : Nat → Value} {d : Nat} {Q : Option Value → HS → Prop}
variable {b : Nat} {lg : Nat → Nat → Int64} {G : Nat → Option AE} {z : Nat × Nat} {cl : List Cls}
theorem m_isSeen_l {k : Nat} (hk : k ≤ 5) {i t : Int32} {sc : Nat → Int32} {ar : Nat → Nat → Int32} (h71 : ar 1 71 = nI k) : ∀ m j, j + m = k → ∀ l5, nl l5 = true → wp V (cdT Ev) mx d 171 5 [some (.ref b), some (.int i), some (.int t), some (.int (b2i (seF (ar 1) i t j = true))), some (.int (nI j)), l5] [] (MH b sc ar lg G z) Q = Q (some (.int (b2i (seF (ar 1) i t k = true)))) (MH b sc ar lg G z) := by
  intro m
  induction m with
  | zero =>
    intro j hj l5 h5
    obtain rfl : j = k := by omega
    have hle : (nI j ≤ nI j) = True := eq_true (nI_le (by omega) (by omega))
    rw [s_171_5]
    simp only [s_171_0, s_171_1, s_171_2, s_171_3, s_171_7, s_171_7_n, s_171_8, s_171_11, s_171_13, s_171_14, s_171_17, s_171_19, s_171_20, s_171_22, s_171_23, s_171_24, s_171_26, s_171_27, s_171_30, s_171_30_n, s_171_31, s_171_34, s_171_36, s_171_37, s_171_38, s_171_41, s_171_41_n, s_171_42, s_171_45, s_171_47, s_171_48, s_171_49, s_171_50, s_171_51, s_171_54, s_171_55, s_171_58, s_171_59, s_171_60, s_171_63, s_171_66, s_171_67, ↓reduceIte, eq_self, rts_some, rts_none, nq_int, nq_ref, nq_null, nq_none, okr1_0, okr1_1, okr_b, List.length_nil, List.length_cons, Nat.zero_le, Nat.reduceAdd, Nat.reduceLeDiff, b2i_0, b2i_n0, b2i_1, b2i_n1, ite_not, if_true, if_false, not_true_eq_false, not_false_eq_true, true_and, and_true, false_and, and_false, mg_now, mg_mind, mg_then, mp_kept, mg_kept, mg_text, mp_texted, mg_texted, mg_rules, mg_sizes, mp_ruled, mg_ruled, mg_read, mp_size, mg_size, mp_at, mg_at, mp_well, mg_well, mp_within, mg_within, mp_sum, mg_sum, mp_free, mg_free, mg_names, mg_letters, mg_begins, mg_words, mg_sums, mg_above, mg_bodies, mg_trace, mp_ran, mg_ran, mg_sorts, mg_lengths, mg_items, mg_moved, ma_now, ms_now, ma_mind, ms_mind, ma_then, ms_then, ma_text, ms_text, ma_rules, ms_rules, ma_sizes, ms_sizes, ma_read, ms_read, ma_names, ms_names, ma_letters, ma_begins, ma_words, ma_sums, ms_sums, ma_above, ma_bodies, ma_trace, ms_trace, ma_sorts, ms_sorts, ma_lengths, ms_lengths, ma_items, ms_items, ma_moved, ms_moved, mcv, cl_0, cl_1, cl_2, cl_3, cl_4, cl_5, cl_6, cl_7, cl_8, cl_9, cl_10, cl_11, cl_12, cl_13, cl_14, cl_15, cl_16, cl_17, cl_18, cl_19, cl_20, cl_21, cl_22, cl_23, cl_24, cl_25, cl_26, cl_27, cl_28, cl_29, cl_30, cl_31, cl_68, cl_69, cl_70, cl_71, cl_82, cl_103, ix_0_120, ix_1_120, ix_2_120, ix_3_120, ix_4_120, ix_5_120, ix_6_120, ix_7_120, ix_8_120, ix_9_120, ix_10_120, ix_11_120, ix_12_120, ix_13_120, ix_68_120, ix_69_120, ix_70_120, ix_71_120, ix_82_120, ix_103_120, ix_0_6, ix_1_6, ix_2_6, ix_3_6, ix_4_6, ix_5_6, ix_0_12, ix_1_12, ix_2_12, ix_3_12, ix_4_12, ix_5_12, ix_6_12, ix_7_12, ix_8_12, ix_9_12, ix_10_12, ix_11_12, h71, hle]
  | succ m ih =>
    intro j hj l5 h5
    have hlt : (nI k ≤ nI j) = False := eq_false (nI_ge (by omega) (by omega))
    have hx1 : ix (nI (72 + 2 * j)) 120 = True := ix_nIT (by omega) (by decide)
    have hx2 : ix (nI (72 + 2 * j + 1)) 120 = True := ix_nIT (by omega) (by decide)
    have hgo : ∀ y : Int32, b2i (seF (ar 1) i t (j + 1) = true) = y → wp V (cdT Ev) mx d 171 59 [some (.ref b), some (.int i), some (.int t), some (.int (b2i (seF (ar 1) i t j = true))), some (.int (nI j)), some (.int (nI (72 + 2 * j)))] [.int y] (MH b sc ar lg G z) Q = Q (some (.int (b2i (seF (ar 1) i t k = true)))) (MH b sc ar lg G z) := by
      intro y hy
      subst hy
      simp only [s_171_0, s_171_1, s_171_2, s_171_3, s_171_7, s_171_7_n, s_171_8, s_171_11, s_171_13, s_171_14, s_171_17, s_171_19, s_171_20, s_171_22, s_171_23, s_171_24, s_171_26, s_171_27, s_171_30, s_171_30_n, s_171_31, s_171_34, s_171_36, s_171_37, s_171_38, s_171_41, s_171_41_n, s_171_42, s_171_45, s_171_47, s_171_48, s_171_49, s_171_50, s_171_51, s_171_54, s_171_55, s_171_58, s_171_59, s_171_60, s_171_63, s_171_66, s_171_67, ↓reduceIte, eq_self, rts_some, rts_none, nq_int, nq_ref, nq_null, nq_none, okr1_0, okr1_1, okr_b, List.length_nil, List.length_cons, Nat.zero_le, Nat.reduceAdd, Nat.reduceLeDiff, b2i_0, b2i_n0, b2i_1, b2i_n1, ite_not, if_true, if_false, not_true_eq_false, not_false_eq_true, true_and, and_true, false_and, and_false, nI_1]
      exact ih (j + 1) (by omega) _ nq_int
    rw [s_171_5]
    simp only [s_171_0, s_171_1, s_171_2, s_171_3, s_171_7, s_171_7_n, s_171_8, s_171_11, s_171_13, s_171_14, s_171_17, s_171_19, s_171_20, s_171_22, s_171_23, s_171_24, s_171_26, s_171_27, s_171_30, s_171_30_n, s_171_31, s_171_34, s_171_36, s_171_37, s_171_38, s_171_41, s_171_41_n, s_171_42, s_171_45, s_171_47, s_171_48, s_171_49, s_171_50, s_171_51, s_171_54, s_171_55, s_171_58, s_171_60, s_171_63, s_171_66, s_171_67, ↓reduceIte, eq_self, rts_some, rts_none, nq_int, nq_ref, nq_null, nq_none, okr1_0, okr1_1, okr_b, List.length_nil, List.length_cons, Nat.zero_le, Nat.reduceAdd, Nat.reduceLeDiff, b2i_0, b2i_n0, b2i_1, b2i_n1, ite_not, if_true, if_false, not_true_eq_false, not_false_eq_true, true_and, and_true, false_and, and_false, mg_now, mg_mind, mg_then, mp_kept, mg_kept, mg_text, mp_texted, mg_texted, mg_rules, mg_sizes, mp_ruled, mg_ruled, mg_read, mp_size, mg_size, mp_at, mg_at, mp_well, mg_well, mp_within, mg_within, mp_sum, mg_sum, mp_free, mg_free, mg_names, mg_letters, mg_begins, mg_words, mg_sums, mg_above, mg_bodies, mg_trace, mp_ran, mg_ran, mg_sorts, mg_lengths, mg_items, mg_moved, ma_now, ms_now, ma_mind, ms_mind, ma_then, ms_then, ma_text, ms_text, ma_rules, ms_rules, ma_sizes, ms_sizes, ma_read, ms_read, ma_names, ms_names, ma_letters, ma_begins, ma_words, ma_sums, ms_sums, ma_above, ma_bodies, ma_trace, ms_trace, ma_sorts, ms_sorts, ma_lengths, ms_lengths, ma_items, ms_items, ma_moved, ms_moved, mcv, cl_0, cl_1, cl_2, cl_3, cl_4, cl_5, cl_6, cl_7, cl_8, cl_9, cl_10, cl_11, cl_12, cl_13, cl_14, cl_15, cl_16, cl_17, cl_18, cl_19, cl_20, cl_21, cl_22, cl_23, cl_24, cl_25, cl_26, cl_27, cl_28, cl_29, cl_30, cl_31, cl_68, cl_69, cl_70, cl_71, cl_82, cl_103, ix_0_120, ix_1_120, ix_2_120, ix_3_120, ix_4_120, ix_5_120, ix_6_120, ix_7_120, ix_8_120, ix_9_120, ix_10_120, ix_11_120, ix_12_120, ix_13_120, ix_68_120, ix_69_120, ix_70_120, ix_71_120, ix_82_120, ix_103_120, ix_0_6, ix_1_6, ix_2_6, ix_3_6, ix_4_6, ix_5_6, ix_0_12, ix_1_12, ix_2_12, ix_3_12, ix_4_12, ix_5_12, ix_6_12, ix_7_12, ix_8_12, ix_9_12, ix_10_12, ix_11_12, h71, hlt, x722, hx1, hx2, nI_clamp (show 72 + 2 * j < 2 ^ 31 by omega), nI_clamp (show 72 + 2 * j + 1 < 2 ^ 31 by omega), nI_1, h5]
    by_cases h1 : seF (ar 1) i t j = true
    · simp only [h1, if_true]
      by_cases h2 : ar 1 (72 + 2 * j) = i
      · simp only [h2, if_true]
        by_cases h3 : ar 1 (72 + 2 * j + 1) = t
        · simp only [h3, if_true]
          have := hgo 1 (b2i_t (by simp [seF, h1, h3]))
          rwa [b2i_t h1] at this
        · simp only [h3, if_false]
          have := hgo 0 (b2i_f (by simp [seF, h1, h2, h3]))
          rwa [b2i_t h1] at this
      · simp only [h2, if_false]
        have := hgo 1 (b2i_t (by simp [seF, h1, h2]))
        rwa [b2i_t h1] at this
    · simp only [h1, if_false]
      have := hgo 0 (b2i_f (by simp [seF, h1]))
      rwa [b2i_f h1] at this
theorem m_isSeen {k : Nat} (hk : k ≤ 5) {i t : Int32} {sc : Nat → Int32} {ar : Nat → Nat → Int32} (h71 : ar 1 71 = nI k) : WP V (cdT Ev) mx (d + 1) 171 [.ref b, .int i, .int t] (MH b sc ar lg G z) Q = Q (some (.int (b2i (seF (ar 1) i t k = true)))) (MH b sc ar lg G z) := by
  rw [e_171]
  simp only [s_171_0, s_171_1, s_171_2, s_171_3, s_171_7, s_171_7_n, s_171_8, s_171_11, s_171_13, s_171_14, s_171_17, s_171_19, s_171_20, s_171_22, s_171_23, s_171_24, s_171_26, s_171_27, s_171_30, s_171_30_n, s_171_31, s_171_34, s_171_36, s_171_37, s_171_38, s_171_41, s_171_41_n, s_171_42, s_171_45, s_171_47, s_171_48, s_171_49, s_171_50, s_171_51, s_171_54, s_171_55, s_171_58, s_171_59, s_171_60, s_171_63, s_171_66, s_171_67, ↓reduceIte, eq_self, rts_some, rts_none, nq_int, nq_ref, nq_null, nq_none, okr1_0, okr1_1, okr_b, List.length_nil, List.length_cons, Nat.zero_le, Nat.reduceAdd, Nat.reduceLeDiff, b2i_0, b2i_n0, b2i_1, b2i_n1, ite_not, if_true, if_false, not_true_eq_false, not_false_eq_true, true_and, and_true, false_and, and_false]
  have := m_isSeen_l (V := V) (Ev := Ev) (d := d) (Q := Q) (b := b) (lg := lg) (G := G) (z := z) (sc := sc) hk (i := i) (t := t) h71 k 0 (by omega) none nq_none
  rwa [b2i_t (show seF (ar 1) i t 0 = true from rfl)] at this
/-- the sets that one can have had -/
def hdP (N : Nat → Int32) (cl : List Cls) (i k : Nat) (set : Nat) : Bool := seF N (nI i) (tipF N cl i (nI set)) k
theorem m_had_l {i k : Nat} (hi : i < 6) (hk : k ≤ 5) {f : Int32} {sc : Nat → Int32} {ar : Nat → Nat → Int32} (h71 : ar 1 71 = nI k) (hs : ∀ s, s < 12 → ar 12 s = smF (ar 1) cl i s) : ∀ m j, j + m = 4096 → ∀ l6, nl l6 = true → wp V (cdT Ev) mx (d + 3) 172 16 [some (.ref b), some (.int (nI i)), some (.int f), some (.int (dnF (hdP (ar 1) cl i k) 4095 j).1), some (.int (dnF (hdP (ar 1) cl i k) 4095 j).2), some (.int (nI m + (-1))), l6] [] (MH b sc ar lg G z) Q = wp V (cdT Ev) mx (d + 3) 172 68 [some (.ref b), some (.int (nI i)), some (.int f), some (.int (dnF (hdP (ar 1) cl i k) 4095 4096).1), some (.int (dnF (hdP (ar 1) cl i k) 4095 4096).2), some (.int (-1)), l6] [] (MH b sc ar lg G z) Q ∨ ∃ l6', nl l6' = true ∧ wp V (cdT Ev) mx (d + 3) 172 16 [some (.ref b), some (.int (nI i)), some (.int f), some (.int (dnF (hdP (ar 1) cl i k) 4095 j).1), some (.int (dnF (hdP (ar 1) cl i k) 4095 j).2), some (.int (nI m + (-1))), l6] [] (MH b sc ar lg G z) Q = wp V (cdT Ev) mx (d + 3) 172 68 [some (.ref b), some (.int (nI i)), some (.int f), some (.int (dnF (hdP (ar 1) cl i k) 4095 4096).1), some (.int (dnF (hdP (ar 1) cl i k) 4095 4096).2), some (.int (-1)), l6'] [] (MH b sc ar lg G z) Q := by
  intro m
  induction m with
  | zero =>
    intro j hj l6 h6
    obtain rfl : j = 4096 := by omega
    have hle : ((nI 0 + (-1) : Int32) < 0) = True := by decide
    left
    rw [s_172_16]
    simp only [s_172_0, s_172_0_n, s_172_1, s_172_2, s_172_5, s_172_6, s_172_7, s_172_9, s_172_11, s_172_14, s_172_18, s_172_21, s_172_21_n, s_172_22, s_172_23, s_172_23_n, s_172_24, s_172_25, s_172_27, s_172_30, s_172_33, s_172_35, s_172_36, s_172_38, s_172_41, s_172_42, s_172_45, s_172_46, s_172_47, s_172_48, s_172_50, s_172_53, s_172_55, s_172_58, s_172_60, s_172_62, s_172_65, s_172_69, s_172_72, s_172_73, s_172_76, s_172_78, ↓reduceIte, eq_self, rts_some, rts_none, nq_int, nq_ref, nq_null, nq_none, okr1_0, okr1_1, okr_b, List.length_nil, List.length_cons, Nat.zero_le, Nat.reduceAdd, Nat.reduceLeDiff, b2i_0, b2i_n0, b2i_1, b2i_n1, ite_not, if_true, if_false, not_true_eq_false, not_false_eq_true, true_and, and_true, false_and, and_false, hle]
    rfl
  | succ m ih =>
    intro j hj l6 h6
    right
    have hlt : (nI m < 0) = False := eq_false (nI_pos (by omega))
    have e : tp (fun s => urg (ar 1) i s (ar 12 s) (mn (nI m))) (nI m) = tipF (ar 1) cl i (nI m) := tp_cg (fun s hs2 => by simp only [hs s hs2])
    have hm : 4095 - j = m := by omega
    have hgo : ∀ (x : Int32 × Int32) (l6 : Option Value), nl l6 = true → dnF (hdP (ar 1) cl i k) 4095 (j + 1) = x → ∃ l6', nl l6' = true ∧ wp V (cdT Ev) mx (d + 3) 172 62 [some (.ref b), some (.int (nI i)), some (.int f), some (.int x.1), some (.int x.2), some (.int (nI m)), l6] [] (MH b sc ar lg G z) Q = wp V (cdT Ev) mx (d + 3) 172 68 [some (.ref b), some (.int (nI i)), some (.int f), some (.int (dnF (hdP (ar 1) cl i k) 4095 4096).1), some (.int (dnF (hdP (ar 1) cl i k) 4095 4096).2), some (.int (-1)), l6'] [] (MH b sc ar lg G z) Q := by
      intro x l6 h6 hx
      subst hx
      simp only [s_172_0, s_172_0_n, s_172_1, s_172_2, s_172_5, s_172_6, s_172_7, s_172_9, s_172_11, s_172_14, s_172_18, s_172_21, s_172_21_n, s_172_22, s_172_23, s_172_23_n, s_172_24, s_172_25, s_172_27, s_172_30, s_172_33, s_172_35, s_172_36, s_172_38, s_172_41, s_172_42, s_172_45, s_172_46, s_172_47, s_172_48, s_172_50, s_172_53, s_172_55, s_172_58, s_172_60, s_172_62, s_172_65, s_172_69, s_172_72, s_172_73, s_172_76, s_172_78, ↓reduceIte, eq_self, rts_some, rts_none, nq_int, nq_ref, nq_null, nq_none, okr1_0, okr1_1, okr_b, List.length_nil, List.length_cons, Nat.zero_le, Nat.reduceAdd, Nat.reduceLeDiff, b2i_0, b2i_n0, b2i_1, b2i_n1, ite_not, if_true, if_false, not_true_eq_false, not_false_eq_true, true_and, and_true, false_and, and_false]
      rcases ih (j + 1) (by omega) l6 h6 with h | h
      · exact ⟨l6, h6, h⟩
      · exact h
    by_cases hp : hdP (ar 1) cl i k m = true
    · have ex : dnF (hdP (ar 1) cl i k) 4095 (j + 1) = ((dnF (hdP (ar 1) cl i k) 4095 j).1 + 1, nI m) := by
        rw [dnF, hm, if_pos hp]
      obtain ⟨l6', q1, q2⟩ := hgo _ (some (.int (b2i (hdP (ar 1) cl i k m = true)))) nq_int ex
      refine ⟨l6', q1, ?_⟩
      rw [← q2, s_172_16]
      have hp' : seF (ar 1) (nI i) (tipF (ar 1) cl i (nI m)) k = true := hp
      simp only [s_172_0, s_172_0_n, s_172_1, s_172_2, s_172_5, s_172_6, s_172_7, s_172_9, s_172_11, s_172_14, s_172_18, s_172_21, s_172_21_n, s_172_22, s_172_23, s_172_23_n, s_172_24, s_172_25, s_172_27, s_172_30, s_172_33, s_172_35, s_172_36, s_172_38, s_172_41, s_172_42, s_172_45, s_172_46, s_172_47, s_172_48, s_172_50, s_172_53, s_172_55, s_172_58, s_172_60, s_172_65, s_172_69, s_172_72, s_172_73, s_172_76, s_172_78, ↓reduceIte, eq_self, rts_some, rts_none, nq_int, nq_ref, nq_null, nq_none, okr1_0, okr1_1, okr_b, List.length_nil, List.length_cons, Nat.zero_le, Nat.reduceAdd, Nat.reduceLeDiff, b2i_0, b2i_n0, b2i_1, b2i_n1, ite_not, if_true, if_false, not_true_eq_false, not_false_eq_true, true_and, and_true, false_and, and_false, mg_now, mg_mind, mg_then, mp_kept, mg_kept, mg_text, mp_texted, mg_texted, mg_rules, mg_sizes, mp_ruled, mg_ruled, mg_read, mp_size, mg_size, mp_at, mg_at, mp_well, mg_well, mp_within, mg_within, mp_sum, mg_sum, mp_free, mg_free, mg_names, mg_letters, mg_begins, mg_words, mg_sums, mg_above, mg_bodies, mg_trace, mp_ran, mg_ran, mg_sorts, mg_lengths, mg_items, mg_moved, ma_now, ms_now, ma_mind, ms_mind, ma_then, ms_then, ma_text, ms_text, ma_rules, ms_rules, ma_sizes, ms_sizes, ma_read, ms_read, ma_names, ms_names, ma_letters, ma_begins, ma_words, ma_sums, ms_sums, ma_above, ma_bodies, ma_trace, ms_trace, ma_sorts, ms_sorts, ma_lengths, ms_lengths, ma_items, ms_items, ma_moved, ms_moved, mcv, nI_m1, hlt, m_tipBy hi, e, m_isSeen hk h71, h6, hp', hp, eq_self]
    · have ex : dnF (hdP (ar 1) cl i k) 4095 (j + 1) = dnF (hdP (ar 1) cl i k) 4095 j := by
        rw [dnF, hm, if_neg hp]
      obtain ⟨l6', q1, q2⟩ := hgo _ (some (.int (b2i (hdP (ar 1) cl i k m = true)))) nq_int ex
      refine ⟨l6', q1, ?_⟩
      rw [← q2, s_172_16]
      have hp' : seF (ar 1) (nI i) (tipF (ar 1) cl i (nI m)) k = false := by
        have : hdP (ar 1) cl i k m = false := by simpa using hp
        exact this
      simp only [s_172_0, s_172_0_n, s_172_1, s_172_2, s_172_5, s_172_6, s_172_7, s_172_9, s_172_11, s_172_14, s_172_18, s_172_21, s_172_21_n, s_172_22, s_172_23, s_172_23_n, s_172_24, s_172_25, s_172_27, s_172_30, s_172_33, s_172_35, s_172_36, s_172_38, s_172_41, s_172_42, s_172_45, s_172_46, s_172_47, s_172_48, s_172_50, s_172_53, s_172_55, s_172_58, s_172_60, s_172_65, s_172_69, s_172_72, s_172_73, s_172_76, s_172_78, ↓reduceIte, eq_self, rts_some, rts_none, nq_int, nq_ref, nq_null, nq_none, okr1_0, okr1_1, okr_b, List.length_nil, List.length_cons, Nat.zero_le, Nat.reduceAdd, Nat.reduceLeDiff, b2i_0, b2i_n0, b2i_1, b2i_n1, ite_not, if_true, if_false, not_true_eq_false, not_false_eq_true, true_and, and_true, false_and, and_false, mg_now, mg_mind, mg_then, mp_kept, mg_kept, mg_text, mp_texted, mg_texted, mg_rules, mg_sizes, mp_ruled, mg_ruled, mg_read, mp_size, mg_size, mp_at, mg_at, mp_well, mg_well, mp_within, mg_within, mp_sum, mg_sum, mp_free, mg_free, mg_names, mg_letters, mg_begins, mg_words, mg_sums, mg_above, mg_bodies, mg_trace, mp_ran, mg_ran, mg_sorts, mg_lengths, mg_items, mg_moved, ma_now, ms_now, ma_mind, ms_mind, ma_then, ms_then, ma_text, ms_text, ma_rules, ms_rules, ma_sizes, ms_sizes, ma_read, ms_read, ma_names, ms_names, ma_letters, ma_begins, ma_words, ma_sums, ms_sums, ma_above, ma_bodies, ma_trace, ms_trace, ma_sorts, ms_sorts, ma_lengths, ms_lengths, ma_items, ms_items, ma_moved, ms_moved, mcv, nI_m1, hlt, m_tipBy hi, e, m_isSeen hk h71, h6, hp', hp, Bool.false_eq_true, Int32.add_zero]
theorem m_had {i k : Nat} (hi : i < 6) (hk : k ≤ 5) {f : Int32} {sc : Nat → Int32} {ar : Nat → Nat → Int32} (h71 : ar 1 71 = nI k) (h8 : N8 ar) (hr : RuleOK ar cl) (H : ∀ sc' ar', SW sc ar sc' ar' → Q (some (.int (if f = 0 then (dnF (hdP (ar 1) cl i k) 4095 4096).2 else (dnF (hdP (ar 1) cl i k) 4095 4096).1))) (MH b sc' ar' lg G z)) : WP V (cdT Ev) mx (d + 23) 172 [.ref b, .int (nI i), .int f] (MH b sc ar lg G z) Q := by
  rw [e_172]
  simp only [s_172_0, s_172_0_n, s_172_1, s_172_2, s_172_5, s_172_6, s_172_7, s_172_9, s_172_11, s_172_14, s_172_18, s_172_21, s_172_21_n, s_172_22, s_172_23, s_172_23_n, s_172_24, s_172_25, s_172_27, s_172_30, s_172_33, s_172_35, s_172_36, s_172_38, s_172_41, s_172_42, s_172_45, s_172_46, s_172_47, s_172_48, s_172_50, s_172_53, s_172_55, s_172_58, s_172_60, s_172_62, s_172_65, s_172_68, s_172_69, s_172_72, s_172_73, s_172_76, s_172_78, ↓reduceIte, eq_self, rts_some, rts_none, nq_int, nq_ref, nq_null, nq_none, okr1_0, okr1_1, okr_b, List.length_nil, List.length_cons, Nat.zero_le, Nat.reduceAdd, Nat.reduceLeDiff, b2i_0, b2i_n0, b2i_1, b2i_n1, ite_not, if_true, if_false, not_true_eq_false, not_false_eq_true, true_and, and_true, false_and, and_false, mg_now, mg_mind, mg_then, mp_kept, mg_kept, mg_text, mp_texted, mg_texted, mg_rules, mg_sizes, mp_ruled, mg_ruled, mg_read, mp_size, mg_size, mp_at, mg_at, mp_well, mg_well, mp_within, mg_within, mp_sum, mg_sum, mp_free, mg_free, mg_names, mg_letters, mg_begins, mg_words, mg_sums, mg_above, mg_bodies, mg_trace, mp_ran, mg_ran, mg_sorts, mg_lengths, mg_items, mg_moved, ma_now, ms_now, ma_mind, ms_mind, ma_then, ms_then, ma_text, ms_text, ma_rules, ms_rules, ma_sizes, ms_sizes, ma_read, ms_read, ma_names, ms_names, ma_letters, ma_begins, ma_words, ma_sums, ms_sums, ma_above, ma_bodies, ma_trace, ms_trace, ma_sorts, ms_sorts, ma_lengths, ms_lengths, ma_items, ms_items, ma_moved, ms_moved, mcv]
  refine m_tell (d := d) hi h8 hr (fun sc' ar' hse hd => ?_)
  have e1 := SE_1 hse
  simp only [s_172_0, s_172_0_n, s_172_1, s_172_2, s_172_5, s_172_6, s_172_7, s_172_9, s_172_11, s_172_14, s_172_18, s_172_21, s_172_21_n, s_172_22, s_172_23, s_172_23_n, s_172_24, s_172_25, s_172_27, s_172_30, s_172_33, s_172_35, s_172_36, s_172_38, s_172_41, s_172_42, s_172_45, s_172_46, s_172_47, s_172_48, s_172_50, s_172_53, s_172_55, s_172_58, s_172_60, s_172_62, s_172_65, s_172_68, s_172_69, s_172_72, s_172_73, s_172_76, s_172_78, ↓reduceIte, eq_self, rts_some, rts_none, nq_int, nq_ref, nq_null, nq_none, okr1_0, okr1_1, okr_b, List.length_nil, List.length_cons, Nat.zero_le, Nat.reduceAdd, Nat.reduceLeDiff, b2i_0, b2i_n0, b2i_1, b2i_n1, ite_not, if_true, if_false, not_true_eq_false, not_false_eq_true, true_and, and_true, false_and, and_false, mg_now, mg_mind, mg_then, mp_kept, mg_kept, mg_text, mp_texted, mg_texted, mg_rules, mg_sizes, mp_ruled, mg_ruled, mg_read, mp_size, mg_size, mp_at, mg_at, mp_well, mg_well, mp_within, mg_within, mp_sum, mg_sum, mp_free, mg_free, mg_names, mg_letters, mg_begins, mg_words, mg_sums, mg_above, mg_bodies, mg_trace, mp_ran, mg_ran, mg_sorts, mg_lengths, mg_items, mg_moved, ma_now, ms_now, ma_mind, ms_mind, ma_then, ms_then, ma_text, ms_text, ma_rules, ms_rules, ma_sizes, ms_sizes, ma_read, ms_read, ma_names, ms_names, ma_letters, ma_begins, ma_words, ma_sums, ms_sums, ma_above, ma_bodies, ma_trace, ms_trace, ma_sorts, ms_sorts, ma_lengths, ms_lengths, ma_items, ms_items, ma_moved, ms_moved, mcv]
  have h71' : ar' 1 71 = nI k := by rw [e1]; exact h71
  have hd' : ∀ s, s < 12 → ar' 12 s = smF (ar' 1) cl i s := by rw [e1]; exact hd
  have hfin : ∀ l6, nl l6 = true → wp V (cdT Ev) mx (d + 22) 172 68 [some (.ref b), some (.int (nI i)), some (.int f), some (.int (dnF (hdP (ar' 1) cl i k) 4095 4096).1), some (.int (dnF (hdP (ar' 1) cl i k) 4095 4096).2), some (.int (-1)), l6] [] (MH b sc' ar' lg G z) Q := by
    intro l6 h6
    have := H _ _ (SE_SW hse)
    rw [← e1] at this
    by_cases hf : f = 0
    · rw [if_pos hf] at this
      simp only [s_172_0, s_172_0_n, s_172_1, s_172_2, s_172_5, s_172_6, s_172_7, s_172_9, s_172_11, s_172_14, s_172_18, s_172_21, s_172_21_n, s_172_22, s_172_23, s_172_23_n, s_172_24, s_172_25, s_172_27, s_172_30, s_172_33, s_172_35, s_172_36, s_172_38, s_172_41, s_172_42, s_172_45, s_172_46, s_172_47, s_172_48, s_172_50, s_172_53, s_172_55, s_172_58, s_172_60, s_172_62, s_172_65, s_172_68, s_172_69, s_172_72, s_172_73, s_172_76, s_172_78, ↓reduceIte, eq_self, rts_some, rts_none, nq_int, nq_ref, nq_null, nq_none, okr1_0, okr1_1, okr_b, List.length_nil, List.length_cons, Nat.zero_le, Nat.reduceAdd, Nat.reduceLeDiff, b2i_0, b2i_n0, b2i_1, b2i_n1, ite_not, if_true, if_false, not_true_eq_false, not_false_eq_true, true_and, and_true, false_and, and_false, hf]
      exact this
    · rw [if_neg hf] at this
      simp only [s_172_0, s_172_0_n, s_172_1, s_172_2, s_172_5, s_172_6, s_172_7, s_172_9, s_172_11, s_172_14, s_172_18, s_172_21, s_172_21_n, s_172_22, s_172_23, s_172_23_n, s_172_24, s_172_25, s_172_27, s_172_30, s_172_33, s_172_35, s_172_36, s_172_38, s_172_41, s_172_42, s_172_45, s_172_46, s_172_47, s_172_48, s_172_50, s_172_53, s_172_55, s_172_58, s_172_60, s_172_62, s_172_65, s_172_68, s_172_69, s_172_72, s_172_73, s_172_76, s_172_78, ↓reduceIte, eq_self, rts_some, rts_none, nq_int, nq_ref, nq_null, nq_none, okr1_0, okr1_1, okr_b, List.length_nil, List.length_cons, Nat.zero_le, Nat.reduceAdd, Nat.reduceLeDiff, b2i_0, b2i_n0, b2i_1, b2i_n1, ite_not, if_true, if_false, not_true_eq_false, not_false_eq_true, true_and, and_true, false_and, and_false, hf]
      exact this
  rcases m_had_l (V := V) (Ev := Ev) (d := d + 19) (Q := Q) (b := b) (lg := lg) (G := G) (z := z) (sc := sc') (f := f) hi hk h71' hd' 4096 0 rfl none nq_none with h | ⟨l6', q1, q2⟩
  · exact Eq.mpr h (hfin none nq_none)
  · exact Eq.mpr q2 (hfin l6' q1)
end
