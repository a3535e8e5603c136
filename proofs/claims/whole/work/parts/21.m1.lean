/-! The reference's small methods. -/
section
variable {V : Nat → Option AE} {Ev : Nat → Value} {d : Nat} {h : HS} {Q : Option Value → HS → Prop}
variable {b : Nat} {sc : Nat → Int32} {ar : Nat → Nat → Int32} {lg : Nat → Nat → Int64} {G : Nat → Option AE} {z : Nat × Nat}
theorem m_isIn {v lo hi : Int32} : WP V (cdT Ev) mx (d + 1) 123 [.int v, .int lo, .int hi] h Q = Q (some (.int (b2i (lo ≤ v ∧ v ≤ hi)))) h := by
  rw [e_123]
  simp only [s_123_0, s_123_1, s_123_2, s_123_5, s_123_6, s_123_7, s_123_10, s_123_11, s_123_14, s_123_15, ↓reduceIte, eq_self, rts_some, rts_none, nq_int, nq_ref, nq_null, nq_none, okr1_0, okr1_1, okr_b, List.length_nil, List.length_cons, Nat.zero_le, Nat.reduceAdd, Nat.reduceLeDiff, b2i_0, b2i_n0, b2i_1, b2i_n1, ite_not, if_true, if_false, not_true_eq_false, not_false_eq_true, true_and, and_true, false_and, and_false]
  by_cases h1 : v < lo
  · have h1' : ¬ lo ≤ v := Int32.not_le.mpr h1
    simp [h1, h1', b2i]
  · have h1' : lo ≤ v := Int32.not_lt.mp h1
    by_cases h2 : hi < v
    · have h2' : ¬ v ≤ hi := Int32.not_le.mpr h2
      simp [h1, h2, h2', b2i]
    · have h2' : v ≤ hi := Int32.not_lt.mp h2
      simp [h1, h1', h2, h2', b2i]
theorem m_isOne {i : Int32} : WP V (cdT Ev) mx (d + 2) 128 [.ref b, .int i] (MH b sc ar lg G z) Q = Q (some (.int (b2i (0 ≤ i ∧ i ≤ ar 1 68 - 1)))) (MH b sc ar lg G z) := by
  rw [e_128]
  simp only [s_128_0, s_128_1, s_128_2, s_128_2_n, s_128_3, s_128_6, s_128_8, s_128_9, s_128_10, s_128_11, s_128_14, ↓reduceIte, eq_self, rts_some, rts_none, nq_int, nq_ref, nq_null, nq_none, okr1_0, okr1_1, okr_b, List.length_nil, List.length_cons, Nat.zero_le, Nat.reduceAdd, Nat.reduceLeDiff, b2i_0, b2i_n0, b2i_1, b2i_n1, ite_not, if_true, if_false, not_true_eq_false, not_false_eq_true, true_and, and_true, false_and, and_false, mg_now, mg_mind, mg_then, mp_kept, mg_kept, mg_text, mp_texted, mg_texted, mg_rules, mg_sizes, mp_ruled, mg_ruled, mg_read, mp_size, mg_size, mp_at, mg_at, mp_well, mg_well, mp_within, mg_within, mp_sum, mg_sum, mp_free, mg_free, mg_names, mg_letters, mg_begins, mg_words, mg_sums, mg_above, mg_bodies, mg_trace, mp_ran, mg_ran, mg_sorts, mg_lengths, mg_items, mg_moved, ma_now, ms_now, ma_mind, ms_mind, ma_then, ms_then, ma_text, ms_text, ma_rules, ms_rules, ma_sizes, ms_sizes, ma_read, ms_read, ma_names, ms_names, ma_letters, ma_begins, ma_words, ma_sums, ms_sums, ma_above, ma_bodies, ma_trace, ms_trace, ma_sorts, ms_sorts, ma_lengths, ms_lengths, ma_items, ms_items, ma_moved, ms_moved, mcv, cl_0, cl_1, cl_2, cl_3, cl_4, cl_5, cl_6, cl_7, cl_8, cl_9, cl_10, cl_11, cl_12, cl_13, cl_14, cl_15, cl_16, cl_17, cl_18, cl_19, cl_20, cl_21, cl_22, cl_23, cl_24, cl_25, cl_26, cl_27, cl_28, cl_29, cl_30, cl_31, cl_68, cl_69, cl_70, cl_71, cl_82, cl_103, ix_0_120, ix_1_120, ix_2_120, ix_3_120, ix_4_120, ix_5_120, ix_6_120, ix_7_120, ix_8_120, ix_9_120, ix_10_120, ix_11_120, ix_12_120, ix_13_120, ix_68_120, ix_69_120, ix_70_120, ix_71_120, ix_82_120, ix_103_120, ix_0_6, ix_1_6, ix_2_6, ix_3_6, ix_4_6, ix_5_6, ix_0_12, ix_1_12, ix_2_12, ix_3_12, ix_4_12, ix_5_12, ix_6_12, ix_7_12, ix_8_12, ix_9_12, ix_10_12, ix_11_12, m_isIn]
theorem m_isSentence {i : Int32} : WP V (cdT Ev) mx (d + 2) 129 [.int i] h Q = Q (some (.int (b2i (0 ≤ i ∧ i ≤ 11)))) h := by
  rw [e_129]
  simp only [s_129_0, s_129_1, s_129_2, s_129_4, s_129_7, ↓reduceIte, eq_self, rts_some, rts_none, nq_int, nq_ref, nq_null, nq_none, okr1_0, okr1_1, okr_b, List.length_nil, List.length_cons, Nat.zero_le, Nat.reduceAdd, Nat.reduceLeDiff, b2i_0, b2i_n0, b2i_1, b2i_n1, ite_not, if_true, if_false, not_true_eq_false, not_false_eq_true, true_and, and_true, false_and, and_false, m_isIn]
theorem m_isTape {i : Int32} : WP V (cdT Ev) mx (d + 2) 189 [.int i] h Q = Q (some (.int (b2i (0 ≤ i ∧ i ≤ 5)))) h := by
  rw [e_189]
  simp only [s_189_0, s_189_1, s_189_2, s_189_3, s_189_6, ↓reduceIte, eq_self, rts_some, rts_none, nq_int, nq_ref, nq_null, nq_none, okr1_0, okr1_1, okr_b, List.length_nil, List.length_cons, Nat.zero_le, Nat.reduceAdd, Nat.reduceLeDiff, b2i_0, b2i_n0, b2i_1, b2i_n1, ite_not, if_true, if_false, not_true_eq_false, not_false_eq_true, true_and, and_true, false_and, and_false, m_isIn]
theorem m_orNever {i : Int32} : WP V (cdT Ev) mx (d + 1) 130 [.int i] h Q = Q (some (.int (if i = -1 then -5 else i))) h := by
  rw [e_130]
  simp only [s_130_0, s_130_1, s_130_2, s_130_5, s_130_7, s_130_10, s_130_11, ↓reduceIte, eq_self, rts_some, rts_none, nq_int, nq_ref, nq_null, nq_none, okr1_0, okr1_1, okr_b, List.length_nil, List.length_cons, Nat.zero_le, Nat.reduceAdd, Nat.reduceLeDiff, b2i_0, b2i_n0, b2i_1, b2i_n1, ite_not, if_true, if_false, not_true_eq_false, not_false_eq_true, true_and, and_true, false_and, and_false]
  by_cases h1 : i = -1 <;> simp [h1]
/-- an index of a person's number -/
theorem px {k w : Nat} : (14 : Int32) + 9 * nI k + nI w = nI (14 + 9 * k + w) := by
  rw [show (14 : Int32) = nI 14 from rfl, show (9 : Int32) = nI 9 from rfl, pk_mul, nI_add, nI_add]
theorem m_number {k w : Nat} (hk : k < 6) (hw : w < 9) : WP V (cdT Ev) mx (d + 1) 132 [.ref b, .int (nI k), .int (nI w)] (MH b sc ar lg G z) Q = Q (some (.int (ar 1 (14 + 9 * k + w)))) (MH b sc ar lg G z) := by
  rw [e_132]
  simp only [s_132_0, s_132_0_n, s_132_1, s_132_4, s_132_6, s_132_8, s_132_9, s_132_10, s_132_11, s_132_12, s_132_13, s_132_14, ↓reduceIte, eq_self, rts_some, rts_none, nq_int, nq_ref, nq_null, nq_none, okr1_0, okr1_1, okr_b, List.length_nil, List.length_cons, Nat.zero_le, Nat.reduceAdd, Nat.reduceLeDiff, b2i_0, b2i_n0, b2i_1, b2i_n1, ite_not, if_true, if_false, not_true_eq_false, not_false_eq_true, true_and, and_true, false_and, and_false, mg_now, mg_mind, mg_then, mp_kept, mg_kept, mg_text, mp_texted, mg_texted, mg_rules, mg_sizes, mp_ruled, mg_ruled, mg_read, mp_size, mg_size, mp_at, mg_at, mp_well, mg_well, mp_within, mg_within, mp_sum, mg_sum, mp_free, mg_free, mg_names, mg_letters, mg_begins, mg_words, mg_sums, mg_above, mg_bodies, mg_trace, mp_ran, mg_ran, mg_sorts, mg_lengths, mg_items, mg_moved, ma_now, ms_now, ma_mind, ms_mind, ma_then, ms_then, ma_text, ms_text, ma_rules, ms_rules, ma_sizes, ms_sizes, ma_read, ms_read, ma_names, ms_names, ma_letters, ma_begins, ma_words, ma_sums, ms_sums, ma_above, ma_bodies, ma_trace, ms_trace, ma_sorts, ms_sorts, ma_lengths, ms_lengths, ma_items, ms_items, ma_moved, ms_moved, mcv, px]
  rw [ix_nIT (by omega) (by decide), nI_clamp (by omega), true_and]
theorem m_change {k w : Nat} {x : Int32} (hk : k < 6) (hw : w < 9) : WP V (cdT Ev) mx (d + 2) 133 [.ref b, .int (nI k), .int (nI w), .int x] (MH b sc ar lg G z) Q = Q (some (.int (ar 1 (14 + 9 * k + w)))) (MH b sc (va_up ar 1 (upd (ar 1) (14 + 9 * k + w) x)) lg G z) := by
  rw [e_133]
  simp only [s_133_0, s_133_0_n, s_133_1, s_133_2, s_133_3, s_133_6, s_133_8, s_133_8_n, s_133_9, s_133_12, s_133_14, s_133_16, s_133_17, s_133_18, s_133_19, s_133_20, s_133_21, s_133_22, s_133_23, s_133_25, ↓reduceIte, eq_self, rts_some, rts_none, nq_int, nq_ref, nq_null, nq_none, okr1_0, okr1_1, okr_b, List.length_nil, List.length_cons, Nat.zero_le, Nat.reduceAdd, Nat.reduceLeDiff, b2i_0, b2i_n0, b2i_1, b2i_n1, ite_not, if_true, if_false, not_true_eq_false, not_false_eq_true, true_and, and_true, false_and, and_false, mg_now, mg_mind, mg_then, mp_kept, mg_kept, mg_text, mp_texted, mg_texted, mg_rules, mg_sizes, mp_ruled, mg_ruled, mg_read, mp_size, mg_size, mp_at, mg_at, mp_well, mg_well, mp_within, mg_within, mp_sum, mg_sum, mp_free, mg_free, mg_names, mg_letters, mg_begins, mg_words, mg_sums, mg_above, mg_bodies, mg_trace, mp_ran, mg_ran, mg_sorts, mg_lengths, mg_items, mg_moved, ma_now, ms_now, ma_mind, ms_mind, ma_then, ms_then, ma_text, ms_text, ma_rules, ms_rules, ma_sizes, ms_sizes, ma_read, ms_read, ma_names, ms_names, ma_letters, ma_begins, ma_words, ma_sums, ms_sums, ma_above, ma_bodies, ma_trace, ms_trace, ma_sorts, ms_sorts, ma_lengths, ms_lengths, ma_items, ms_items, ma_moved, ms_moved, mcv, m_number hk hw, px]
  rw [ix_nIT (by omega) (by decide), nI_clamp (by omega), true_and]
end
