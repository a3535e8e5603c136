/-! The reference reads a text. -/
/-- the numbers of the reading: place, well, within, sum, free -/
def ps (sc : Nat → Int32) (a wl w s f : Int32) : Nat → Int32 := fun j => if j = 4 then a else if j = 5 then wl else if j = 6 then w else if j = 7 then s else if j = 8 then f else sc j
theorem ps_0 {sc : Nat → Int32} {a wl w s f : Int32} : ps sc a wl w s f 0 = sc 0 := rfl
theorem ps_1 {sc : Nat → Int32} {a wl w s f : Int32} : ps sc a wl w s f 1 = sc 1 := rfl
theorem ps_2 {sc : Nat → Int32} {a wl w s f : Int32} : ps sc a wl w s f 2 = sc 2 := rfl
theorem ps_3 {sc : Nat → Int32} {a wl w s f : Int32} : ps sc a wl w s f 3 = sc 3 := rfl
theorem ps_4 {sc : Nat → Int32} {a wl w s f : Int32} : ps sc a wl w s f 4 = a := rfl
theorem ps_5 {sc : Nat → Int32} {a wl w s f : Int32} : ps sc a wl w s f 5 = wl := rfl
theorem ps_6 {sc : Nat → Int32} {a wl w s f : Int32} : ps sc a wl w s f 6 = w := rfl
theorem ps_7 {sc : Nat → Int32} {a wl w s f : Int32} : ps sc a wl w s f 7 = s := rfl
theorem ps_8 {sc : Nat → Int32} {a wl w s f : Int32} : ps sc a wl w s f 8 = f := rfl
theorem ps_9 {sc : Nat → Int32} {a wl w s f : Int32} : ps sc a wl w s f 9 = sc 9 := rfl
theorem pu_4 {sc : Nat → Int32} {a wl w s f x : Int32} : va_up (ps sc a wl w s f) 4 x = ps sc x wl w s f := by
  funext j
  simp only [va_up, ps]
  by_cases h : j = 4 <;> simp [h]
theorem pu_5 {sc : Nat → Int32} {a wl w s f x : Int32} : va_up (ps sc a wl w s f) 5 x = ps sc a x w s f := by
  funext j
  simp only [va_up, ps]
  by_cases h : j = 5 <;> simp [h]
theorem pu_6 {sc : Nat → Int32} {a wl w s f x : Int32} : va_up (ps sc a wl w s f) 6 x = ps sc a wl x s f := by
  funext j
  simp only [va_up, ps]
  by_cases h : j = 6 <;> simp [h]
theorem pu_7 {sc : Nat → Int32} {a wl w s f x : Int32} : va_up (ps sc a wl w s f) 7 x = ps sc a wl w x f := by
  funext j
  simp only [va_up, ps]
  by_cases h : j = 7 <;> simp [h]
theorem pu_8 {sc : Nat → Int32} {a wl w s f x : Int32} : va_up (ps sc a wl w s f) 8 x = ps sc a wl w s x := by
  funext j
  simp only [va_up, ps]
  by_cases h : j = 8 <;> simp [h]
theorem ps_self {sc : Nat → Int32} : ps sc (sc 4) (sc 5) (sc 6) (sc 7) (sc 8) = sc := by
  funext j
  simp only [ps]
  by_cases h4 : j = 4
  · simp [h4]
  · by_cases h5 : j = 5
    · simp [h5]
    · by_cases h6 : j = 6
      · simp [h6]
      · by_cases h7 : j = 7
        · simp [h7]
        · by_cases h8 : j = 8 <;> simp [h4, h5, h6, h7, h8]
theorem okv1_0 : okv 1 (.int 0) = true := id rfl
theorem okv1_1 : okv 1 (.int 1) = true := id rfl
section
variable {V : Nat → Option AE} {Ev : Nat → Value} {d : Nat} {h : HS} {Q : Option Value → HS → Prop}
variable {b : Nat} {sc : Nat → Int32} {ar : Nat → Nat → Int32} {lg : Nat → Nat → Int64} {G : Nat → Option AE} {z : Nat × Nat}
variable {a n : Nat} {wl w s f c : Int32}
theorem m_isAt (hn : sc 3 = nI n) (hn1 : n ≤ 100) (ha : a ≤ 100) : WP V (cdT Ev) mx (d + 1) 142 [.ref b, .int c] (MH b (ps sc (nI a) wl w s f) ar lg G z) Q = Q (some (.int (b2i (¬ wl = 0 ∧ a < n ∧ ar 7 a = c)))) (MH b (ps sc (nI a) wl w s f) ar lg G z) := by
  rw [e_142]
  simp only [s_142_0, s_142_0_n, s_142_1, s_142_4, s_142_7, s_142_7_n, s_142_8, s_142_11, s_142_11_n, s_142_12, s_142_15, s_142_18, s_142_18_n, s_142_19, s_142_22, s_142_22_n, s_142_23, s_142_26, s_142_27, s_142_28, s_142_31, s_142_32, s_142_35, s_142_36, ↓reduceIte, eq_self, rts_some, rts_none, nq_int, nq_ref, nq_null, nq_none, okr1_0, okr1_1, okr_b, List.length_nil, List.length_cons, Nat.zero_le, Nat.reduceAdd, Nat.reduceLeDiff, b2i_0, b2i_n0, b2i_1, b2i_n1, ite_not, if_true, if_false, not_true_eq_false, not_false_eq_true, true_and, and_true, false_and, and_false, mg_now, mg_mind, mg_then, mp_kept, mg_kept, mg_text, mp_texted, mg_texted, mg_rules, mg_sizes, mp_ruled, mg_ruled, mg_read, mp_size, mg_size, mp_at, mg_at, mp_well, mg_well, mp_within, mg_within, mp_sum, mg_sum, mp_free, mg_free, mg_names, mg_letters, mg_begins, mg_words, mg_sums, mg_above, mg_bodies, mg_trace, mp_ran, mg_ran, mg_sorts, mg_lengths, mg_items, mg_moved, ma_now, ms_now, ma_mind, ms_mind, ma_then, ms_then, ma_text, ms_text, ma_rules, ms_rules, ma_sizes, ms_sizes, ma_read, ms_read, ma_names, ms_names, ma_letters, ma_begins, ma_words, ma_sums, ms_sums, ma_above, ma_bodies, ma_trace, ms_trace, ma_sorts, ms_sorts, ma_lengths, ms_lengths, ma_items, ms_items, ma_moved, ms_moved, mcv, ps_3, ps_4, ps_5, hn]
  by_cases h1 : wl = 0
  · simp [h1, b2i]
  · by_cases h2 : a < n
    · have h3 : ¬ nI n ≤ nI a := nI_ge h2 (by omega)
      have h4 : ix (nI a) 100 = True := ix_nIT (by omega) (by decide)
      simp only [h1, h3, h4, if_false, true_and, nI_clamp (show a < 2 ^ 31 by omega)]
      by_cases h5 : ar 7 a = c <;> simp [h1, h2, h5, b2i]
    · have h3 : nI n ≤ nI a := nI_le (by omega) (by omega)
      simp [h1, h2, h3, b2i]
theorem m_isDigit (hn : sc 3 = nI n) (hn1 : n ≤ 100) (ha : a ≤ 100) : WP V (cdT Ev) mx (d + 1) 144 [.ref b] (MH b (ps sc (nI a) wl w s f) ar lg G z) Q = Q (some (.int (b2i (¬ wl = 0 ∧ a < n ∧ 48 ≤ ar 7 a ∧ ar 7 a ≤ 57)))) (MH b (ps sc (nI a) wl w s f) ar lg G z) := by
  rw [e_144]
  simp only [s_144_0, s_144_0_n, s_144_1, s_144_4, s_144_7, s_144_7_n, s_144_8, s_144_11, s_144_11_n, s_144_12, s_144_15, s_144_18, s_144_18_n, s_144_19, s_144_22, s_144_22_n, s_144_23, s_144_26, s_144_27, s_144_29, s_144_32, s_144_32_n, s_144_33, s_144_36, s_144_36_n, s_144_37, s_144_40, s_144_41, s_144_43, s_144_46, s_144_47, s_144_50, s_144_51, ↓reduceIte, eq_self, rts_some, rts_none, nq_int, nq_ref, nq_null, nq_none, okr1_0, okr1_1, okr_b, List.length_nil, List.length_cons, Nat.zero_le, Nat.reduceAdd, Nat.reduceLeDiff, b2i_0, b2i_n0, b2i_1, b2i_n1, ite_not, if_true, if_false, not_true_eq_false, not_false_eq_true, true_and, and_true, false_and, and_false, mg_now, mg_mind, mg_then, mp_kept, mg_kept, mg_text, mp_texted, mg_texted, mg_rules, mg_sizes, mp_ruled, mg_ruled, mg_read, mp_size, mg_size, mp_at, mg_at, mp_well, mg_well, mp_within, mg_within, mp_sum, mg_sum, mp_free, mg_free, mg_names, mg_letters, mg_begins, mg_words, mg_sums, mg_above, mg_bodies, mg_trace, mp_ran, mg_ran, mg_sorts, mg_lengths, mg_items, mg_moved, ma_now, ms_now, ma_mind, ms_mind, ma_then, ms_then, ma_text, ms_text, ma_rules, ms_rules, ma_sizes, ms_sizes, ma_read, ms_read, ma_names, ms_names, ma_letters, ma_begins, ma_words, ma_sums, ms_sums, ma_above, ma_bodies, ma_trace, ms_trace, ma_sorts, ms_sorts, ma_lengths, ms_lengths, ma_items, ms_items, ma_moved, ms_moved, mcv, ps_3, ps_4, ps_5, hn]
  by_cases h1 : wl = 0
  · simp [h1, b2i]
  · by_cases h2 : a < n
    · have h3 : ¬ nI n ≤ nI a := nI_ge h2 (by omega)
      have h4 : ix (nI a) 100 = True := ix_nIT (by omega) (by decide)
      simp only [h1, h3, h4, if_false, true_and, nI_clamp (show a < 2 ^ 31 by omega)]
      by_cases h5 : ar 7 a < 48
      · have h5' : ¬ 48 ≤ ar 7 a := Int32.not_le.mpr h5
        simp [h1, h2, h5, h5', b2i]
      · have h5' : 48 ≤ ar 7 a := Int32.not_lt.mp h5
        by_cases h6 : 57 < ar 7 a
        · have h6' : ¬ ar 7 a ≤ 57 := Int32.not_le.mpr h6
          simp [h1, h2, h5, h5', h6, h6', b2i]
        · have h6' : ar 7 a ≤ 57 := Int32.not_lt.mp h6
          simp [h1, h2, h5, h5', h6, h6', b2i]
    · have h3 : nI n ≤ nI a := nI_le (by omega) (by omega)
      simp [h1, h2, h3, b2i]
theorem m_takes (hn : sc 3 = nI n) (hn1 : n ≤ 100) (ha : a ≤ 100) : WP V (cdT Ev) mx (d + 2) 143 [.ref b, .int c] (MH b (ps sc (nI a) wl w s f) ar lg G z) Q = if ¬ wl = 0 ∧ a < n ∧ ar 7 a = c then Q none (MH b (ps sc (nI (a + 1)) wl w s f) ar lg G z) else Q none (MH b (ps sc (nI a) 0 w s f) ar lg G z) := by
  rw [e_143]
  simp only [s_143_0, s_143_0_n, s_143_1, s_143_2, s_143_5, s_143_8, s_143_8_n, s_143_9, s_143_9_i, s_143_10, s_143_13, s_143_14, s_143_15, s_143_18, s_143_21, s_143_21_n, s_143_22, s_143_23, s_143_26, ↓reduceIte, eq_self, rts_some, rts_none, nq_int, nq_ref, nq_null, nq_none, okr1_0, okr1_1, okr_b, List.length_nil, List.length_cons, Nat.zero_le, Nat.reduceAdd, Nat.reduceLeDiff, b2i_0, b2i_n0, b2i_1, b2i_n1, ite_not, if_true, if_false, not_true_eq_false, not_false_eq_true, true_and, and_true, false_and, and_false, mg_now, mg_mind, mg_then, mp_kept, mg_kept, mg_text, mp_texted, mg_texted, mg_rules, mg_sizes, mp_ruled, mg_ruled, mg_read, mp_size, mg_size, mp_at, mg_at, mp_well, mg_well, mp_within, mg_within, mp_sum, mg_sum, mp_free, mg_free, mg_names, mg_letters, mg_begins, mg_words, mg_sums, mg_above, mg_bodies, mg_trace, mp_ran, mg_ran, mg_sorts, mg_lengths, mg_items, mg_moved, ma_now, ms_now, ma_mind, ms_mind, ma_then, ms_then, ma_text, ms_text, ma_rules, ms_rules, ma_sizes, ms_sizes, ma_read, ms_read, ma_names, ms_names, ma_letters, ma_begins, ma_words, ma_sums, ms_sums, ma_above, ma_bodies, ma_trace, ms_trace, ma_sorts, ms_sorts, ma_lengths, ms_lengths, ma_items, ms_items, ma_moved, ms_moved, mcv, m_isAt hn hn1 ha, ps_4, pu_4, pu_5, okv1_0, nI_1]
theorem m_num1 (hn : sc 3 = nI n) (hn1 : n ≤ 100) (ha : a ≤ n) : WP V (cdT Ev) mx (d + 2) 145 [.ref b] (MH b (ps sc (nI a) 1 w s f) ar lg G z) Q = if (pNum (ar 7) n a).1 = true then Q (some (.int (pNum (ar 7) n a).2.2)) (MH b (ps sc (nI (pNum (ar 7) n a).2.1) 1 w s f) ar lg G z) else Q (some (.int 0)) (MH b (ps sc (nI a) 0 w s f) ar lg G z) := by
  have e1 : ((1 : Int32) = 0) = False := by decide
  rw [e_145]
  simp only [s_145_0, s_145_0_n, s_145_1, s_145_4, s_145_7, s_145_7_n, s_145_8, s_145_9, s_145_12, s_145_13, s_145_14, s_145_14_n, s_145_15, s_145_18, s_145_18_n, s_145_19, s_145_22, s_145_23, s_145_25, s_145_26, s_145_27, s_145_27_n, s_145_28, s_145_28_i, s_145_29, s_145_32, s_145_33, s_145_34, s_145_37, s_145_37_n, s_145_38, s_145_41, s_145_44, s_145_46, s_145_47, s_145_48, s_145_48_n, s_145_49, s_145_52, s_145_52_n, s_145_53, s_145_56, s_145_57, s_145_58, s_145_60, s_145_61, s_145_62, s_145_62_n, s_145_63, s_145_63_i, s_145_64, s_145_67, s_145_68, s_145_69, s_145_72, s_145_73, ↓reduceIte, eq_self, rts_some, rts_none, nq_int, nq_ref, nq_null, nq_none, okr1_0, okr1_1, okr_b, List.length_nil, List.length_cons, Nat.zero_le, Nat.reduceAdd, Nat.reduceLeDiff, b2i_0, b2i_n0, b2i_1, b2i_n1, ite_not, if_true, if_false, not_true_eq_false, not_false_eq_true, true_and, and_true, false_and, and_false, mg_now, mg_mind, mg_then, mp_kept, mg_kept, mg_text, mp_texted, mg_texted, mg_rules, mg_sizes, mp_ruled, mg_ruled, mg_read, mp_size, mg_size, mp_at, mg_at, mp_well, mg_well, mp_within, mg_within, mp_sum, mg_sum, mp_free, mg_free, mg_names, mg_letters, mg_begins, mg_words, mg_sums, mg_above, mg_bodies, mg_trace, mp_ran, mg_ran, mg_sorts, mg_lengths, mg_items, mg_moved, ma_now, ms_now, ma_mind, ms_mind, ma_then, ms_then, ma_text, ms_text, ma_rules, ms_rules, ma_sizes, ms_sizes, ma_read, ms_read, ma_names, ms_names, ma_letters, ma_begins, ma_words, ma_sums, ms_sums, ma_above, ma_bodies, ma_trace, ms_trace, ma_sorts, ms_sorts, ma_lengths, ms_lengths, ma_items, ms_items, ma_moved, ms_moved, mcv, m_isDigit hn hn1 (show a ≤ 100 by omega), ps_4, pu_4, pu_5, okv1_0, nI_1, e1]
  by_cases h1 : a < n ∧ 48 ≤ ar 7 a ∧ ar 7 a ≤ 57
  · have h4 : ix (nI a) 100 = True := ix_nIT (by omega) (by decide)
    simp only [h1, and_self, if_true, h4, true_and, nI_clamp (show a < 2 ^ 31 by omega), m_isDigit hn hn1 (show a + 1 ≤ 100 by omega), b2i_0, b2i_n0, e1, not_false_eq_true, s_145_0, s_145_0_n, s_145_1, s_145_4, s_145_7, s_145_7_n, s_145_8, s_145_9, s_145_12, s_145_13, s_145_14, s_145_14_n, s_145_15, s_145_18, s_145_18_n, s_145_19, s_145_22, s_145_23, s_145_25, s_145_26, s_145_27, s_145_27_n, s_145_28, s_145_28_i, s_145_29, s_145_32, s_145_33, s_145_34, s_145_37, s_145_37_n, s_145_38, s_145_41, s_145_44, s_145_46, s_145_47, s_145_48, s_145_48_n, s_145_49, s_145_52, s_145_52_n, s_145_53, s_145_56, s_145_57, s_145_58, s_145_60, s_145_61, s_145_62, s_145_62_n, s_145_63, s_145_63_i, s_145_64, s_145_67, s_145_68, s_145_69, s_145_72, s_145_73, ↓reduceIte, eq_self, rts_some, rts_none, nq_int, nq_ref, nq_null, nq_none, okr1_0, okr1_1, okr_b, List.length_nil, List.length_cons, Nat.zero_le, Nat.reduceAdd, Nat.reduceLeDiff, b2i_0, b2i_n0, b2i_1, b2i_n1, ite_not, if_true, if_false, not_true_eq_false, not_false_eq_true, true_and, and_true, false_and, and_false, mg_now, mg_mind, mg_then, mp_kept, mg_kept, mg_text, mp_texted, mg_texted, mg_rules, mg_sizes, mp_ruled, mg_ruled, mg_read, mp_size, mg_size, mp_at, mg_at, mp_well, mg_well, mp_within, mg_within, mp_sum, mg_sum, mp_free, mg_free, mg_names, mg_letters, mg_begins, mg_words, mg_sums, mg_above, mg_bodies, mg_trace, mp_ran, mg_ran, mg_sorts, mg_lengths, mg_items, mg_moved, ma_now, ms_now, ma_mind, ms_mind, ma_then, ms_then, ma_text, ms_text, ma_rules, ms_rules, ma_sizes, ms_sizes, ma_read, ms_read, ma_names, ms_names, ma_letters, ma_begins, ma_words, ma_sums, ms_sums, ma_above, ma_bodies, ma_trace, ms_trace, ma_sorts, ms_sorts, ma_lengths, ms_lengths, ma_items, ms_items, ma_moved, ms_moved, mcv, ps_4, pu_4, nI_1]
    by_cases h2 : a + 1 < n ∧ 48 ≤ ar 7 (a + 1) ∧ ar 7 (a + 1) ≤ 57
    · have h5 : ix (nI (a + 1)) 100 = True := ix_nIT (by omega) (by decide)
      simp only [h2, and_self, if_true, h5, true_and, nI_clamp (show a + 1 < 2 ^ 31 by omega), pNum, h1]
    · simp only [h2, if_false, pNum, h1, and_self, if_true]
  · simp only [h1, if_false, pNum, Bool.false_eq_true]
theorem m_num0 (hn : sc 3 = nI n) (hn1 : n ≤ 100) (ha : a ≤ 100) : WP V (cdT Ev) mx (d + 2) 145 [.ref b] (MH b (ps sc (nI a) 0 w s f) ar lg G z) Q = Q (some (.int 0)) (MH b (ps sc (nI a) 0 w s f) ar lg G z) := by
  rw [e_145]
  simp only [s_145_0, s_145_0_n, s_145_1, s_145_4, s_145_7, s_145_7_n, s_145_8, s_145_9, s_145_12, s_145_13, s_145_14, s_145_14_n, s_145_15, s_145_18, s_145_18_n, s_145_19, s_145_22, s_145_23, s_145_25, s_145_26, s_145_27, s_145_27_n, s_145_28, s_145_28_i, s_145_29, s_145_32, s_145_33, s_145_34, s_145_37, s_145_37_n, s_145_38, s_145_41, s_145_44, s_145_46, s_145_47, s_145_48, s_145_48_n, s_145_49, s_145_52, s_145_52_n, s_145_53, s_145_56, s_145_57, s_145_58, s_145_60, s_145_61, s_145_62, s_145_62_n, s_145_63, s_145_63_i, s_145_64, s_145_67, s_145_68, s_145_69, s_145_72, s_145_73, ↓reduceIte, eq_self, rts_some, rts_none, nq_int, nq_ref, nq_null, nq_none, okr1_0, okr1_1, okr_b, List.length_nil, List.length_cons, Nat.zero_le, Nat.reduceAdd, Nat.reduceLeDiff, b2i_0, b2i_n0, b2i_1, b2i_n1, ite_not, if_true, if_false, not_true_eq_false, not_false_eq_true, true_and, and_true, false_and, and_false, mg_now, mg_mind, mg_then, mp_kept, mg_kept, mg_text, mp_texted, mg_texted, mg_rules, mg_sizes, mp_ruled, mg_ruled, mg_read, mp_size, mg_size, mp_at, mg_at, mp_well, mg_well, mp_within, mg_within, mp_sum, mg_sum, mp_free, mg_free, mg_names, mg_letters, mg_begins, mg_words, mg_sums, mg_above, mg_bodies, mg_trace, mp_ran, mg_ran, mg_sorts, mg_lengths, mg_items, mg_moved, ma_now, ms_now, ma_mind, ms_mind, ma_then, ms_then, ma_text, ms_text, ma_rules, ms_rules, ma_sizes, ms_sizes, ma_read, ms_read, ma_names, ms_names, ma_letters, ma_begins, ma_words, ma_sums, ms_sums, ma_above, ma_bodies, ma_trace, ms_trace, ma_sorts, ms_sorts, ma_lengths, ms_lengths, ma_items, ms_items, ma_moved, ms_moved, mcv, m_isDigit hn hn1 ha, ps_4, pu_4, pu_5, okv1_0, eq_self]
end
