/-! The reference reads a clause. -/
def nmb (c : Int32) (o : Bool) : Nat → Int32
  | 0 => -1
  | j + 1 => if o = true ∧ c = c_begins j then nI j else nmb c o j
theorem nmb_none (c : Int32) : nmb c false 3 = -1 := by simp [nmb]
theorem nmb_wh (c : Int32) : nmb c true 3 = (match cWh c with
    | none => -1
    | some k => nI k) := by
  simp only [nmb, true_and, c_begins_0, c_begins_1, c_begins_2, cWh]
  by_cases h0 : c = 112
  · subst h0; decide
  · by_cases h1 : c = 104
    · subst h1; decide
    · by_cases h2 : c = 102
      · subst h2; decide
      · simp [h0, h1, h2]
theorem cWh_k {c : Int32} {k : Nat} (h : cWh c = some k) : k < 3 := by
  unfold cWh at h
  repeat' split at h
  all_goals cases h
  all_goals decide
theorem wx {q j : Nat} : (5 : Int32) * nI q + nI j = nI (5 * q + j) := by
  rw [show (5 : Int32) = nI 5 from rfl, pk_mul, nI_add]
section
variable {V : Nat → Option AE} {Ev : Nat → Value} {d : Nat} {Q : Option Value → HS → Prop}
variable {b : Nat} {sc : Nat → Int32} {ar : Nat → Nat → Int32} {lg : Nat → Nat → Int64} {G : Nat → Option AE} {z : Nat × Nat}
variable {n : Nat} {wl w s f : Int32}
theorem m_begin (hn : sc 3 = nI n) (hn1 : n ≤ 100) {a : Nat} (ha : a ≤ 100) : ∀ m j, j + m = 3 → wp V (cdT Ev) mx (d + 1) 150 4 [some (.ref b), some (.int (nmb (ar 7 a) (decide (¬ wl = 0 ∧ a < n)) j)), some (.int (nI j)), none] [] (MH b (ps sc (nI a) wl w s f) ar lg G z) Q = wp V (cdT Ev) mx (d + 1) 150 34 [some (.ref b), some (.int (nmb (ar 7 a) (decide (¬ wl = 0 ∧ a < n)) 3)), some (.int 3), none] [] (MH b (ps sc (nI a) wl w s f) ar lg G z) Q := by
  intro m
  induction m with
  | zero =>
    intro j hj
    obtain rfl : j = 3 := by omega
    rw [s_150_4]
    simp only [s_150_5, s_150_6]
    rw [if_pos (by decide)]
    rfl
  | succ m ih =>
    intro j hj
    have hlt : ¬ (3 : Int32) ≤ nI j := nI_ge (a := j) (b := 3) (by omega) (by decide)
    have hi : ix (nI j) 3 = True := ix_nIT (by omega) (by decide)
    rw [s_150_4]
    simp only [s_150_0, s_150_1, s_150_2, s_150_3, s_150_5, s_150_6, s_150_9, s_150_9_n, s_150_10, s_150_10_n, s_150_11, s_150_14, s_150_15, s_150_16, s_150_19, s_150_22, s_150_23, s_150_26, s_150_27, s_150_28, s_150_31, s_150_35, s_150_36, s_150_39, s_150_39_n, s_150_40, s_150_41, s_150_44, s_150_45, s_150_46, s_150_47, s_150_48, s_150_49, s_150_52, s_150_52_n, s_150_53, s_150_56, s_150_57, s_150_58, s_150_59, s_150_60, s_150_61, s_150_62, s_150_65, s_150_65_n, s_150_66, s_150_66_n, s_150_67, s_150_70, s_150_71, s_150_72, s_150_73, s_150_74, s_150_75, s_150_76, s_150_79, s_150_82, s_150_85, s_150_85_n, s_150_86, s_150_88, s_150_91, s_150_91_n, s_150_92, s_150_95, s_150_96, s_150_97, s_150_98, s_150_101, s_150_101_n, s_150_102, s_150_103, s_150_106, s_150_107, s_150_107_n, s_150_108, s_150_110, s_150_113, s_150_113_n, s_150_114, s_150_115, s_150_118, s_150_118_n, s_150_119, s_150_122, s_150_123, s_150_123_n, s_150_124, s_150_124_i, s_150_125, s_150_128, s_150_129, s_150_132, s_150_133, s_150_136, s_150_137, s_150_140, s_150_141, s_150_144, s_150_145, s_150_146, s_150_147, s_150_150, ↓reduceIte, eq_self, rts_some, rts_none, nq_int, nq_ref, nq_null, nq_none, okr1_0, okr1_1, okr_b, List.length_nil, List.length_cons, Nat.zero_le, Nat.reduceAdd, Nat.reduceLeDiff, b2i_0, b2i_n0, b2i_1, b2i_n1, ite_not, if_true, if_false, not_true_eq_false, not_false_eq_true, true_and, and_true, false_and, and_false, mg_now, mg_mind, mg_then, mp_kept, mg_kept, mg_text, mp_texted, mg_texted, mg_rules, mg_sizes, mp_ruled, mg_ruled, mg_read, mp_size, mg_size, mp_at, mg_at, mp_well, mg_well, mp_within, mg_within, mp_sum, mg_sum, mp_free, mg_free, mg_names, mg_letters, mg_begins, mg_words, mg_sums, mg_above, mg_bodies, mg_trace, mp_ran, mg_ran, mg_sorts, mg_lengths, mg_items, mg_moved, ma_now, ms_now, ma_mind, ms_mind, ma_then, ms_then, ma_text, ms_text, ma_rules, ms_rules, ma_sizes, ms_sizes, ma_read, ms_read, ma_names, ms_names, ma_letters, ma_begins, ma_words, ma_sums, ms_sums, ma_above, ma_bodies, ma_trace, ms_trace, ma_sorts, ms_sorts, ma_lengths, ms_lengths, ma_items, ms_items, ma_moved, ms_moved, mcv, m_isAt hn hn1 ha, hlt, hi, nI_clamp (show j < 2 ^ 31 by omega), nI_1]
    by_cases hc : ¬ wl = 0 ∧ a < n ∧ ar 7 a = c_begins j
    · have e : nmb (ar 7 a) (decide (¬ wl = 0 ∧ a < n)) (j + 1) = nI j := by
        simp only [nmb]
        rw [if_pos ⟨by simp [hc.1, hc.2.1], hc.2.2⟩]
      rw [if_pos hc, ← e]
      exact ih (j + 1) (by omega)
    · have e : nmb (ar 7 a) (decide (¬ wl = 0 ∧ a < n)) (j + 1) = nmb (ar 7 a) (decide (¬ wl = 0 ∧ a < n)) j := by
        simp only [nmb]
        rw [if_neg]
        rintro ⟨q1, q2⟩
        simp at q1
        exact hc ⟨q1.1, q1.2, q2⟩
      rw [if_neg hc, ← e]
      exact ih (j + 1) (by omega)
/-- the letters of a word, one by one -/
def wOk (q j : Nat) (l : List Int32) : Prop := (∀ i x, l[i]? = some x → c_words (5 * q + j + i) = x ∧ ¬ x = 0) ∧ (j + l.length = 5 ∨ (j + l.length < 5 ∧ c_words (5 * q + j + l.length) = 0))
theorem wOk_t {q j : Nat} {x : Int32} {l : List Int32} (h : wOk q j (x :: l)) : wOk q (j + 1) l := by
  refine ⟨fun i y hy => ?_, ?_⟩
  · have := h.1 (i + 1) y (by simpa using hy)
    rw [show 5 * q + (j + 1) + i = 5 * q + j + (i + 1) by omega]
    exact this
  · have := h.2
    simp only [List.length_cons] at this
    rw [show 5 * q + (j + 1) + l.length = 5 * q + j + (l.length + 1) by omega]
    rcases this with h1 | ⟨h1, h2⟩
    · exact Or.inl (by omega)
    · exact Or.inr ⟨by omega, h2⟩
theorem m_wl (hn : sc 3 = nI n) (hn1 : n ≤ 100) {q : Nat} (hq : q < 3) {l3 : Option Value} : ∀ (l : List Int32) (j a : Nat), wOk q j l → a ≤ n →
    wp V (cdT Ev) mx (d + 2) 150 47 [some (.ref b), some (.int (nI q)), some (.int (nI j)), l3] [] (MH b (ps sc (nI a) 0 w s f) ar lg G z) Q = wp V (cdT Ev) mx (d + 2) 150 85 [some (.ref b), some (.int (nI q)), some (.int (nI (j + l.length))), l3] [] (MH b (ps sc (nI a) 0 w s f) ar lg G z) Q ∧
    wp V (cdT Ev) mx (d + 2) 150 47 [some (.ref b), some (.int (nI q)), some (.int (nI j)), l3] [] (MH b (ps sc (nI a) 1 w s f) ar lg G z) Q = (if (pStr (ar 7) n l a).1 = true then wp V (cdT Ev) mx (d + 2) 150 85 [some (.ref b), some (.int (nI q)), some (.int (nI (j + l.length))), l3] [] (MH b (ps sc (nI (pStr (ar 7) n l a).2) 1 w s f) ar lg G z) Q else wp V (cdT Ev) mx (d + 2) 150 85 [some (.ref b), some (.int (nI q)), some (.int (nI (j + l.length))), l3] [] (MH b (ps sc (nI (pStr (ar 7) n l a).2) 0 w s f) ar lg G z) Q) := by
  have e1 : ((1 : Int32) = 0) = False := by decide
  intro l
  induction l with
  | nil =>
    intro j a hw ha
    have ex : ∀ wl : Int32, wp V (cdT Ev) mx (d + 2) 150 47 [some (.ref b), some (.int (nI q)), some (.int (nI j)), l3] [] (MH b (ps sc (nI a) wl w s f) ar lg G z) Q = wp V (cdT Ev) mx (d + 2) 150 85 [some (.ref b), some (.int (nI q)), some (.int (nI j)), l3] [] (MH b (ps sc (nI a) wl w s f) ar lg G z) Q := by
      intro wl
      rw [s_150_47]
      rcases hw.2 with h5 | ⟨h5, h0⟩
      · have : j = 5 := by simpa using h5
        subst this
        have : ((5 : Int32) ≤ nI 5) = True := by decide
        simp only [s_150_48, s_150_49, this, if_true]
      · simp only [List.length_nil, Nat.add_zero] at h5 h0
        have hlt : ((5 : Int32) ≤ nI j) = False := eq_false (nI_ge (a := j) (b := 5) h5 (by decide))
        have hi : ix (nI (5 * q + j)) 15 = True := ix_nIT (by omega) (by decide)
        simp only [s_150_0, s_150_1, s_150_2, s_150_3, s_150_5, s_150_6, s_150_9, s_150_9_n, s_150_10, s_150_10_n, s_150_11, s_150_14, s_150_15, s_150_16, s_150_19, s_150_22, s_150_23, s_150_26, s_150_27, s_150_28, s_150_31, s_150_35, s_150_36, s_150_39, s_150_39_n, s_150_40, s_150_41, s_150_44, s_150_45, s_150_46, s_150_48, s_150_49, s_150_52, s_150_52_n, s_150_53, s_150_56, s_150_57, s_150_58, s_150_59, s_150_60, s_150_61, s_150_62, s_150_65, s_150_65_n, s_150_66, s_150_66_n, s_150_67, s_150_70, s_150_71, s_150_72, s_150_73, s_150_74, s_150_75, s_150_76, s_150_79, s_150_82, s_150_86, s_150_88, s_150_91, s_150_91_n, s_150_92, s_150_95, s_150_96, s_150_97, s_150_98, s_150_101, s_150_101_n, s_150_102, s_150_103, s_150_106, s_150_107, s_150_107_n, s_150_108, s_150_110, s_150_113, s_150_113_n, s_150_114, s_150_115, s_150_118, s_150_118_n, s_150_119, s_150_122, s_150_123, s_150_123_n, s_150_124, s_150_124_i, s_150_125, s_150_128, s_150_129, s_150_132, s_150_133, s_150_136, s_150_137, s_150_140, s_150_141, s_150_144, s_150_145, s_150_146, s_150_147, s_150_150, ↓reduceIte, eq_self, rts_some, rts_none, nq_int, nq_ref, nq_null, nq_none, okr1_0, okr1_1, okr_b, List.length_nil, List.length_cons, Nat.zero_le, Nat.reduceAdd, Nat.reduceLeDiff, b2i_0, b2i_n0, b2i_1, b2i_n1, ite_not, if_true, if_false, not_true_eq_false, not_false_eq_true, true_and, and_true, false_and, and_false, mg_now, mg_mind, mg_then, mp_kept, mg_kept, mg_text, mp_texted, mg_texted, mg_rules, mg_sizes, mp_ruled, mg_ruled, mg_read, mp_size, mg_size, mp_at, mg_at, mp_well, mg_well, mp_within, mg_within, mp_sum, mg_sum, mp_free, mg_free, mg_names, mg_letters, mg_begins, mg_words, mg_sums, mg_above, mg_bodies, mg_trace, mp_ran, mg_ran, mg_sorts, mg_lengths, mg_items, mg_moved, ma_now, ms_now, ma_mind, ms_mind, ma_then, ms_then, ma_text, ms_text, ma_rules, ms_rules, ma_sizes, ms_sizes, ma_read, ms_read, ma_names, ms_names, ma_letters, ma_begins, ma_words, ma_sums, ms_sums, ma_above, ma_bodies, ma_trace, ms_trace, ma_sorts, ms_sorts, ma_lengths, ms_lengths, ma_items, ms_items, ma_moved, ms_moved, mcv, hlt, wx, hi, nI_clamp (show 5 * q + j < 2 ^ 31 by omega), h0, eq_self]
    exact ⟨ex 0, by simp only [pStr, if_true]; exact ex 1⟩
  | cons x l ih =>
    intro j a hw ha
    have hx := hw.1 0 x rfl
    simp only [Nat.add_zero] at hx
    have hj : j + l.length + 1 ≤ 5 := by
      have := hw.2
      simp only [List.length_cons] at this
      omega
    have hlt : ((5 : Int32) ≤ nI j) = False := eq_false (nI_ge (a := j) (b := 5) (by omega) (by decide))
    have hi : ix (nI (5 * q + j)) 15 = True := ix_nIT (by omega) (by decide)
    have hw2 := wOk_t hw
    have el : j + 1 + l.length = j + (x :: l).length := by simp only [List.length_cons]; omega
    constructor
    · have i0 := (ih (j + 1) a hw2 ha).1
      rw [el] at i0
      rw [s_150_47, ← i0]
      simp only [s_150_0, s_150_1, s_150_2, s_150_3, s_150_5, s_150_6, s_150_9, s_150_9_n, s_150_10, s_150_10_n, s_150_11, s_150_14, s_150_15, s_150_16, s_150_19, s_150_22, s_150_23, s_150_26, s_150_27, s_150_28, s_150_31, s_150_35, s_150_36, s_150_39, s_150_39_n, s_150_40, s_150_41, s_150_44, s_150_45, s_150_46, s_150_48, s_150_49, s_150_52, s_150_52_n, s_150_53, s_150_56, s_150_57, s_150_58, s_150_59, s_150_60, s_150_61, s_150_62, s_150_65, s_150_65_n, s_150_66, s_150_66_n, s_150_67, s_150_70, s_150_71, s_150_72, s_150_73, s_150_74, s_150_75, s_150_76, s_150_79, s_150_82, s_150_86, s_150_88, s_150_91, s_150_91_n, s_150_92, s_150_95, s_150_96, s_150_97, s_150_98, s_150_101, s_150_101_n, s_150_102, s_150_103, s_150_106, s_150_107, s_150_107_n, s_150_108, s_150_110, s_150_113, s_150_113_n, s_150_114, s_150_115, s_150_118, s_150_118_n, s_150_119, s_150_122, s_150_123, s_150_123_n, s_150_124, s_150_124_i, s_150_125, s_150_128, s_150_129, s_150_132, s_150_133, s_150_136, s_150_137, s_150_140, s_150_141, s_150_144, s_150_145, s_150_146, s_150_147, s_150_150, ↓reduceIte, eq_self, rts_some, rts_none, nq_int, nq_ref, nq_null, nq_none, okr1_0, okr1_1, okr_b, List.length_nil, List.length_cons, Nat.zero_le, Nat.reduceAdd, Nat.reduceLeDiff, b2i_0, b2i_n0, b2i_1, b2i_n1, ite_not, if_true, if_false, not_true_eq_false, not_false_eq_true, true_and, and_true, false_and, and_false, mg_now, mg_mind, mg_then, mp_kept, mg_kept, mg_text, mp_texted, mg_texted, mg_rules, mg_sizes, mp_ruled, mg_ruled, mg_read, mp_size, mg_size, mp_at, mg_at, mp_well, mg_well, mp_within, mg_within, mp_sum, mg_sum, mp_free, mg_free, mg_names, mg_letters, mg_begins, mg_words, mg_sums, mg_above, mg_bodies, mg_trace, mp_ran, mg_ran, mg_sorts, mg_lengths, mg_items, mg_moved, ma_now, ms_now, ma_mind, ms_mind, ma_then, ms_then, ma_text, ms_text, ma_rules, ms_rules, ma_sizes, ms_sizes, ma_read, ms_read, ma_names, ms_names, ma_letters, ma_begins, ma_words, ma_sums, ms_sums, ma_above, ma_bodies, ma_trace, ms_trace, ma_sorts, ms_sorts, ma_lengths, ms_lengths, ma_items, ms_items, ma_moved, ms_moved, mcv, m_takes hn hn1 (show a ≤ 100 by omega), hlt, wx, hi, nI_clamp (show 5 * q + j < 2 ^ 31 by omega), hx, nI_1, eq_self]
    · rw [s_150_47]
      simp only [s_150_0, s_150_1, s_150_2, s_150_3, s_150_5, s_150_6, s_150_9, s_150_9_n, s_150_10, s_150_10_n, s_150_11, s_150_14, s_150_15, s_150_16, s_150_19, s_150_22, s_150_23, s_150_26, s_150_27, s_150_28, s_150_31, s_150_35, s_150_36, s_150_39, s_150_39_n, s_150_40, s_150_41, s_150_44, s_150_45, s_150_46, s_150_48, s_150_49, s_150_52, s_150_52_n, s_150_53, s_150_56, s_150_57, s_150_58, s_150_59, s_150_60, s_150_61, s_150_62, s_150_65, s_150_65_n, s_150_66, s_150_66_n, s_150_67, s_150_70, s_150_71, s_150_72, s_150_73, s_150_74, s_150_75, s_150_76, s_150_79, s_150_82, s_150_86, s_150_88, s_150_91, s_150_91_n, s_150_92, s_150_95, s_150_96, s_150_97, s_150_98, s_150_101, s_150_101_n, s_150_102, s_150_103, s_150_106, s_150_107, s_150_107_n, s_150_108, s_150_110, s_150_113, s_150_113_n, s_150_114, s_150_115, s_150_118, s_150_118_n, s_150_119, s_150_122, s_150_123, s_150_123_n, s_150_124, s_150_124_i, s_150_125, s_150_128, s_150_129, s_150_132, s_150_133, s_150_136, s_150_137, s_150_140, s_150_141, s_150_144, s_150_145, s_150_146, s_150_147, s_150_150, ↓reduceIte, eq_self, rts_some, rts_none, nq_int, nq_ref, nq_null, nq_none, okr1_0, okr1_1, okr_b, List.length_nil, List.length_cons, Nat.zero_le, Nat.reduceAdd, Nat.reduceLeDiff, b2i_0, b2i_n0, b2i_1, b2i_n1, ite_not, if_true, if_false, not_true_eq_false, not_false_eq_true, true_and, and_true, false_and, and_false, mg_now, mg_mind, mg_then, mp_kept, mg_kept, mg_text, mp_texted, mg_texted, mg_rules, mg_sizes, mp_ruled, mg_ruled, mg_read, mp_size, mg_size, mp_at, mg_at, mp_well, mg_well, mp_within, mg_within, mp_sum, mg_sum, mp_free, mg_free, mg_names, mg_letters, mg_begins, mg_words, mg_sums, mg_above, mg_bodies, mg_trace, mp_ran, mg_ran, mg_sorts, mg_lengths, mg_items, mg_moved, ma_now, ms_now, ma_mind, ms_mind, ma_then, ms_then, ma_text, ms_text, ma_rules, ms_rules, ma_sizes, ms_sizes, ma_read, ms_read, ma_names, ms_names, ma_letters, ma_begins, ma_words, ma_sums, ms_sums, ma_above, ma_bodies, ma_trace, ms_trace, ma_sorts, ms_sorts, ma_lengths, ms_lengths, ma_items, ms_items, ma_moved, ms_moved, mcv, m_takes hn hn1 (show a ≤ 100 by omega), hlt, wx, hi, nI_clamp (show 5 * q + j < 2 ^ 31 by omega), hx, nI_1, e1]
      by_cases hc : a < n ∧ ar 7 a = x
      · have i1 := (ih (j + 1) (a + 1) hw2 (by omega)).2
        rw [el] at i1
        have hp : pStr (ar 7) n (x :: l) a = pStr (ar 7) n l (a + 1) := by simp only [pStr, if_pos hc]
        rw [if_pos hc, hp, i1]
        rfl
      · have i0 := (ih (j + 1) a hw2 ha).1
        rw [el] at i0
        have hp : pStr (ar 7) n (x :: l) a = (false, a) := by simp only [pStr, if_neg hc]
        rw [if_neg hc, hp, if_neg (by simp), i0]
        rfl
theorem wOk_0 : wOk 0 0 [112, 114, 101, 115, 115] := by
  refine ⟨fun i x h => ?_, Or.inl rfl⟩
  match i, h with
  | 0, h => cases h; exact ⟨c_words_0, by decide⟩
  | 1, h => cases h; exact ⟨c_words_1, by decide⟩
  | 2, h => cases h; exact ⟨c_words_2, by decide⟩
  | 3, h => cases h; exact ⟨c_words_3, by decide⟩
  | 4, h => cases h; exact ⟨c_words_4, by decide⟩
  | i + 5, h => simp at h
theorem wOk_1 : wOk 1 0 [104, 111, 108, 100] := by
  refine ⟨fun i x h => ?_, Or.inr ⟨by decide, c_words_9⟩⟩
  match i, h with
  | 0, h => cases h; exact ⟨c_words_5, by decide⟩
  | 1, h => cases h; exact ⟨c_words_6, by decide⟩
  | 2, h => cases h; exact ⟨c_words_7, by decide⟩
  | 3, h => cases h; exact ⟨c_words_8, by decide⟩
  | i + 4, h => simp at h
theorem wOk_2 : wOk 2 0 [102, 114, 101, 101] := by
  refine ⟨fun i x h => ?_, Or.inr ⟨by decide, c_words_14⟩⟩
  match i, h with
  | 0, h => cases h; exact ⟨c_words_10, by decide⟩
  | 1, h => cases h; exact ⟨c_words_11, by decide⟩
  | 2, h => cases h; exact ⟨c_words_12, by decide⟩
  | 3, h => cases h; exact ⟨c_words_13, by decide⟩
  | i + 4, h => simp at h
/-- any(), the text being unwell -/
theorem m_any0 (hn : sc 3 = nI n) (hn1 : n ≤ 100) {a : Nat} (ha : a ≤ 100) : WP V (cdT Ev) mx (d + 6) 149 [.ref b] (MH b (ps sc (nI a) 0 w s f) ar lg G z) Q = Q (some (.int 0)) (MH b (ps sc (nI a) 0 w s f) ar lg G z) := by
  have hfac : ∀ (d : Nat) (Q : Option Value → HS → Prop), WP V (cdT Ev) mx (d + 4) 147 [.ref b] (MH b (ps sc (nI a) 0 w s f) ar lg G z) Q = Q (some (.int 0)) (MH b (ps sc (nI a) 0 w s f) ar lg G z) := by
    intro d Q
    rw [e_147]
    by_cases h4 : (4 : Int32) ≤ w
    · simp only [s_147_0, s_147_0_n, s_147_1, s_147_4, s_147_5, s_147_8, s_147_8_n, s_147_9, s_147_11, s_147_14, s_147_17, s_147_17_n, s_147_18, s_147_18_i, s_147_19, s_147_22, s_147_23, s_147_24, s_147_27, s_147_27_n, s_147_28, s_147_28_i, s_147_29, s_147_32, s_147_33, s_147_34, s_147_37, s_147_37_n, s_147_38, s_147_41, s_147_44, s_147_45, s_147_48, s_147_49, s_147_50, s_147_50_n, s_147_51, s_147_51_i, s_147_52, s_147_55, s_147_56, s_147_57, s_147_60, s_147_63, s_147_63_n, s_147_64, s_147_67, s_147_68, s_147_71, s_147_71_n, s_147_72, s_147_74, s_147_77, s_147_80, s_147_80_n, s_147_81, s_147_81_i, s_147_82, s_147_85, s_147_86, s_147_87, s_147_90, s_147_90_n, s_147_91, s_147_91_i, s_147_92, s_147_95, s_147_96, s_147_97, s_147_100, s_147_100_n, s_147_101, s_147_104, s_147_105, s_147_105_n, s_147_106, s_147_106_i, s_147_107, s_147_110, s_147_111, s_147_112, s_147_115, s_147_115_n, s_147_116, s_147_118, s_147_121, s_147_124, s_147_124_n, s_147_125, s_147_128, s_147_129, s_147_130, ↓reduceIte, eq_self, rts_some, rts_none, nq_int, nq_ref, nq_null, nq_none, okr1_0, okr1_1, okr_b, List.length_nil, List.length_cons, Nat.zero_le, Nat.reduceAdd, Nat.reduceLeDiff, b2i_0, b2i_n0, b2i_1, b2i_n1, ite_not, if_true, if_false, not_true_eq_false, not_false_eq_true, true_and, and_true, false_and, and_false, mg_now, mg_mind, mg_then, mp_kept, mg_kept, mg_text, mp_texted, mg_texted, mg_rules, mg_sizes, mp_ruled, mg_ruled, mg_read, mp_size, mg_size, mp_at, mg_at, mp_well, mg_well, mp_within, mg_within, mp_sum, mg_sum, mp_free, mg_free, mg_names, mg_letters, mg_begins, mg_words, mg_sums, mg_above, mg_bodies, mg_trace, mp_ran, mg_ran, mg_sorts, mg_lengths, mg_items, mg_moved, ma_now, ms_now, ma_mind, ms_mind, ma_then, ms_then, ma_text, ms_text, ma_rules, ms_rules, ma_sizes, ms_sizes, ma_read, ms_read, ma_names, ms_names, ma_letters, ma_begins, ma_words, ma_sums, ms_sums, ma_above, ma_bodies, ma_trace, ms_trace, ma_sorts, ms_sorts, ma_lengths, ms_lengths, ma_items, ms_items, ma_moved, ms_moved, mcv, m_test0 (d := d + 1) hn hn1 ha, ps_6, h4]
    · simp only [s_147_0, s_147_0_n, s_147_1, s_147_4, s_147_5, s_147_8, s_147_8_n, s_147_9, s_147_11, s_147_14, s_147_17, s_147_17_n, s_147_18, s_147_18_i, s_147_19, s_147_22, s_147_23, s_147_24, s_147_27, s_147_27_n, s_147_28, s_147_28_i, s_147_29, s_147_32, s_147_33, s_147_34, s_147_37, s_147_37_n, s_147_38, s_147_41, s_147_44, s_147_45, s_147_48, s_147_49, s_147_50, s_147_50_n, s_147_51, s_147_51_i, s_147_52, s_147_55, s_147_56, s_147_57, s_147_60, s_147_63, s_147_63_n, s_147_64, s_147_67, s_147_68, s_147_71, s_147_71_n, s_147_72, s_147_74, s_147_77, s_147_80, s_147_80_n, s_147_81, s_147_81_i, s_147_82, s_147_85, s_147_86, s_147_87, s_147_90, s_147_90_n, s_147_91, s_147_91_i, s_147_92, s_147_95, s_147_96, s_147_97, s_147_100, s_147_100_n, s_147_101, s_147_104, s_147_105, s_147_105_n, s_147_106, s_147_106_i, s_147_107, s_147_110, s_147_111, s_147_112, s_147_115, s_147_115_n, s_147_116, s_147_118, s_147_121, s_147_124, s_147_124_n, s_147_125, s_147_128, s_147_129, s_147_130, ↓reduceIte, eq_self, rts_some, rts_none, nq_int, nq_ref, nq_null, nq_none, okr1_0, okr1_1, okr_b, List.length_nil, List.length_cons, Nat.zero_le, Nat.reduceAdd, Nat.reduceLeDiff, b2i_0, b2i_n0, b2i_1, b2i_n1, ite_not, if_true, if_false, not_true_eq_false, not_false_eq_true, true_and, and_true, false_and, and_false, mg_now, mg_mind, mg_then, mp_kept, mg_kept, mg_text, mp_texted, mg_texted, mg_rules, mg_sizes, mp_ruled, mg_ruled, mg_read, mp_size, mg_size, mp_at, mg_at, mp_well, mg_well, mp_within, mg_within, mp_sum, mg_sum, mp_free, mg_free, mg_names, mg_letters, mg_begins, mg_words, mg_sums, mg_above, mg_bodies, mg_trace, mp_ran, mg_ran, mg_sorts, mg_lengths, mg_items, mg_moved, ma_now, ms_now, ma_mind, ms_mind, ma_then, ms_then, ma_text, ms_text, ma_rules, ms_rules, ma_sizes, ms_sizes, ma_read, ms_read, ma_names, ms_names, ma_letters, ma_begins, ma_words, ma_sums, ms_sums, ma_above, ma_bodies, ma_trace, ms_trace, ma_sorts, ms_sorts, ma_lengths, ms_lengths, ma_items, ms_items, ma_moved, ms_moved, mcv, m_isAt hn hn1 ha, m_test0 (d := d + 1) hn hn1 ha, ps_6, h4, eq_self]
  have hboth : ∀ (d : Nat) (Q : Option Value → HS → Prop), WP V (cdT Ev) mx (d + 5) 148 [.ref b] (MH b (ps sc (nI a) 0 w s f) ar lg G z) Q = Q (some (.int 0)) (MH b (ps sc (nI a) 0 w s f) ar lg G z) := by
    intro d Q
    rw [e_148]
    simp only [s_148_0, s_148_0_n, s_148_1, s_148_4, s_148_5, s_148_5_n, s_148_6, s_148_8, s_148_11, s_148_14, s_148_14_n, s_148_15, s_148_15_i, s_148_16, s_148_19, s_148_20, s_148_21, s_148_24, s_148_24_n, s_148_25, s_148_28, s_148_29, s_148_30, s_148_33, s_148_34, s_148_37, s_148_38, s_148_41, s_148_42, s_148_43, s_148_46, s_148_47, ↓reduceIte, eq_self, rts_some, rts_none, nq_int, nq_ref, nq_null, nq_none, okr1_0, okr1_1, okr_b, List.length_nil, List.length_cons, Nat.zero_le, Nat.reduceAdd, Nat.reduceLeDiff, b2i_0, b2i_n0, b2i_1, b2i_n1, ite_not, if_true, if_false, not_true_eq_false, not_false_eq_true, true_and, and_true, false_and, and_false, mg_now, mg_mind, mg_then, mp_kept, mg_kept, mg_text, mp_texted, mg_texted, mg_rules, mg_sizes, mp_ruled, mg_ruled, mg_read, mp_size, mg_size, mp_at, mg_at, mp_well, mg_well, mp_within, mg_within, mp_sum, mg_sum, mp_free, mg_free, mg_names, mg_letters, mg_begins, mg_words, mg_sums, mg_above, mg_bodies, mg_trace, mp_ran, mg_ran, mg_sorts, mg_lengths, mg_items, mg_moved, ma_now, ms_now, ma_mind, ms_mind, ma_then, ms_then, ma_text, ms_text, ma_rules, ms_rules, ma_sizes, ms_sizes, ma_read, ms_read, ma_names, ms_names, ma_letters, ma_begins, ma_words, ma_sums, ms_sums, ma_above, ma_bodies, ma_trace, ms_trace, ma_sorts, ms_sorts, ma_lengths, ms_lengths, ma_items, ms_items, ma_moved, ms_moved, mcv, m_isAt hn hn1 ha, hfac, eq_self]
  rw [e_149]
  simp only [s_149_0, s_149_0_n, s_149_1, s_149_4, s_149_5, s_149_5_n, s_149_6, s_149_8, s_149_11, s_149_14, s_149_14_n, s_149_15, s_149_15_i, s_149_16, s_149_19, s_149_20, s_149_21, s_149_24, s_149_24_n, s_149_25, s_149_28, s_149_29, s_149_30, s_149_33, s_149_34, s_149_37, s_149_38, s_149_41, s_149_42, s_149_43, s_149_46, s_149_47, ↓reduceIte, eq_self, rts_some, rts_none, nq_int, nq_ref, nq_null, nq_none, okr1_0, okr1_1, okr_b, List.length_nil, List.length_cons, Nat.zero_le, Nat.reduceAdd, Nat.reduceLeDiff, b2i_0, b2i_n0, b2i_1, b2i_n1, ite_not, if_true, if_false, not_true_eq_false, not_false_eq_true, true_and, and_true, false_and, and_false, mg_now, mg_mind, mg_then, mp_kept, mg_kept, mg_text, mp_texted, mg_texted, mg_rules, mg_sizes, mp_ruled, mg_ruled, mg_read, mp_size, mg_size, mp_at, mg_at, mp_well, mg_well, mp_within, mg_within, mp_sum, mg_sum, mp_free, mg_free, mg_names, mg_letters, mg_begins, mg_words, mg_sums, mg_above, mg_bodies, mg_trace, mp_ran, mg_ran, mg_sorts, mg_lengths, mg_items, mg_moved, ma_now, ms_now, ma_mind, ms_mind, ma_then, ms_then, ma_text, ms_text, ma_rules, ms_rules, ma_sizes, ms_sizes, ma_read, ms_read, ma_names, ms_names, ma_letters, ma_begins, ma_words, ma_sums, ms_sums, ma_above, ma_bodies, ma_trace, ms_trace, ma_sorts, ms_sorts, ma_lengths, ms_lengths, ma_items, ms_items, ma_moved, ms_moved, mcv, m_isAt hn hn1 ha, hboth, eq_self]
end
