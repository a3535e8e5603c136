/-! A text counts as far as its size; the reference's persons; what is read for one and a sentence. -/
section
variable {T U : Nat → Int32} {n : Nat}
theorem pNum_cg (h : ∀ k, k < n → T k = U k) (a : Nat) : pNum T n a = pNum U n a := by
  unfold pNum
  by_cases h1 : a < n
  · rw [h a h1]
    by_cases h2 : a + 1 < n
    · rw [h _ h2]
    · simp only [h2, false_and, if_false]
  · simp only [h1, false_and, if_false]
theorem pTest_cg (h : ∀ k, k < n → T k = U k) (a : Nat) : pTest T n a = pTest U n a := by
  unfold pTest
  by_cases h1 : a < n
  · rw [h a h1, pNum_cg h]
    by_cases h2 : a + 1 < n
    · rw [h _ h2]
    · simp only [h2, if_false]
  · simp only [h1, if_false]
theorem pE_cg (h : ∀ k, k < n → T k = U k) : ∀ f m w a, pE T n f m w a = pE U n f m w a := by
  intro f
  induction f with
  | zero =>
    intro m w a
    cases m <;> rfl
  | succ f ih =>
    intro m w a
    have hb : ∀ (a : Nat) (c : Int32), (a < n ∧ T a = c) = (a < n ∧ U a = c) := by
      intro a c
      by_cases h1 : a < n
      · rw [h a h1]
      · simp only [h1, false_and]
    match m with
    | 0 => simp only [pE, ih]
    | 1 => simp only [pE, ih]
    | 2 => simp only [pE, ih, hb, pTest_cg h]
    | 3 => simp only [pE, ih, hb]
    | m + 4 => simp only [pE, ih, hb]
theorem pStr_cg (h : ∀ k, k < n → T k = U k) : ∀ l a, pStr T n l a = pStr U n l a := by
  intro l
  induction l with
  | nil =>
    intro a
    rfl
  | cons c l ih =>
    intro a
    simp only [pStr, ih]
    by_cases h1 : a < n
    · rw [h a h1]
    · simp only [h1, false_and]
theorem pCl_cg (h : ∀ k, k < n → T k = U k) (a : Nat) : pCl T n a = pCl U n a := by
  have hb : ∀ (a : Nat) (c : Int32), (a < n ∧ T a = c) = (a < n ∧ U a = c) := by
    intro a c
    by_cases h1 : a < n
    · rw [h a h1]
    · simp only [h1, false_and]
  unfold pCl
  by_cases h1 : a < n
  · simp only [h a h1, pStr_cg h, pNum_cg h, hb, pE_cg h]
  · simp only [h1, if_false]
theorem pCls_cg (h : ∀ k, k < n → T k = U k) : ∀ m a, pCls T n m a = pCls U n m a := by
  have hb : ∀ (a : Nat) (c : Int32), (a < n ∧ T a = c) = (a < n ∧ U a = c) := by
    intro a c
    by_cases h1 : a < n
    · rw [h a h1]
    · simp only [h1, false_and]
  intro m
  induction m with
  | zero =>
    intro a
    rfl
  | succ m ih =>
    intro a
    simp only [pCls, hb, pCl_cg h, ih]
theorem pAll_cg (h : ∀ k, k < n → T k = U k) : pAll T n = pAll U n := by
  unfold pAll
  simp only [pCl_cg h, pCls_cg h]
end
/-- what the letters stand for -/
def nmF (N : Nat → Int32) (i s : Nat) : Nat → Int32 := fun k => if k = 0 then nI i else if k = 1 then N (14 + 9 * i + 0) else if k = 2 then N (14 + 9 * i + 1) else if k = 3 then nI s else if k = 4 then N s else if k = 5 then N 69 - N 69 / 10 * 10 else 0
def RuleOK (ar : Nat → Nat → Int32) (cl : List Cls) : Prop := (ar 1 70 = 0 ∧ cl = []) ∨ (∃ r n, r < 6 ∧ n ≤ 100 ∧ ar 1 70 = nI (r + 1) ∧ ar 6 r = nI n ∧ pAll (fun k => ar 5 (100 * r + k)) n = (true, n, cl))
/-- the same but for what is scratch -/
def EA (ar ar' : Nat → Nat → Int32) : Prop := ar' 1 = ar 1 ∧ ar' 3 = ar 3 ∧ ar' 4 = ar 4 ∧ ar' 5 = ar 5 ∧ ar' 6 = ar 6 ∧ ar' 15 = ar 15 ∧ ar' 16 = ar 16 ∧ ar' 17 = ar 17
def ES (sc sc' : Nat → Int32) : Prop := sc' 0 = sc 0 ∧ sc' 1 = sc 1 ∧ sc' 2 = sc 2 ∧ sc' 9 = sc 9
def N8 (ar : Nat → Nat → Int32) : Prop := ∀ k, 6 ≤ k → ar 8 k = 0
section
variable {V : Nat → Option AE} {Ev : Nat → Value} {d : Nat} {h : HS} {Q : Option Value → HS → Prop}
variable {b : Nat} {sc : Nat → Int32} {ar : Nat → Nat → Int32} {lg : Nat → Nat → Int64} {G : Nat → Option AE} {z : Nat × Nat}
theorem q_number_0 {k : Nat} (hk : k < 6) : WP V (cdT Ev) mx (d + 1) 132 [.ref b, .int (nI k), .int 0] (MH b sc ar lg G z) Q = Q (some (.int (ar 1 (14 + 9 * k + 0)))) (MH b sc ar lg G z) := m_number (w := 0) hk (by decide)
theorem q_change_0 {k : Nat} {x : Int32} (hk : k < 6) : WP V (cdT Ev) mx (d + 2) 133 [.ref b, .int (nI k), .int 0, .int x] (MH b sc ar lg G z) Q = Q (some (.int (ar 1 (14 + 9 * k + 0)))) (MH b sc (va_up ar 1 (upd (ar 1) (14 + 9 * k + 0) x)) lg G z) := m_change (w := 0) hk (by decide)
theorem q_number_1 {k : Nat} (hk : k < 6) : WP V (cdT Ev) mx (d + 1) 132 [.ref b, .int (nI k), .int 1] (MH b sc ar lg G z) Q = Q (some (.int (ar 1 (14 + 9 * k + 1)))) (MH b sc ar lg G z) := m_number (w := 1) hk (by decide)
theorem q_change_1 {k : Nat} {x : Int32} (hk : k < 6) : WP V (cdT Ev) mx (d + 2) 133 [.ref b, .int (nI k), .int 1, .int x] (MH b sc ar lg G z) Q = Q (some (.int (ar 1 (14 + 9 * k + 1)))) (MH b sc (va_up ar 1 (upd (ar 1) (14 + 9 * k + 1) x)) lg G z) := m_change (w := 1) hk (by decide)
theorem q_number_2 {k : Nat} (hk : k < 6) : WP V (cdT Ev) mx (d + 1) 132 [.ref b, .int (nI k), .int 2] (MH b sc ar lg G z) Q = Q (some (.int (ar 1 (14 + 9 * k + 2)))) (MH b sc ar lg G z) := m_number (w := 2) hk (by decide)
theorem q_change_2 {k : Nat} {x : Int32} (hk : k < 6) : WP V (cdT Ev) mx (d + 2) 133 [.ref b, .int (nI k), .int 2, .int x] (MH b sc ar lg G z) Q = Q (some (.int (ar 1 (14 + 9 * k + 2)))) (MH b sc (va_up ar 1 (upd (ar 1) (14 + 9 * k + 2) x)) lg G z) := m_change (w := 2) hk (by decide)
theorem q_number_3 {k : Nat} (hk : k < 6) : WP V (cdT Ev) mx (d + 1) 132 [.ref b, .int (nI k), .int 3] (MH b sc ar lg G z) Q = Q (some (.int (ar 1 (14 + 9 * k + 3)))) (MH b sc ar lg G z) := m_number (w := 3) hk (by decide)
theorem q_change_3 {k : Nat} {x : Int32} (hk : k < 6) : WP V (cdT Ev) mx (d + 2) 133 [.ref b, .int (nI k), .int 3, .int x] (MH b sc ar lg G z) Q = Q (some (.int (ar 1 (14 + 9 * k + 3)))) (MH b sc (va_up ar 1 (upd (ar 1) (14 + 9 * k + 3) x)) lg G z) := m_change (w := 3) hk (by decide)
theorem q_number_4 {k : Nat} (hk : k < 6) : WP V (cdT Ev) mx (d + 1) 132 [.ref b, .int (nI k), .int 4] (MH b sc ar lg G z) Q = Q (some (.int (ar 1 (14 + 9 * k + 4)))) (MH b sc ar lg G z) := m_number (w := 4) hk (by decide)
theorem q_change_4 {k : Nat} {x : Int32} (hk : k < 6) : WP V (cdT Ev) mx (d + 2) 133 [.ref b, .int (nI k), .int 4, .int x] (MH b sc ar lg G z) Q = Q (some (.int (ar 1 (14 + 9 * k + 4)))) (MH b sc (va_up ar 1 (upd (ar 1) (14 + 9 * k + 4) x)) lg G z) := m_change (w := 4) hk (by decide)
theorem q_number_5 {k : Nat} (hk : k < 6) : WP V (cdT Ev) mx (d + 1) 132 [.ref b, .int (nI k), .int 5] (MH b sc ar lg G z) Q = Q (some (.int (ar 1 (14 + 9 * k + 5)))) (MH b sc ar lg G z) := m_number (w := 5) hk (by decide)
theorem q_change_5 {k : Nat} {x : Int32} (hk : k < 6) : WP V (cdT Ev) mx (d + 2) 133 [.ref b, .int (nI k), .int 5, .int x] (MH b sc ar lg G z) Q = Q (some (.int (ar 1 (14 + 9 * k + 5)))) (MH b sc (va_up ar 1 (upd (ar 1) (14 + 9 * k + 5) x)) lg G z) := m_change (w := 5) hk (by decide)
theorem q_number_6 {k : Nat} (hk : k < 6) : WP V (cdT Ev) mx (d + 1) 132 [.ref b, .int (nI k), .int 6] (MH b sc ar lg G z) Q = Q (some (.int (ar 1 (14 + 9 * k + 6)))) (MH b sc ar lg G z) := m_number (w := 6) hk (by decide)
theorem q_change_6 {k : Nat} {x : Int32} (hk : k < 6) : WP V (cdT Ev) mx (d + 2) 133 [.ref b, .int (nI k), .int 6, .int x] (MH b sc ar lg G z) Q = Q (some (.int (ar 1 (14 + 9 * k + 6)))) (MH b sc (va_up ar 1 (upd (ar 1) (14 + 9 * k + 6) x)) lg G z) := m_change (w := 6) hk (by decide)
theorem q_number_7 {k : Nat} (hk : k < 6) : WP V (cdT Ev) mx (d + 1) 132 [.ref b, .int (nI k), .int 7] (MH b sc ar lg G z) Q = Q (some (.int (ar 1 (14 + 9 * k + 7)))) (MH b sc ar lg G z) := m_number (w := 7) hk (by decide)
theorem q_change_7 {k : Nat} {x : Int32} (hk : k < 6) : WP V (cdT Ev) mx (d + 2) 133 [.ref b, .int (nI k), .int 7, .int x] (MH b sc ar lg G z) Q = Q (some (.int (ar 1 (14 + 9 * k + 7)))) (MH b sc (va_up ar 1 (upd (ar 1) (14 + 9 * k + 7) x)) lg G z) := m_change (w := 7) hk (by decide)
theorem q_number_8 {k : Nat} (hk : k < 6) : WP V (cdT Ev) mx (d + 1) 132 [.ref b, .int (nI k), .int 8] (MH b sc ar lg G z) Q = Q (some (.int (ar 1 (14 + 9 * k + 8)))) (MH b sc ar lg G z) := m_number (w := 8) hk (by decide)
theorem q_change_8 {k : Nat} {x : Int32} (hk : k < 6) : WP V (cdT Ev) mx (d + 2) 133 [.ref b, .int (nI k), .int 8, .int x] (MH b sc ar lg G z) Q = Q (some (.int (ar 1 (14 + 9 * k + 8)))) (MH b sc (va_up ar 1 (upd (ar 1) (14 + 9 * k + 8) x)) lg G z) := m_change (w := 8) hk (by decide)
theorem ix_c_6_0 : True := trivial
/-- moving a rule's text -/
theorem m_rf115 {r n i s : Nat} (hr : r < 6) (hn : n ≤ 100) (hsz : sc 3 = nI n) : ∀ (m j : Nat), j + m = n → wp V (cdT Ev) mx d 152 115 [some (.ref b), some (.int (nI i)), some (.int (nI s)), some (.int (nI r)), some (.int (nI j))] [] (MH b sc (va_up ar 7 (cpN j (fun k => ar 5 (100 * r + k)) (ar 7))) lg G z) Q = wp V (cdT Ev) mx d 152 149 [some (.ref b), some (.int (nI i)), some (.int (nI s)), some (.int (nI r)), some (.int (nI n))] [] (MH b sc (va_up ar 7 (cpN n (fun k => ar 5 (100 * r + k)) (ar 7))) lg G z) Q := by
  intro m
  induction m with
  | zero =>
    intro j hj
    obtain rfl : j = n := by omega
    have : (nI j ≤ nI j) = True := eq_true (nI_le (by omega) (by omega))
    rw [s_152_115]
    simp only [s_152_0, s_152_0_n, s_152_1, s_152_4, s_152_5, s_152_6, s_152_7, s_152_7_n, s_152_8, s_152_11, s_152_12, s_152_12_n, s_152_13, s_152_14, s_152_15, s_152_18, s_152_19, s_152_19_n, s_152_20, s_152_23, s_152_24, s_152_24_n, s_152_25, s_152_26, s_152_27, s_152_30, s_152_31, s_152_31_n, s_152_32, s_152_35, s_152_36, s_152_37, s_152_38, s_152_38_n, s_152_39, s_152_42, s_152_43, s_152_43_n, s_152_44, s_152_47, s_152_48, s_152_49, s_152_50, s_152_50_n, s_152_51, s_152_54, s_152_55, s_152_55_n, s_152_56, s_152_59, s_152_61, s_152_62, s_152_64, s_152_65, s_152_66, s_152_66_n, s_152_67, s_152_70, s_152_72, s_152_73, s_152_76, s_152_76_n, s_152_77, s_152_77_n, s_152_78, s_152_81, s_152_82, s_152_83, s_152_86, s_152_86_n, s_152_87, s_152_88, s_152_91, s_152_92, s_152_92_n, s_152_93, s_152_96, s_152_98, s_152_99, s_152_100, s_152_101, s_152_102, s_152_102_n, s_152_103, s_152_103_n, s_152_104, s_152_107, s_152_108, s_152_109, s_152_112, s_152_113, s_152_117, s_152_117_n, s_152_118, s_152_121, s_152_124, s_152_124_n, s_152_125, s_152_128, s_152_130, s_152_130_n, s_152_131, s_152_134, s_152_136, s_152_137, s_152_138, s_152_140, s_152_141, s_152_142, s_152_143, s_152_146, s_152_150, s_152_153, s_152_153_i, s_152_154, ↓reduceIte, eq_self, rts_some, rts_none, nq_int, nq_ref, nq_null, nq_none, okr1_0, okr1_1, okr_b, List.length_nil, List.length_cons, Nat.zero_le, Nat.reduceAdd, Nat.reduceLeDiff, b2i_0, b2i_n0, b2i_1, b2i_n1, ite_not, if_true, if_false, not_true_eq_false, not_false_eq_true, true_and, and_true, false_and, and_false, mg_now, mg_mind, mg_then, mp_kept, mg_kept, mg_text, mp_texted, mg_texted, mg_rules, mg_sizes, mp_ruled, mg_ruled, mg_read, mp_size, mg_size, mp_at, mg_at, mp_well, mg_well, mp_within, mg_within, mp_sum, mg_sum, mp_free, mg_free, mg_names, mg_letters, mg_begins, mg_words, mg_sums, mg_above, mg_bodies, mg_trace, mp_ran, mg_ran, mg_sorts, mg_lengths, mg_items, mg_moved, ma_now, ms_now, ma_mind, ms_mind, ma_then, ms_then, ma_text, ms_text, ma_rules, ms_rules, ma_sizes, ms_sizes, ma_read, ms_read, ma_names, ms_names, ma_letters, ma_begins, ma_words, ma_sums, ms_sums, ma_above, ma_bodies, ma_trace, ms_trace, ma_sorts, ms_sorts, ma_lengths, ms_lengths, ma_items, ms_items, ma_moved, ms_moved, mcv, hsz, this]
  | succ m ih =>
    intro j hj
    have hlt : (nI n ≤ nI j) = False := eq_false (nI_ge (a := j) (b := n) (by omega) (by omega))
    have hi : ix (nI j) 100 = True := ix_nIT (by omega) (by decide)
    have hx : (100 : Int32) * nI r + nI j = nI (100 * r + j) := by rw [show (100 : Int32) = nI 100 from rfl, pk_mul, nI_add]
    have hi2 : ix (nI (100 * r + j)) 600 = True := ix_nIT (by omega) (by decide)
    rw [← ih (j + 1) (by omega), s_152_115]
    simp only [s_152_0, s_152_0_n, s_152_1, s_152_4, s_152_5, s_152_6, s_152_7, s_152_7_n, s_152_8, s_152_11, s_152_12, s_152_12_n, s_152_13, s_152_14, s_152_15, s_152_18, s_152_19, s_152_19_n, s_152_20, s_152_23, s_152_24, s_152_24_n, s_152_25, s_152_26, s_152_27, s_152_30, s_152_31, s_152_31_n, s_152_32, s_152_35, s_152_36, s_152_37, s_152_38, s_152_38_n, s_152_39, s_152_42, s_152_43, s_152_43_n, s_152_44, s_152_47, s_152_48, s_152_49, s_152_50, s_152_50_n, s_152_51, s_152_54, s_152_55, s_152_55_n, s_152_56, s_152_59, s_152_61, s_152_62, s_152_64, s_152_65, s_152_66, s_152_66_n, s_152_67, s_152_70, s_152_72, s_152_73, s_152_76, s_152_76_n, s_152_77, s_152_77_n, s_152_78, s_152_81, s_152_82, s_152_83, s_152_86, s_152_86_n, s_152_87, s_152_88, s_152_91, s_152_92, s_152_92_n, s_152_93, s_152_96, s_152_98, s_152_99, s_152_100, s_152_101, s_152_102, s_152_102_n, s_152_103, s_152_103_n, s_152_104, s_152_107, s_152_108, s_152_109, s_152_112, s_152_113, s_152_117, s_152_117_n, s_152_118, s_152_121, s_152_124, s_152_124_n, s_152_125, s_152_128, s_152_130, s_152_130_n, s_152_131, s_152_134, s_152_136, s_152_137, s_152_138, s_152_140, s_152_141, s_152_142, s_152_143, s_152_146, s_152_150, s_152_153, s_152_153_i, s_152_154, ↓reduceIte, eq_self, rts_some, rts_none, nq_int, nq_ref, nq_null, nq_none, okr1_0, okr1_1, okr_b, List.length_nil, List.length_cons, Nat.zero_le, Nat.reduceAdd, Nat.reduceLeDiff, b2i_0, b2i_n0, b2i_1, b2i_n1, ite_not, if_true, if_false, not_true_eq_false, not_false_eq_true, true_and, and_true, false_and, and_false, mg_now, mg_mind, mg_then, mp_kept, mg_kept, mg_text, mp_texted, mg_texted, mg_rules, mg_sizes, mp_ruled, mg_ruled, mg_read, mp_size, mg_size, mp_at, mg_at, mp_well, mg_well, mp_within, mg_within, mp_sum, mg_sum, mp_free, mg_free, mg_names, mg_letters, mg_begins, mg_words, mg_sums, mg_above, mg_bodies, mg_trace, mp_ran, mg_ran, mg_sorts, mg_lengths, mg_items, mg_moved, ma_now, ms_now, ma_mind, ms_mind, ma_then, ms_then, ma_text, ms_text, ma_rules, ms_rules, ma_sizes, ms_sizes, ma_read, ms_read, ma_names, ms_names, ma_letters, ma_begins, ma_words, ma_sums, ms_sums, ma_above, ma_bodies, ma_trace, ms_trace, ma_sorts, ms_sorts, ma_lengths, ms_lengths, ma_items, ms_items, ma_moved, ms_moved, mcv, hsz, hlt, hx, hi, hi2, nI_clamp (show j < 2 ^ 31 by omega), nI_clamp (show 100 * r + j < 2 ^ 31 by omega), nI_1, vu, va_uu, Nat.reduceEqDiff]
    rw [show ar 5 (100 * r + j) = (fun k => ar 5 (100 * r + k)) j from rfl, cpN_s]
end
