/-! What is on the tip of a tongue: the spec, and the reference. -/
def bt (x : Int32) (k : Nat) : Int32 := (x >>> (nI k &&& 31)) &&& 1
def mnL (x : Int32) : Nat → Int32
  | 0 => 0
  | k + 1 => mnL x k + bt x k
def mn (x : Int32) : Int32 := mnL x 12
def urg (N : Nat → Int32) (i s : Nat) (sum sz : Int32) : Int32 :=
  if N (14 + 9 * i + 0) = 1 then sum + (if N (14 + 9 * i + 3) = 1 then N (14 + 9 * i + 1) else 0)
  else if N (14 + 9 * i + 0) = 2 then sum / 2
  else if N (14 + 9 * i + 0) = 3 then sum - sz
  else if N (14 + 9 * i + 0) = 4 then (if nI s - nI s / 2 * 2 = 0 then 2 * (sum + (if N (14 + 9 * i + 3) = 1 then N (14 + 9 * i + 1) else 0)) else sum + (if N (14 + 9 * i + 3) = 1 then N (14 + 9 * i + 1) else 0))
  else if N (14 + 9 * i + 0) = 5 then sum / 2 - (if N (14 + 9 * i + 4) < 9 then N (14 + 9 * i + 4) else 9)
  else if N (14 + 9 * i + 0) = 6 then sum - sz + N (14 + 9 * i + (5 + s % 4))
  else sum
def tpL (u : Nat → Int32) (has : Int32) : Nat → Int32 × Int32
  | 0 => (-1, 0)
  | s + 1 => if bt has s = 1 then (if (tpL u has s).2 < u s then (nI s, u s) else tpL u has s) else tpL u has s
def tp (u : Nat → Int32) (has : Int32) : Int32 := (tpL u has 12).1
def smF (N : Nat → Int32) (cl : List Cls) (i s : Nat) : Int32 := sumC (nmF N i s) (N s) cl
def tipF (N : Nat → Int32) (cl : List Cls) (i : Nat) (has : Int32) : Int32 := tp (fun s => urg N i s (smF N cl i s) (mn has)) has
theorem tpL_cg {u v : Nat → Int32} {has : Int32} : ∀ n, (∀ s, s < n → u s = v s) → tpL u has n = tpL v has n := by
  intro n
  induction n with
  | zero =>
    intro _
    rfl
  | succ n ih =>
    intro h
    simp only [tpL, ih (fun s hs => h s (by omega)), h n (by omega)]
theorem tp_cg {u v : Nat → Int32} {has : Int32} (h : ∀ s, s < 12 → u s = v s) : tp u has = tp v has := by
  unfold tp
  rw [tpL_cg 12 h]
/-- a tip is none, or one that is had -/
theorem tpL_k (u : Nat → Int32) (has : Int32) : ∀ n, (tpL u has n).1 = -1 ∨ ∃ s, s < n ∧ (tpL u has n).1 = nI s ∧ bt has s = 1 := by
  intro n
  induction n with
  | zero => exact Or.inl rfl
  | succ n ih =>
    simp only [tpL]
    split
    · rename_i hb
      split
      · exact Or.inr ⟨n, by omega, rfl, hb⟩
      · rcases ih with h | ⟨s, hs, h1, h2⟩
        · exact Or.inl h
        · exact Or.inr ⟨s, by omega, h1, h2⟩
    · rcases ih with h | ⟨s, hs, h1, h2⟩
      · exact Or.inl h
      · exact Or.inr ⟨s, by omega, h1, h2⟩
def SE (sc : Nat → Int32) (ar : Nat → Nat → Int32) (sc' : Nat → Int32) (ar' : Nat → Nat → Int32) : Prop := ES sc sc' ∧ EA ar ar' ∧ N8 ar' ∧ ar' 2 = ar 2
theorem SE_trans {a b c : Nat → Int32} {x y z : Nat → Nat → Int32} (h : SE a x b y) (g : SE b y c z) : SE a x c z := ⟨ES_trans h.1 g.1, EA_trans h.2.1 g.2.1, g.2.2.1, g.2.2.2.trans h.2.2.2⟩
theorem SE_refl {a : Nat → Int32} {x : Nat → Nat → Int32} (h : N8 x) : SE a x a x := ⟨ES_refl a, EA_refl x, h, rfl⟩
theorem SE_1 {a b : Nat → Int32} {x y : Nat → Nat → Int32} (h : SE a x b y) : y 1 = x 1 := h.2.1.1
theorem SE_8 {a b : Nat → Int32} {x y : Nat → Nat → Int32} (h : SE a x b y) : N8 y := h.2.2.1
theorem RuleOK_of {ar ar' : Nat → Nat → Int32} {cl : List Cls} (h1 : ar' 1 70 = ar 1 70) (h5 : ar' 5 = ar 5) (h6 : ar' 6 = ar 6) (h : RuleOK ar cl) : RuleOK ar' cl := by
  unfold RuleOK at h ⊢
  rw [h1, h5, h6]
  exact h
theorem SE_r {a b : Nat → Int32} {x y : Nat → Nat → Int32} {cl : List Cls} (h : SE a x b y) (hr : RuleOK x cl) : RuleOK y cl := by
  obtain ⟨h1, h3, h4, h5, h6, h7⟩ := h.2.1
  exact RuleOK_of (by rw [h1]) h5 h6 hr
/-- another world, the rest the same -/
theorem SE_up {a b : Nat → Int32} {x y : Nat → Nat → Int32} (h : SE a x b y) (N : Nat → Int32) : SE a (va_up x 1 N) b (va_up y 1 N) := by
  obtain ⟨hs, ⟨h1, h3, h4, h5, h6, h7, h8, h9⟩, h10, h11⟩ := h
  exact ⟨hs, ⟨rfl, h3, h4, h5, h6, h7, h8, h9⟩, h10, h11⟩
theorem e2z : ((2 : Int32) = 0) = False := by decide
theorem e4z : ((4 : Int32) = 0) = False := by decide
theorem m54 {s : Nat} (hs : s < 12) : (5 : Int32) + (nI s - nI s / 4 * 4) = nI (5 + s % 4) := by
  match s, hs with
  | 0, _ => decide
  | 1, _ => decide
  | 2, _ => decide
  | 3, _ => decide
  | 4, _ => decide
  | 5, _ => decide
  | 6, _ => decide
  | 7, _ => decide
  | 8, _ => decide
  | 9, _ => decide
  | 10, _ => decide
  | 11, _ => decide
section
variable {V : Nat → Option AE} {Ev : Nat → Value} {d : Nat} {h : HS} {Q : Option Value → HS → Prop}
variable {b : Nat} {sc : Nat → Int32} {ar : Nat → Nat → Int32} {lg : Nat → Nat → Int64} {G : Nat → Option AE} {z : Nat × Nat}
theorem j_max {x y : Int32} : WP V (cdT Ev) mx (d + 1) 196 [.int x, .int y] h Q = Q (some (.int (if x < y then y else x))) h := by
  rw [e_196]
  simp only [s_196_0, s_196_1, s_196_2, s_196_5, s_196_6, s_196_9, s_196_10, ↓reduceIte, eq_self, rts_some, rts_none, nq_int, nq_ref, nq_null, nq_none, okr1_0, okr1_1, okr_b, List.length_nil, List.length_cons, Nat.zero_le, Nat.reduceAdd, Nat.reduceLeDiff, b2i_0, b2i_n0, b2i_1, b2i_n1, ite_not, if_true, if_false, not_true_eq_false, not_false_eq_true, true_and, and_true, false_and, and_false]
  by_cases h1 : x < y <;> simp [h1]
theorem j_min {x y : Int32} : WP V (cdT Ev) mx (d + 1) 197 [.int x, .int y] h Q = Q (some (.int (if y < x then y else x))) h := by
  rw [e_197]
  simp only [s_197_0, s_197_1, s_197_2, s_197_5, s_197_6, s_197_9, s_197_10, ↓reduceIte, eq_self, rts_some, rts_none, nq_int, nq_ref, nq_null, nq_none, okr1_0, okr1_1, okr_b, List.length_nil, List.length_cons, Nat.zero_le, Nat.reduceAdd, Nat.reduceLeDiff, b2i_0, b2i_n0, b2i_1, b2i_n1, ite_not, if_true, if_false, not_true_eq_false, not_false_eq_true, true_and, and_true, false_and, and_false]
  by_cases h1 : y < x <;> simp [h1]
theorem m_many_l {x : Int32} : ∀ m j, j + m = 12 → wp V (cdT Ev) mx d 131 4 [some (.int x), some (.int (mnL x j)), some (.int (nI j))] [] h Q = Q (some (.int (mn x))) h := by
  intro m
  induction m with
  | zero =>
    intro j hj
    obtain rfl : j = 12 := by omega
    have h12 : ((12 : Int32) ≤ nI 12) = True := by decide
    rw [s_131_4]
    simp only [s_131_0, s_131_1, s_131_2, s_131_3, s_131_5, s_131_7, s_131_10, s_131_11, s_131_12, s_131_13, s_131_14, s_131_15, s_131_16, s_131_17, s_131_18, s_131_21, s_131_24, s_131_25, ↓reduceIte, eq_self, rts_some, rts_none, nq_int, nq_ref, nq_null, nq_none, okr1_0, okr1_1, okr_b, List.length_nil, List.length_cons, Nat.zero_le, Nat.reduceAdd, Nat.reduceLeDiff, b2i_0, b2i_n0, b2i_1, b2i_n1, ite_not, if_true, if_false, not_true_eq_false, not_false_eq_true, true_and, and_true, false_and, and_false, h12]
    rfl
  | succ m ih =>
    intro j hj
    have hlt : ((12 : Int32) ≤ nI j) = False := eq_false (nI_ge (a := j) (b := 12) (by omega) (by decide))
    rw [s_131_4]
    simp only [s_131_0, s_131_1, s_131_2, s_131_3, s_131_5, s_131_7, s_131_10, s_131_11, s_131_12, s_131_13, s_131_14, s_131_15, s_131_16, s_131_17, s_131_18, s_131_21, s_131_24, s_131_25, ↓reduceIte, eq_self, rts_some, rts_none, nq_int, nq_ref, nq_null, nq_none, okr1_0, okr1_1, okr_b, List.length_nil, List.length_cons, Nat.zero_le, Nat.reduceAdd, Nat.reduceLeDiff, b2i_0, b2i_n0, b2i_1, b2i_n1, ite_not, if_true, if_false, not_true_eq_false, not_false_eq_true, true_and, and_true, false_and, and_false, hlt, nI_1]
    exact ih (j + 1) (by omega)
theorem m_many {x : Int32} : WP V (cdT Ev) mx (d + 1) 131 [.int x] h Q = Q (some (.int (mn x))) h := by
  rw [e_131]
  simp only [s_131_0, s_131_1, s_131_2, s_131_3, s_131_5, s_131_7, s_131_10, s_131_11, s_131_12, s_131_13, s_131_14, s_131_15, s_131_16, s_131_17, s_131_18, s_131_21, s_131_24, s_131_25, ↓reduceIte, eq_self, rts_some, rts_none, nq_int, nq_ref, nq_null, nq_none, okr1_0, okr1_1, okr_b, List.length_nil, List.length_cons, Nat.zero_le, Nat.reduceAdd, Nat.reduceLeDiff, b2i_0, b2i_n0, b2i_1, b2i_n1, ite_not, if_true, if_false, not_true_eq_false, not_false_eq_true, true_and, and_true, false_and, and_false]
  exact m_many_l 12 0 rfl
theorem m_urgeBy {i s : Nat} {sum has : Int32} (hi : i < 6) (hs : s < 12) : WP V (cdT Ev) mx (d + 2) 154 [.ref b, .int (nI i), .int (nI s), .int sum, .int has] (MH b sc ar lg G z) Q = Q (some (.int (urg (ar 1) i s sum (mn has)))) (MH b sc ar lg G z) := by
  rw [e_154]
  simp only [s_154_0, s_154_1, s_154_2, s_154_3, s_154_4, s_154_7, s_154_8, ↓reduceIte, eq_self, rts_some, rts_none, nq_int, nq_ref, nq_null, nq_none, okr1_0, okr1_1, okr_b, List.length_nil, List.length_cons, Nat.zero_le, Nat.reduceAdd, Nat.reduceLeDiff, b2i_0, b2i_n0, b2i_1, b2i_n1, ite_not, if_true, if_false, not_true_eq_false, not_false_eq_true, true_and, and_true, false_and, and_false, mg_now, mg_mind, mg_then, mp_kept, mg_kept, mg_text, mp_texted, mg_texted, mg_rules, mg_sizes, mp_ruled, mg_ruled, mg_read, mp_size, mg_size, mp_at, mg_at, mp_well, mg_well, mp_within, mg_within, mp_sum, mg_sum, mp_free, mg_free, mg_names, mg_letters, mg_begins, mg_words, mg_sums, mg_above, mg_bodies, mg_trace, mp_ran, mg_ran, mg_sorts, mg_lengths, mg_items, mg_moved, ma_now, ms_now, ma_mind, ms_mind, ma_then, ms_then, ma_text, ms_text, ma_rules, ms_rules, ma_sizes, ms_sizes, ma_read, ms_read, ma_names, ms_names, ma_letters, ma_begins, ma_words, ma_sums, ms_sums, ma_above, ma_bodies, ma_trace, ms_trace, ma_sorts, ms_sorts, ma_lengths, ms_lengths, ma_items, ms_items, ma_moved, ms_moved, mcv, q_number_3 hi, urg]
  have hgo : ∀ x : Int32, wp V (cdT Ev) mx (d + 1) 154 22 [some (.ref b), some (.int (nI i)), some (.int (nI s)), some (.int sum), some (.int has), none, none] [.int (sum + x)] (MH b sc ar lg G z) Q = Q (some (.int (if ar 1 (14 + 9 * i + 0) = 1 then sum + x
  else if ar 1 (14 + 9 * i + 0) = 2 then sum / 2
  else if ar 1 (14 + 9 * i + 0) = 3 then sum - mn has
  else if ar 1 (14 + 9 * i + 0) = 4 then (if nI s - nI s / 2 * 2 = 0 then 2 * (sum + x) else sum + x)
  else if ar 1 (14 + 9 * i + 0) = 5 then sum / 2 - (if ar 1 (14 + 9 * i + 4) < 9 then ar 1 (14 + 9 * i + 4) else 9)
  else if ar 1 (14 + 9 * i + 0) = 6 then sum - mn has + ar 1 (14 + 9 * i + (5 + s % 4))
  else sum))) (MH b sc ar lg G z) := by
    intro x
    simp only [s_154_0, s_154_1, s_154_1_n, s_154_2, s_154_3, s_154_4, s_154_7, s_154_8, s_154_11, s_154_11_n, s_154_12, s_154_13, s_154_14, s_154_17, s_154_20, s_154_21, s_154_22, s_154_24, s_154_25, s_154_27, s_154_30, s_154_31, s_154_33, s_154_33_n, s_154_34, s_154_35, s_154_36, s_154_39, s_154_76, s_154_78, s_154_79, s_154_80, s_154_81, s_154_82, s_154_83, s_154_85, s_154_86, s_154_87, s_154_88, s_154_89, s_154_92, s_154_93, s_154_95, s_154_96, s_154_99, s_154_101, s_154_102, s_154_103, s_154_104, s_154_105, s_154_107, s_154_107_n, s_154_108, s_154_109, s_154_110, s_154_113, s_154_116, s_154_117, s_154_118, s_154_120, s_154_120_n, s_154_121, s_154_122, s_154_123, s_154_124, s_154_125, s_154_126, s_154_127, s_154_130, s_154_131, s_154_132, s_154_133, ↓reduceIte, eq_self, rts_some, rts_none, nq_int, nq_ref, nq_null, nq_none, okr1_0, okr1_1, okr_b, List.length_nil, List.length_cons, Nat.zero_le, Nat.reduceAdd, Nat.reduceLeDiff, b2i_0, b2i_n0, b2i_1, b2i_n1, ite_not, if_true, if_false, not_true_eq_false, not_false_eq_true, true_and, and_true, false_and, and_false, mg_now, mg_mind, mg_then, mp_kept, mg_kept, mg_text, mp_texted, mg_texted, mg_rules, mg_sizes, mp_ruled, mg_ruled, mg_read, mp_size, mg_size, mp_at, mg_at, mp_well, mg_well, mp_within, mg_within, mp_sum, mg_sum, mp_free, mg_free, mg_names, mg_letters, mg_begins, mg_words, mg_sums, mg_above, mg_bodies, mg_trace, mp_ran, mg_ran, mg_sorts, mg_lengths, mg_items, mg_moved, ma_now, ms_now, ma_mind, ms_mind, ma_then, ms_then, ma_text, ms_text, ma_rules, ms_rules, ma_sizes, ms_sizes, ma_read, ms_read, ma_names, ms_names, ma_letters, ma_begins, ma_words, ma_sums, ms_sums, ma_above, ma_bodies, ma_trace, ms_trace, ma_sorts, ms_sorts, ma_lengths, ms_lengths, ma_items, ms_items, ma_moved, ms_moved, mcv, q_number_0 hi, q_number_4 hi, m_many, j_min, e2z, e4z, m54 hs, m_number (w := 5 + s % 4) hi (by omega), swp]
    by_cases h1 : ar 1 (14 + 9 * i + 0) = 1
    · rw [if_pos h1, if_pos h1]
    · rw [if_neg h1, if_neg h1]
      by_cases h2 : ar 1 (14 + 9 * i + 0) = 2
      · rw [if_pos h2, if_pos h2]
      · rw [if_neg h2, if_neg h2]
        by_cases h3 : ar 1 (14 + 9 * i + 0) = 3
        · rw [if_pos h3, if_pos h3]
        · rw [if_neg h3, if_neg h3]
          by_cases h4 : ar 1 (14 + 9 * i + 0) = 4
          · rw [if_pos h4, if_pos h4]
            split <;> rfl
          · rw [if_neg h4, if_neg h4]
            by_cases h5 : ar 1 (14 + 9 * i + 0) = 5
            · rw [if_pos h5, if_pos h5]
            · rw [if_neg h5, if_neg h5]
              by_cases h6 : ar 1 (14 + 9 * i + 0) = 6
              · rw [if_pos h6, if_pos h6]
              · rw [if_neg h6, if_neg h6]
  by_cases h3 : ar 1 (14 + 9 * i + 3) = 1
  · simp only [h3, if_true, s_154_0, s_154_1, s_154_1_n, s_154_2, s_154_3, s_154_4, s_154_7, s_154_8, s_154_11, s_154_11_n, s_154_12, s_154_13, s_154_14, s_154_17, s_154_20, s_154_21, s_154_24, s_154_25, s_154_27, s_154_30, s_154_31, s_154_33, s_154_33_n, s_154_34, s_154_35, s_154_36, s_154_39, s_154_76, s_154_78, s_154_79, s_154_80, s_154_81, s_154_82, s_154_83, s_154_85, s_154_86, s_154_87, s_154_88, s_154_89, s_154_92, s_154_93, s_154_95, s_154_96, s_154_99, s_154_101, s_154_102, s_154_103, s_154_104, s_154_105, s_154_107, s_154_107_n, s_154_108, s_154_109, s_154_110, s_154_113, s_154_116, s_154_117, s_154_118, s_154_120, s_154_120_n, s_154_121, s_154_122, s_154_123, s_154_124, s_154_125, s_154_126, s_154_127, s_154_130, s_154_131, s_154_132, s_154_133, ↓reduceIte, eq_self, rts_some, rts_none, nq_int, nq_ref, nq_null, nq_none, okr1_0, okr1_1, okr_b, List.length_nil, List.length_cons, Nat.zero_le, Nat.reduceAdd, Nat.reduceLeDiff, b2i_0, b2i_n0, b2i_1, b2i_n1, ite_not, if_true, if_false, not_true_eq_false, not_false_eq_true, true_and, and_true, false_and, and_false, mg_now, mg_mind, mg_then, mp_kept, mg_kept, mg_text, mp_texted, mg_texted, mg_rules, mg_sizes, mp_ruled, mg_ruled, mg_read, mp_size, mg_size, mp_at, mg_at, mp_well, mg_well, mp_within, mg_within, mp_sum, mg_sum, mp_free, mg_free, mg_names, mg_letters, mg_begins, mg_words, mg_sums, mg_above, mg_bodies, mg_trace, mp_ran, mg_ran, mg_sorts, mg_lengths, mg_items, mg_moved, ma_now, ms_now, ma_mind, ms_mind, ma_then, ms_then, ma_text, ms_text, ma_rules, ms_rules, ma_sizes, ms_sizes, ma_read, ms_read, ma_names, ms_names, ma_letters, ma_begins, ma_words, ma_sums, ms_sums, ma_above, ma_bodies, ma_trace, ms_trace, ma_sorts, ms_sorts, ma_lengths, ms_lengths, ma_items, ms_items, ma_moved, ms_moved, mcv, q_number_1 hi]
    exact hgo _
  · simp only [h3, if_false, s_154_0, s_154_1, s_154_1_n, s_154_2, s_154_3, s_154_4, s_154_7, s_154_8, s_154_11, s_154_11_n, s_154_12, s_154_13, s_154_14, s_154_17, s_154_20, s_154_21, s_154_24, s_154_25, s_154_27, s_154_30, s_154_31, s_154_33, s_154_33_n, s_154_34, s_154_35, s_154_36, s_154_39, s_154_76, s_154_78, s_154_79, s_154_80, s_154_81, s_154_82, s_154_83, s_154_85, s_154_86, s_154_87, s_154_88, s_154_89, s_154_92, s_154_93, s_154_95, s_154_96, s_154_99, s_154_101, s_154_102, s_154_103, s_154_104, s_154_105, s_154_107, s_154_107_n, s_154_108, s_154_109, s_154_110, s_154_113, s_154_116, s_154_117, s_154_118, s_154_120, s_154_120_n, s_154_121, s_154_122, s_154_123, s_154_124, s_154_125, s_154_126, s_154_127, s_154_130, s_154_131, s_154_132, s_154_133, ↓reduceIte, eq_self, rts_some, rts_none, nq_int, nq_ref, nq_null, nq_none, okr1_0, okr1_1, okr_b, List.length_nil, List.length_cons, Nat.zero_le, Nat.reduceAdd, Nat.reduceLeDiff, b2i_0, b2i_n0, b2i_1, b2i_n1, ite_not, if_true, if_false, not_true_eq_false, not_false_eq_true, true_and, and_true, false_and, and_false, mg_now, mg_mind, mg_then, mp_kept, mg_kept, mg_text, mp_texted, mg_texted, mg_rules, mg_sizes, mp_ruled, mg_ruled, mg_read, mp_size, mg_size, mp_at, mg_at, mp_well, mg_well, mp_within, mg_within, mp_sum, mg_sum, mp_free, mg_free, mg_names, mg_letters, mg_begins, mg_words, mg_sums, mg_above, mg_bodies, mg_trace, mp_ran, mg_ran, mg_sorts, mg_lengths, mg_items, mg_moved, ma_now, ms_now, ma_mind, ms_mind, ma_then, ms_then, ma_text, ms_text, ma_rules, ms_rules, ma_sizes, ms_sizes, ma_read, ms_read, ma_names, ms_names, ma_letters, ma_begins, ma_words, ma_sums, ms_sums, ma_above, ma_bodies, ma_trace, ms_trace, ma_sorts, ms_sorts, ma_lengths, ms_lengths, ma_items, ms_items, ma_moved, ms_moved, mcv, q_number_1 hi]
    exact hgo _
theorem m_tipBy_l {i : Nat} {has : Int32} (hi : i < 6) : ∀ m j, j + m = 12 → ∀ l6, nl l6 = true → wp V (cdT Ev) mx (d + 2) 156 8 [some (.ref b), some (.int (nI i)), some (.int has), some (.int (tpL (fun s => urg (ar 1) i s (ar 12 s) (mn has)) has j).1), some (.int (tpL (fun s => urg (ar 1) i s (ar 12 s) (mn has)) has j).2), some (.int (nI j)), l6] [] (MH b sc ar lg G z) Q = Q (some (.int (tp (fun s => urg (ar 1) i s (ar 12 s) (mn has)) has))) (MH b sc ar lg G z) := by
  intro m
  induction m with
  | zero =>
    intro j hj l6 h6
    obtain rfl : j = 12 := by omega
    have h12 : ((12 : Int32) ≤ nI 12) = True := by decide
    rw [s_156_8]
    simp only [s_156_0, s_156_1, s_156_2, s_156_3, s_156_5, s_156_6, s_156_10, s_156_12, s_156_15, s_156_16, s_156_18, s_156_19, s_156_20, s_156_21, s_156_22, s_156_25, s_156_25_n, s_156_26, s_156_27, s_156_29, s_156_29_n, s_156_30, s_156_33, s_156_35, s_156_36, s_156_37, s_156_40, s_156_42, s_156_44, s_156_46, s_156_49, s_156_51, s_156_54, s_156_55, s_156_56, s_156_58, s_156_60, s_156_63, s_156_65, s_156_68, s_156_71, s_156_72, ↓reduceIte, eq_self, rts_some, rts_none, nq_int, nq_ref, nq_null, nq_none, okr1_0, okr1_1, okr_b, List.length_nil, List.length_cons, Nat.zero_le, Nat.reduceAdd, Nat.reduceLeDiff, b2i_0, b2i_n0, b2i_1, b2i_n1, ite_not, if_true, if_false, not_true_eq_false, not_false_eq_true, true_and, and_true, false_and, and_false, h12]
    rfl
  | succ m ih =>
    intro j hj l6 h6
    have hlt : ((12 : Int32) ≤ nI j) = False := eq_false (nI_ge (a := j) (b := 12) (by omega) (by decide))
    have hx : ix (nI j) 12 = True := ix_nIT (by omega) (by decide)
    rw [s_156_8]
    simp only [s_156_0, s_156_1, s_156_2, s_156_3, s_156_5, s_156_6, s_156_10, s_156_12, s_156_15, s_156_16, s_156_18, s_156_19, s_156_20, s_156_21, s_156_22, s_156_25, s_156_25_n, s_156_26, s_156_27, s_156_29, s_156_29_n, s_156_30, s_156_33, s_156_35, s_156_36, s_156_37, s_156_40, s_156_42, s_156_44, s_156_46, s_156_49, s_156_51, s_156_54, s_156_55, s_156_56, s_156_58, s_156_60, s_156_63, s_156_68, s_156_71, s_156_72, ↓reduceIte, eq_self, rts_some, rts_none, nq_int, nq_ref, nq_null, nq_none, okr1_0, okr1_1, okr_b, List.length_nil, List.length_cons, Nat.zero_le, Nat.reduceAdd, Nat.reduceLeDiff, b2i_0, b2i_n0, b2i_1, b2i_n1, ite_not, if_true, if_false, not_true_eq_false, not_false_eq_true, true_and, and_true, false_and, and_false, mg_now, mg_mind, mg_then, mp_kept, mg_kept, mg_text, mp_texted, mg_texted, mg_rules, mg_sizes, mp_ruled, mg_ruled, mg_read, mp_size, mg_size, mp_at, mg_at, mp_well, mg_well, mp_within, mg_within, mp_sum, mg_sum, mp_free, mg_free, mg_names, mg_letters, mg_begins, mg_words, mg_sums, mg_above, mg_bodies, mg_trace, mp_ran, mg_ran, mg_sorts, mg_lengths, mg_items, mg_moved, ma_now, ms_now, ma_mind, ms_mind, ma_then, ms_then, ma_text, ms_text, ma_rules, ms_rules, ma_sizes, ms_sizes, ma_read, ms_read, ma_names, ms_names, ma_letters, ma_begins, ma_words, ma_sums, ms_sums, ma_above, ma_bodies, ma_trace, ms_trace, ma_sorts, ms_sorts, ma_lengths, ms_lengths, ma_items, ms_items, ma_moved, ms_moved, mcv, hlt, hx, nI_clamp (show j < 2 ^ 31 by omega), m_urgeBy hi (show j < 12 by omega), j_max, h6]
    have e : ∀ x l6, nl l6 = true → (tpL (fun s => urg (ar 1) i s (ar 12 s) (mn has)) has (j + 1)) = x → wp V (cdT Ev) mx (d + 2) 156 65 [some (.ref b), some (.int (nI i)), some (.int has), some (.int x.1), some (.int x.2), some (.int (nI j)), l6] [] (MH b sc ar lg G z) Q = Q (some (.int (tp (fun s => urg (ar 1) i s (ar 12 s) (mn has)) has))) (MH b sc ar lg G z) := by
      intro x l6 h6 hx
      subst hx
      simp only [s_156_0, s_156_1, s_156_2, s_156_3, s_156_5, s_156_6, s_156_10, s_156_12, s_156_15, s_156_16, s_156_18, s_156_19, s_156_20, s_156_21, s_156_22, s_156_25, s_156_25_n, s_156_26, s_156_27, s_156_29, s_156_29_n, s_156_30, s_156_33, s_156_35, s_156_36, s_156_37, s_156_40, s_156_42, s_156_44, s_156_46, s_156_49, s_156_51, s_156_54, s_156_55, s_156_56, s_156_58, s_156_60, s_156_63, s_156_65, s_156_68, s_156_71, s_156_72, ↓reduceIte, eq_self, rts_some, rts_none, nq_int, nq_ref, nq_null, nq_none, okr1_0, okr1_1, okr_b, List.length_nil, List.length_cons, Nat.zero_le, Nat.reduceAdd, Nat.reduceLeDiff, b2i_0, b2i_n0, b2i_1, b2i_n1, ite_not, if_true, if_false, not_true_eq_false, not_false_eq_true, true_and, and_true, false_and, and_false, nI_1]
      exact ih (j + 1) (by omega) l6 h6
    by_cases hb : (has >>> (nI j &&& 31)) &&& 1 = 1
    · simp only [hb, if_true]
      have et : tpL (fun s => urg (ar 1) i s (ar 12 s) (mn has)) has (j + 1) = if (tpL (fun s => urg (ar 1) i s (ar 12 s) (mn has)) has j).2 < urg (ar 1) i j (ar 12 j) (mn has) then (nI j, urg (ar 1) i j (ar 12 j) (mn has)) else tpL (fun s => urg (ar 1) i s (ar 12 s) (mn has)) has j := by
        rw [tpL, if_pos (show bt has j = 1 from hb)]
      by_cases hu : urg (ar 1) i j (ar 12 j) (mn has) ≤ (tpL (fun s => urg (ar 1) i s (ar 12 s) (mn has)) has j).2
      · rw [if_neg (Int32.not_lt.mpr hu)] at et
        rw [if_pos hu]
        by_cases hu2 : urg (ar 1) i j (ar 12 j) (mn has) < (tpL (fun s => urg (ar 1) i s (ar 12 s) (mn has)) has j).2
        · simp only [hu2, if_true]
          exact e _ _ nq_int et
        · have hue : urg (ar 1) i j (ar 12 j) (mn has) = (tpL (fun s => urg (ar 1) i s (ar 12 s) (mn has)) has j).2 := Int32.le_antisymm hu (Int32.not_lt.mp hu2)
          rw [if_neg hu2, hue]
          exact e _ _ nq_int et
      · have hu' := Int32.not_le.mp hu
        rw [if_pos hu'] at et
        have hu2 : ¬ urg (ar 1) i j (ar 12 j) (mn has) < (tpL (fun s => urg (ar 1) i s (ar 12 s) (mn has)) has j).2 := Int32.lt_asymm hu'
        rw [if_neg hu, if_neg hu2]
        exact e _ _ nq_int et
    · simp only [hb, if_false]
      exact e _ _ h6 (by rw [tpL, if_neg (show ¬ bt has j = 1 from hb)])
theorem m_tipBy {i : Nat} {has : Int32} (hi : i < 6) : WP V (cdT Ev) mx (d + 3) 156 [.ref b, .int (nI i), .int has] (MH b sc ar lg G z) Q = Q (some (.int (tp (fun s => urg (ar 1) i s (ar 12 s) (mn has)) has))) (MH b sc ar lg G z) := by
  rw [e_156]
  simp only [s_156_0, s_156_1, s_156_2, s_156_3, s_156_5, s_156_6, s_156_10, s_156_12, s_156_15, s_156_16, s_156_18, s_156_19, s_156_20, s_156_21, s_156_22, s_156_25, s_156_25_n, s_156_26, s_156_27, s_156_29, s_156_29_n, s_156_30, s_156_33, s_156_35, s_156_36, s_156_37, s_156_40, s_156_42, s_156_44, s_156_46, s_156_49, s_156_51, s_156_54, s_156_55, s_156_56, s_156_58, s_156_60, s_156_63, s_156_65, s_156_68, s_156_71, s_156_72, ↓reduceIte, eq_self, rts_some, rts_none, nq_int, nq_ref, nq_null, nq_none, okr1_0, okr1_1, okr_b, List.length_nil, List.length_cons, Nat.zero_le, Nat.reduceAdd, Nat.reduceLeDiff, b2i_0, b2i_n0, b2i_1, b2i_n1, ite_not, if_true, if_false, not_true_eq_false, not_false_eq_true, true_and, and_true, false_and, and_false]
  exact m_tipBy_l hi 12 0 rfl none nq_none
end
