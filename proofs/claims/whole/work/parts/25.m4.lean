/-! The reference reads a text: tests, and what joins them. -/
theorem nI_dig {x : Int32} (h1 : 48 ≤ x) (h2 : x ≤ 57) : ∃ t : Nat, t < 10 ∧ x = nI (48 + t) := by
  obtain ⟨j, hj, rfl⟩ := nI_of2 (x := x) (M := 57) (n := 57) (by decide) (Int32.not_lt.mpr (Int32.le_trans (by decide) h1)) h2
  have h3 : 48 ≤ j := by
    have := (nI_leI (a := 48) (b := j) (by decide) (by omega)).mp h1
    exact this
  exact ⟨j - 48, by omega, by rw [show 48 + (j - 48) = j by omega]⟩
theorem pNum_v {T : Nat → Int32} {n a : Nat} (h : (pNum T n a).1 = true) : ∃ m : Nat, m < 100 ∧ (pNum T n a).2.2 = nI m := by
  unfold pNum at h ⊢
  split
  · rename_i h1
    obtain ⟨t, ht, e1⟩ := nI_dig h1.2.1 h1.2.2
    have e2 : T a - 48 = nI t := by
      rw [e1, show (48 : Int32) = nI 48 from rfl, pk_sub (by omega)]
      congr 1
      omega
    split
    · rename_i h2
      obtain ⟨t2, ht2, e3⟩ := nI_dig h2.2.1 h2.2.2
      refine ⟨10 * t + t2, by omega, ?_⟩
      show 10 * (T a - 48) + T (a + 1) - 48 = _
      rw [e2, e3, show (10 : Int32) = nI 10 from rfl, pk_mul, nI_add, show (48 : Int32) = nI 48 from rfl, pk_sub (by omega)]
      congr 1
      omega
    · exact ⟨t, by omega, e2⟩
  · rename_i h1
    simp [h1] at h
/-- a test of letter k, sign w, number v -/
def tv (nm : Nat → Int32) (k w : Nat) (v : Int32) : Bool := if w = 0 then decide (nm k < v) else if w = 1 then decide (nm k = v) else decide (v < nm k)
theorem nI_neg {q : Nat} (hq : q < 2 ^ 31) {c : Int32} (hc : c < 0) : ¬ nI q = c := by
  intro e
  rw [← e] at hc
  exact nI_pos hq hc
theorem evC_test {nm : Nat → Int32} {k w m : Nat} (hk : k < 6) (hw : w < 3) (hm : m < 100) (st : List Bool) : evC nm (nI ((k * 3 + w) * 100) + nI m) st = tv nm k w (nI m) :: st := by
  rw [nI_add]
  have hq : (k * 3 + w) * 100 + m < 2 ^ 31 := by omega
  unfold evC
  rw [if_neg (nI_neg hq (by decide)), if_neg (nI_neg hq (by decide)), if_neg (nI_neg hq (by decide))]
  simp only [nI_clamp hq]
  have e1 : ((k * 3 + w) * 100 + m) / 300 = k := by omega
  have e2 : ((k * 3 + w) * 100 + m) % 100 = m := by omega
  have e3 : ((k * 3 + w) * 100 + m) / 100 % 3 = w := by omega
  rw [e1, e2, e3]
  rfl
theorem pLet_k {c : Int32} {k : Nat} (h : pLet c = some k) : k < 6 := by
  unfold pLet at h
  repeat' split at h
  all_goals cases h
  all_goals decide
theorem pSgn_k {c : Int32} {k : Nat} (h : pSgn c = some k) : k < 3 := by
  unfold pSgn at h
  repeat' split at h
  all_goals cases h
  all_goals decide
/-- the last letter of the first j that stands there -/
def nmd (c : Int32) (o : Bool) : Nat → Int32
  | 0 => -1
  | j + 1 => if o = true ∧ c = c_letters j then nI j else nmd c o j
theorem nmd_none (c : Int32) : nmd c false 6 = -1 := by simp [nmd]
theorem nmd_let (c : Int32) : nmd c true 6 = (match pLet c with
    | none => -1
    | some k => nI k) := by
  simp only [nmd, true_and, c_letters_0, c_letters_1, c_letters_2, c_letters_3, c_letters_4, c_letters_5, pLet]
  by_cases h0 : c = 112
  · subst h0; decide
  · by_cases h1 : c = 107
    · subst h1; decide
    · by_cases h2 : c = 118
      · subst h2; decide
      · by_cases h3 : c = 115
        · subst h3; decide
        · by_cases h4 : c = 119
          · subst h4; decide
          · by_cases h5 : c = 100
            · subst h5; decide
            · simp [h0, h1, h2, h3, h4, h5]
section
variable {V : Nat → Option AE} {Ev : Nat → Value} {d : Nat} {h : HS} {Q : Option Value → HS → Prop}
variable {b : Nat} {sc : Nat → Int32} {ar : Nat → Nat → Int32} {lg : Nat → Nat → Int64} {G : Nat → Option AE} {z : Nat × Nat}
variable {a n : Nat} {wl w s f c : Int32}
theorem m_test_l (hn : sc 3 = nI n) (hn1 : n ≤ 100) (ha : a ≤ 100) : ∀ m j, j + m = 6 → wp V (cdT Ev) mx (d + 1) 146 4 [some (.ref b), some (.int (nmd (ar 7 a) (decide (¬ wl = 0 ∧ a < n)) j)), some (.int (nI j)), none] [] (MH b (ps sc (nI a) wl w s f) ar lg G z) Q = wp V (cdT Ev) mx (d + 1) 146 35 [some (.ref b), some (.int (nmd (ar 7 a) (decide (¬ wl = 0 ∧ a < n)) 6)), some (.int 6), none] [] (MH b (ps sc (nI a) wl w s f) ar lg G z) Q := by
  intro m
  induction m with
  | zero =>
    intro j hj
    obtain rfl : j = 6 := by omega
    rw [s_146_4]
    simp only [s_146_5, s_146_7]
    rw [if_pos (by decide)]
    rfl
  | succ m ih =>
    intro j hj
    have hlt : ¬ (6 : Int32) ≤ nI j := nI_ge (a := j) (b := 6) (by omega) (by decide)
    have hi : ix (nI j) 6 = True := ix_nIT (by omega) (by decide)
    rw [s_146_4]
    simp only [s_146_0, s_146_1, s_146_2, s_146_3, s_146_5, s_146_7, s_146_10, s_146_10_n, s_146_11, s_146_11_n, s_146_12, s_146_15, s_146_16, s_146_17, s_146_20, s_146_23, s_146_24, s_146_27, s_146_28, s_146_29, s_146_32, s_146_36, s_146_37, s_146_40, s_146_40_n, s_146_41, s_146_42, s_146_45, s_146_46, s_146_47, s_146_47_n, s_146_48, s_146_48_i, s_146_49, s_146_52, s_146_53, s_146_54, s_146_57, s_146_57_n, s_146_58, s_146_60, s_146_63, s_146_66, s_146_67, s_146_70, s_146_70_n, s_146_71, s_146_73, s_146_76, s_146_79, s_146_80, s_146_83, s_146_84, s_146_85, s_146_85_n, s_146_86, s_146_87, s_146_90, s_146_92, s_146_95, s_146_96, s_146_99, s_146_101, s_146_104, s_146_106, s_146_109, s_146_109_n, s_146_110, s_146_113, s_146_114, s_146_115, s_146_118, s_146_118_n, s_146_119, s_146_122, s_146_123, s_146_124, s_146_125, s_146_128, s_146_129, s_146_132, s_146_133, s_146_136, s_146_137, s_146_140, s_146_140_n, s_146_141, s_146_144, s_146_145, s_146_146, s_146_147, s_146_150, s_146_151, s_146_154, s_146_155, s_146_158, s_146_158_n, s_146_159, s_146_162, s_146_163, s_146_164, s_146_165, s_146_168, s_146_169, s_146_172, s_146_173, ↓reduceIte, eq_self, rts_some, rts_none, nq_int, nq_ref, nq_null, nq_none, okr1_0, okr1_1, okr_b, List.length_nil, List.length_cons, Nat.zero_le, Nat.reduceAdd, Nat.reduceLeDiff, b2i_0, b2i_n0, b2i_1, b2i_n1, ite_not, if_true, if_false, not_true_eq_false, not_false_eq_true, true_and, and_true, false_and, and_false, mg_now, mg_mind, mg_then, mp_kept, mg_kept, mg_text, mp_texted, mg_texted, mg_rules, mg_sizes, mp_ruled, mg_ruled, mg_read, mp_size, mg_size, mp_at, mg_at, mp_well, mg_well, mp_within, mg_within, mp_sum, mg_sum, mp_free, mg_free, mg_names, mg_letters, mg_begins, mg_words, mg_sums, mg_above, mg_bodies, mg_trace, mp_ran, mg_ran, mg_sorts, mg_lengths, mg_items, mg_moved, ma_now, ms_now, ma_mind, ms_mind, ma_then, ms_then, ma_text, ms_text, ma_rules, ms_rules, ma_sizes, ms_sizes, ma_read, ms_read, ma_names, ms_names, ma_letters, ma_begins, ma_words, ma_sums, ms_sums, ma_above, ma_bodies, ma_trace, ms_trace, ma_sorts, ms_sorts, ma_lengths, ms_lengths, ma_items, ms_items, ma_moved, ms_moved, mcv, m_isAt hn hn1 ha, hlt, hi, nI_clamp (show j < 2 ^ 31 by omega), nI_1]
    by_cases hc : ¬ wl = 0 ∧ a < n ∧ ar 7 a = c_letters j
    · have e : nmd (ar 7 a) (decide (¬ wl = 0 ∧ a < n)) (j + 1) = nI j := by
        simp only [nmd]
        rw [if_pos ⟨by simp [hc.1, hc.2.1], hc.2.2⟩]
      rw [if_pos hc, ← e]
      exact ih (j + 1) (by omega)
    · have e : nmd (ar 7 a) (decide (¬ wl = 0 ∧ a < n)) (j + 1) = nmd (ar 7 a) (decide (¬ wl = 0 ∧ a < n)) j := by
        simp only [nmd]
        rw [if_neg]
        rintro ⟨q1, q2⟩
        simp at q1
        exact hc ⟨q1.1, q1.2, q2⟩
      rw [if_neg hc, ← e]
      exact ih (j + 1) (by omega)
theorem m_test0 (hn : sc 3 = nI n) (hn1 : n ≤ 100) (ha : a ≤ 100) : WP V (cdT Ev) mx (d + 2) 146 [.ref b] (MH b (ps sc (nI a) 0 w s f) ar lg G z) Q = Q (some (.int 0)) (MH b (ps sc (nI a) 0 w s f) ar lg G z) := by
  have e1 : ((-1 : Int32) = -1) = True := by simp
  have hl := m_test_l (V := V) (Ev := Ev) (d := d) (Q := Q) (b := b) (sc := sc) (ar := ar) (lg := lg) (G := G) (z := z) (a := a) (n := n) (wl := 0) (w := w) (s := s) (f := f) hn hn1 ha 6 0 (by omega)
  simp only [not_true_eq_false, false_and, decide_false, nmd_none] at hl
  rw [e_146]
  simp only [s_146_0, s_146_1, s_146_2, s_146_3, s_146_5, s_146_7, s_146_10, s_146_10_n, s_146_11, s_146_11_n, s_146_12, s_146_15, s_146_16, s_146_17, s_146_20, s_146_23, s_146_24, s_146_27, s_146_28, s_146_29, s_146_32, s_146_35, s_146_36, s_146_37, s_146_40, s_146_40_n, s_146_41, s_146_42, s_146_45, s_146_46, s_146_47, s_146_47_n, s_146_48, s_146_48_i, s_146_49, s_146_52, s_146_53, s_146_54, s_146_57, s_146_57_n, s_146_58, s_146_60, s_146_63, s_146_66, s_146_67, s_146_70, s_146_70_n, s_146_71, s_146_73, s_146_76, s_146_79, s_146_80, s_146_83, s_146_84, s_146_85, s_146_85_n, s_146_86, s_146_87, s_146_90, s_146_92, s_146_95, s_146_96, s_146_99, s_146_101, s_146_104, s_146_106, s_146_109, s_146_109_n, s_146_110, s_146_113, s_146_114, s_146_115, s_146_118, s_146_118_n, s_146_119, s_146_122, s_146_123, s_146_124, s_146_125, s_146_128, s_146_129, s_146_132, s_146_133, s_146_136, s_146_137, s_146_140, s_146_140_n, s_146_141, s_146_144, s_146_145, s_146_146, s_146_147, s_146_150, s_146_151, s_146_154, s_146_155, s_146_158, s_146_158_n, s_146_159, s_146_162, s_146_163, s_146_164, s_146_165, s_146_168, s_146_169, s_146_172, s_146_173, ↓reduceIte, eq_self, rts_some, rts_none, nq_int, nq_ref, nq_null, nq_none, okr1_0, okr1_1, okr_b, List.length_nil, List.length_cons, Nat.zero_le, Nat.reduceAdd, Nat.reduceLeDiff, b2i_0, b2i_n0, b2i_1, b2i_n1, ite_not, if_true, if_false, not_true_eq_false, not_false_eq_true, true_and, and_true, false_and, and_false]
  rw [show (MH b (ps sc (nI a) 0 w s f) ar lg G z) = _ from rfl]
  refine (show _ = _ from hl).trans ?_
  simp only [s_146_0, s_146_1, s_146_2, s_146_3, s_146_5, s_146_7, s_146_10, s_146_10_n, s_146_11, s_146_11_n, s_146_12, s_146_15, s_146_16, s_146_17, s_146_20, s_146_23, s_146_24, s_146_27, s_146_28, s_146_29, s_146_32, s_146_35, s_146_36, s_146_37, s_146_40, s_146_40_n, s_146_41, s_146_42, s_146_45, s_146_46, s_146_47, s_146_47_n, s_146_48, s_146_48_i, s_146_49, s_146_52, s_146_53, s_146_54, s_146_57, s_146_57_n, s_146_58, s_146_60, s_146_63, s_146_66, s_146_67, s_146_70, s_146_70_n, s_146_71, s_146_73, s_146_76, s_146_79, s_146_80, s_146_83, s_146_84, s_146_85, s_146_85_n, s_146_86, s_146_87, s_146_90, s_146_92, s_146_95, s_146_96, s_146_99, s_146_101, s_146_104, s_146_106, s_146_109, s_146_109_n, s_146_110, s_146_113, s_146_114, s_146_115, s_146_118, s_146_118_n, s_146_119, s_146_122, s_146_123, s_146_124, s_146_125, s_146_128, s_146_129, s_146_132, s_146_133, s_146_136, s_146_137, s_146_140, s_146_140_n, s_146_141, s_146_144, s_146_145, s_146_146, s_146_147, s_146_150, s_146_151, s_146_154, s_146_155, s_146_158, s_146_158_n, s_146_159, s_146_162, s_146_163, s_146_164, s_146_165, s_146_168, s_146_169, s_146_172, s_146_173, ↓reduceIte, eq_self, rts_some, rts_none, nq_int, nq_ref, nq_null, nq_none, okr1_0, okr1_1, okr_b, List.length_nil, List.length_cons, Nat.zero_le, Nat.reduceAdd, Nat.reduceLeDiff, b2i_0, b2i_n0, b2i_1, b2i_n1, ite_not, if_true, if_false, not_true_eq_false, not_false_eq_true, true_and, and_true, false_and, and_false, mg_now, mg_mind, mg_then, mp_kept, mg_kept, mg_text, mp_texted, mg_texted, mg_rules, mg_sizes, mp_ruled, mg_ruled, mg_read, mp_size, mg_size, mp_at, mg_at, mp_well, mg_well, mp_within, mg_within, mp_sum, mg_sum, mp_free, mg_free, mg_names, mg_letters, mg_begins, mg_words, mg_sums, mg_above, mg_bodies, mg_trace, mp_ran, mg_ran, mg_sorts, mg_lengths, mg_items, mg_moved, ma_now, ms_now, ma_mind, ms_mind, ma_then, ms_then, ma_text, ms_text, ma_rules, ms_rules, ma_sizes, ms_sizes, ma_read, ms_read, ma_names, ms_names, ma_letters, ma_begins, ma_words, ma_sums, ms_sums, ma_above, ma_bodies, ma_trace, ms_trace, ma_sorts, ms_sorts, ma_lengths, ms_lengths, ma_items, ms_items, ma_moved, ms_moved, mcv, pu_5, okv1_0]
end
