/-! Tapes: the reference. -/
abbrev tapQ (t : Int32) : Prop := 0 ≤ t ∧ t ≤ 5
theorem tapQ_k {s : Int32} (h : tapQ s) : ∃ j, j < 6 ∧ s = nI j := by
  obtain ⟨j, hj, e⟩ := nI_of2 (M := 5) (n := 5) (by decide) (Int32.not_lt.mpr h.1) h.2
  exact ⟨j, by omega, e⟩
def zlF (f : Nat → Int64) (t : Nat) : Nat → Nat → Int64
  | 0 => f
  | k + 1 => vp_updL (zlF f t k) (60 * t + k) 0
/-- sizes of tapes -/
def TPok (ss ls : Nat → Int32) : Prop := ∀ t, t < 6 → ∃ n, n ≤ 60 ∧ ls t = nI n ∧ (ss t < 0 → ss t = -1 ∧ n = 0)
def itF (s : Int32) (v : Int64) : Int64 := if s = 0 then v.toInt32.toInt8.toInt32.toInt64 else if s = 1 then v.toInt32.toInt16.toInt32.toInt64 else if s = 2 then v.toInt32.toInt64 else if s = 3 then v else if v = 0 then 0 else 1
def shF (f : Nat → Int64) (from' to' n : Nat) : Nat → Int64 := fun k => if to' ≤ k ∧ k < to' + n then f (from' + (k - to')) else f k
theorem x60 {t k : Nat} : (60 : Int32) * nI t + nI k = nI (60 * t + k) := by rw [show (60 : Int32) = nI 60 from rfl, pk_mul, nI_add]
theorem sub60 {a b : Nat} (ha : a ≤ 60) (hb : b < 2 ^ 31) : (nI a - nI b).toInt = (a : Int) - b := by
  rw [Int32.toInt_sub, nI_toInt (by omega), nI_toInt hb]
  apply Int.bmod_eq_of_le <;> omega
theorem le_sub60 {n a b : Nat} (hn : n < 2 ^ 31) (ha : a ≤ 60) (hb : b < 2 ^ 31) : ¬ (nI a - nI b < nI n) ↔ n + b ≤ a := by
  rw [Int32.lt_iff_toInt_lt, sub60 ha hb, nI_toInt hn]
  omega
def juF (N : Nat → Int32) (g : Nat → Int64) (L i : Nat) : Nat → Nat → Int32
  | 0, _ => -5
  | f + 1, s => if L ≤ i + s then 100 + nI s else if g (i + s) = (N s).toInt64 then juF N g L i f (s + 1) else nI s
def juR (N ss ls : Nat → Int32) (g : Nat → Int64) (t i : Int32) : Int32 := if tapQ t then (if ss t.toNatClampNeg = -1 ∨ ss t.toNatClampNeg = 3 then (if i < 0 then 100 else juF N (fun k => g (60 * t.toNatClampNeg + k)) (ls t.toNatClampNeg).toNatClampNeg i.toNatClampNeg 12 0) else -12) else -1
section
variable {V : Nat → Option AE} {Ev : Nat → Value} {d : Nat} {Q : Option Value → HS → Prop} {h : HS}
variable {b : Nat} {lg : Nat → Nat → Int64} {G : Nat → Option AE} {z : Nat × Nat} {sc : Nat → Int32} {ar : Nat → Nat → Int32} {c : Nat} {t i s n o j : Int32} {v : Int64}
theorem m_tape_l {k : Nat} (hk : k < 6) : ∀ m j, j + m = 60 → ∀ lg0 : Nat → Nat → Int64, wp V (cdT Ev) mx d 190 67 [some (.ref b), some (.int (nI k)), some (.int s), some (.int n), some (.int (nI j))] [] (MH b sc ar (va_up lg0 18 (zlF (lg0 18) k j)) G z) Q = Q (some (.int 1)) (MH b sc ar (va_up lg0 18 (zlF (lg0 18) k 60)) G z) := by
  intro m
  induction m with
  | zero =>
    intro j hj lg0
    obtain rfl : j = 60 := by omega
    have hle : ((60 : Int32) ≤ nI 60) = True := by decide
    rw [s_190_67]
    simp only [s_190_0, s_190_1, s_190_4, s_190_7, s_190_8, s_190_9, s_190_10, s_190_11, s_190_12, s_190_15, s_190_18, s_190_19, s_190_22, s_190_23, s_190_25, s_190_28, s_190_30, s_190_31, s_190_32, s_190_35, s_190_36, s_190_39, s_190_41, s_190_42, s_190_42_n, s_190_43, s_190_46, s_190_47, s_190_48, s_190_49, s_190_49_n, s_190_50, s_190_53, s_190_54, s_190_55, s_190_58, s_190_59, s_190_62, s_190_63, s_190_64, s_190_65, s_190_69, s_190_71, s_190_74, s_190_74_n, s_190_75, s_190_78, s_190_80, s_190_81, s_190_82, s_190_84, s_190_85, s_190_86, s_190_87, s_190_90, s_190_93, s_190_94, ↓reduceIte, eq_self, rts_some, rts_none, nq_int, nq_ref, nq_null, nq_none, okr1_0, okr1_1, okr_b, List.length_nil, List.length_cons, Nat.zero_le, Nat.reduceAdd, Nat.reduceLeDiff, b2i_0, b2i_n0, b2i_1, b2i_n1, ite_not, if_true, if_false, not_true_eq_false, not_false_eq_true, true_and, and_true, false_and, and_false, hle]
  | succ m ih =>
    intro j hj lg0
    have hlt : ((60 : Int32) ≤ nI j) = False := eq_false (nI_ge (a := j) (b := 60) (by omega) (by decide))
    have hx : ix (nI (60 * k + j)) 360 = True := ix_nIT (by omega) (by decide)
    rw [← ih (j + 1) (by omega) lg0, s_190_67]
    simp only [s_190_0, s_190_1, s_190_4, s_190_7, s_190_8, s_190_9, s_190_10, s_190_11, s_190_12, s_190_15, s_190_18, s_190_19, s_190_22, s_190_23, s_190_25, s_190_28, s_190_30, s_190_31, s_190_32, s_190_35, s_190_36, s_190_39, s_190_41, s_190_42, s_190_42_n, s_190_43, s_190_46, s_190_47, s_190_48, s_190_49, s_190_49_n, s_190_50, s_190_53, s_190_54, s_190_55, s_190_58, s_190_59, s_190_62, s_190_63, s_190_64, s_190_65, s_190_69, s_190_71, s_190_74, s_190_74_n, s_190_75, s_190_78, s_190_80, s_190_81, s_190_82, s_190_84, s_190_85, s_190_86, s_190_87, s_190_90, s_190_93, s_190_94, ↓reduceIte, eq_self, rts_some, rts_none, nq_int, nq_ref, nq_null, nq_none, okr1_0, okr1_1, okr_b, List.length_nil, List.length_cons, Nat.zero_le, Nat.reduceAdd, Nat.reduceLeDiff, b2i_0, b2i_n0, b2i_1, b2i_n1, ite_not, if_true, if_false, not_true_eq_false, not_false_eq_true, true_and, and_true, false_and, and_false, mg_now, mg_mind, mg_then, mp_kept, mg_kept, mg_text, mp_texted, mg_texted, mg_rules, mg_sizes, mp_ruled, mg_ruled, mg_read, mp_size, mg_size, mp_at, mg_at, mp_well, mg_well, mp_within, mg_within, mp_sum, mg_sum, mp_free, mg_free, mg_names, mg_letters, mg_begins, mg_words, mg_sums, mg_above, mg_bodies, mg_trace, mp_ran, mg_ran, mg_sorts, mg_lengths, mg_items, mg_moved, ma_now, ms_now, ma_mind, ms_mind, ma_then, ms_then, ma_text, ms_text, ma_rules, ms_rules, ma_sizes, ms_sizes, ma_read, ms_read, ma_names, ms_names, ma_letters, ma_begins, ma_words, ma_sums, ms_sums, ma_above, ma_bodies, ma_trace, ms_trace, ma_sorts, ms_sorts, ma_lengths, ms_lengths, ma_items, ms_items, ma_moved, ms_moved, mcv, hlt, x60, hx, nI_clamp (show 60 * k + j < 2 ^ 31 by omega), nI_1, vu, va_uu]
    rfl
theorem m_tape : WP V (cdT Ev) mx (d + 3) 190 [.ref b, .int t, .int s, .int n] (MH b sc ar lg G z) Q = if tapQ t then (if (-1 ≤ s ∧ s ≤ 4) ∧ (s < 0 ∨ n ≤ 60) then (if s < 0 ∨ 0 ≤ n then Q (some (.int 1)) (MH b sc (va_up (va_up ar 16 (upd (ar 16) t.toNatClampNeg s)) 17 (upd (ar 17) t.toNatClampNeg (if 0 ≤ s then n else 0))) (va_up lg 18 (zlF (lg 18) t.toNatClampNeg 60)) G z) else Q (some (.int (-14))) (MH b sc ar lg G z)) else Q (some (.int (-2))) (MH b sc ar lg G z)) else Q (some (.int (-1))) (MH b sc ar lg G z) := by
  rw [e_190]
  by_cases h1 : tapQ t
  · obtain ⟨k, hk, rfl⟩ := tapQ_k h1
    have hx : ix (nI k) 6 = True := ix_nIT (by omega) (by decide)
    rw [if_pos h1, nI_clamp (by omega)]
    simp only [tapQ] at h1
    have hfin : ∀ y : Int32, (if 0 ≤ s then n else 0) = y → wp V (cdT Ev) mx (d + 2) 190 64 [some (.ref b), some (.int (nI k)), some (.int s), some (.int n), none] [] (MH b sc (va_up (va_up ar 16 (upd (ar 16) k s)) 17 (upd (ar 17) k y)) lg G z) Q = Q (some (.int 1)) (MH b sc (va_up (va_up ar 16 (upd (ar 16) k s)) 17 (upd (ar 17) k (if 0 ≤ s then n else 0))) (va_up lg 18 (zlF (lg 18) k 60)) G z) := by
      intro y hy
      subst hy
      simp only [s_190_0, s_190_1, s_190_4, s_190_7, s_190_8, s_190_9, s_190_10, s_190_11, s_190_12, s_190_15, s_190_18, s_190_19, s_190_22, s_190_23, s_190_25, s_190_28, s_190_30, s_190_31, s_190_32, s_190_35, s_190_36, s_190_39, s_190_41, s_190_42, s_190_42_n, s_190_43, s_190_46, s_190_47, s_190_48, s_190_49, s_190_49_n, s_190_50, s_190_53, s_190_54, s_190_55, s_190_58, s_190_59, s_190_62, s_190_63, s_190_64, s_190_65, s_190_69, s_190_71, s_190_74, s_190_74_n, s_190_75, s_190_78, s_190_80, s_190_81, s_190_82, s_190_84, s_190_85, s_190_86, s_190_87, s_190_90, s_190_93, s_190_94, ↓reduceIte, eq_self, rts_some, rts_none, nq_int, nq_ref, nq_null, nq_none, okr1_0, okr1_1, okr_b, List.length_nil, List.length_cons, Nat.zero_le, Nat.reduceAdd, Nat.reduceLeDiff, b2i_0, b2i_n0, b2i_1, b2i_n1, ite_not, if_true, if_false, not_true_eq_false, not_false_eq_true, true_and, and_true, false_and, and_false]
      have := m_tape_l (V := V) (Ev := Ev) (d := d + 2) (Q := Q) (b := b) (G := G) (z := z) (sc := sc) (ar := va_up (va_up ar 16 (upd (ar 16) k s)) 17 (upd (ar 17) k (if 0 ≤ s then n else 0))) (s := s) (n := n) hk 60 0 rfl lg
      rw [zlF, va_us] at this
      exact this
    have h42 : wp V (cdT Ev) mx (d + 2) 190 42 [some (.ref b), some (.int (nI k)), some (.int s), some (.int n), none] [] (MH b sc ar lg G z) Q = Q (some (.int 1)) (MH b sc (va_up (va_up ar 16 (upd (ar 16) k s)) 17 (upd (ar 17) k (if 0 ≤ s then n else 0))) (va_up lg 18 (zlF (lg 18) k 60)) G z) := by
      by_cases hs : 0 ≤ s
      · simp only [s_190_0, s_190_1, s_190_4, s_190_7, s_190_8, s_190_9, s_190_10, s_190_11, s_190_12, s_190_15, s_190_18, s_190_19, s_190_22, s_190_23, s_190_25, s_190_28, s_190_30, s_190_31, s_190_32, s_190_35, s_190_36, s_190_39, s_190_41, s_190_42, s_190_42_n, s_190_43, s_190_46, s_190_47, s_190_48, s_190_49, s_190_49_n, s_190_50, s_190_53, s_190_54, s_190_55, s_190_58, s_190_59, s_190_62, s_190_63, s_190_65, s_190_69, s_190_71, s_190_74, s_190_74_n, s_190_75, s_190_78, s_190_80, s_190_81, s_190_82, s_190_84, s_190_85, s_190_86, s_190_87, s_190_90, s_190_93, s_190_94, ↓reduceIte, eq_self, rts_some, rts_none, nq_int, nq_ref, nq_null, nq_none, okr1_0, okr1_1, okr_b, List.length_nil, List.length_cons, Nat.zero_le, Nat.reduceAdd, Nat.reduceLeDiff, b2i_0, b2i_n0, b2i_1, b2i_n1, ite_not, if_true, if_false, not_true_eq_false, not_false_eq_true, true_and, and_true, false_and, and_false, mg_now, mg_mind, mg_then, mp_kept, mg_kept, mg_text, mp_texted, mg_texted, mg_rules, mg_sizes, mp_ruled, mg_ruled, mg_read, mp_size, mg_size, mp_at, mg_at, mp_well, mg_well, mp_within, mg_within, mp_sum, mg_sum, mp_free, mg_free, mg_names, mg_letters, mg_begins, mg_words, mg_sums, mg_above, mg_bodies, mg_trace, mp_ran, mg_ran, mg_sorts, mg_lengths, mg_items, mg_moved, ma_now, ms_now, ma_mind, ms_mind, ma_then, ms_then, ma_text, ms_text, ma_rules, ms_rules, ma_sizes, ms_sizes, ma_read, ms_read, ma_names, ms_names, ma_letters, ma_begins, ma_words, ma_sums, ms_sums, ma_above, ma_bodies, ma_trace, ms_trace, ma_sorts, ms_sorts, ma_lengths, ms_lengths, ma_items, ms_items, ma_moved, ms_moved, mcv, hx, nI_clamp (show k < 2 ^ 31 by omega), hs, vu, Nat.reduceEqDiff]
        have := hfin n (if_pos hs)
        rw [if_pos hs] at this
        exact this
      · simp only [s_190_0, s_190_1, s_190_4, s_190_7, s_190_8, s_190_9, s_190_10, s_190_11, s_190_12, s_190_15, s_190_18, s_190_19, s_190_22, s_190_23, s_190_25, s_190_28, s_190_30, s_190_31, s_190_32, s_190_35, s_190_36, s_190_39, s_190_41, s_190_42, s_190_42_n, s_190_43, s_190_46, s_190_47, s_190_48, s_190_49, s_190_49_n, s_190_50, s_190_53, s_190_54, s_190_55, s_190_58, s_190_59, s_190_62, s_190_63, s_190_65, s_190_69, s_190_71, s_190_74, s_190_74_n, s_190_75, s_190_78, s_190_80, s_190_81, s_190_82, s_190_84, s_190_85, s_190_86, s_190_87, s_190_90, s_190_93, s_190_94, ↓reduceIte, eq_self, rts_some, rts_none, nq_int, nq_ref, nq_null, nq_none, okr1_0, okr1_1, okr_b, List.length_nil, List.length_cons, Nat.zero_le, Nat.reduceAdd, Nat.reduceLeDiff, b2i_0, b2i_n0, b2i_1, b2i_n1, ite_not, if_true, if_false, not_true_eq_false, not_false_eq_true, true_and, and_true, false_and, and_false, mg_now, mg_mind, mg_then, mp_kept, mg_kept, mg_text, mp_texted, mg_texted, mg_rules, mg_sizes, mp_ruled, mg_ruled, mg_read, mp_size, mg_size, mp_at, mg_at, mp_well, mg_well, mp_within, mg_within, mp_sum, mg_sum, mp_free, mg_free, mg_names, mg_letters, mg_begins, mg_words, mg_sums, mg_above, mg_bodies, mg_trace, mp_ran, mg_ran, mg_sorts, mg_lengths, mg_items, mg_moved, ma_now, ms_now, ma_mind, ms_mind, ma_then, ms_then, ma_text, ms_text, ma_rules, ms_rules, ma_sizes, ms_sizes, ma_read, ms_read, ma_names, ms_names, ma_letters, ma_begins, ma_words, ma_sums, ms_sums, ma_above, ma_bodies, ma_trace, ms_trace, ma_sorts, ms_sorts, ma_lengths, ms_lengths, ma_items, ms_items, ma_moved, ms_moved, mcv, hx, nI_clamp (show k < 2 ^ 31 by omega), hs, vu, Nat.reduceEqDiff]
        have := hfin 0 (if_neg hs)
        rw [if_neg hs] at this
        exact this
    simp only [s_190_0, s_190_1, s_190_4, s_190_7, s_190_8, s_190_9, s_190_10, s_190_11, s_190_12, s_190_15, s_190_18, s_190_19, s_190_22, s_190_23, s_190_25, s_190_28, s_190_30, s_190_31, s_190_32, s_190_35, s_190_36, s_190_39, s_190_41, s_190_43, s_190_46, s_190_47, s_190_48, s_190_49, s_190_49_n, s_190_50, s_190_53, s_190_54, s_190_55, s_190_58, s_190_59, s_190_62, s_190_63, s_190_65, s_190_69, s_190_71, s_190_74, s_190_74_n, s_190_75, s_190_78, s_190_80, s_190_81, s_190_82, s_190_84, s_190_85, s_190_86, s_190_87, s_190_90, s_190_93, s_190_94, ↓reduceIte, eq_self, rts_some, rts_none, nq_int, nq_ref, nq_null, nq_none, okr1_0, okr1_1, okr_b, List.length_nil, List.length_cons, Nat.zero_le, Nat.reduceAdd, Nat.reduceLeDiff, b2i_0, b2i_n0, b2i_1, b2i_n1, ite_not, if_true, if_false, not_true_eq_false, not_false_eq_true, true_and, and_true, false_and, and_false, mg_now, mg_mind, mg_then, mp_kept, mg_kept, mg_text, mp_texted, mg_texted, mg_rules, mg_sizes, mp_ruled, mg_ruled, mg_read, mp_size, mg_size, mp_at, mg_at, mp_well, mg_well, mp_within, mg_within, mp_sum, mg_sum, mp_free, mg_free, mg_names, mg_letters, mg_begins, mg_words, mg_sums, mg_above, mg_bodies, mg_trace, mp_ran, mg_ran, mg_sorts, mg_lengths, mg_items, mg_moved, ma_now, ms_now, ma_mind, ms_mind, ma_then, ms_then, ma_text, ms_text, ma_rules, ms_rules, ma_sizes, ms_sizes, ma_read, ms_read, ma_names, ms_names, ma_letters, ma_begins, ma_words, ma_sums, ms_sums, ma_above, ma_bodies, ma_trace, ms_trace, ma_sorts, ms_sorts, ma_lengths, ms_lengths, ma_items, ms_items, ma_moved, ms_moved, mcv, m_isTape, m_isIn, h1, and_self]
    by_cases h2 : -1 ≤ s ∧ s ≤ 4
    · rw [if_pos h2]
      by_cases h3 : s < 0
      · have c1 : (-1 ≤ s ∧ s ≤ 4) ∧ (s < 0 ∨ n ≤ 60) := ⟨h2, Or.inl h3⟩
        have c2 : s < 0 ∨ 0 ≤ n := Or.inl h3
        rw [if_pos h3, if_pos c1, if_pos c2, h42, if_pos h3]
      · rw [if_neg h3]
        by_cases h4 : n ≤ 60
        · have c1 : (-1 ≤ s ∧ s ≤ 4) ∧ (s < 0 ∨ n ≤ 60) := ⟨h2, Or.inr h4⟩
          rw [if_pos h4, if_pos c1]
          by_cases h5 : 0 ≤ n
          · have c2 : s < 0 ∨ 0 ≤ n := Or.inr h5
            rw [if_pos h5, if_pos c2, h42, if_neg h3]
          · have c2 : ¬ (s < 0 ∨ 0 ≤ n) := fun h => h.elim h3 h5
            rw [if_neg h5, if_neg c2, if_neg h3]
        · have c1 : ¬ ((-1 ≤ s ∧ s ≤ 4) ∧ (s < 0 ∨ n ≤ 60)) := fun h => h.2.elim h3 h4
          rw [if_neg h4, if_neg c1]
    · have c1 : ¬ ((-1 ≤ s ∧ s ≤ 4) ∧ (s < 0 ∨ n ≤ 60)) := fun h => h2 h.1
      rw [if_neg h2, if_neg c1]
  · rw [if_neg h1]
    simp only [tapQ] at h1
    simp only [s_190_0, s_190_1, s_190_4, s_190_7, s_190_8, s_190_10, s_190_11, s_190_12, s_190_15, s_190_18, s_190_19, s_190_22, s_190_23, s_190_25, s_190_28, s_190_30, s_190_31, s_190_32, s_190_35, s_190_36, s_190_39, s_190_41, s_190_42, s_190_42_n, s_190_43, s_190_46, s_190_47, s_190_48, s_190_49, s_190_49_n, s_190_50, s_190_53, s_190_54, s_190_55, s_190_58, s_190_59, s_190_62, s_190_63, s_190_64, s_190_65, s_190_67, s_190_69, s_190_71, s_190_74, s_190_74_n, s_190_75, s_190_78, s_190_80, s_190_81, s_190_82, s_190_84, s_190_85, s_190_86, s_190_87, s_190_90, s_190_93, s_190_94, ↓reduceIte, eq_self, rts_some, rts_none, nq_int, nq_ref, nq_null, nq_none, okr1_0, okr1_1, okr_b, List.length_nil, List.length_cons, Nat.zero_le, Nat.reduceAdd, Nat.reduceLeDiff, b2i_0, b2i_n0, b2i_1, b2i_n1, ite_not, if_true, if_false, not_true_eq_false, not_false_eq_true, true_and, and_true, false_and, and_false, m_isTape, h1]
theorem m_item (hT : TPok (ar 16) (ar 17)) : WP V (cdT Ev) mx (d + 3) 191 [.ref b, .int t, .int i, .long v] (MH b sc ar lg G z) Q = if tapQ t then (if ar 16 t.toNatClampNeg < 0 then Q (some (.int (-11))) (MH b sc ar lg G z) else (if 0 ≤ i ∧ i ≤ ar 17 t.toNatClampNeg - 1 then Q (some (.int 1)) (MH b sc ar (va_up lg 18 (vp_updL (lg 18) (60 * t.toNatClampNeg + i.toNatClampNeg) (itF (ar 16 t.toNatClampNeg) v))) G z) else Q (some (.int (-13))) (MH b sc ar lg G z))) else Q (some (.int (-1))) (MH b sc ar lg G z) := by
  rw [e_191]
  by_cases h1 : tapQ t
  · obtain ⟨k, hk, rfl⟩ := tapQ_k h1
    obtain ⟨L, hL, eL, -⟩ := hT k hk
    have hx : ix (nI k) 6 = True := ix_nIT (by omega) (by decide)
    rw [if_pos h1, nI_clamp (by omega)]
    simp only [tapQ] at h1
    simp only [s_191_0, s_191_1, s_191_4, s_191_7, s_191_8, s_191_9, s_191_9_n, s_191_10, s_191_13, s_191_14, s_191_15, s_191_18, s_191_20, s_191_21, s_191_22, s_191_23, s_191_23_n, s_191_24, s_191_27, s_191_28, s_191_29, s_191_30, s_191_31, s_191_34, s_191_37, s_191_39, s_191_41, s_191_44, s_191_45, s_191_46, s_191_48, s_191_48_n, s_191_49, s_191_52, s_191_54, s_191_55, s_191_56, s_191_57, s_191_58, s_191_60, s_191_63, s_191_64, s_191_65, s_191_66, s_191_67, s_191_70, s_191_72, s_191_73, s_191_76, s_191_77, s_191_78, s_191_79, s_191_80, s_191_83, s_191_85, s_191_86, s_191_89, s_191_90, s_191_91, s_191_92, s_191_95, s_191_97, s_191_98, s_191_101, s_191_102, s_191_105, s_191_106, s_191_107, s_191_108, s_191_111, s_191_112, s_191_115, s_191_116, s_191_117, s_191_118, ↓reduceIte, eq_self, rts_some, rts_none, nq_int, nq_ref, nq_null, nq_none, okr1_0, okr1_1, okr_b, List.length_nil, List.length_cons, Nat.zero_le, Nat.reduceAdd, Nat.reduceLeDiff, b2i_0, b2i_n0, b2i_1, b2i_n1, ite_not, if_true, if_false, not_true_eq_false, not_false_eq_true, true_and, and_true, false_and, and_false, mg_now, mg_mind, mg_then, mp_kept, mg_kept, mg_text, mp_texted, mg_texted, mg_rules, mg_sizes, mp_ruled, mg_ruled, mg_read, mp_size, mg_size, mp_at, mg_at, mp_well, mg_well, mp_within, mg_within, mp_sum, mg_sum, mp_free, mg_free, mg_names, mg_letters, mg_begins, mg_words, mg_sums, mg_above, mg_bodies, mg_trace, mp_ran, mg_ran, mg_sorts, mg_lengths, mg_items, mg_moved, ma_now, ms_now, ma_mind, ms_mind, ma_then, ms_then, ma_text, ms_text, ma_rules, ms_rules, ma_sizes, ms_sizes, ma_read, ms_read, ma_names, ms_names, ma_letters, ma_begins, ma_words, ma_sums, ms_sums, ma_above, ma_bodies, ma_trace, ms_trace, ma_sorts, ms_sorts, ma_lengths, ms_lengths, ma_items, ms_items, ma_moved, ms_moved, mcv, m_isTape, m_isIn, h1, and_self, hx, nI_clamp (show k < 2 ^ 31 by omega)]
    by_cases h2 : ar 16 k < 0
    · rw [if_pos h2, if_neg (Int32.not_le.mpr h2)]
    · rw [if_neg h2, if_pos (Int32.not_lt.mp h2)]
      by_cases h3 : 0 ≤ i ∧ i ≤ ar 17 k - 1
      · rw [if_pos h3, if_pos h3]
        obtain ⟨j, hj, rfl⟩ := nI_of (Int32.not_lt.mpr h3.1)
        have hj60 : j < 60 := by
          have h4 := h3.2
          rw [eL] at h4
          rcases L with _ | m
          · have := Int32.le_trans (nI_pos' hj) h4
            exact absurd this (by decide)
          · rw [nI_pred] at h4
            have := (nI_leI hj (by omega)).mp h4
            omega
        have hx2 : ix (nI (60 * k + j)) 360 = True := ix_nIT (by omega) (by decide)
        rw [nI_clamp hj]
        have hgo : ∀ y : Int64, itF (ar 16 k) v = y → wp V (cdT Ev) mx (d + 2) 191 116 [some (.ref b), some (.int (nI k)), some (.int (nI j)), some (.long v), none, some (.int (ar 16 k))] [.long y, .int (nI (60 * k + j)), .ref (b + 18)] (MH b sc ar lg G z) Q = Q (some (.int 1)) (MH b sc ar (va_up lg 18 (vp_updL (lg 18) (60 * k + j) (itF (ar 16 k) v))) G z) := by
          intro y hy
          subst hy
          simp only [s_191_0, s_191_1, s_191_4, s_191_7, s_191_8, s_191_9, s_191_9_n, s_191_10, s_191_13, s_191_14, s_191_15, s_191_18, s_191_20, s_191_21, s_191_22, s_191_23, s_191_23_n, s_191_24, s_191_27, s_191_28, s_191_29, s_191_30, s_191_31, s_191_34, s_191_37, s_191_39, s_191_40, s_191_40_n, s_191_41, s_191_44, s_191_45, s_191_46, s_191_48, s_191_48_n, s_191_49, s_191_52, s_191_54, s_191_55, s_191_56, s_191_57, s_191_58, s_191_60, s_191_63, s_191_64, s_191_65, s_191_66, s_191_67, s_191_70, s_191_72, s_191_73, s_191_76, s_191_77, s_191_78, s_191_79, s_191_80, s_191_83, s_191_85, s_191_86, s_191_89, s_191_90, s_191_91, s_191_92, s_191_95, s_191_97, s_191_98, s_191_101, s_191_102, s_191_105, s_191_106, s_191_107, s_191_108, s_191_111, s_191_112, s_191_115, s_191_116, s_191_117, s_191_118, ↓reduceIte, eq_self, rts_some, rts_none, nq_int, nq_ref, nq_null, nq_none, okr1_0, okr1_1, okr_b, List.length_nil, List.length_cons, Nat.zero_le, Nat.reduceAdd, Nat.reduceLeDiff, b2i_0, b2i_n0, b2i_1, b2i_n1, ite_not, if_true, if_false, not_true_eq_false, not_false_eq_true, true_and, and_true, false_and, and_false, mg_now, mg_mind, mg_then, mp_kept, mg_kept, mg_text, mp_texted, mg_texted, mg_rules, mg_sizes, mp_ruled, mg_ruled, mg_read, mp_size, mg_size, mp_at, mg_at, mp_well, mg_well, mp_within, mg_within, mp_sum, mg_sum, mp_free, mg_free, mg_names, mg_letters, mg_begins, mg_words, mg_sums, mg_above, mg_bodies, mg_trace, mp_ran, mg_ran, mg_sorts, mg_lengths, mg_items, mg_moved, ma_now, ms_now, ma_mind, ms_mind, ma_then, ms_then, ma_text, ms_text, ma_rules, ms_rules, ma_sizes, ms_sizes, ma_read, ms_read, ma_names, ms_names, ma_letters, ma_begins, ma_words, ma_sums, ms_sums, ma_above, ma_bodies, ma_trace, ms_trace, ma_sorts, ms_sorts, ma_lengths, ms_lengths, ma_items, ms_items, ma_moved, ms_moved, mcv, hx2, nI_clamp (show 60 * k + j < 2 ^ 31 by omega)]
        simp only [s_191_0, s_191_1, s_191_4, s_191_7, s_191_8, s_191_9, s_191_9_n, s_191_10, s_191_13, s_191_14, s_191_15, s_191_18, s_191_20, s_191_21, s_191_22, s_191_23, s_191_23_n, s_191_24, s_191_27, s_191_28, s_191_29, s_191_30, s_191_31, s_191_34, s_191_37, s_191_39, s_191_40, s_191_40_n, s_191_41, s_191_44, s_191_45, s_191_46, s_191_48, s_191_48_n, s_191_49, s_191_52, s_191_54, s_191_55, s_191_56, s_191_57, s_191_58, s_191_63, s_191_64, s_191_65, s_191_66, s_191_67, s_191_70, s_191_72, s_191_73, s_191_76, s_191_77, s_191_78, s_191_79, s_191_80, s_191_83, s_191_85, s_191_86, s_191_89, s_191_90, s_191_91, s_191_92, s_191_95, s_191_97, s_191_98, s_191_101, s_191_102, s_191_105, s_191_106, s_191_107, s_191_108, s_191_111, s_191_112, s_191_115, s_191_117, s_191_118, ↓reduceIte, eq_self, rts_some, rts_none, nq_int, nq_ref, nq_null, nq_none, okr1_0, okr1_1, okr_b, List.length_nil, List.length_cons, Nat.zero_le, Nat.reduceAdd, Nat.reduceLeDiff, b2i_0, b2i_n0, b2i_1, b2i_n1, ite_not, if_true, if_false, not_true_eq_false, not_false_eq_true, true_and, and_true, false_and, and_false, mg_now, mg_mind, mg_then, mp_kept, mg_kept, mg_text, mp_texted, mg_texted, mg_rules, mg_sizes, mp_ruled, mg_ruled, mg_read, mp_size, mg_size, mp_at, mg_at, mp_well, mg_well, mp_within, mg_within, mp_sum, mg_sum, mp_free, mg_free, mg_names, mg_letters, mg_begins, mg_words, mg_sums, mg_above, mg_bodies, mg_trace, mp_ran, mg_ran, mg_sorts, mg_lengths, mg_items, mg_moved, ma_now, ms_now, ma_mind, ms_mind, ma_then, ms_then, ma_text, ms_text, ma_rules, ms_rules, ma_sizes, ms_sizes, ma_read, ms_read, ma_names, ms_names, ma_letters, ma_begins, ma_words, ma_sums, ms_sums, ma_above, ma_bodies, ma_trace, ms_trace, ma_sorts, ms_sorts, ma_lengths, ms_lengths, ma_items, ms_items, ma_moved, ms_moved, mcv, hx, nI_clamp (show k < 2 ^ 31 by omega), x60]
        rw [s_191_60]
        unfold itF at hgo ⊢
        by_cases s0 : ar 16 k = 0
        · rw [if_pos s0] at hgo ⊢
          simp only [s0, not_true_eq_false, if_false, s_191_0, s_191_1, s_191_4, s_191_7, s_191_8, s_191_9, s_191_9_n, s_191_10, s_191_13, s_191_14, s_191_15, s_191_18, s_191_20, s_191_21, s_191_22, s_191_23, s_191_23_n, s_191_24, s_191_27, s_191_28, s_191_29, s_191_30, s_191_31, s_191_34, s_191_37, s_191_39, s_191_40, s_191_40_n, s_191_41, s_191_44, s_191_45, s_191_46, s_191_48, s_191_48_n, s_191_49, s_191_52, s_191_54, s_191_55, s_191_56, s_191_57, s_191_58, s_191_60, s_191_63, s_191_64, s_191_65, s_191_66, s_191_67, s_191_70, s_191_72, s_191_73, s_191_76, s_191_77, s_191_78, s_191_79, s_191_80, s_191_83, s_191_85, s_191_86, s_191_89, s_191_90, s_191_91, s_191_92, s_191_95, s_191_97, s_191_98, s_191_101, s_191_102, s_191_105, s_191_106, s_191_107, s_191_108, s_191_111, s_191_112, s_191_115, s_191_117, s_191_118, ↓reduceIte, eq_self, rts_some, rts_none, nq_int, nq_ref, nq_null, nq_none, okr1_0, okr1_1, okr_b, List.length_nil, List.length_cons, Nat.zero_le, Nat.reduceAdd, Nat.reduceLeDiff, b2i_0, b2i_n0, b2i_1, b2i_n1, ite_not, if_true, if_false, not_true_eq_false, not_false_eq_true, true_and, and_true, false_and, and_false]
          have := hgo _ rfl
          rw [s0] at this
          exact this
        rw [if_neg s0] at hgo ⊢
        rw [if_pos s0]
        by_cases s1 : ar 16 k = 1
        · rw [if_pos s1] at hgo ⊢
          simp only [s_191_0, s_191_1, s_191_4, s_191_7, s_191_8, s_191_9, s_191_9_n, s_191_10, s_191_13, s_191_14, s_191_15, s_191_18, s_191_20, s_191_21, s_191_22, s_191_23, s_191_23_n, s_191_24, s_191_27, s_191_28, s_191_29, s_191_30, s_191_31, s_191_34, s_191_37, s_191_39, s_191_40, s_191_40_n, s_191_41, s_191_44, s_191_45, s_191_46, s_191_48, s_191_48_n, s_191_49, s_191_52, s_191_54, s_191_55, s_191_56, s_191_57, s_191_58, s_191_60, s_191_63, s_191_64, s_191_65, s_191_66, s_191_67, s_191_70, s_191_72, s_191_73, s_191_76, s_191_77, s_191_78, s_191_79, s_191_80, s_191_83, s_191_85, s_191_86, s_191_89, s_191_90, s_191_91, s_191_92, s_191_95, s_191_97, s_191_98, s_191_101, s_191_102, s_191_105, s_191_106, s_191_107, s_191_108, s_191_111, s_191_112, s_191_115, s_191_117, s_191_118, ↓reduceIte, eq_self, rts_some, rts_none, nq_int, nq_ref, nq_null, nq_none, okr1_0, okr1_1, okr_b, List.length_nil, List.length_cons, Nat.zero_le, Nat.reduceAdd, Nat.reduceLeDiff, b2i_0, b2i_n0, b2i_1, b2i_n1, ite_not, if_true, if_false, not_true_eq_false, not_false_eq_true, true_and, and_true, false_and, and_false, s1]
          have := hgo _ rfl
          rw [s1] at this
          exact this
        rw [if_neg s1] at hgo ⊢
        by_cases s2 : ar 16 k = 2
        · rw [if_pos s2] at hgo ⊢
          simp only [s_191_0, s_191_1, s_191_4, s_191_7, s_191_8, s_191_9, s_191_9_n, s_191_10, s_191_13, s_191_14, s_191_15, s_191_18, s_191_20, s_191_21, s_191_22, s_191_23, s_191_23_n, s_191_24, s_191_27, s_191_28, s_191_29, s_191_30, s_191_31, s_191_34, s_191_37, s_191_39, s_191_40, s_191_40_n, s_191_41, s_191_44, s_191_45, s_191_46, s_191_48, s_191_48_n, s_191_49, s_191_52, s_191_54, s_191_55, s_191_56, s_191_57, s_191_58, s_191_60, s_191_63, s_191_64, s_191_65, s_191_66, s_191_67, s_191_70, s_191_72, s_191_73, s_191_76, s_191_77, s_191_78, s_191_79, s_191_80, s_191_83, s_191_85, s_191_86, s_191_89, s_191_90, s_191_91, s_191_92, s_191_95, s_191_97, s_191_98, s_191_101, s_191_102, s_191_105, s_191_106, s_191_107, s_191_108, s_191_111, s_191_112, s_191_115, s_191_117, s_191_118, ↓reduceIte, eq_self, rts_some, rts_none, nq_int, nq_ref, nq_null, nq_none, okr1_0, okr1_1, okr_b, List.length_nil, List.length_cons, Nat.zero_le, Nat.reduceAdd, Nat.reduceLeDiff, b2i_0, b2i_n0, b2i_1, b2i_n1, ite_not, if_true, if_false, not_true_eq_false, not_false_eq_true, true_and, and_true, false_and, and_false, s1, s2]
          have := hgo _ rfl
          rw [s2] at this
          have z21 : ((2 : Int32) = 1) = False := by decide
          simp only [z21, if_false]
          exact this
        rw [if_neg s2] at hgo ⊢
        by_cases s3 : ar 16 k = 3
        · rw [if_pos s3] at hgo ⊢
          have z31 : ((3 : Int32) = 1) = False := by decide
          have z32 : ((3 : Int32) = 2) = False := by decide
          simp only [s_191_0, s_191_1, s_191_4, s_191_7, s_191_8, s_191_9, s_191_9_n, s_191_10, s_191_13, s_191_14, s_191_15, s_191_18, s_191_20, s_191_21, s_191_22, s_191_23, s_191_23_n, s_191_24, s_191_27, s_191_28, s_191_29, s_191_30, s_191_31, s_191_34, s_191_37, s_191_39, s_191_40, s_191_40_n, s_191_41, s_191_44, s_191_45, s_191_46, s_191_48, s_191_48_n, s_191_49, s_191_52, s_191_54, s_191_55, s_191_56, s_191_57, s_191_58, s_191_60, s_191_63, s_191_64, s_191_65, s_191_66, s_191_67, s_191_70, s_191_72, s_191_73, s_191_76, s_191_77, s_191_78, s_191_79, s_191_80, s_191_83, s_191_85, s_191_86, s_191_89, s_191_90, s_191_91, s_191_92, s_191_95, s_191_97, s_191_98, s_191_101, s_191_102, s_191_105, s_191_106, s_191_107, s_191_108, s_191_111, s_191_112, s_191_115, s_191_117, s_191_118, ↓reduceIte, eq_self, rts_some, rts_none, nq_int, nq_ref, nq_null, nq_none, okr1_0, okr1_1, okr_b, List.length_nil, List.length_cons, Nat.zero_le, Nat.reduceAdd, Nat.reduceLeDiff, b2i_0, b2i_n0, b2i_1, b2i_n1, ite_not, if_true, if_false, not_true_eq_false, not_false_eq_true, true_and, and_true, false_and, and_false, s3, z31, z32]
          have := hgo _ rfl
          rw [s3] at this
          exact this
        rw [if_neg s3] at hgo ⊢
        simp only [s_191_0, s_191_1, s_191_4, s_191_7, s_191_8, s_191_9, s_191_9_n, s_191_10, s_191_13, s_191_14, s_191_15, s_191_18, s_191_20, s_191_21, s_191_22, s_191_23, s_191_23_n, s_191_24, s_191_27, s_191_28, s_191_29, s_191_30, s_191_31, s_191_34, s_191_37, s_191_39, s_191_40, s_191_40_n, s_191_41, s_191_44, s_191_45, s_191_46, s_191_48, s_191_48_n, s_191_49, s_191_52, s_191_54, s_191_55, s_191_56, s_191_57, s_191_58, s_191_60, s_191_63, s_191_64, s_191_65, s_191_66, s_191_67, s_191_70, s_191_72, s_191_73, s_191_76, s_191_77, s_191_78, s_191_79, s_191_80, s_191_83, s_191_85, s_191_86, s_191_89, s_191_90, s_191_91, s_191_92, s_191_95, s_191_97, s_191_98, s_191_101, s_191_102, s_191_105, s_191_106, s_191_107, s_191_108, s_191_111, s_191_112, s_191_115, s_191_117, s_191_118, ↓reduceIte, eq_self, rts_some, rts_none, nq_int, nq_ref, nq_null, nq_none, okr1_0, okr1_1, okr_b, List.length_nil, List.length_cons, Nat.zero_le, Nat.reduceAdd, Nat.reduceLeDiff, b2i_0, b2i_n0, b2i_1, b2i_n1, ite_not, if_true, if_false, not_true_eq_false, not_false_eq_true, true_and, and_true, false_and, and_false, s1, s2, s3]
        by_cases v0 : v = 0
        · have hc : (lg_cmp v 0 = 0) = True := eq_true ((lg_cmp_eq v 0).mpr v0)
          simp only [hc, if_true]
          exact hgo _ (if_pos v0)
        · have hc : (lg_cmp v 0 = 0) = False := eq_false (fun h => v0 ((lg_cmp_eq v 0).mp h))
          simp only [hc, if_false]
          exact hgo _ (if_neg v0)
      · rw [if_neg h3, if_neg h3]
  · rw [if_neg h1]
    simp only [tapQ] at h1
    simp only [s_191_0, s_191_1, s_191_4, s_191_7, s_191_8, s_191_10, s_191_13, s_191_14, s_191_15, s_191_18, s_191_20, s_191_21, s_191_22, s_191_23, s_191_23_n, s_191_24, s_191_27, s_191_28, s_191_29, s_191_30, s_191_31, s_191_34, s_191_37, s_191_39, s_191_40, s_191_40_n, s_191_41, s_191_44, s_191_45, s_191_46, s_191_48, s_191_48_n, s_191_49, s_191_52, s_191_54, s_191_55, s_191_56, s_191_57, s_191_58, s_191_60, s_191_63, s_191_64, s_191_65, s_191_66, s_191_67, s_191_70, s_191_72, s_191_73, s_191_76, s_191_77, s_191_78, s_191_79, s_191_80, s_191_83, s_191_85, s_191_86, s_191_89, s_191_90, s_191_91, s_191_92, s_191_95, s_191_97, s_191_98, s_191_101, s_191_102, s_191_105, s_191_106, s_191_107, s_191_108, s_191_111, s_191_112, s_191_115, s_191_116, s_191_117, s_191_118, ↓reduceIte, eq_self, rts_some, rts_none, nq_int, nq_ref, nq_null, nq_none, okr1_0, okr1_1, okr_b, List.length_nil, List.length_cons, Nat.zero_le, Nat.reduceAdd, Nat.reduceLeDiff, b2i_0, b2i_n0, b2i_1, b2i_n1, ite_not, if_true, if_false, not_true_eq_false, not_false_eq_true, true_and, and_true, false_and, and_false, m_isTape, h1]
theorem m_read (hT : TPok (ar 16) (ar 17)) : WP V (cdT Ev) mx (d + 3) 192 [.ref b, .int t, .int i] (MH b sc ar lg G z) Q = Q (some (.long (if tapQ t ∧ (0 ≤ i ∧ i ≤ ar 17 t.toNatClampNeg - 1) then lg 18 (60 * t.toNatClampNeg + i.toNatClampNeg) else -9223372036854775808))) (MH b sc ar lg G z) := by
  rw [e_192]
  by_cases h1 : tapQ t
  · obtain ⟨k, hk, rfl⟩ := tapQ_k h1
    obtain ⟨L, hL, eL, -⟩ := hT k hk
    have hx : ix (nI k) 6 = True := ix_nIT (by omega) (by decide)
    rw [nI_clamp (by omega)]
    have h1' := h1
    simp only [tapQ] at h1'
    simp only [s_192_0, s_192_1, s_192_4, s_192_7, s_192_8, s_192_9, s_192_9_n, s_192_10, s_192_13, s_192_14, s_192_15, s_192_16, s_192_17, s_192_20, s_192_24, s_192_27, s_192_29, s_192_30, s_192_31, s_192_32, s_192_33, s_192_34, s_192_37, s_192_40, ↓reduceIte, eq_self, rts_some, rts_none, nq_int, nq_ref, nq_null, nq_none, okr1_0, okr1_1, okr_b, List.length_nil, List.length_cons, Nat.zero_le, Nat.reduceAdd, Nat.reduceLeDiff, b2i_0, b2i_n0, b2i_1, b2i_n1, ite_not, if_true, if_false, not_true_eq_false, not_false_eq_true, true_and, and_true, false_and, and_false, mg_now, mg_mind, mg_then, mp_kept, mg_kept, mg_text, mp_texted, mg_texted, mg_rules, mg_sizes, mp_ruled, mg_ruled, mg_read, mp_size, mg_size, mp_at, mg_at, mp_well, mg_well, mp_within, mg_within, mp_sum, mg_sum, mp_free, mg_free, mg_names, mg_letters, mg_begins, mg_words, mg_sums, mg_above, mg_bodies, mg_trace, mp_ran, mg_ran, mg_sorts, mg_lengths, mg_items, mg_moved, ma_now, ms_now, ma_mind, ms_mind, ma_then, ms_then, ma_text, ms_text, ma_rules, ms_rules, ma_sizes, ms_sizes, ma_read, ms_read, ma_names, ms_names, ma_letters, ma_begins, ma_words, ma_sums, ms_sums, ma_above, ma_bodies, ma_trace, ms_trace, ma_sorts, ms_sorts, ma_lengths, ms_lengths, ma_items, ms_items, ma_moved, ms_moved, mcv, m_isTape, m_isIn, h1', and_self, hx, nI_clamp (show k < 2 ^ 31 by omega)]
    by_cases h3 : 0 ≤ i ∧ i ≤ ar 17 k - 1
    · have c1 : tapQ (nI k) ∧ (0 ≤ i ∧ i ≤ ar 17 k - 1) := ⟨h1, h3⟩
      rw [if_pos h3, if_pos c1]
      obtain ⟨j, hj, rfl⟩ := nI_of (Int32.not_lt.mpr h3.1)
      have hj60 : j < 60 := by
        have h4 := h3.2
        rw [eL] at h4
        rcases L with _ | m
        · have := Int32.le_trans (nI_pos' hj) h4
          exact absurd this (by decide)
        · rw [nI_pred] at h4
          have := (nI_leI hj (by omega)).mp h4
          omega
      have hx2 : ix (nI (60 * k + j)) 360 = True := ix_nIT (by omega) (by decide)
      simp only [s_192_0, s_192_1, s_192_4, s_192_7, s_192_8, s_192_9, s_192_9_n, s_192_10, s_192_13, s_192_14, s_192_15, s_192_16, s_192_17, s_192_20, s_192_23, s_192_23_n, s_192_24, s_192_27, s_192_29, s_192_30, s_192_31, s_192_32, s_192_33, s_192_34, s_192_37, s_192_40, ↓reduceIte, eq_self, rts_some, rts_none, nq_int, nq_ref, nq_null, nq_none, okr1_0, okr1_1, okr_b, List.length_nil, List.length_cons, Nat.zero_le, Nat.reduceAdd, Nat.reduceLeDiff, b2i_0, b2i_n0, b2i_1, b2i_n1, ite_not, if_true, if_false, not_true_eq_false, not_false_eq_true, true_and, and_true, false_and, and_false, mg_now, mg_mind, mg_then, mp_kept, mg_kept, mg_text, mp_texted, mg_texted, mg_rules, mg_sizes, mp_ruled, mg_ruled, mg_read, mp_size, mg_size, mp_at, mg_at, mp_well, mg_well, mp_within, mg_within, mp_sum, mg_sum, mp_free, mg_free, mg_names, mg_letters, mg_begins, mg_words, mg_sums, mg_above, mg_bodies, mg_trace, mp_ran, mg_ran, mg_sorts, mg_lengths, mg_items, mg_moved, ma_now, ms_now, ma_mind, ms_mind, ma_then, ms_then, ma_text, ms_text, ma_rules, ms_rules, ma_sizes, ms_sizes, ma_read, ms_read, ma_names, ms_names, ma_letters, ma_begins, ma_words, ma_sums, ms_sums, ma_above, ma_bodies, ma_trace, ms_trace, ma_sorts, ms_sorts, ma_lengths, ms_lengths, ma_items, ms_items, ma_moved, ms_moved, mcv, x60, hx2, nI_clamp (show 60 * k + j < 2 ^ 31 by omega), nI_clamp hj]
    · have c1 : ¬ (tapQ (nI k) ∧ (0 ≤ i ∧ i ≤ ar 17 k - 1)) := fun h => h3 h.2
      rw [if_neg h3, if_neg c1]
  · rw [if_neg (fun h => h1 h.1)]
    simp only [tapQ] at h1
    simp only [s_192_0, s_192_1, s_192_4, s_192_8, s_192_9, s_192_9_n, s_192_10, s_192_13, s_192_14, s_192_15, s_192_16, s_192_17, s_192_20, s_192_24, s_192_27, s_192_29, s_192_30, s_192_31, s_192_32, s_192_33, s_192_34, s_192_37, s_192_40, ↓reduceIte, eq_self, rts_some, rts_none, nq_int, nq_ref, nq_null, nq_none, okr1_0, okr1_1, okr_b, List.length_nil, List.length_cons, Nat.zero_le, Nat.reduceAdd, Nat.reduceLeDiff, b2i_0, b2i_n0, b2i_1, b2i_n1, ite_not, if_true, if_false, not_true_eq_false, not_false_eq_true, true_and, and_true, false_and, and_false, m_isTape, h1]
end
