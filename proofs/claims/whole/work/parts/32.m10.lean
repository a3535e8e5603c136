/-! The reference reads a whole text. -/
def rlQ (n b : Nat) (sc : Nat → Int32) (ar : Nat → Nat → Int32) (lg : Nat → Nat → Int64) (G : Nat → Option AE) (z : Nat × Nat) (s f : Int32) (r : Bool × Nat × List Cls) (Q : Option Value → HS → Prop) : Prop :=
  (r.1 = true → ∀ w', Q (some (.int (b2i (r.2.1 = n)))) (MH b (ps sc (nI r.2.1) 1 w' (sumC (ar 8) s r.2.2) (freeC f r.2.2)) ar lg G z)) ∧ (r.1 = false → ∀ w' s' f', Q (some (.int 0)) (MH b (ps sc (nI r.2.1) 0 w' s' f') ar lg G z))
def raQ (n b : Nat) (sc : Nat → Int32) (ar : Nat → Nat → Int32) (lg : Nat → Nat → Int64) (G : Nat → Option AE) (z : Nat × Nat) (r : Bool × Nat × List Cls) (Q : Option Value → HS → Prop) : Prop :=
  (r.1 = true → ∀ w', Q (some (.int 1)) (MH b (ps sc (nI n) 1 w' (sumC (ar 8) (ar 8 4) r.2.2) (freeC 0 r.2.2)) ar lg G z)) ∧ (r.1 = false → ∀ wl w' s' f', Q (some (.int 0)) (MH b (ps sc (nI r.2.1) wl w' s' f') ar lg G z))
section
variable {V : Nat → Option AE} {Ev : Nat → Value}
variable {b : Nat} {sc : Nat → Int32} {ar : Nat → Nat → Int32} {lg : Nat → Nat → Int64} {G : Nat → Option AE} {z : Nat × Nat}
variable {n : Nat}
theorem m_ra66_1 (hn : sc 3 = nI n) (hn1 : n ≤ 100) {a : Nat} (ha : a ≤ n) {w s f : Int32} {l1 : Option Value} (d : Nat) (Q : Option Value → HS → Prop) (H : Q (some (.int (b2i (a = n)))) (MH b (ps sc (nI a) 1 w s f) ar lg G z)) : wp V (cdT Ev) mx d 151 66 [some (.ref b), l1] [] (MH b (ps sc (nI a) 1 w s f) ar lg G z) Q := by
  have e1 : ((1 : Int32) = 0) = False := by decide
  have e2 : (nI a = nI n) = (a = n) := propext (nI_eq (by omega) (by omega))
  simp only [s_151_0, s_151_0_n, s_151_1, s_151_2, s_151_5, s_151_5_n, s_151_6, s_151_7, s_151_10, s_151_10_n, s_151_11, s_151_11_n, s_151_12, s_151_15, s_151_16, s_151_17, s_151_20, s_151_20_n, s_151_21, s_151_22, s_151_25, s_151_26, s_151_27, s_151_27_n, s_151_28, s_151_32, s_151_34, s_151_37, s_151_37_n, s_151_38, s_151_40, s_151_43, s_151_46, s_151_46_n, s_151_47, s_151_47_i, s_151_48, s_151_51, s_151_52, s_151_53, s_151_56, s_151_56_n, s_151_57, s_151_60, s_151_63, s_151_66, s_151_66_n, s_151_67, s_151_70, s_151_73, s_151_73_n, s_151_74, s_151_77, s_151_77_n, s_151_78, s_151_81, s_151_84, s_151_85, s_151_88, s_151_89, ↓reduceIte, eq_self, rts_some, rts_none, nq_int, nq_ref, nq_null, nq_none, okr1_0, okr1_1, okr_b, List.length_nil, List.length_cons, Nat.zero_le, Nat.reduceAdd, Nat.reduceLeDiff, b2i_0, b2i_n0, b2i_1, b2i_n1, ite_not, if_true, if_false, not_true_eq_false, not_false_eq_true, true_and, and_true, false_and, and_false, mg_now, mg_mind, mg_then, mp_kept, mg_kept, mg_text, mp_texted, mg_texted, mg_rules, mg_sizes, mp_ruled, mg_ruled, mg_read, mp_size, mg_size, mp_at, mg_at, mp_well, mg_well, mp_within, mg_within, mp_sum, mg_sum, mp_free, mg_free, mg_names, mg_letters, mg_begins, mg_words, mg_sums, mg_above, mg_bodies, mg_trace, mp_ran, mg_ran, mg_sorts, mg_lengths, mg_items, mg_moved, ma_now, ms_now, ma_mind, ms_mind, ma_then, ms_then, ma_text, ms_text, ma_rules, ms_rules, ma_sizes, ms_sizes, ma_read, ms_read, ma_names, ms_names, ma_letters, ma_begins, ma_words, ma_sums, ms_sums, ma_above, ma_bodies, ma_trace, ms_trace, ma_sorts, ms_sorts, ma_lengths, ms_lengths, ma_items, ms_items, ma_moved, ms_moved, mcv, ps_3, ps_4, ps_5, hn, e1, e2]
  by_cases h : a = n
  · simp only [h, if_true]
    simpa [h, b2i] using H
  · simp only [h, if_false]
    simpa [h, b2i] using H
theorem m_ra66_0 {a w s f : Int32} {l1 : Option Value} (d : Nat) (Q : Option Value → HS → Prop) (H : Q (some (.int 0)) (MH b (ps sc a 0 w s f) ar lg G z)) : wp V (cdT Ev) mx d 151 66 [some (.ref b), l1] [] (MH b (ps sc a 0 w s f) ar lg G z) Q := by
  simp only [s_151_0, s_151_0_n, s_151_1, s_151_2, s_151_5, s_151_5_n, s_151_6, s_151_7, s_151_10, s_151_10_n, s_151_11, s_151_11_n, s_151_12, s_151_15, s_151_16, s_151_17, s_151_20, s_151_20_n, s_151_21, s_151_22, s_151_25, s_151_26, s_151_27, s_151_27_n, s_151_28, s_151_32, s_151_34, s_151_37, s_151_37_n, s_151_38, s_151_40, s_151_43, s_151_46, s_151_46_n, s_151_47, s_151_47_i, s_151_48, s_151_51, s_151_52, s_151_53, s_151_56, s_151_56_n, s_151_57, s_151_60, s_151_63, s_151_66, s_151_66_n, s_151_67, s_151_70, s_151_73, s_151_73_n, s_151_74, s_151_77, s_151_77_n, s_151_78, s_151_81, s_151_84, s_151_85, s_151_88, s_151_89, ↓reduceIte, eq_self, rts_some, rts_none, nq_int, nq_ref, nq_null, nq_none, okr1_0, okr1_1, okr_b, List.length_nil, List.length_cons, Nat.zero_le, Nat.reduceAdd, Nat.reduceLeDiff, b2i_0, b2i_n0, b2i_1, b2i_n1, ite_not, if_true, if_false, not_true_eq_false, not_false_eq_true, true_and, and_true, false_and, and_false, mg_now, mg_mind, mg_then, mp_kept, mg_kept, mg_text, mp_texted, mg_texted, mg_rules, mg_sizes, mp_ruled, mg_ruled, mg_read, mp_size, mg_size, mp_at, mg_at, mp_well, mg_well, mp_within, mg_within, mp_sum, mg_sum, mp_free, mg_free, mg_names, mg_letters, mg_begins, mg_words, mg_sums, mg_above, mg_bodies, mg_trace, mp_ran, mg_ran, mg_sorts, mg_lengths, mg_items, mg_moved, ma_now, ms_now, ma_mind, ms_mind, ma_then, ms_then, ma_text, ms_text, ma_rules, ms_rules, ma_sizes, ms_sizes, ma_read, ms_read, ma_names, ms_names, ma_letters, ma_begins, ma_words, ma_sums, ms_sums, ma_above, ma_bodies, ma_trace, ms_trace, ma_sorts, ms_sorts, ma_lengths, ms_lengths, ma_items, ms_items, ma_moved, ms_moved, mcv, ps_5]
  exact H
theorem m_ra31_0 (hn : sc 3 = nI n) (hn1 : n ≤ 100) {a : Nat} (ha : a ≤ n) {w s f : Int32} {m : Int32} (d : Nat) (Q : Option Value → HS → Prop) (H : Q (some (.int 0)) (MH b (ps sc (nI a) 0 w s f) ar lg G z)) : wp V (cdT Ev) mx (d + 19) 151 31 [some (.ref b), some (.int m)] [] (MH b (ps sc (nI a) 0 w s f) ar lg G z) Q := by
  rw [s_151_31]
  simp only [s_151_0, s_151_0_n, s_151_1, s_151_2, s_151_5, s_151_5_n, s_151_6, s_151_7, s_151_10, s_151_10_n, s_151_11, s_151_11_n, s_151_12, s_151_15, s_151_16, s_151_17, s_151_20, s_151_20_n, s_151_21, s_151_22, s_151_25, s_151_26, s_151_27, s_151_27_n, s_151_28, s_151_32, s_151_34, s_151_37, s_151_37_n, s_151_38, s_151_40, s_151_43, s_151_46, s_151_46_n, s_151_47, s_151_47_i, s_151_48, s_151_51, s_151_52, s_151_53, s_151_56, s_151_56_n, s_151_57, s_151_60, s_151_63, s_151_67, s_151_70, s_151_73, s_151_73_n, s_151_74, s_151_77, s_151_77_n, s_151_78, s_151_81, s_151_84, s_151_85, s_151_88, s_151_89, ↓reduceIte, eq_self, rts_some, rts_none, nq_int, nq_ref, nq_null, nq_none, okr1_0, okr1_1, okr_b, List.length_nil, List.length_cons, Nat.zero_le, Nat.reduceAdd, Nat.reduceLeDiff, b2i_0, b2i_n0, b2i_1, b2i_n1, ite_not, if_true, if_false, not_true_eq_false, not_false_eq_true, true_and, and_true, false_and, and_false, mg_now, mg_mind, mg_then, mp_kept, mg_kept, mg_text, mp_texted, mg_texted, mg_rules, mg_sizes, mp_ruled, mg_ruled, mg_read, mp_size, mg_size, mp_at, mg_at, mp_well, mg_well, mp_within, mg_within, mp_sum, mg_sum, mp_free, mg_free, mg_names, mg_letters, mg_begins, mg_words, mg_sums, mg_above, mg_bodies, mg_trace, mp_ran, mg_ran, mg_sorts, mg_lengths, mg_items, mg_moved, ma_now, ms_now, ma_mind, ms_mind, ma_then, ms_then, ma_text, ms_text, ma_rules, ms_rules, ma_sizes, ms_sizes, ma_read, ms_read, ma_names, ms_names, ma_letters, ma_begins, ma_words, ma_sums, ms_sums, ma_above, ma_bodies, ma_trace, ms_trace, ma_sorts, ms_sorts, ma_lengths, ms_lengths, ma_items, ms_items, ma_moved, ms_moved, mcv, m_isAt (d := d + 18) hn hn1 (show a ≤ 100 by omega)]
  split
  · exact m_ra66_0 _ _ H
  · exact m_ra66_0 _ _ H
theorem m_ra31 (hn : sc 3 = nI n) (hn1 : n ≤ 100) (d : Nat) (Q : Option Value → HS → Prop) : ∀ (k m a : Nat) (w s f : Int32), m + k = 10 → a ≤ n → rlQ n b sc ar lg G z s f (pCls (ar 7) n k a) Q → wp V (cdT Ev) mx (d + 19) 151 31 [some (.ref b), some (.int (nI m))] [] (MH b (ps sc (nI a) 1 w s f) ar lg G z) Q := by
  have e1 : ((1 : Int32) = 0) = False := by decide
  intro k
  induction k with
  | zero =>
    intro m a w s f hm ha H
    obtain rfl : m = 10 := by omega
    have h10 : ((10 : Int32) ≤ nI 10) = True := by decide
    rw [s_151_31]
    simp only [s_151_0, s_151_0_n, s_151_1, s_151_2, s_151_5, s_151_5_n, s_151_6, s_151_7, s_151_10, s_151_10_n, s_151_11, s_151_11_n, s_151_12, s_151_15, s_151_16, s_151_17, s_151_20, s_151_20_n, s_151_21, s_151_22, s_151_25, s_151_26, s_151_27, s_151_27_n, s_151_28, s_151_32, s_151_34, s_151_37, s_151_37_n, s_151_38, s_151_40, s_151_43, s_151_46, s_151_46_n, s_151_47, s_151_47_i, s_151_48, s_151_51, s_151_52, s_151_53, s_151_56, s_151_56_n, s_151_57, s_151_60, s_151_63, s_151_67, s_151_70, s_151_73, s_151_73_n, s_151_74, s_151_77, s_151_77_n, s_151_78, s_151_81, s_151_84, s_151_85, s_151_88, s_151_89, ↓reduceIte, eq_self, rts_some, rts_none, nq_int, nq_ref, nq_null, nq_none, okr1_0, okr1_1, okr_b, List.length_nil, List.length_cons, Nat.zero_le, Nat.reduceAdd, Nat.reduceLeDiff, b2i_0, b2i_n0, b2i_1, b2i_n1, ite_not, if_true, if_false, not_true_eq_false, not_false_eq_true, true_and, and_true, false_and, and_false, h10]
    exact m_ra66_1 hn hn1 ha _ _ (H.1 rfl _)
  | succ k ih =>
    intro m a w s f hm ha H
    have hlt : ((10 : Int32) ≤ nI m) = False := eq_false (nI_ge (a := m) (b := 10) (by omega) (by decide))
    rw [s_151_31]
    simp only [s_151_0, s_151_0_n, s_151_1, s_151_2, s_151_5, s_151_5_n, s_151_6, s_151_7, s_151_10, s_151_10_n, s_151_11, s_151_11_n, s_151_12, s_151_15, s_151_16, s_151_17, s_151_20, s_151_20_n, s_151_21, s_151_22, s_151_25, s_151_26, s_151_27, s_151_27_n, s_151_28, s_151_32, s_151_34, s_151_37, s_151_37_n, s_151_38, s_151_40, s_151_43, s_151_46, s_151_46_n, s_151_47, s_151_47_i, s_151_48, s_151_51, s_151_52, s_151_53, s_151_56, s_151_56_n, s_151_57, s_151_60, s_151_63, s_151_67, s_151_70, s_151_73, s_151_73_n, s_151_74, s_151_77, s_151_77_n, s_151_78, s_151_81, s_151_84, s_151_85, s_151_88, s_151_89, ↓reduceIte, eq_self, rts_some, rts_none, nq_int, nq_ref, nq_null, nq_none, okr1_0, okr1_1, okr_b, List.length_nil, List.length_cons, Nat.zero_le, Nat.reduceAdd, Nat.reduceLeDiff, b2i_0, b2i_n0, b2i_1, b2i_n1, ite_not, if_true, if_false, not_true_eq_false, not_false_eq_true, true_and, and_true, false_and, and_false, mg_now, mg_mind, mg_then, mp_kept, mg_kept, mg_text, mp_texted, mg_texted, mg_rules, mg_sizes, mp_ruled, mg_ruled, mg_read, mp_size, mg_size, mp_at, mg_at, mp_well, mg_well, mp_within, mg_within, mp_sum, mg_sum, mp_free, mg_free, mg_names, mg_letters, mg_begins, mg_words, mg_sums, mg_above, mg_bodies, mg_trace, mp_ran, mg_ran, mg_sorts, mg_lengths, mg_items, mg_moved, ma_now, ms_now, ma_mind, ms_mind, ma_then, ms_then, ma_text, ms_text, ma_rules, ms_rules, ma_sizes, ms_sizes, ma_read, ms_read, ma_names, ms_names, ma_letters, ma_begins, ma_words, ma_sums, ms_sums, ma_above, ma_bodies, ma_trace, ms_trace, ma_sorts, ms_sorts, ma_lengths, ms_lengths, ma_items, ms_items, ma_moved, ms_moved, mcv, m_isAt (d := d + 18) hn hn1 (show a ≤ 100 by omega), hlt, e1]
    unfold pCls at H
    by_cases hc : a < n ∧ ar 7 a = 59
    · rw [if_pos hc] at H
      simp only [hc, and_self, if_true, ps_4, pu_4, nI_1]
      refine m_clause hn hn1 (show a + 1 ≤ n by omega) d _ ?_
      have hadv := pCl_adv (ar 7) n (a + 1) (by omega)
      generalize pCl (ar 7) n (a + 1) = r at H hadv ⊢
      obtain ⟨o, a1, c⟩ := r
      simp only at hadv
      cases o
      · refine ⟨fun h => (by cases h), fun _ w' s' f' => ?_⟩
        simp only [s_151_0, s_151_0_n, s_151_1, s_151_2, s_151_5, s_151_5_n, s_151_6, s_151_7, s_151_10, s_151_10_n, s_151_11, s_151_11_n, s_151_12, s_151_15, s_151_16, s_151_17, s_151_20, s_151_20_n, s_151_21, s_151_22, s_151_25, s_151_26, s_151_27, s_151_27_n, s_151_28, s_151_32, s_151_34, s_151_37, s_151_37_n, s_151_38, s_151_40, s_151_43, s_151_46, s_151_46_n, s_151_47, s_151_47_i, s_151_48, s_151_51, s_151_52, s_151_53, s_151_56, s_151_56_n, s_151_57, s_151_60, s_151_63, s_151_67, s_151_70, s_151_73, s_151_73_n, s_151_74, s_151_77, s_151_77_n, s_151_78, s_151_81, s_151_84, s_151_85, s_151_88, s_151_89, ↓reduceIte, eq_self, rts_some, rts_none, nq_int, nq_ref, nq_null, nq_none, okr1_0, okr1_1, okr_b, List.length_nil, List.length_cons, Nat.zero_le, Nat.reduceAdd, Nat.reduceLeDiff, b2i_0, b2i_n0, b2i_1, b2i_n1, ite_not, if_true, if_false, not_true_eq_false, not_false_eq_true, true_and, and_true, false_and, and_false]
        exact m_ra31_0 hn hn1 (by omega) _ _ (H.2 rfl _ _ _)
      · refine ⟨fun _ w' => ?_, fun h => (by cases h)⟩
        simp only [s_151_0, s_151_0_n, s_151_1, s_151_2, s_151_5, s_151_5_n, s_151_6, s_151_7, s_151_10, s_151_10_n, s_151_11, s_151_11_n, s_151_12, s_151_15, s_151_16, s_151_17, s_151_20, s_151_20_n, s_151_21, s_151_22, s_151_25, s_151_26, s_151_27, s_151_27_n, s_151_28, s_151_32, s_151_34, s_151_37, s_151_37_n, s_151_38, s_151_40, s_151_43, s_151_46, s_151_46_n, s_151_47, s_151_47_i, s_151_48, s_151_51, s_151_52, s_151_53, s_151_56, s_151_56_n, s_151_57, s_151_60, s_151_63, s_151_67, s_151_70, s_151_73, s_151_73_n, s_151_74, s_151_77, s_151_77_n, s_151_78, s_151_81, s_151_84, s_151_85, s_151_88, s_151_89, ↓reduceIte, eq_self, rts_some, rts_none, nq_int, nq_ref, nq_null, nq_none, okr1_0, okr1_1, okr_b, List.length_nil, List.length_cons, Nat.zero_le, Nat.reduceAdd, Nat.reduceLeDiff, b2i_0, b2i_n0, b2i_1, b2i_n1, ite_not, if_true, if_false, not_true_eq_false, not_false_eq_true, true_and, and_true, false_and, and_false, nI_1]
        refine ih (m + 1) a1 _ _ _ (by omega) (by omega) ?_
        simp only at H
        generalize pCls (ar 7) n k a1 = r2 at H
        obtain ⟨o2, a2, l⟩ := r2
        exact ⟨fun h w' => H.1 h w', fun h w' s' f' => H.2 h w' s' f'⟩
    · rw [if_neg hc] at H
      simp only [hc, if_false]
      exact m_ra66_1 hn hn1 ha _ _ (H.1 rfl _)
theorem pCls_adv (T : Nat → Int32) (n : Nat) : ∀ (k a : Nat), a ≤ n → a ≤ (pCls T n k a).2.1 ∧ (pCls T n k a).2.1 ≤ n := by
  intro k
  induction k with
  | zero =>
    intro a ha
    simp [pCls, ha]
  | succ k ih =>
    intro a ha
    simp only [pCls]
    split
    · have h1 := pCl_adv T n (a + 1) (by omega)
      split
      · rename_i heq
        rw [heq] at h1
        simp only at h1 ⊢
        omega
      · rename_i heq
        rw [heq] at h1
        simp only at h1
        have h2 := ih _ h1.2
        generalize pCls T n k _ = r at h2 ⊢
        obtain ⟨o, a2, l⟩ := r
        simp only at h2 ⊢
        omega
    · simp [ha]
theorem m_readAll (hn : sc 3 = nI n) (hn1 : n ≤ 100) (d : Nat) (Q : Option Value → HS → Prop) (H : raQ n b sc ar lg G z (pAll (ar 7) n) Q) : WP V (cdT Ev) mx (d + 20) 151 [.ref b] (MH b sc ar lg G z) Q := by
  rw [show MH b sc ar lg G z = MH b (ps sc (sc 4) (sc 5) (sc 6) (sc 7) (sc 8)) ar lg G z by rw [ps_self], e_151]
  simp only [s_151_0, s_151_0_n, s_151_1, s_151_2, s_151_5, s_151_5_n, s_151_6, s_151_7, s_151_10, s_151_10_n, s_151_11, s_151_11_n, s_151_12, s_151_15, s_151_16, s_151_17, s_151_20, s_151_20_n, s_151_21, s_151_22, s_151_25, s_151_26, s_151_27, s_151_27_n, s_151_28, s_151_32, s_151_34, s_151_37, s_151_37_n, s_151_38, s_151_40, s_151_43, s_151_46, s_151_46_n, s_151_47, s_151_47_i, s_151_48, s_151_51, s_151_52, s_151_53, s_151_56, s_151_56_n, s_151_57, s_151_60, s_151_63, s_151_66, s_151_66_n, s_151_67, s_151_70, s_151_73, s_151_73_n, s_151_74, s_151_77, s_151_77_n, s_151_78, s_151_81, s_151_84, s_151_85, s_151_88, s_151_89, ↓reduceIte, eq_self, rts_some, rts_none, nq_int, nq_ref, nq_null, nq_none, okr1_0, okr1_1, okr_b, List.length_nil, List.length_cons, Nat.zero_le, Nat.reduceAdd, Nat.reduceLeDiff, b2i_0, b2i_n0, b2i_1, b2i_n1, ite_not, if_true, if_false, not_true_eq_false, not_false_eq_true, true_and, and_true, false_and, and_false, mg_now, mg_mind, mg_then, mp_kept, mg_kept, mg_text, mp_texted, mg_texted, mg_rules, mg_sizes, mp_ruled, mg_ruled, mg_read, mp_size, mg_size, mp_at, mg_at, mp_well, mg_well, mp_within, mg_within, mp_sum, mg_sum, mp_free, mg_free, mg_names, mg_letters, mg_begins, mg_words, mg_sums, mg_above, mg_bodies, mg_trace, mp_ran, mg_ran, mg_sorts, mg_lengths, mg_items, mg_moved, ma_now, ms_now, ma_mind, ms_mind, ma_then, ms_then, ma_text, ms_text, ma_rules, ms_rules, ma_sizes, ms_sizes, ma_read, ms_read, ma_names, ms_names, ma_letters, ma_begins, ma_words, ma_sums, ms_sums, ma_above, ma_bodies, ma_trace, ms_trace, ma_sorts, ms_sorts, ma_lengths, ms_lengths, ma_items, ms_items, ma_moved, ms_moved, mcv, cl_0, cl_1, cl_2, cl_3, cl_4, cl_5, cl_6, cl_7, cl_8, cl_9, cl_10, cl_11, cl_12, cl_13, cl_14, cl_15, cl_16, cl_17, cl_18, cl_19, cl_20, cl_21, cl_22, cl_23, cl_24, cl_25, cl_26, cl_27, cl_28, cl_29, cl_30, cl_31, cl_68, cl_69, cl_70, cl_71, cl_82, cl_103, ix_0_120, ix_1_120, ix_2_120, ix_3_120, ix_4_120, ix_5_120, ix_6_120, ix_7_120, ix_8_120, ix_9_120, ix_10_120, ix_11_120, ix_12_120, ix_13_120, ix_68_120, ix_69_120, ix_70_120, ix_71_120, ix_82_120, ix_103_120, ix_0_6, ix_1_6, ix_2_6, ix_3_6, ix_4_6, ix_5_6, ix_0_12, ix_1_12, ix_2_12, ix_3_12, ix_4_12, ix_5_12, ix_6_12, ix_7_12, ix_8_12, ix_9_12, ix_10_12, ix_11_12, pu_4, pu_5, pu_7, pu_8, okv1_1]
  rw [show (0 : Int32) = nI 0 from rfl]
  refine m_clause hn hn1 (Nat.zero_le n) d _ ?_
  have hadv := pCl_adv (ar 7) n 0 (Nat.zero_le n)
  unfold pAll at H
  generalize pCl (ar 7) n 0 = r at H hadv ⊢
  obtain ⟨o, a1, c⟩ := r
  simp only at hadv
  cases o
  · refine ⟨fun h => (by cases h), fun _ w' s' f' => ?_⟩
    simp only [↓reduceIte, eq_self, rts_some, rts_none, nq_int, nq_ref, nq_null, nq_none, okr1_0, okr1_1, okr_b, List.length_nil, List.length_cons, Nat.zero_le, Nat.reduceAdd, Nat.reduceLeDiff, b2i_0, b2i_n0, b2i_1, b2i_n1, ite_not, if_true, if_false, not_true_eq_false, not_false_eq_true, true_and, and_true, false_and, and_false]
    exact m_ra31_0 hn hn1 (by omega) _ _ (H.2 rfl _ _ _ _)
  · refine ⟨fun _ w' => ?_, fun h => (by cases h)⟩
    simp only [↓reduceIte, eq_self, rts_some, rts_none, nq_int, nq_ref, nq_null, nq_none, okr1_0, okr1_1, okr_b, List.length_nil, List.length_cons, Nat.zero_le, Nat.reduceAdd, Nat.reduceLeDiff, b2i_0, b2i_n0, b2i_1, b2i_n1, ite_not, if_true, if_false, not_true_eq_false, not_false_eq_true, true_and, and_true, false_and, and_false]
    refine m_ra31 hn hn1 d Q 9 1 a1 _ _ _ rfl (by omega) ?_
    simp only at H
    have had := pCls_adv (ar 7) n 9 a1 (by omega)
    generalize pCls (ar 7) n 9 a1 = r2 at H had
    obtain ⟨o2, a2, l⟩ := r2
    simp only at H had ⊢
    refine ⟨fun h w' => ?_, fun h w' s' f' => ?_⟩
    · simp only at h
      subst h
      by_cases h9 : a2 = n
      · subst h9
        have := H.1 (by simp) w'
        rw [show b2i (a2 = a2) = 1 by simp [b2i]]
        exact this
      · have := H.2 (by simp [h9]) 1 w'
        simpa [b2i, h9] using this _ _
    · simp only at h
      subst h
      exact H.2 (by simp) 0 w' s' f'
end
