/-! Days one by one; what comes; how dear. -/
def SW (sc : Nat → Int32) (ar : Nat → Nat → Int32) (sc' : Nat → Int32) (ar' : Nat → Nat → Int32) : Prop := ES sc sc' ∧ EA ar ar' ∧ N8 ar'
theorem SE_SW {a b : Nat → Int32} {x y : Nat → Nat → Int32} (h : SE a x b y) : SW a x b y := ⟨h.1, h.2.1, h.2.2.1⟩
theorem SW_trans {a b c : Nat → Int32} {x y z : Nat → Nat → Int32} (h : SW a x b y) (g : SW b y c z) : SW a x c z := ⟨ES_trans h.1 g.1, EA_trans h.2.1 g.2.1, g.2.2⟩
theorem SW_1 {a b : Nat → Int32} {x y : Nat → Nat → Int32} (h : SW a x b y) : y 1 = x 1 := h.2.1.1
theorem SW_refl {a : Nat → Int32} {x : Nat → Nat → Int32} (h : N8 x) : SW a x a x := ⟨ES_refl a, EA_refl x, h⟩
theorem SW_set {a b : Nat → Int32} {x y : Nat → Nat → Int32} {N : Nat → Int32} (h : SW a (va_up x 1 N) b y) (M : Nat → Int32) : SW a (va_up x 1 M) b (va_up y 1 M) := by
  obtain ⟨hs, ⟨h1, h3, h4, h5, h6, h7, h8, h9⟩, h10⟩ := h
  exact ⟨hs, ⟨rfl, h3, h4, h5, h6, h7, h8, h9⟩, h10⟩
/-- a trial: the world comes back -/
theorem SW_back {a b : Nat → Int32} {x y : Nat → Nat → Int32} {N f : Nat → Int32} (h : SE a (va_up (va_up x 2 f) 1 N) b y) : SW a x b (va_up y 1 (x 1)) := by
  obtain ⟨hs, ⟨h1, h3, h4, h5, h6, h7, h8, h9⟩, h10, h11⟩ := h
  exact ⟨hs, ⟨rfl, h3, h4, h5, h6, h7, h8, h9⟩, h10⟩
theorem N8_2 {ar : Nat → Nat → Int32} {f : Nat → Int32} (h : N8 ar) : N8 (va_up ar 2 f) := h
theorem Rule_2 {ar : Nat → Nat → Int32} {f : Nat → Int32} {cl : List Cls} (h : RuleOK ar cl) : RuleOK (va_up ar 2 f) cl := RuleOK_of rfl rfl rfl h
section
variable {V : Nat → Option AE} {Ev : Nat → Value} {d : Nat} {Q : Option Value → HS → Prop}
variable {b : Nat} {lg : Nat → Nat → Int64} {G : Nat → Option AE} {z : Nat × Nat} {cl : List Cls}
theorem m_days_l {c n : Nat} (hn : n ≤ 60) {N : Nat → Int32} (hc : c6 N c) (hS : isS (N 12)) : ∀ m j, j + m = n → ∀ (sc : Nat → Int32) (ar : Nat → Nat → Int32), N8 ar → RuleOK ar cl → ar 1 = daysF N cl j → (∀ sc' ar', SE sc (va_up ar 1 (daysF N cl n)) sc' ar' → Q none (MH b sc' ar' lg G z)) → wp V (cdT Ev) mx (d + 25) 162 2 [some (.ref b), some (.int (nI n)), some (.int (nI j))] [] (MH b sc ar lg G z) Q := by
  intro m
  induction m with
  | zero =>
    intro j hj sc ar h8 hr h1 H
    obtain rfl : j = n := by omega
    have hle : (nI j ≤ nI j) = True := eq_true (nI_le (by omega) (by omega))
    rw [s_162_2]
    simp only [s_162_0, s_162_1, s_162_3, s_162_4, s_162_7, s_162_7_n, s_162_8, s_162_11, s_162_14, s_162_17, ↓reduceIte, eq_self, rts_some, rts_none, nq_int, nq_ref, nq_null, nq_none, okr1_0, okr1_1, okr_b, List.length_nil, List.length_cons, Nat.zero_le, Nat.reduceAdd, Nat.reduceLeDiff, b2i_0, b2i_n0, b2i_1, b2i_n1, ite_not, if_true, if_false, not_true_eq_false, not_false_eq_true, true_and, and_true, false_and, and_false, hle]
    refine H _ _ ?_
    rw [← h1, va_us]
    exact SE_refl h8
  | succ m ih =>
    intro j hj sc ar h8 hr h1 H
    have hlt : (nI n ≤ nI j) = False := eq_false (nI_ge (by omega) (by omega))
    rw [s_162_2]
    simp only [s_162_0, s_162_1, s_162_3, s_162_4, s_162_7, s_162_7_n, s_162_8, s_162_11, s_162_14, s_162_17, ↓reduceIte, eq_self, rts_some, rts_none, nq_int, nq_ref, nq_null, nq_none, okr1_0, okr1_1, okr_b, List.length_nil, List.length_cons, Nat.zero_le, Nat.reduceAdd, Nat.reduceLeDiff, b2i_0, b2i_n0, b2i_1, b2i_n1, ite_not, if_true, if_false, not_true_eq_false, not_false_eq_true, true_and, and_true, false_and, and_false, mg_now, mg_mind, mg_then, mp_kept, mg_kept, mg_text, mp_texted, mg_texted, mg_rules, mg_sizes, mp_ruled, mg_ruled, mg_read, mp_size, mg_size, mp_at, mg_at, mp_well, mg_well, mp_within, mg_within, mp_sum, mg_sum, mp_free, mg_free, mg_names, mg_letters, mg_begins, mg_words, mg_sums, mg_above, mg_bodies, mg_trace, mp_ran, mg_ran, mg_sorts, mg_lengths, mg_items, mg_moved, ma_now, ms_now, ma_mind, ms_mind, ma_then, ms_then, ma_text, ms_text, ma_rules, ms_rules, ma_sizes, ms_sizes, ma_read, ms_read, ma_names, ms_names, ma_letters, ma_begins, ma_words, ma_sums, ms_sums, ma_above, ma_bodies, ma_trace, ms_trace, ma_sorts, ms_sorts, ma_lengths, ms_lengths, ma_items, ms_items, ma_moved, ms_moved, mcv, hlt]
    refine m_day (d := d) (c := c) (by rw [h1]; exact daysF_c hc j) (by rw [h1]; exact daysF_12 hS j) h8 hr (fun sc' ar' hse => ?_)
    have e1 : ar' 1 = daysF N cl (j + 1) := by
      rw [SE_1 hse, va_up1, h1]
      rfl
    simp only [s_162_0, s_162_1, s_162_3, s_162_4, s_162_7, s_162_7_n, s_162_8, s_162_11, s_162_14, s_162_17, ↓reduceIte, eq_self, rts_some, rts_none, nq_int, nq_ref, nq_null, nq_none, okr1_0, okr1_1, okr_b, List.length_nil, List.length_cons, Nat.zero_le, Nat.reduceAdd, Nat.reduceLeDiff, b2i_0, b2i_n0, b2i_1, b2i_n1, ite_not, if_true, if_false, not_true_eq_false, not_false_eq_true, true_and, and_true, false_and, and_false, nI_1]
    refine ih (j + 1) (by omega) sc' ar' (SE_8 hse) (SE_r hse (RuleOK_up ?_ hr)) e1 (fun sc2 ar2 hse2 => H _ _ (SE_trans (SE_set hse _) hse2))
    rw [h1]
    exact dayF_70 (daysF_c hc j)
theorem m_days {c n : Nat} (hn : n ≤ 60) {sc : Nat → Int32} {ar : Nat → Nat → Int32} (hc : c6 (ar 1) c) (hS : isS (ar 1 12)) (h8 : N8 ar) (hr : RuleOK ar cl) (H : ∀ sc' ar', SE sc (va_up ar 1 (daysF (ar 1) cl n)) sc' ar' → Q none (MH b sc' ar' lg G z)) : WP V (cdT Ev) mx (d + 26) 162 [.ref b, .int (nI n)] (MH b sc ar lg G z) Q := by
  rw [e_162]
  simp only [s_162_0, s_162_1, ↓reduceIte, eq_self, rts_some, rts_none, nq_int, nq_ref, nq_null, nq_none, okr1_0, okr1_1, okr_b, List.length_nil, List.length_cons, Nat.zero_le, Nat.reduceAdd, Nat.reduceLeDiff, b2i_0, b2i_n0, b2i_1, b2i_n1, ite_not, if_true, if_false, not_true_eq_false, not_false_eq_true, true_and, and_true, false_and, and_false]
  exact m_days_l hn hc hS n 0 (by omega) sc ar h8 hr rfl H
theorem m_beyond_l {c : Nat} {sc : Nat → Int32} {ar : Nat → Nat → Int32} (hc : c6 (ar 1) c) : ∀ m j, j + m = c → wp V (cdT Ev) mx (d + 1) 163 4 [some (.ref b), some (.int (beF (ar 1) j)), some (.int (nI j))] [] (MH b sc ar lg G z) Q = Q (some (.int (beF (ar 1) c))) (MH b sc ar lg G z) := by
  intro m
  have hc6 := hc.2
  induction m with
  | zero =>
    intro j hj
    obtain rfl : j = c := by omega
    have hle : (nI j ≤ nI j) = True := eq_true (nI_le (by omega) (by omega))
    rw [s_163_4]
    simp only [s_163_0, s_163_1, s_163_2, s_163_3, s_163_5, s_163_5_n, s_163_6, s_163_9, s_163_11, s_163_12, s_163_15, s_163_16, s_163_16_n, s_163_17, s_163_18, s_163_19, s_163_22, s_163_23, s_163_24, s_163_25, s_163_26, s_163_29, s_163_32, s_163_33, ↓reduceIte, eq_self, rts_some, rts_none, nq_int, nq_ref, nq_null, nq_none, okr1_0, okr1_1, okr_b, List.length_nil, List.length_cons, Nat.zero_le, Nat.reduceAdd, Nat.reduceLeDiff, b2i_0, b2i_n0, b2i_1, b2i_n1, ite_not, if_true, if_false, not_true_eq_false, not_false_eq_true, true_and, and_true, false_and, and_false, mg_now, mg_mind, mg_then, mp_kept, mg_kept, mg_text, mp_texted, mg_texted, mg_rules, mg_sizes, mp_ruled, mg_ruled, mg_read, mp_size, mg_size, mp_at, mg_at, mp_well, mg_well, mp_within, mg_within, mp_sum, mg_sum, mp_free, mg_free, mg_names, mg_letters, mg_begins, mg_words, mg_sums, mg_above, mg_bodies, mg_trace, mp_ran, mg_ran, mg_sorts, mg_lengths, mg_items, mg_moved, ma_now, ms_now, ma_mind, ms_mind, ma_then, ms_then, ma_text, ms_text, ma_rules, ms_rules, ma_sizes, ms_sizes, ma_read, ms_read, ma_names, ms_names, ma_letters, ma_begins, ma_words, ma_sums, ms_sums, ma_above, ma_bodies, ma_trace, ms_trace, ma_sorts, ms_sorts, ma_lengths, ms_lengths, ma_items, ms_items, ma_moved, ms_moved, mcv, cl_0, cl_1, cl_2, cl_3, cl_4, cl_5, cl_6, cl_7, cl_8, cl_9, cl_10, cl_11, cl_12, cl_13, cl_14, cl_15, cl_16, cl_17, cl_18, cl_19, cl_20, cl_21, cl_22, cl_23, cl_24, cl_25, cl_26, cl_27, cl_28, cl_29, cl_30, cl_31, cl_68, cl_69, cl_70, cl_71, cl_82, cl_103, ix_0_120, ix_1_120, ix_2_120, ix_3_120, ix_4_120, ix_5_120, ix_6_120, ix_7_120, ix_8_120, ix_9_120, ix_10_120, ix_11_120, ix_12_120, ix_13_120, ix_68_120, ix_69_120, ix_70_120, ix_71_120, ix_82_120, ix_103_120, ix_0_6, ix_1_6, ix_2_6, ix_3_6, ix_4_6, ix_5_6, ix_0_12, ix_1_12, ix_2_12, ix_3_12, ix_4_12, ix_5_12, ix_6_12, ix_7_12, ix_8_12, ix_9_12, ix_10_12, ix_11_12, hc.1, hle]
  | succ m ih =>
    intro j hj
    have hlt : (nI c ≤ nI j) = False := eq_false (nI_ge (by omega) (by omega))
    rw [s_163_4]
    simp only [s_163_0, s_163_1, s_163_2, s_163_3, s_163_5, s_163_5_n, s_163_6, s_163_9, s_163_11, s_163_12, s_163_15, s_163_16, s_163_16_n, s_163_17, s_163_18, s_163_19, s_163_22, s_163_23, s_163_24, s_163_25, s_163_26, s_163_29, s_163_32, s_163_33, ↓reduceIte, eq_self, rts_some, rts_none, nq_int, nq_ref, nq_null, nq_none, okr1_0, okr1_1, okr_b, List.length_nil, List.length_cons, Nat.zero_le, Nat.reduceAdd, Nat.reduceLeDiff, b2i_0, b2i_n0, b2i_1, b2i_n1, ite_not, if_true, if_false, not_true_eq_false, not_false_eq_true, true_and, and_true, false_and, and_false, mg_now, mg_mind, mg_then, mp_kept, mg_kept, mg_text, mp_texted, mg_texted, mg_rules, mg_sizes, mp_ruled, mg_ruled, mg_read, mp_size, mg_size, mp_at, mg_at, mp_well, mg_well, mp_within, mg_within, mp_sum, mg_sum, mp_free, mg_free, mg_names, mg_letters, mg_begins, mg_words, mg_sums, mg_above, mg_bodies, mg_trace, mp_ran, mg_ran, mg_sorts, mg_lengths, mg_items, mg_moved, ma_now, ms_now, ma_mind, ms_mind, ma_then, ms_then, ma_text, ms_text, ma_rules, ms_rules, ma_sizes, ms_sizes, ma_read, ms_read, ma_names, ms_names, ma_letters, ma_begins, ma_words, ma_sums, ms_sums, ma_above, ma_bodies, ma_trace, ms_trace, ma_sorts, ms_sorts, ma_lengths, ms_lengths, ma_items, ms_items, ma_moved, ms_moved, mcv, cl_0, cl_1, cl_2, cl_3, cl_4, cl_5, cl_6, cl_7, cl_8, cl_9, cl_10, cl_11, cl_12, cl_13, cl_14, cl_15, cl_16, cl_17, cl_18, cl_19, cl_20, cl_21, cl_22, cl_23, cl_24, cl_25, cl_26, cl_27, cl_28, cl_29, cl_30, cl_31, cl_68, cl_69, cl_70, cl_71, cl_82, cl_103, ix_0_120, ix_1_120, ix_2_120, ix_3_120, ix_4_120, ix_5_120, ix_6_120, ix_7_120, ix_8_120, ix_9_120, ix_10_120, ix_11_120, ix_12_120, ix_13_120, ix_68_120, ix_69_120, ix_70_120, ix_71_120, ix_82_120, ix_103_120, ix_0_6, ix_1_6, ix_2_6, ix_3_6, ix_4_6, ix_5_6, ix_0_12, ix_1_12, ix_2_12, ix_3_12, ix_4_12, ix_5_12, ix_6_12, ix_7_12, ix_8_12, ix_9_12, ix_10_12, ix_11_12, hc.1, hlt, q_number_3 (show j < 6 by omega), nI_1]
    exact ih (j + 1) (by omega)
theorem m_beyond {c : Nat} {sc : Nat → Int32} {ar : Nat → Nat → Int32} (hc : c6 (ar 1) c) : WP V (cdT Ev) mx (d + 2) 163 [.ref b] (MH b sc ar lg G z) Q = Q (some (.int (beF (ar 1) c))) (MH b sc ar lg G z) := by
  rw [e_163]
  simp only [s_163_0, s_163_1, s_163_2, s_163_3, s_163_5, s_163_5_n, s_163_6, s_163_9, s_163_11, s_163_12, s_163_15, s_163_16, s_163_16_n, s_163_17, s_163_18, s_163_19, s_163_22, s_163_23, s_163_24, s_163_25, s_163_26, s_163_29, s_163_32, s_163_33, ↓reduceIte, eq_self, rts_some, rts_none, nq_int, nq_ref, nq_null, nq_none, okr1_0, okr1_1, okr_b, List.length_nil, List.length_cons, Nat.zero_le, Nat.reduceAdd, Nat.reduceLeDiff, b2i_0, b2i_n0, b2i_1, b2i_n1, ite_not, if_true, if_false, not_true_eq_false, not_false_eq_true, true_and, and_true, false_and, and_false]
  exact m_beyond_l hc c 0 (by omega)
theorem m_comes60 {sc : Nat → Int32} {ar : Nat → Nat → Int32} {s x n : Int32} : wp V (cdT Ev) mx (d + 1) 164 60 [some (.ref b), some (.int s), some (.int x), some (.int n)] [] (MH b sc ar lg G z) Q = Q (some (.int x)) (MH b sc (va_up ar 1 (cpN 120 (ar 2) (ar 1))) lg G z) := by
  simp only [s_164_0, s_164_0_n, s_164_1, s_164_4, s_164_4_n, s_164_5, s_164_8, s_164_11, s_164_13, s_164_14, s_164_15, s_164_17, s_164_19, s_164_22, s_164_23, s_164_25, s_164_28, s_164_28_n, s_164_29, s_164_32, s_164_34, s_164_35, s_164_36, s_164_37, s_164_38, s_164_39, s_164_40, s_164_43, s_164_44, s_164_47, s_164_49, s_164_50, s_164_50_n, s_164_51, s_164_54, s_164_57, s_164_60, s_164_60_n, s_164_61, s_164_64, s_164_64_n, s_164_65, s_164_68, s_164_71, s_164_72, ↓reduceIte, eq_self, rts_some, rts_none, nq_int, nq_ref, nq_null, nq_none, okr1_0, okr1_1, okr_b, List.length_nil, List.length_cons, Nat.zero_le, Nat.reduceAdd, Nat.reduceLeDiff, b2i_0, b2i_n0, b2i_1, b2i_n1, ite_not, if_true, if_false, not_true_eq_false, not_false_eq_true, true_and, and_true, false_and, and_false, mg_now, mg_mind, mg_then, mp_kept, mg_kept, mg_text, mp_texted, mg_texted, mg_rules, mg_sizes, mp_ruled, mg_ruled, mg_read, mp_size, mg_size, mp_at, mg_at, mp_well, mg_well, mp_within, mg_within, mp_sum, mg_sum, mp_free, mg_free, mg_names, mg_letters, mg_begins, mg_words, mg_sums, mg_above, mg_bodies, mg_trace, mp_ran, mg_ran, mg_sorts, mg_lengths, mg_items, mg_moved, ma_now, ms_now, ma_mind, ms_mind, ma_then, ms_then, ma_text, ms_text, ma_rules, ms_rules, ma_sizes, ms_sizes, ma_read, ms_read, ma_names, ms_names, ma_letters, ma_begins, ma_words, ma_sums, ms_sums, ma_above, ma_bodies, ma_trace, ms_trace, ma_sorts, ms_sorts, ma_lengths, ms_lengths, ma_items, ms_items, ma_moved, ms_moved, mcv, m_move_21]
theorem nI_n5 {n : Nat} (h : n ≤ 100) : (nI n = -5) = False := eq_false (fun e => by
  have := nI_toInt (n := n) (by omega)
  rw [e] at this
  have h2 : ((-5 : Int32).toInt) = -5 := by decide
  omega)
theorem m_comes_l {c s : Nat} (hs : s < 12) {N f0 : Nat → Int32} (hc : c6 N c) (hS : isS (N 12)) : ∀ m j, j + m = 61 → ∀ (sc : Nat → Int32) (ar : Nat → Nat → Int32), N8 ar → RuleOK ar cl → ar 1 = daysF N cl j → (∀ sc' ar', SE sc (va_up ar 1 N) sc' ar' → Q (some (.int (comF N cl s m j))) (MH b sc' (va_up ar' 1 (cpN 120 (ar' 2) (ar' 1))) lg G z)) → (∀ k, 120 ≤ k → ar 1 k = N k) → ar 2 = cpN 120 N f0 → wp V (cdT Ev) mx (d + 25) 164 16 [some (.ref b), some (.int (nI s)), some (.int (-5)), some (.int (nI j))] [] (MH b sc ar lg G z) Q := by
  intro m
  induction m with
  | zero =>
    intro j hj sc ar h8 hr h1 H hk h2
    obtain rfl : j = 61 := by omega
    have hle : ((60 : Int32) < nI 61) = True := by decide
    rw [s_164_16]
    simp only [s_164_0, s_164_0_n, s_164_1, s_164_4, s_164_4_n, s_164_5, s_164_8, s_164_11, s_164_13, s_164_14, s_164_15, s_164_17, s_164_19, s_164_22, s_164_23, s_164_25, s_164_28, s_164_28_n, s_164_29, s_164_32, s_164_34, s_164_35, s_164_36, s_164_37, s_164_38, s_164_39, s_164_40, s_164_43, s_164_44, s_164_47, s_164_49, s_164_50, s_164_50_n, s_164_51, s_164_54, s_164_57, s_164_61, s_164_64, s_164_64_n, s_164_65, s_164_68, s_164_71, s_164_72, ↓reduceIte, eq_self, rts_some, rts_none, nq_int, nq_ref, nq_null, nq_none, okr1_0, okr1_1, okr_b, List.length_nil, List.length_cons, Nat.zero_le, Nat.reduceAdd, Nat.reduceLeDiff, b2i_0, b2i_n0, b2i_1, b2i_n1, ite_not, if_true, if_false, not_true_eq_false, not_false_eq_true, true_and, and_true, false_and, and_false, hle]
    rw [m_comes60 (d := d + 24)]
    have := H sc (va_up ar 1 N) (SE_refl (N8_up h8))
    rw [va_uu, va_up1, show va_up ar 1 N 2 = ar 2 from rfl, h2, cp_back (fun k hk => rfl)] at this
    rw [h2, cp_back hk]
    exact this
  | succ m ih =>
    intro j hj sc ar h8 hr h1 H hk h2
    have hlt : ((60 : Int32) < nI j) = False := eq_false (nI_nlt (a := 60) (b := j) (by omega) (by decide))
    have hc' : c6 (ar 1) c := by rw [h1]; exact daysF_c hc j
    have hS' : isS (ar 1 12) := by rw [h1]; exact daysF_12 hS j
    rw [s_164_16]
    by_cases hb : bt (ar 1 13) s = 1
    · have hb' : (((ar 1 13 >>> (nI s &&& 31)) &&& 1) = 1) = True := eq_true hb
      simp only [s_164_0, s_164_0_n, s_164_1, s_164_4, s_164_4_n, s_164_5, s_164_8, s_164_11, s_164_13, s_164_14, s_164_15, s_164_17, s_164_19, s_164_22, s_164_23, s_164_25, s_164_28, s_164_28_n, s_164_29, s_164_32, s_164_34, s_164_35, s_164_36, s_164_37, s_164_38, s_164_39, s_164_40, s_164_43, s_164_44, s_164_47, s_164_49, s_164_50, s_164_50_n, s_164_51, s_164_54, s_164_57, s_164_61, s_164_64, s_164_64_n, s_164_65, s_164_68, s_164_71, s_164_72, ↓reduceIte, eq_self, rts_some, rts_none, nq_int, nq_ref, nq_null, nq_none, okr1_0, okr1_1, okr_b, List.length_nil, List.length_cons, Nat.zero_le, Nat.reduceAdd, Nat.reduceLeDiff, b2i_0, b2i_n0, b2i_1, b2i_n1, ite_not, if_true, if_false, not_true_eq_false, not_false_eq_true, true_and, and_true, false_and, and_false, mg_now, mg_mind, mg_then, mp_kept, mg_kept, mg_text, mp_texted, mg_texted, mg_rules, mg_sizes, mp_ruled, mg_ruled, mg_read, mp_size, mg_size, mp_at, mg_at, mp_well, mg_well, mp_within, mg_within, mp_sum, mg_sum, mp_free, mg_free, mg_names, mg_letters, mg_begins, mg_words, mg_sums, mg_above, mg_bodies, mg_trace, mp_ran, mg_ran, mg_sorts, mg_lengths, mg_items, mg_moved, ma_now, ms_now, ma_mind, ms_mind, ma_then, ms_then, ma_text, ms_text, ma_rules, ms_rules, ma_sizes, ms_sizes, ma_read, ms_read, ma_names, ms_names, ma_letters, ma_begins, ma_words, ma_sums, ms_sums, ma_above, ma_bodies, ma_trace, ms_trace, ma_sorts, ms_sorts, ma_lengths, ms_lengths, ma_items, ms_items, ma_moved, ms_moved, mcv, cl_0, cl_1, cl_2, cl_3, cl_4, cl_5, cl_6, cl_7, cl_8, cl_9, cl_10, cl_11, cl_12, cl_13, cl_14, cl_15, cl_16, cl_17, cl_18, cl_19, cl_20, cl_21, cl_22, cl_23, cl_24, cl_25, cl_26, cl_27, cl_28, cl_29, cl_30, cl_31, cl_68, cl_69, cl_70, cl_71, cl_82, cl_103, ix_0_120, ix_1_120, ix_2_120, ix_3_120, ix_4_120, ix_5_120, ix_6_120, ix_7_120, ix_8_120, ix_9_120, ix_10_120, ix_11_120, ix_12_120, ix_13_120, ix_68_120, ix_69_120, ix_70_120, ix_71_120, ix_82_120, ix_103_120, ix_0_6, ix_1_6, ix_2_6, ix_3_6, ix_4_6, ix_5_6, ix_0_12, ix_1_12, ix_2_12, ix_3_12, ix_4_12, ix_5_12, ix_6_12, ix_7_12, ix_8_12, ix_9_12, ix_10_12, ix_11_12, hlt, hb']
      refine m_day (d := d) hc' hS' h8 hr (fun sc' ar' hse => ?_)
      have hj5 : (nI j = -5) = False := nI_n5 (by omega)
      simp only [s_164_0, s_164_0_n, s_164_1, s_164_4, s_164_4_n, s_164_5, s_164_8, s_164_11, s_164_13, s_164_14, s_164_15, s_164_17, s_164_19, s_164_22, s_164_23, s_164_25, s_164_28, s_164_28_n, s_164_29, s_164_32, s_164_34, s_164_35, s_164_36, s_164_37, s_164_38, s_164_39, s_164_40, s_164_43, s_164_44, s_164_47, s_164_49, s_164_50, s_164_50_n, s_164_51, s_164_54, s_164_57, s_164_61, s_164_64, s_164_64_n, s_164_65, s_164_68, s_164_71, s_164_72, ↓reduceIte, eq_self, rts_some, rts_none, nq_int, nq_ref, nq_null, nq_none, okr1_0, okr1_1, okr_b, List.length_nil, List.length_cons, Nat.zero_le, Nat.reduceAdd, Nat.reduceLeDiff, b2i_0, b2i_n0, b2i_1, b2i_n1, ite_not, if_true, if_false, not_true_eq_false, not_false_eq_true, true_and, and_true, false_and, and_false, nI_1]
      rw [s_164_16]
      have eH := H sc' (va_up ar' 1 N) (SE_set hse N)
      have e2 : ar' 2 = cpN 120 N f0 := by
        rw [hse.2.2.2]
        exact h2
      have ek : ∀ k, 120 ≤ k → ar' 1 k = N k := by
        intro k hk2
        rw [SE_1 hse, va_up1, dayF_out hc' (fun i hi => by omega) (by omega) (by omega) (by omega)]
        exact hk k hk2
      rw [va_uu, va_up1, show va_up ar' 1 N 2 = ar' 2 from rfl, e2, cp_back (fun k hk => rfl)] at eH
      rw [comF, if_pos (show bt (daysF N cl j 13) s = 1 by rw [← h1]; exact hb)] at eH
      by_cases h60 : (60 : Int32) < nI (j + 1)
      · simp only [s_164_0, s_164_0_n, s_164_1, s_164_4, s_164_4_n, s_164_5, s_164_8, s_164_11, s_164_13, s_164_14, s_164_15, s_164_17, s_164_19, s_164_22, s_164_23, s_164_25, s_164_28, s_164_28_n, s_164_29, s_164_32, s_164_34, s_164_35, s_164_36, s_164_37, s_164_38, s_164_39, s_164_40, s_164_43, s_164_44, s_164_47, s_164_49, s_164_50, s_164_50_n, s_164_51, s_164_54, s_164_57, s_164_61, s_164_64, s_164_64_n, s_164_65, s_164_68, s_164_71, s_164_72, ↓reduceIte, eq_self, rts_some, rts_none, nq_int, nq_ref, nq_null, nq_none, okr1_0, okr1_1, okr_b, List.length_nil, List.length_cons, Nat.zero_le, Nat.reduceAdd, Nat.reduceLeDiff, b2i_0, b2i_n0, b2i_1, b2i_n1, ite_not, if_true, if_false, not_true_eq_false, not_false_eq_true, true_and, and_true, false_and, and_false, h60]
        rw [m_comes60 (d := d + 24), e2, cp_back ek]
        exact eH
      · simp only [s_164_0, s_164_0_n, s_164_1, s_164_4, s_164_4_n, s_164_5, s_164_8, s_164_11, s_164_13, s_164_14, s_164_15, s_164_17, s_164_19, s_164_22, s_164_23, s_164_25, s_164_28, s_164_28_n, s_164_29, s_164_32, s_164_34, s_164_35, s_164_36, s_164_37, s_164_38, s_164_39, s_164_40, s_164_43, s_164_44, s_164_47, s_164_49, s_164_50, s_164_50_n, s_164_51, s_164_54, s_164_57, s_164_61, s_164_64, s_164_64_n, s_164_65, s_164_68, s_164_71, s_164_72, ↓reduceIte, eq_self, rts_some, rts_none, nq_int, nq_ref, nq_null, nq_none, okr1_0, okr1_1, okr_b, List.length_nil, List.length_cons, Nat.zero_le, Nat.reduceAdd, Nat.reduceLeDiff, b2i_0, b2i_n0, b2i_1, b2i_n1, ite_not, if_true, if_false, not_true_eq_false, not_false_eq_true, true_and, and_true, false_and, and_false, h60, hj5]
        rw [m_comes60 (d := d + 24), e2, cp_back ek]
        exact eH
    · have hb' : (((ar 1 13 >>> (nI s &&& 31)) &&& 1) = 1) = False := eq_false hb
      simp only [s_164_0, s_164_0_n, s_164_1, s_164_4, s_164_4_n, s_164_5, s_164_8, s_164_11, s_164_13, s_164_14, s_164_15, s_164_17, s_164_19, s_164_22, s_164_23, s_164_25, s_164_28, s_164_28_n, s_164_29, s_164_32, s_164_34, s_164_35, s_164_36, s_164_37, s_164_38, s_164_39, s_164_40, s_164_43, s_164_44, s_164_47, s_164_49, s_164_50, s_164_50_n, s_164_51, s_164_54, s_164_57, s_164_61, s_164_64, s_164_64_n, s_164_65, s_164_68, s_164_71, s_164_72, ↓reduceIte, eq_self, rts_some, rts_none, nq_int, nq_ref, nq_null, nq_none, okr1_0, okr1_1, okr_b, List.length_nil, List.length_cons, Nat.zero_le, Nat.reduceAdd, Nat.reduceLeDiff, b2i_0, b2i_n0, b2i_1, b2i_n1, ite_not, if_true, if_false, not_true_eq_false, not_false_eq_true, true_and, and_true, false_and, and_false, mg_now, mg_mind, mg_then, mp_kept, mg_kept, mg_text, mp_texted, mg_texted, mg_rules, mg_sizes, mp_ruled, mg_ruled, mg_read, mp_size, mg_size, mp_at, mg_at, mp_well, mg_well, mp_within, mg_within, mp_sum, mg_sum, mp_free, mg_free, mg_names, mg_letters, mg_begins, mg_words, mg_sums, mg_above, mg_bodies, mg_trace, mp_ran, mg_ran, mg_sorts, mg_lengths, mg_items, mg_moved, ma_now, ms_now, ma_mind, ms_mind, ma_then, ms_then, ma_text, ms_text, ma_rules, ms_rules, ma_sizes, ms_sizes, ma_read, ms_read, ma_names, ms_names, ma_letters, ma_begins, ma_words, ma_sums, ms_sums, ma_above, ma_bodies, ma_trace, ms_trace, ma_sorts, ms_sorts, ma_lengths, ms_lengths, ma_items, ms_items, ma_moved, ms_moved, mcv, cl_0, cl_1, cl_2, cl_3, cl_4, cl_5, cl_6, cl_7, cl_8, cl_9, cl_10, cl_11, cl_12, cl_13, cl_14, cl_15, cl_16, cl_17, cl_18, cl_19, cl_20, cl_21, cl_22, cl_23, cl_24, cl_25, cl_26, cl_27, cl_28, cl_29, cl_30, cl_31, cl_68, cl_69, cl_70, cl_71, cl_82, cl_103, ix_0_120, ix_1_120, ix_2_120, ix_3_120, ix_4_120, ix_5_120, ix_6_120, ix_7_120, ix_8_120, ix_9_120, ix_10_120, ix_11_120, ix_12_120, ix_13_120, ix_68_120, ix_69_120, ix_70_120, ix_71_120, ix_82_120, ix_103_120, ix_0_6, ix_1_6, ix_2_6, ix_3_6, ix_4_6, ix_5_6, ix_0_12, ix_1_12, ix_2_12, ix_3_12, ix_4_12, ix_5_12, ix_6_12, ix_7_12, ix_8_12, ix_9_12, ix_10_12, ix_11_12, hlt, hb']
      refine m_day (d := d) hc' hS' h8 hr (fun sc' ar' hse => ?_)
      simp only [s_164_0, s_164_0_n, s_164_1, s_164_4, s_164_4_n, s_164_5, s_164_8, s_164_11, s_164_13, s_164_14, s_164_15, s_164_17, s_164_19, s_164_22, s_164_23, s_164_25, s_164_28, s_164_28_n, s_164_29, s_164_32, s_164_34, s_164_35, s_164_36, s_164_37, s_164_38, s_164_39, s_164_40, s_164_43, s_164_44, s_164_47, s_164_49, s_164_50, s_164_50_n, s_164_51, s_164_54, s_164_57, s_164_61, s_164_64, s_164_64_n, s_164_65, s_164_68, s_164_71, s_164_72, ↓reduceIte, eq_self, rts_some, rts_none, nq_int, nq_ref, nq_null, nq_none, okr1_0, okr1_1, okr_b, List.length_nil, List.length_cons, Nat.zero_le, Nat.reduceAdd, Nat.reduceLeDiff, b2i_0, b2i_n0, b2i_1, b2i_n1, ite_not, if_true, if_false, not_true_eq_false, not_false_eq_true, true_and, and_true, false_and, and_false, nI_1]
      refine ih (j + 1) (by omega) sc' ar' (SE_8 hse) (SE_r hse (RuleOK_up (dayF_70 hc') hr)) ?_ (fun sc2 ar2 hse2 => ?_) ?_ ?_
      · rw [SE_1 hse, va_up1, h1]
        rfl
      · have := H sc2 ar2 (SE_trans (SE_set hse N) hse2)
        rw [comF, if_neg (show ¬ bt (daysF N cl j 13) s = 1 by rw [← h1]; exact hb)] at this
        exact this
      · intro k hk2
        rw [SE_1 hse, va_up1, dayF_out hc' (fun i hi => by omega) (by omega) (by omega) (by omega)]
        exact hk k hk2
      · rw [hse.2.2.2]
        exact h2
theorem m_comes {c s : Nat} (hs : s < 12) {sc : Nat → Int32} {ar : Nat → Nat → Int32} (hc : c6 (ar 1) c) (hS : isS (ar 1 12)) (h8 : N8 ar) (hr : RuleOK ar cl) (H : ∀ sc' ar', SW sc ar sc' ar' → Q (some (.int (comF (ar 1) cl s 61 0))) (MH b sc' ar' lg G z)) : WP V (cdT Ev) mx (d + 26) 164 [.ref b, .int (nI s)] (MH b sc ar lg G z) Q := by
  rw [e_164]
  simp only [s_164_0, s_164_0_n, s_164_1, s_164_4, s_164_4_n, s_164_5, s_164_8, s_164_11, s_164_13, s_164_14, s_164_15, s_164_17, s_164_19, s_164_22, s_164_23, s_164_25, s_164_28, s_164_28_n, s_164_29, s_164_32, s_164_34, s_164_35, s_164_36, s_164_37, s_164_38, s_164_39, s_164_40, s_164_43, s_164_44, s_164_47, s_164_49, s_164_50, s_164_50_n, s_164_51, s_164_54, s_164_57, s_164_61, s_164_64, s_164_64_n, s_164_65, s_164_68, s_164_71, s_164_72, ↓reduceIte, eq_self, rts_some, rts_none, nq_int, nq_ref, nq_null, nq_none, okr1_0, okr1_1, okr_b, List.length_nil, List.length_cons, Nat.zero_le, Nat.reduceAdd, Nat.reduceLeDiff, b2i_0, b2i_n0, b2i_1, b2i_n1, ite_not, if_true, if_false, not_true_eq_false, not_false_eq_true, true_and, and_true, false_and, and_false, mg_now, mg_mind, mg_then, mp_kept, mg_kept, mg_text, mp_texted, mg_texted, mg_rules, mg_sizes, mp_ruled, mg_ruled, mg_read, mp_size, mg_size, mp_at, mg_at, mp_well, mg_well, mp_within, mg_within, mp_sum, mg_sum, mp_free, mg_free, mg_names, mg_letters, mg_begins, mg_words, mg_sums, mg_above, mg_bodies, mg_trace, mp_ran, mg_ran, mg_sorts, mg_lengths, mg_items, mg_moved, ma_now, ms_now, ma_mind, ms_mind, ma_then, ms_then, ma_text, ms_text, ma_rules, ms_rules, ma_sizes, ms_sizes, ma_read, ms_read, ma_names, ms_names, ma_letters, ma_begins, ma_words, ma_sums, ms_sums, ma_above, ma_bodies, ma_trace, ms_trace, ma_sorts, ms_sorts, ma_lengths, ms_lengths, ma_items, ms_items, ma_moved, ms_moved, mcv, m_move_12]
  refine m_comes_l (N := ar 1) (f0 := ar 2) hs hc hS 61 0 rfl _ _ (N8_2 h8) (Rule_2 hr) rfl (fun sc' ar' hse => ?_) (fun k hk => rfl) rfl
  have e2 : ar' 2 = cpN 120 (ar 1) (ar 2) := hse.2.2.2
  have e1 : ar' 1 = ar 1 := (SE_1 hse).trans rfl
  rw [e2, e1, cp_back (fun k hk => rfl)]
  refine H _ _ ?_
  exact SW_back hse
theorem m_dear_l {i t : Nat} (hi : i < 6) (ht : t < 12) {N : Nat → Int32} : ∀ m j, j + m = 20 → ∀ (sc : Nat → Int32) (ar : Nat → Nat → Int32) (x : Int32), N8 ar → RuleOK ar cl → ar 1 = upd N t x → (∀ sc' ar', SE sc (va_up ar 1 N) sc' ar' → Q (some (.int (drL N cl i t 20))) (MH b sc' ar' lg G z)) → wp V (cdT Ev) mx (d + 23) 165 27 [some (.ref b), some (.int (nI i)), some (.int (nI t)), some (.int (N t)), some (.int (drL N cl i t j)), some (.int (nI (j + 1)))] [] (MH b sc ar lg G z) Q := by
  intro m
  have hx : ix (nI t) 120 = True := ix_nIT (by omega) (by decide)
  induction m with
  | zero =>
    intro j hj sc ar x h8 hr h1 H
    obtain rfl : j = 20 := by omega
    have hle : ((20 : Int32) < nI (20 + 1)) = True := by decide
    rw [s_165_27]
    simp only [s_165_0, s_165_0_n, s_165_1, s_165_2, s_165_5, s_165_6, s_165_7, s_165_8, s_165_11, s_165_13, s_165_14, s_165_14_n, s_165_15, s_165_18, s_165_19, s_165_20, s_165_21, s_165_22, s_165_24, s_165_25, s_165_29, s_165_31, s_165_34, s_165_34_n, s_165_35, s_165_38, s_165_39, s_165_40, s_165_41, s_165_43, s_165_44, s_165_47, s_165_48, s_165_48_n, s_165_49, s_165_50, s_165_53, s_165_54, s_165_57, s_165_59, s_165_62, s_165_64, s_165_66, s_165_69, s_165_72, s_165_72_n, s_165_73, s_165_76, s_165_77, s_165_78, s_165_79, s_165_81, ↓reduceIte, eq_self, rts_some, rts_none, nq_int, nq_ref, nq_null, nq_none, okr1_0, okr1_1, okr_b, List.length_nil, List.length_cons, Nat.zero_le, Nat.reduceAdd, Nat.reduceLeDiff, b2i_0, b2i_n0, b2i_1, b2i_n1, ite_not, if_true, if_false, not_true_eq_false, not_false_eq_true, true_and, and_true, false_and, and_false, mg_now, mg_mind, mg_then, mp_kept, mg_kept, mg_text, mp_texted, mg_texted, mg_rules, mg_sizes, mp_ruled, mg_ruled, mg_read, mp_size, mg_size, mp_at, mg_at, mp_well, mg_well, mp_within, mg_within, mp_sum, mg_sum, mp_free, mg_free, mg_names, mg_letters, mg_begins, mg_words, mg_sums, mg_above, mg_bodies, mg_trace, mp_ran, mg_ran, mg_sorts, mg_lengths, mg_items, mg_moved, ma_now, ms_now, ma_mind, ms_mind, ma_then, ms_then, ma_text, ms_text, ma_rules, ms_rules, ma_sizes, ms_sizes, ma_read, ms_read, ma_names, ms_names, ma_letters, ma_begins, ma_words, ma_sums, ms_sums, ma_above, ma_bodies, ma_trace, ms_trace, ma_sorts, ms_sorts, ma_lengths, ms_lengths, ma_items, ms_items, ma_moved, ms_moved, mcv, hle, hx, nI_clamp (show t < 2 ^ 31 by omega)]
    rw [h1, upd_uu, upd_us]
    exact H _ _ (SE_refl (N8_up h8))
  | succ m ih =>
    intro j hj sc ar x h8 hr h1 H
    have hlt : ((20 : Int32) < nI (j + 1)) = False := eq_false (nI_nlt (a := 20) (b := j + 1) (by omega) (by decide))
    rw [s_165_27]
    simp only [s_165_0, s_165_0_n, s_165_1, s_165_2, s_165_5, s_165_6, s_165_7, s_165_8, s_165_11, s_165_13, s_165_14, s_165_14_n, s_165_15, s_165_18, s_165_19, s_165_20, s_165_21, s_165_22, s_165_24, s_165_25, s_165_29, s_165_31, s_165_34, s_165_34_n, s_165_35, s_165_38, s_165_39, s_165_40, s_165_41, s_165_43, s_165_44, s_165_47, s_165_48, s_165_48_n, s_165_49, s_165_50, s_165_53, s_165_54, s_165_57, s_165_59, s_165_62, s_165_64, s_165_66, s_165_69, s_165_72, s_165_72_n, s_165_73, s_165_76, s_165_77, s_165_78, s_165_79, s_165_81, ↓reduceIte, eq_self, rts_some, rts_none, nq_int, nq_ref, nq_null, nq_none, okr1_0, okr1_1, okr_b, List.length_nil, List.length_cons, Nat.zero_le, Nat.reduceAdd, Nat.reduceLeDiff, b2i_0, b2i_n0, b2i_1, b2i_n1, ite_not, if_true, if_false, not_true_eq_false, not_false_eq_true, true_and, and_true, false_and, and_false, mg_now, mg_mind, mg_then, mp_kept, mg_kept, mg_text, mp_texted, mg_texted, mg_rules, mg_sizes, mp_ruled, mg_ruled, mg_read, mp_size, mg_size, mp_at, mg_at, mp_well, mg_well, mp_within, mg_within, mp_sum, mg_sum, mp_free, mg_free, mg_names, mg_letters, mg_begins, mg_words, mg_sums, mg_above, mg_bodies, mg_trace, mp_ran, mg_ran, mg_sorts, mg_lengths, mg_items, mg_moved, ma_now, ms_now, ma_mind, ms_mind, ma_then, ms_then, ma_text, ms_text, ma_rules, ms_rules, ma_sizes, ms_sizes, ma_read, ms_read, ma_names, ms_names, ma_letters, ma_begins, ma_words, ma_sums, ms_sums, ma_above, ma_bodies, ma_trace, ms_trace, ma_sorts, ms_sorts, ma_lengths, ms_lengths, ma_items, ms_items, ma_moved, ms_moved, mcv, hlt, hx, nI_clamp (show t < 2 ^ 31 by omega), j_max]
    rw [h1, upd_uu]
    have hr' : RuleOK (va_up ar 1 (upd N t (if 0 < N t - nI (j + 1) then N t - nI (j + 1) else 0))) cl := by
      refine RuleOK_up ?_ hr
      rw [h1, pk_un (by omega), pk_un (by omega)]
    refine m_tip (d := d) hi (N8_up h8) hr' (fun sc' ar' hse _ => ?_)
    simp only [va_up1]
    rw [pk_un (show 14 + 9 * i + 2 ≠ t by omega)]
    have hgo : ∀ y, drL N cl i t (j + 1) = y → wp V (cdT Ev) mx (d + 23) 165 66 [some (.ref b), some (.int (nI i)), some (.int (nI t)), some (.int (N t)), some (.int y), some (.int (nI (j + 1)))] [] (MH b sc' ar' lg G z) Q := by
      intro y hy
      subst hy
      simp only [s_165_0, s_165_0_n, s_165_1, s_165_2, s_165_5, s_165_6, s_165_7, s_165_8, s_165_11, s_165_13, s_165_14, s_165_14_n, s_165_15, s_165_18, s_165_19, s_165_20, s_165_21, s_165_22, s_165_24, s_165_25, s_165_29, s_165_31, s_165_34, s_165_34_n, s_165_35, s_165_38, s_165_39, s_165_40, s_165_41, s_165_43, s_165_44, s_165_47, s_165_48, s_165_48_n, s_165_49, s_165_50, s_165_53, s_165_54, s_165_57, s_165_59, s_165_62, s_165_64, s_165_66, s_165_69, s_165_72, s_165_72_n, s_165_73, s_165_76, s_165_77, s_165_78, s_165_79, s_165_81, ↓reduceIte, eq_self, rts_some, rts_none, nq_int, nq_ref, nq_null, nq_none, okr1_0, okr1_1, okr_b, List.length_nil, List.length_cons, Nat.zero_le, Nat.reduceAdd, Nat.reduceLeDiff, b2i_0, b2i_n0, b2i_1, b2i_n1, ite_not, if_true, if_false, not_true_eq_false, not_false_eq_true, true_and, and_true, false_and, and_false, nI_1]
      exact ih (j + 1) (by omega) sc' ar' _ (SE_8 hse) (SE_r hse hr') (SE_1 hse) (fun sc2 ar2 hse2 => H _ _ (SE_trans (SE_set hse N) hse2))
    by_cases he : tipF (upd N t (if 0 < N t - nI (j + 1) then N t - nI (j + 1) else 0)) cl i (N (14 + 9 * i + 2)) = nI t
    · simp only [s_165_0, s_165_0_n, s_165_1, s_165_2, s_165_5, s_165_6, s_165_7, s_165_8, s_165_11, s_165_13, s_165_14, s_165_14_n, s_165_15, s_165_18, s_165_19, s_165_20, s_165_21, s_165_22, s_165_24, s_165_25, s_165_29, s_165_31, s_165_34, s_165_34_n, s_165_35, s_165_38, s_165_39, s_165_40, s_165_41, s_165_43, s_165_44, s_165_47, s_165_48, s_165_48_n, s_165_49, s_165_50, s_165_53, s_165_54, s_165_57, s_165_59, s_165_62, s_165_64, s_165_69, s_165_72, s_165_72_n, s_165_73, s_165_76, s_165_77, s_165_78, s_165_79, s_165_81, ↓reduceIte, eq_self, rts_some, rts_none, nq_int, nq_ref, nq_null, nq_none, okr1_0, okr1_1, okr_b, List.length_nil, List.length_cons, Nat.zero_le, Nat.reduceAdd, Nat.reduceLeDiff, b2i_0, b2i_n0, b2i_1, b2i_n1, ite_not, if_true, if_false, not_true_eq_false, not_false_eq_true, true_and, and_true, false_and, and_false, he]
      exact hgo _ (by rw [drL, if_pos he])
    · simp only [s_165_0, s_165_0_n, s_165_1, s_165_2, s_165_5, s_165_6, s_165_7, s_165_8, s_165_11, s_165_13, s_165_14, s_165_14_n, s_165_15, s_165_18, s_165_19, s_165_20, s_165_21, s_165_22, s_165_24, s_165_25, s_165_29, s_165_31, s_165_34, s_165_34_n, s_165_35, s_165_38, s_165_39, s_165_40, s_165_41, s_165_43, s_165_44, s_165_47, s_165_48, s_165_48_n, s_165_49, s_165_50, s_165_53, s_165_54, s_165_57, s_165_59, s_165_62, s_165_64, s_165_69, s_165_72, s_165_72_n, s_165_73, s_165_76, s_165_77, s_165_78, s_165_79, s_165_81, ↓reduceIte, eq_self, rts_some, rts_none, nq_int, nq_ref, nq_null, nq_none, okr1_0, okr1_1, okr_b, List.length_nil, List.length_cons, Nat.zero_le, Nat.reduceAdd, Nat.reduceLeDiff, b2i_0, b2i_n0, b2i_1, b2i_n1, ite_not, if_true, if_false, not_true_eq_false, not_false_eq_true, true_and, and_true, false_and, and_false, he]
      exact hgo _ (by rw [drL, if_neg he])
def dearF (N : Nat → Int32) (cl : List Cls) (i : Nat) : Int32 := if tipF N cl i (N (14 + 9 * i + 2)) = -1 then -5 else drL N cl i (tipF N cl i (N (14 + 9 * i + 2))).toNatClampNeg 20
theorem m_dear {i : Nat} (hi : i < 6) {sc : Nat → Int32} {ar : Nat → Nat → Int32} (h8 : N8 ar) (hr : RuleOK ar cl) (H : ∀ sc' ar', SW sc ar sc' ar' → Q (some (.int (dearF (ar 1) cl i))) (MH b sc' ar' lg G z)) : WP V (cdT Ev) mx (d + 24) 165 [.ref b, .int (nI i)] (MH b sc ar lg G z) Q := by
  rw [e_165]
  simp only [s_165_0, s_165_0_n, s_165_1, s_165_2, s_165_5, s_165_6, s_165_7, s_165_8, s_165_11, s_165_13, s_165_14, s_165_14_n, s_165_15, s_165_18, s_165_19, s_165_20, s_165_21, s_165_22, s_165_24, s_165_25, s_165_29, s_165_31, s_165_34, s_165_34_n, s_165_35, s_165_38, s_165_39, s_165_40, s_165_41, s_165_43, s_165_44, s_165_47, s_165_48, s_165_48_n, s_165_49, s_165_50, s_165_53, s_165_54, s_165_57, s_165_59, s_165_62, s_165_64, s_165_66, s_165_69, s_165_72, s_165_72_n, s_165_73, s_165_76, s_165_77, s_165_78, s_165_79, s_165_81, ↓reduceIte, eq_self, rts_some, rts_none, nq_int, nq_ref, nq_null, nq_none, okr1_0, okr1_1, okr_b, List.length_nil, List.length_cons, Nat.zero_le, Nat.reduceAdd, Nat.reduceLeDiff, b2i_0, b2i_n0, b2i_1, b2i_n1, ite_not, if_true, if_false, not_true_eq_false, not_false_eq_true, true_and, and_true, false_and, and_false, mg_now, mg_mind, mg_then, mp_kept, mg_kept, mg_text, mp_texted, mg_texted, mg_rules, mg_sizes, mp_ruled, mg_ruled, mg_read, mp_size, mg_size, mp_at, mg_at, mp_well, mg_well, mp_within, mg_within, mp_sum, mg_sum, mp_free, mg_free, mg_names, mg_letters, mg_begins, mg_words, mg_sums, mg_above, mg_bodies, mg_trace, mp_ran, mg_ran, mg_sorts, mg_lengths, mg_items, mg_moved, ma_now, ms_now, ma_mind, ms_mind, ma_then, ms_then, ma_text, ms_text, ma_rules, ms_rules, ma_sizes, ms_sizes, ma_read, ms_read, ma_names, ms_names, ma_letters, ma_begins, ma_words, ma_sums, ms_sums, ma_above, ma_bodies, ma_trace, ms_trace, ma_sorts, ms_sorts, ma_lengths, ms_lengths, ma_items, ms_items, ma_moved, ms_moved, mcv]
  refine m_tip (d := d) hi h8 hr (fun sc' ar' hse _ => ?_)
  rcases tipF_k (ar 1) cl i (ar 1 (14 + 9 * i + 2)) with h1 | ⟨t, ht, h1, -⟩
  · simp only [s_165_0, s_165_0_n, s_165_1, s_165_2, s_165_5, s_165_6, s_165_7, s_165_8, s_165_11, s_165_13, s_165_14, s_165_14_n, s_165_15, s_165_18, s_165_19, s_165_20, s_165_21, s_165_22, s_165_24, s_165_25, s_165_29, s_165_31, s_165_34, s_165_34_n, s_165_35, s_165_38, s_165_39, s_165_40, s_165_41, s_165_43, s_165_44, s_165_47, s_165_48, s_165_48_n, s_165_49, s_165_50, s_165_53, s_165_54, s_165_57, s_165_59, s_165_62, s_165_64, s_165_66, s_165_69, s_165_72, s_165_72_n, s_165_73, s_165_76, s_165_77, s_165_78, s_165_79, s_165_81, ↓reduceIte, eq_self, rts_some, rts_none, nq_int, nq_ref, nq_null, nq_none, okr1_0, okr1_1, okr_b, List.length_nil, List.length_cons, Nat.zero_le, Nat.reduceAdd, Nat.reduceLeDiff, b2i_0, b2i_n0, b2i_1, b2i_n1, ite_not, if_true, if_false, not_true_eq_false, not_false_eq_true, true_and, and_true, false_and, and_false, h1]
    have := H sc' ar' (SE_SW hse)
    rw [dearF, if_pos h1] at this
    exact this
  · have hne : (nI t = -1) = False := eq_false (fun e => by
      have := nI_toInt (n := t) (by omega)
      rw [e] at this
      have h2 : ((-1 : Int32).toInt) = -1 := by decide
      omega)
    have hx : ix (nI t) 120 = True := ix_nIT (by omega) (by decide)
    simp only [s_165_0, s_165_0_n, s_165_1, s_165_2, s_165_5, s_165_6, s_165_7, s_165_8, s_165_11, s_165_13, s_165_14, s_165_14_n, s_165_15, s_165_18, s_165_19, s_165_20, s_165_21, s_165_22, s_165_24, s_165_25, s_165_29, s_165_31, s_165_34, s_165_34_n, s_165_35, s_165_38, s_165_39, s_165_40, s_165_41, s_165_43, s_165_44, s_165_47, s_165_48, s_165_48_n, s_165_49, s_165_50, s_165_53, s_165_54, s_165_57, s_165_59, s_165_62, s_165_64, s_165_66, s_165_69, s_165_72, s_165_72_n, s_165_73, s_165_76, s_165_77, s_165_78, s_165_79, s_165_81, ↓reduceIte, eq_self, rts_some, rts_none, nq_int, nq_ref, nq_null, nq_none, okr1_0, okr1_1, okr_b, List.length_nil, List.length_cons, Nat.zero_le, Nat.reduceAdd, Nat.reduceLeDiff, b2i_0, b2i_n0, b2i_1, b2i_n1, ite_not, if_true, if_false, not_true_eq_false, not_false_eq_true, true_and, and_true, false_and, and_false, mg_now, mg_mind, mg_then, mp_kept, mg_kept, mg_text, mp_texted, mg_texted, mg_rules, mg_sizes, mp_ruled, mg_ruled, mg_read, mp_size, mg_size, mp_at, mg_at, mp_well, mg_well, mp_within, mg_within, mp_sum, mg_sum, mp_free, mg_free, mg_names, mg_letters, mg_begins, mg_words, mg_sums, mg_above, mg_bodies, mg_trace, mp_ran, mg_ran, mg_sorts, mg_lengths, mg_items, mg_moved, ma_now, ms_now, ma_mind, ms_mind, ma_then, ms_then, ma_text, ms_text, ma_rules, ms_rules, ma_sizes, ms_sizes, ma_read, ms_read, ma_names, ms_names, ma_letters, ma_begins, ma_words, ma_sums, ms_sums, ma_above, ma_bodies, ma_trace, ms_trace, ma_sorts, ms_sorts, ma_lengths, ms_lengths, ma_items, ms_items, ma_moved, ms_moved, mcv, h1, hne, hx, nI_clamp (show t < 2 ^ 31 by omega)]
    have e1 := SE_1 hse
    rw [e1]
    refine m_dear_l hi ht (N := ar 1) 20 0 rfl sc' ar' (ar 1 t) (SE_8 hse) (SE_r hse hr) (by rw [e1, upd_us]) (fun sc2 ar2 hse2 => ?_)
    rw [← e1, va_us] at hse2
    have := H _ _ (SE_SW (SE_trans hse hse2))
    rw [dearF, if_neg (by rw [h1, hne]; exact not_false), h1, nI_clamp (by omega)] at this
    exact this
end
