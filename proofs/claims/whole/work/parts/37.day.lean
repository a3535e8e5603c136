/-! A day: the spec, and the reference. -/
def goF (N : Nat → Int32) (cl : List Cls) (i : Nat) : Nat → Int32 :=
  if tipF N cl i (N (14 + 9 * i + 2)) = -1 then upd N (14 + 9 * i + 4) (N (14 + 9 * i + 4) + (if N (14 + 9 * i + 3) = 1 then 0 else 1))
  else upd (upd (upd N (14 + 9 * i + 2) (N (14 + 9 * i + 2) &&& (((1 : Int32) <<< (tipF N cl i (N (14 + 9 * i + 2)) &&& 31)) ^^^ (-1)))) (if N (14 + 9 * i + 3) = 1 then 13 else 12) (N (if N (14 + 9 * i + 3) = 1 then 13 else 12) ||| ((1 : Int32) <<< (tipF N cl i (N (14 + 9 * i + 2)) &&& 31)))) (14 + 9 * i + 3) 1
def gosF (N : Nat → Int32) (cl : List Cls) : Nat → Nat → Int32
  | 0 => N
  | j + 1 => goF (gosF N cl j) cl j
def heF (M : Nat → Int32) (s : Nat) : Nat → Int32 := if bt (M 12) s = 1 then upd (upd M 12 (M 12 &&& (on1 s ^^^ (-1)))) 13 (M 13 ||| on1 s) else M
/-- the evening -/
def evF (M : Nat → Int32) (fr : Int32) : Nat → Int32 := if 0 < fr ∧ M 69 - M 69 / fr * fr = 0 ∧ ¬ M 12 = 0 then heF M (lsb (M 12) 12 0) else M
def dayF (N : Nat → Int32) (cl : List Cls) : Nat → Int32 := upd (evF (gosF N cl (N 68).toNatClampNeg) (freeC 0 cl)) 69 (evF (gosF N cl (N 68).toNatClampNeg) (freeC 0 cl) 69 + 1)
def daysF (N : Nat → Int32) (cl : List Cls) : Nat → Nat → Int32
  | 0 => N
  | n + 1 => dayF (daysF N cl n) cl
theorem goF_out {N : Nat → Int32} {cl : List Cls} {i k : Nat} (h2 : k ≠ 14 + 9 * i + 2) (h3 : k ≠ 14 + 9 * i + 3) (h4 : k ≠ 14 + 9 * i + 4) (h12 : k ≠ 12) (h13 : k ≠ 13) : goF N cl i k = N k := by
  unfold goF
  split
  · exact pk_un h4
  · rw [pk_un h3, pk_un (by split <;> assumption), pk_un h2]
theorem gosF_out {N : Nat → Int32} {cl : List Cls} {k : Nat} : ∀ j, (∀ i, i < j → k ≠ 14 + 9 * i + 2 ∧ k ≠ 14 + 9 * i + 3 ∧ k ≠ 14 + 9 * i + 4) → k ≠ 12 → k ≠ 13 → gosF N cl j k = N k := by
  intro j
  induction j with
  | zero =>
    intro _ _ _
    rfl
  | succ j ih =>
    intro h h12 h13
    obtain ⟨h2, h3, h4⟩ := h j (by omega)
    show goF (gosF N cl j) cl j k = N k
    rw [goF_out h2 h3 h4 h12 h13]
    exact ih (fun i hi => h i (by omega)) h12 h13
theorem tipF_k (N : Nat → Int32) (cl : List Cls) (i : Nat) (has : Int32) : tipF N cl i has = -1 ∨ ∃ s, s < 12 ∧ tipF N cl i has = nI s ∧ bt has s = 1 := tpL_k _ _ 12
theorem goF_12 {N : Nat → Int32} {cl : List Cls} {i : Nat} (h : isS (N 12)) : isS (goF N cl i 12) := by
  unfold goF
  split
  · rw [pk_un (by omega)]
    exact h
  · rename_i ht
    rw [pk_un (by omega)]
    split
    · rw [pk_un (by omega), pk_un (by omega)]
      exact h
    · rw [pk_us]
      rcases tipF_k N cl i (N (14 + 9 * i + 2)) with h1 | ⟨s, hs, h1, -⟩
      · exact absurd h1 ht
      · rw [h1]
        exact isS_or h (isS_on1 hs)
theorem gosF_12 {N : Nat → Int32} {cl : List Cls} (h : isS (N 12)) : ∀ j, isS (gosF N cl j 12) := by
  intro j
  induction j with
  | zero => exact h
  | succ j ih => exact goF_12 ih
theorem SE_12 {a b : Nat → Int32} {x y : Nat → Nat → Int32} {f : Nat → Int32} (h : SE a x b y) : SE a x b (va_up y 12 f) := by
  obtain ⟨hs, ⟨h1, h3, h4, h5, h6, h7, h8, h9⟩, h10, h11⟩ := h
  exact ⟨hs, ⟨h1, h3, h4, h5, h6, h7, h8, h9⟩, h10, h11⟩
theorem SE_up' {a b : Nat → Int32} {x y : Nat → Nat → Int32} (h : SE a x b y) {N M : Nat → Int32} (e : M = N) : SE a (va_up x 1 N) b (va_up y 1 M) := by
  subst e
  exact SE_up h _
section
variable {V : Nat → Option AE} {Ev : Nat → Value} {d : Nat} {Q : Option Value → HS → Prop}
variable {b : Nat} {lg : Nat → Nat → Int64} {G : Nat → Option AE} {z : Nat × Nat} {cl : List Cls}
theorem m_tell_l {i : Nat} (hi : i < 6) : ∀ m j, j + m = 12 → ∀ (sc : Nat → Int32) (ar : Nat → Nat → Int32), N8 ar → RuleOK ar cl → (∀ s, s < j → ar 12 s = smF (ar 1) cl i s) → (∀ sc' ar', SE sc ar sc' ar' → (∀ s, s < 12 → ar' 12 s = smF (ar 1) cl i s) → Q none (MH b sc' ar' lg G z)) → wp V (cdT Ev) mx (d + 21) 155 2 [some (.ref b), some (.int (nI i)), some (.int (nI j))] [] (MH b sc ar lg G z) Q := by
  intro m
  induction m with
  | zero =>
    intro j hj sc ar h8 hr hd H
    obtain rfl : j = 12 := by omega
    have h12 : ((12 : Int32) ≤ nI 12) = True := by decide
    rw [s_155_2]
    simp only [s_155_0, s_155_1, s_155_3, s_155_5, s_155_8, s_155_8_n, s_155_9, s_155_10, s_155_11, s_155_14, s_155_14_n, s_155_15, s_155_18, s_155_19, s_155_19_n, s_155_20, s_155_23, s_155_24, s_155_27, s_155_30, ↓reduceIte, eq_self, rts_some, rts_none, nq_int, nq_ref, nq_null, nq_none, okr1_0, okr1_1, okr_b, List.length_nil, List.length_cons, Nat.zero_le, Nat.reduceAdd, Nat.reduceLeDiff, b2i_0, b2i_n0, b2i_1, b2i_n1, ite_not, if_true, if_false, not_true_eq_false, not_false_eq_true, true_and, and_true, false_and, and_false, h12]
    exact H _ _ (SE_refl h8) hd
  | succ m ih =>
    intro j hj sc ar h8 hr hd H
    have hlt : ((12 : Int32) ≤ nI j) = False := eq_false (nI_ge (a := j) (b := 12) (by omega) (by decide))
    have hx : ix (nI j) 12 = True := ix_nIT (by omega) (by decide)
    rw [s_155_2]
    simp only [s_155_0, s_155_1, s_155_3, s_155_5, s_155_8, s_155_8_n, s_155_9, s_155_10, s_155_11, s_155_14, s_155_14_n, s_155_15, s_155_18, s_155_19, s_155_19_n, s_155_20, s_155_23, s_155_24, s_155_27, s_155_30, ↓reduceIte, eq_self, rts_some, rts_none, nq_int, nq_ref, nq_null, nq_none, okr1_0, okr1_1, okr_b, List.length_nil, List.length_cons, Nat.zero_le, Nat.reduceAdd, Nat.reduceLeDiff, b2i_0, b2i_n0, b2i_1, b2i_n1, ite_not, if_true, if_false, not_true_eq_false, not_false_eq_true, true_and, and_true, false_and, and_false, mg_now, mg_mind, mg_then, mp_kept, mg_kept, mg_text, mp_texted, mg_texted, mg_rules, mg_sizes, mp_ruled, mg_ruled, mg_read, mp_size, mg_size, mp_at, mg_at, mp_well, mg_well, mp_within, mg_within, mp_sum, mg_sum, mp_free, mg_free, mg_names, mg_letters, mg_begins, mg_words, mg_sums, mg_above, mg_bodies, mg_trace, mp_ran, mg_ran, mg_sorts, mg_lengths, mg_items, mg_moved, ma_now, ms_now, ma_mind, ms_mind, ma_then, ms_then, ma_text, ms_text, ma_rules, ms_rules, ma_sizes, ms_sizes, ma_read, ms_read, ma_names, ms_names, ma_letters, ma_begins, ma_words, ma_sums, ms_sums, ma_above, ma_bodies, ma_trace, ms_trace, ma_sorts, ms_sorts, ma_lengths, ms_lengths, ma_items, ms_items, ma_moved, ms_moved, mcv, hlt]
    refine m_readFor hi (show j < 12 by omega) h8 hr (fun sc' ar' hes hea h8' h2 h12 h7 _ => ?_)
    have hse : SE sc ar sc' ar' := ⟨hes, hea, h8', h2⟩
    simp only [s_155_0, s_155_1, s_155_3, s_155_5, s_155_8, s_155_8_n, s_155_9, s_155_10, s_155_11, s_155_14, s_155_14_n, s_155_15, s_155_18, s_155_19, s_155_19_n, s_155_20, s_155_23, s_155_24, s_155_27, s_155_30, ↓reduceIte, eq_self, rts_some, rts_none, nq_int, nq_ref, nq_null, nq_none, okr1_0, okr1_1, okr_b, List.length_nil, List.length_cons, Nat.zero_le, Nat.reduceAdd, Nat.reduceLeDiff, b2i_0, b2i_n0, b2i_1, b2i_n1, ite_not, if_true, if_false, not_true_eq_false, not_false_eq_true, true_and, and_true, false_and, and_false, mg_now, mg_mind, mg_then, mp_kept, mg_kept, mg_text, mp_texted, mg_texted, mg_rules, mg_sizes, mp_ruled, mg_ruled, mg_read, mp_size, mg_size, mp_at, mg_at, mp_well, mg_well, mp_within, mg_within, mp_sum, mg_sum, mp_free, mg_free, mg_names, mg_letters, mg_begins, mg_words, mg_sums, mg_above, mg_bodies, mg_trace, mp_ran, mg_ran, mg_sorts, mg_lengths, mg_items, mg_moved, ma_now, ms_now, ma_mind, ms_mind, ma_then, ms_then, ma_text, ms_text, ma_rules, ms_rules, ma_sizes, ms_sizes, ma_read, ms_read, ma_names, ms_names, ma_letters, ma_begins, ma_words, ma_sums, ms_sums, ma_above, ma_bodies, ma_trace, ms_trace, ma_sorts, ms_sorts, ma_lengths, ms_lengths, ma_items, ms_items, ma_moved, ms_moved, mcv, hx, nI_clamp (show j < 2 ^ 31 by omega), nI_1]
    have hse2 : SE sc ar sc' (va_up ar' 12 (upd (ar' 12) j (sc' 7))) := SE_12 hse
    refine ih (j + 1) (by omega) _ _ (SE_8 hse2) (SE_r hse2 hr) (fun s hs => ?_) (fun sc2 ar2 hse3 hd3 => ?_)
    · rw [SE_1 hse2]
      simp only [vu, if_true]
      by_cases e : s = j
      · subst e
        rw [pk_us, h7]
        rfl
      · rw [pk_un e, h12]
        exact hd s (by omega)
    · refine H _ _ (SE_trans hse2 hse3) (fun s hs => ?_)
      rw [hd3 s hs, SE_1 hse2]
theorem m_tell {i : Nat} (hi : i < 6) {sc : Nat → Int32} {ar : Nat → Nat → Int32} (h8 : N8 ar) (hr : RuleOK ar cl) (H : ∀ sc' ar', SE sc ar sc' ar' → (∀ s, s < 12 → ar' 12 s = smF (ar 1) cl i s) → Q none (MH b sc' ar' lg G z)) : WP V (cdT Ev) mx (d + 22) 155 [.ref b, .int (nI i)] (MH b sc ar lg G z) Q := by
  rw [e_155]
  simp only [s_155_0, s_155_1, s_155_3, s_155_5, s_155_8, s_155_8_n, s_155_9, s_155_10, s_155_11, s_155_14, s_155_14_n, s_155_15, s_155_18, s_155_19, s_155_19_n, s_155_20, s_155_23, s_155_24, s_155_27, s_155_30, ↓reduceIte, eq_self, rts_some, rts_none, nq_int, nq_ref, nq_null, nq_none, okr1_0, okr1_1, okr_b, List.length_nil, List.length_cons, Nat.zero_le, Nat.reduceAdd, Nat.reduceLeDiff, b2i_0, b2i_n0, b2i_1, b2i_n1, ite_not, if_true, if_false, not_true_eq_false, not_false_eq_true, true_and, and_true, false_and, and_false]
  exact m_tell_l hi 12 0 rfl sc ar h8 hr (fun s hs => absurd hs (by omega)) H
theorem m_tip {i : Nat} (hi : i < 6) {sc : Nat → Int32} {ar : Nat → Nat → Int32} (h8 : N8 ar) (hr : RuleOK ar cl) (H : ∀ sc' ar', SE sc ar sc' ar' → (∀ s, s < 12 → ar' 12 s = smF (ar 1) cl i s) → Q (some (.int (tipF (ar 1) cl i (ar 1 (14 + 9 * i + 2))))) (MH b sc' ar' lg G z)) : WP V (cdT Ev) mx (d + 23) 157 [.ref b, .int (nI i)] (MH b sc ar lg G z) Q := by
  rw [e_157]
  simp only [s_157_0, s_157_0_n, s_157_1, s_157_2, s_157_5, s_157_5_n, s_157_6, s_157_7, s_157_7_n, s_157_8, s_157_9, s_157_10, s_157_13, s_157_16, ↓reduceIte, eq_self, rts_some, rts_none, nq_int, nq_ref, nq_null, nq_none, okr1_0, okr1_1, okr_b, List.length_nil, List.length_cons, Nat.zero_le, Nat.reduceAdd, Nat.reduceLeDiff, b2i_0, b2i_n0, b2i_1, b2i_n1, ite_not, if_true, if_false, not_true_eq_false, not_false_eq_true, true_and, and_true, false_and, and_false, mg_now, mg_mind, mg_then, mp_kept, mg_kept, mg_text, mp_texted, mg_texted, mg_rules, mg_sizes, mp_ruled, mg_ruled, mg_read, mp_size, mg_size, mp_at, mg_at, mp_well, mg_well, mp_within, mg_within, mp_sum, mg_sum, mp_free, mg_free, mg_names, mg_letters, mg_begins, mg_words, mg_sums, mg_above, mg_bodies, mg_trace, mp_ran, mg_ran, mg_sorts, mg_lengths, mg_items, mg_moved, ma_now, ms_now, ma_mind, ms_mind, ma_then, ms_then, ma_text, ms_text, ma_rules, ms_rules, ma_sizes, ms_sizes, ma_read, ms_read, ma_names, ms_names, ma_letters, ma_begins, ma_words, ma_sums, ms_sums, ma_above, ma_bodies, ma_trace, ms_trace, ma_sorts, ms_sorts, ma_lengths, ms_lengths, ma_items, ms_items, ma_moved, ms_moved, mcv]
  refine m_tell hi h8 hr (fun sc' ar' hse hd => ?_)
  simp only [s_157_0, s_157_0_n, s_157_1, s_157_2, s_157_5, s_157_5_n, s_157_6, s_157_7, s_157_7_n, s_157_8, s_157_9, s_157_10, s_157_13, s_157_16, ↓reduceIte, eq_self, rts_some, rts_none, nq_int, nq_ref, nq_null, nq_none, okr1_0, okr1_1, okr_b, List.length_nil, List.length_cons, Nat.zero_le, Nat.reduceAdd, Nat.reduceLeDiff, b2i_0, b2i_n0, b2i_1, b2i_n1, ite_not, if_true, if_false, not_true_eq_false, not_false_eq_true, true_and, and_true, false_and, and_false, mg_now, mg_mind, mg_then, mp_kept, mg_kept, mg_text, mp_texted, mg_texted, mg_rules, mg_sizes, mp_ruled, mg_ruled, mg_read, mp_size, mg_size, mp_at, mg_at, mp_well, mg_well, mp_within, mg_within, mp_sum, mg_sum, mp_free, mg_free, mg_names, mg_letters, mg_begins, mg_words, mg_sums, mg_above, mg_bodies, mg_trace, mp_ran, mg_ran, mg_sorts, mg_lengths, mg_items, mg_moved, ma_now, ms_now, ma_mind, ms_mind, ma_then, ms_then, ma_text, ms_text, ma_rules, ms_rules, ma_sizes, ms_sizes, ma_read, ms_read, ma_names, ms_names, ma_letters, ma_begins, ma_words, ma_sums, ms_sums, ma_above, ma_bodies, ma_trace, ms_trace, ma_sorts, ms_sorts, ma_lengths, ms_lengths, ma_items, ms_items, ma_moved, ms_moved, mcv, q_number_2 hi, m_tipBy hi]
  have e : tp (fun s => urg (ar' 1) i s (ar' 12 s) (mn (ar' 1 (14 + 9 * i + 2)))) (ar' 1 (14 + 9 * i + 2)) = tipF (ar 1) cl i (ar 1 (14 + 9 * i + 2)) := by
    rw [SE_1 hse]
    refine tp_cg (fun s hs => ?_)
    simp only [hd s hs]
  rw [e]
  exact H _ _ hse hd
theorem m_goes {i : Nat} (hi : i < 6) {sc : Nat → Int32} {ar : Nat → Nat → Int32} (h8 : N8 ar) (hr : RuleOK ar cl) (H : ∀ sc' ar', SE sc (va_up ar 1 (goF (ar 1) cl i)) sc' ar' → Q none (MH b sc' ar' lg G z)) : WP V (cdT Ev) mx (d + 24) 158 [.ref b, .int (nI i)] (MH b sc ar lg G z) Q := by
  rw [e_158]
  simp only [s_158_0, s_158_0_n, s_158_1, s_158_2, s_158_5, s_158_6, s_158_6_n, s_158_7, s_158_8, s_158_9, s_158_12, s_158_13, s_158_16, s_158_17, s_158_20, s_158_21, s_158_22, s_158_23, s_158_24, s_158_27, s_158_27_n, s_158_28, s_158_29, s_158_30, s_158_30_n, s_158_31, s_158_32, s_158_33, s_158_36, s_158_37, s_158_40, s_158_41, s_158_44, s_158_45, s_158_46, s_158_49, s_158_49_i, s_158_50, s_158_51, s_158_51_n, s_158_52, s_158_53, s_158_54, s_158_54_n, s_158_55, s_158_56, s_158_57, s_158_60, s_158_61, s_158_62, s_158_63, s_158_64, s_158_65, s_158_66, s_158_69, s_158_69_i, s_158_70, s_158_70_n, s_158_71, s_158_74, s_158_75, s_158_78, s_158_80, s_158_83, s_158_85, s_158_86, s_158_87, s_158_88, s_158_89, s_158_90, s_158_91, s_158_92, s_158_92_n, s_158_93, s_158_94, s_158_95, s_158_96, s_158_99, s_158_99_i, s_158_100, ↓reduceIte, eq_self, rts_some, rts_none, nq_int, nq_ref, nq_null, nq_none, okr1_0, okr1_1, okr_b, List.length_nil, List.length_cons, Nat.zero_le, Nat.reduceAdd, Nat.reduceLeDiff, b2i_0, b2i_n0, b2i_1, b2i_n1, ite_not, if_true, if_false, not_true_eq_false, not_false_eq_true, true_and, and_true, false_and, and_false, mg_now, mg_mind, mg_then, mp_kept, mg_kept, mg_text, mp_texted, mg_texted, mg_rules, mg_sizes, mp_ruled, mg_ruled, mg_read, mp_size, mg_size, mp_at, mg_at, mp_well, mg_well, mp_within, mg_within, mp_sum, mg_sum, mp_free, mg_free, mg_names, mg_letters, mg_begins, mg_words, mg_sums, mg_above, mg_bodies, mg_trace, mp_ran, mg_ran, mg_sorts, mg_lengths, mg_items, mg_moved, ma_now, ms_now, ma_mind, ms_mind, ma_then, ms_then, ma_text, ms_text, ma_rules, ms_rules, ma_sizes, ms_sizes, ma_read, ms_read, ma_names, ms_names, ma_letters, ma_begins, ma_words, ma_sums, ms_sums, ma_above, ma_bodies, ma_trace, ms_trace, ma_sorts, ms_sorts, ma_lengths, ms_lengths, ma_items, ms_items, ma_moved, ms_moved, mcv]
  refine m_tip hi h8 hr (fun sc' ar' hse _ => ?_)
  have e10' : ((1 : Int32) = 0) = False := by decide
  have hN := SE_1 hse
  have n13 : (13 = 14 + 9 * i + 2) = False := eq_false (by omega)
  have n12 : (12 = 14 + 9 * i + 2) = False := eq_false (by omega)
  by_cases ht : tipF (ar 1) cl i (ar 1 (14 + 9 * i + 2)) = -1
  · by_cases hb : ar 1 (14 + 9 * i + 3) = 1
    · have hb' : ar' 1 (14 + 9 * i + 3) = 1 := by rw [hN]; exact hb
      simp only [s_158_0, s_158_0_n, s_158_1, s_158_2, s_158_5, s_158_6, s_158_6_n, s_158_7, s_158_8, s_158_9, s_158_12, s_158_13, s_158_16, s_158_17, s_158_20, s_158_21, s_158_22, s_158_23, s_158_24, s_158_27, s_158_27_n, s_158_28, s_158_29, s_158_30, s_158_30_n, s_158_31, s_158_32, s_158_33, s_158_36, s_158_37, s_158_40, s_158_41, s_158_44, s_158_45, s_158_46, s_158_49, s_158_49_i, s_158_50, s_158_51, s_158_51_n, s_158_52, s_158_53, s_158_54, s_158_54_n, s_158_55, s_158_56, s_158_57, s_158_60, s_158_61, s_158_62, s_158_63, s_158_64, s_158_65, s_158_66, s_158_69, s_158_69_i, s_158_70, s_158_70_n, s_158_71, s_158_74, s_158_75, s_158_78, s_158_80, s_158_83, s_158_85, s_158_86, s_158_87, s_158_88, s_158_89, s_158_90, s_158_91, s_158_92, s_158_92_n, s_158_93, s_158_94, s_158_95, s_158_96, s_158_99, s_158_99_i, s_158_100, ↓reduceIte, eq_self, rts_some, rts_none, nq_int, nq_ref, nq_null, nq_none, okr1_0, okr1_1, okr_b, List.length_nil, List.length_cons, Nat.zero_le, Nat.reduceAdd, Nat.reduceLeDiff, b2i_0, b2i_n0, b2i_1, b2i_n1, ite_not, if_true, if_false, not_true_eq_false, not_false_eq_true, true_and, and_true, false_and, and_false, mg_now, mg_mind, mg_then, mp_kept, mg_kept, mg_text, mp_texted, mg_texted, mg_rules, mg_sizes, mp_ruled, mg_ruled, mg_read, mp_size, mg_size, mp_at, mg_at, mp_well, mg_well, mp_within, mg_within, mp_sum, mg_sum, mp_free, mg_free, mg_names, mg_letters, mg_begins, mg_words, mg_sums, mg_above, mg_bodies, mg_trace, mp_ran, mg_ran, mg_sorts, mg_lengths, mg_items, mg_moved, ma_now, ms_now, ma_mind, ms_mind, ma_then, ms_then, ma_text, ms_text, ma_rules, ms_rules, ma_sizes, ms_sizes, ma_read, ms_read, ma_names, ms_names, ma_letters, ma_begins, ma_words, ma_sums, ms_sums, ma_above, ma_bodies, ma_trace, ms_trace, ma_sorts, ms_sorts, ma_lengths, ms_lengths, ma_items, ms_items, ma_moved, ms_moved, mcv, q_number_3 hi, q_number_4 hi, q_change_4 hi, ht, hb', eq_self, e10', is1]
      refine H _ _ (SE_up' hse ?_)
      rw [goF, if_pos ht, if_pos hb, hN]
    · have hb' : (ar' 1 (14 + 9 * i + 3) = 1) = False := by rw [hN]; exact eq_false hb
      simp only [s_158_0, s_158_0_n, s_158_1, s_158_2, s_158_5, s_158_6, s_158_6_n, s_158_7, s_158_8, s_158_9, s_158_12, s_158_13, s_158_16, s_158_17, s_158_20, s_158_21, s_158_22, s_158_23, s_158_24, s_158_27, s_158_27_n, s_158_28, s_158_29, s_158_30, s_158_30_n, s_158_31, s_158_32, s_158_33, s_158_36, s_158_37, s_158_40, s_158_41, s_158_44, s_158_45, s_158_46, s_158_49, s_158_49_i, s_158_50, s_158_51, s_158_51_n, s_158_52, s_158_53, s_158_54, s_158_54_n, s_158_55, s_158_56, s_158_57, s_158_60, s_158_61, s_158_62, s_158_63, s_158_64, s_158_65, s_158_66, s_158_69, s_158_69_i, s_158_70, s_158_70_n, s_158_71, s_158_74, s_158_75, s_158_78, s_158_80, s_158_83, s_158_85, s_158_86, s_158_87, s_158_88, s_158_89, s_158_90, s_158_91, s_158_92, s_158_92_n, s_158_93, s_158_94, s_158_95, s_158_96, s_158_99, s_158_99_i, s_158_100, ↓reduceIte, eq_self, rts_some, rts_none, nq_int, nq_ref, nq_null, nq_none, okr1_0, okr1_1, okr_b, List.length_nil, List.length_cons, Nat.zero_le, Nat.reduceAdd, Nat.reduceLeDiff, b2i_0, b2i_n0, b2i_1, b2i_n1, ite_not, if_true, if_false, not_true_eq_false, not_false_eq_true, true_and, and_true, false_and, and_false, mg_now, mg_mind, mg_then, mp_kept, mg_kept, mg_text, mp_texted, mg_texted, mg_rules, mg_sizes, mp_ruled, mg_ruled, mg_read, mp_size, mg_size, mp_at, mg_at, mp_well, mg_well, mp_within, mg_within, mp_sum, mg_sum, mp_free, mg_free, mg_names, mg_letters, mg_begins, mg_words, mg_sums, mg_above, mg_bodies, mg_trace, mp_ran, mg_ran, mg_sorts, mg_lengths, mg_items, mg_moved, ma_now, ms_now, ma_mind, ms_mind, ma_then, ms_then, ma_text, ms_text, ma_rules, ms_rules, ma_sizes, ms_sizes, ma_read, ms_read, ma_names, ms_names, ma_letters, ma_begins, ma_words, ma_sums, ms_sums, ma_above, ma_bodies, ma_trace, ms_trace, ma_sorts, ms_sorts, ma_lengths, ms_lengths, ma_items, ms_items, ma_moved, ms_moved, mcv, q_number_3 hi, q_number_4 hi, q_change_4 hi, ht, hb', eq_self, e10', is1]
      refine H _ _ (SE_up' hse ?_)
      rw [goF, if_pos ht, if_neg hb, hN]
  · by_cases hb : ar 1 (14 + 9 * i + 3) = 1
    · have hb' : ar' 1 (14 + 9 * i + 3) = 1 := by rw [hN]; exact hb
      simp only [s_158_0, s_158_0_n, s_158_1, s_158_2, s_158_5, s_158_6, s_158_6_n, s_158_7, s_158_8, s_158_9, s_158_12, s_158_13, s_158_16, s_158_17, s_158_20, s_158_21, s_158_22, s_158_23, s_158_24, s_158_27, s_158_27_n, s_158_28, s_158_29, s_158_30, s_158_30_n, s_158_31, s_158_32, s_158_33, s_158_36, s_158_37, s_158_40, s_158_41, s_158_44, s_158_45, s_158_46, s_158_49, s_158_49_i, s_158_50, s_158_51, s_158_51_n, s_158_52, s_158_53, s_158_54, s_158_54_n, s_158_55, s_158_56, s_158_57, s_158_60, s_158_61, s_158_62, s_158_63, s_158_64, s_158_65, s_158_66, s_158_69, s_158_69_i, s_158_70, s_158_70_n, s_158_71, s_158_74, s_158_75, s_158_78, s_158_80, s_158_83, s_158_85, s_158_86, s_158_87, s_158_88, s_158_89, s_158_90, s_158_91, s_158_92, s_158_92_n, s_158_93, s_158_94, s_158_95, s_158_96, s_158_99, s_158_99_i, s_158_100, ↓reduceIte, eq_self, rts_some, rts_none, nq_int, nq_ref, nq_null, nq_none, okr1_0, okr1_1, okr_b, List.length_nil, List.length_cons, Nat.zero_le, Nat.reduceAdd, Nat.reduceLeDiff, b2i_0, b2i_n0, b2i_1, b2i_n1, ite_not, if_true, if_false, not_true_eq_false, not_false_eq_true, true_and, and_true, false_and, and_false, mg_now, mg_mind, mg_then, mp_kept, mg_kept, mg_text, mp_texted, mg_texted, mg_rules, mg_sizes, mp_ruled, mg_ruled, mg_read, mp_size, mg_size, mp_at, mg_at, mp_well, mg_well, mp_within, mg_within, mp_sum, mg_sum, mp_free, mg_free, mg_names, mg_letters, mg_begins, mg_words, mg_sums, mg_above, mg_bodies, mg_trace, mp_ran, mg_ran, mg_sorts, mg_lengths, mg_items, mg_moved, ma_now, ms_now, ma_mind, ms_mind, ma_then, ms_then, ma_text, ms_text, ma_rules, ms_rules, ma_sizes, ms_sizes, ma_read, ms_read, ma_names, ms_names, ma_letters, ma_begins, ma_words, ma_sums, ms_sums, ma_above, ma_bodies, ma_trace, ms_trace, ma_sorts, ms_sorts, ma_lengths, ms_lengths, ma_items, ms_items, ma_moved, ms_moved, mcv, cl_0, cl_1, cl_2, cl_3, cl_4, cl_5, cl_6, cl_7, cl_8, cl_9, cl_10, cl_11, cl_12, cl_13, cl_14, cl_15, cl_16, cl_17, cl_18, cl_19, cl_20, cl_21, cl_22, cl_23, cl_24, cl_25, cl_26, cl_27, cl_28, cl_29, cl_30, cl_31, cl_68, cl_69, cl_70, cl_71, cl_82, cl_103, ix_0_120, ix_1_120, ix_2_120, ix_3_120, ix_4_120, ix_5_120, ix_6_120, ix_7_120, ix_8_120, ix_9_120, ix_10_120, ix_11_120, ix_12_120, ix_13_120, ix_68_120, ix_69_120, ix_70_120, ix_71_120, ix_82_120, ix_103_120, ix_0_6, ix_1_6, ix_2_6, ix_3_6, ix_4_6, ix_5_6, ix_0_12, ix_1_12, ix_2_12, ix_3_12, ix_4_12, ix_5_12, ix_6_12, ix_7_12, ix_8_12, ix_9_12, ix_10_12, ix_11_12, q_number_3 hi, q_number_2 hi, q_change_2 hi, q_change_3 hi, ht, hb', eq_self, e10', is1, vu, va_uu]
      refine H _ _ (SE_up' hse ?_)
      rw [goF, if_neg ht, if_pos hb, hN, pk_un (by omega)]
    · have hb' : (ar' 1 (14 + 9 * i + 3) = 1) = False := by rw [hN]; exact eq_false hb
      simp only [s_158_0, s_158_0_n, s_158_1, s_158_2, s_158_5, s_158_6, s_158_6_n, s_158_7, s_158_8, s_158_9, s_158_12, s_158_13, s_158_16, s_158_17, s_158_20, s_158_21, s_158_22, s_158_23, s_158_24, s_158_27, s_158_27_n, s_158_28, s_158_29, s_158_30, s_158_30_n, s_158_31, s_158_32, s_158_33, s_158_36, s_158_37, s_158_40, s_158_41, s_158_44, s_158_45, s_158_46, s_158_49, s_158_49_i, s_158_50, s_158_51, s_158_51_n, s_158_52, s_158_53, s_158_54, s_158_54_n, s_158_55, s_158_56, s_158_57, s_158_60, s_158_61, s_158_62, s_158_63, s_158_64, s_158_65, s_158_66, s_158_69, s_158_69_i, s_158_70, s_158_70_n, s_158_71, s_158_74, s_158_75, s_158_78, s_158_80, s_158_83, s_158_85, s_158_86, s_158_87, s_158_88, s_158_89, s_158_90, s_158_91, s_158_92, s_158_92_n, s_158_93, s_158_94, s_158_95, s_158_96, s_158_99, s_158_99_i, s_158_100, ↓reduceIte, eq_self, rts_some, rts_none, nq_int, nq_ref, nq_null, nq_none, okr1_0, okr1_1, okr_b, List.length_nil, List.length_cons, Nat.zero_le, Nat.reduceAdd, Nat.reduceLeDiff, b2i_0, b2i_n0, b2i_1, b2i_n1, ite_not, if_true, if_false, not_true_eq_false, not_false_eq_true, true_and, and_true, false_and, and_false, mg_now, mg_mind, mg_then, mp_kept, mg_kept, mg_text, mp_texted, mg_texted, mg_rules, mg_sizes, mp_ruled, mg_ruled, mg_read, mp_size, mg_size, mp_at, mg_at, mp_well, mg_well, mp_within, mg_within, mp_sum, mg_sum, mp_free, mg_free, mg_names, mg_letters, mg_begins, mg_words, mg_sums, mg_above, mg_bodies, mg_trace, mp_ran, mg_ran, mg_sorts, mg_lengths, mg_items, mg_moved, ma_now, ms_now, ma_mind, ms_mind, ma_then, ms_then, ma_text, ms_text, ma_rules, ms_rules, ma_sizes, ms_sizes, ma_read, ms_read, ma_names, ms_names, ma_letters, ma_begins, ma_words, ma_sums, ms_sums, ma_above, ma_bodies, ma_trace, ms_trace, ma_sorts, ms_sorts, ma_lengths, ms_lengths, ma_items, ms_items, ma_moved, ms_moved, mcv, cl_0, cl_1, cl_2, cl_3, cl_4, cl_5, cl_6, cl_7, cl_8, cl_9, cl_10, cl_11, cl_12, cl_13, cl_14, cl_15, cl_16, cl_17, cl_18, cl_19, cl_20, cl_21, cl_22, cl_23, cl_24, cl_25, cl_26, cl_27, cl_28, cl_29, cl_30, cl_31, cl_68, cl_69, cl_70, cl_71, cl_82, cl_103, ix_0_120, ix_1_120, ix_2_120, ix_3_120, ix_4_120, ix_5_120, ix_6_120, ix_7_120, ix_8_120, ix_9_120, ix_10_120, ix_11_120, ix_12_120, ix_13_120, ix_68_120, ix_69_120, ix_70_120, ix_71_120, ix_82_120, ix_103_120, ix_0_6, ix_1_6, ix_2_6, ix_3_6, ix_4_6, ix_5_6, ix_0_12, ix_1_12, ix_2_12, ix_3_12, ix_4_12, ix_5_12, ix_6_12, ix_7_12, ix_8_12, ix_9_12, ix_10_12, ix_11_12, q_number_3 hi, q_number_2 hi, q_change_2 hi, q_change_3 hi, ht, hb', eq_self, e10', is1, vu, va_uu]
      refine H _ _ (SE_up' hse ?_)
      rw [goF, if_neg ht, if_neg hb, hN, pk_un (by omega)]
theorem m_freeNow {sc : Nat → Int32} {ar : Nat → Nat → Int32} (h8 : N8 ar) (hr : RuleOK ar cl) (H : ∀ sc' ar', SE sc ar sc' ar' → Q (some (.int (freeC 0 cl))) (MH b sc' ar' lg G z)) : WP V (cdT Ev) mx (d + 22) 159 [.ref b] (MH b sc ar lg G z) Q := by
  rw [e_159]
  simp only [s_159_0, s_159_0_n, s_159_1, s_159_2, s_159_3, s_159_6, s_159_6_n, s_159_7, s_159_10, ↓reduceIte, eq_self, rts_some, rts_none, nq_int, nq_ref, nq_null, nq_none, okr1_0, okr1_1, okr_b, List.length_nil, List.length_cons, Nat.zero_le, Nat.reduceAdd, Nat.reduceLeDiff, b2i_0, b2i_n0, b2i_1, b2i_n1, ite_not, if_true, if_false, not_true_eq_false, not_false_eq_true, true_and, and_true, false_and, and_false, mg_now, mg_mind, mg_then, mp_kept, mg_kept, mg_text, mp_texted, mg_texted, mg_rules, mg_sizes, mp_ruled, mg_ruled, mg_read, mp_size, mg_size, mp_at, mg_at, mp_well, mg_well, mp_within, mg_within, mp_sum, mg_sum, mp_free, mg_free, mg_names, mg_letters, mg_begins, mg_words, mg_sums, mg_above, mg_bodies, mg_trace, mp_ran, mg_ran, mg_sorts, mg_lengths, mg_items, mg_moved, ma_now, ms_now, ma_mind, ms_mind, ma_then, ms_then, ma_text, ms_text, ma_rules, ms_rules, ma_sizes, ms_sizes, ma_read, ms_read, ma_names, ms_names, ma_letters, ma_begins, ma_words, ma_sums, ms_sums, ma_above, ma_bodies, ma_trace, ms_trace, ma_sorts, ms_sorts, ma_lengths, ms_lengths, ma_items, ms_items, ma_moved, ms_moved, mcv]
  refine m_readFor (i := 0) (s := 0) (by decide) (by decide) h8 hr (fun sc' ar' hes hea h8' h2 h12 _ hf => ?_)
  simp only [s_159_0, s_159_0_n, s_159_1, s_159_2, s_159_3, s_159_6, s_159_6_n, s_159_7, s_159_10, ↓reduceIte, eq_self, rts_some, rts_none, nq_int, nq_ref, nq_null, nq_none, okr1_0, okr1_1, okr_b, List.length_nil, List.length_cons, Nat.zero_le, Nat.reduceAdd, Nat.reduceLeDiff, b2i_0, b2i_n0, b2i_1, b2i_n1, ite_not, if_true, if_false, not_true_eq_false, not_false_eq_true, true_and, and_true, false_and, and_false, mg_now, mg_mind, mg_then, mp_kept, mg_kept, mg_text, mp_texted, mg_texted, mg_rules, mg_sizes, mp_ruled, mg_ruled, mg_read, mp_size, mg_size, mp_at, mg_at, mp_well, mg_well, mp_within, mg_within, mp_sum, mg_sum, mp_free, mg_free, mg_names, mg_letters, mg_begins, mg_words, mg_sums, mg_above, mg_bodies, mg_trace, mp_ran, mg_ran, mg_sorts, mg_lengths, mg_items, mg_moved, ma_now, ms_now, ma_mind, ms_mind, ma_then, ms_then, ma_text, ms_text, ma_rules, ms_rules, ma_sizes, ms_sizes, ma_read, ms_read, ma_names, ms_names, ma_letters, ma_begins, ma_words, ma_sums, ms_sums, ma_above, ma_bodies, ma_trace, ms_trace, ma_sorts, ms_sorts, ma_lengths, ms_lengths, ma_items, ms_items, ma_moved, ms_moved, mcv, hf]
  exact H _ _ ⟨hes, hea, h8', h2⟩
theorem m_hears {s : Nat} (hs : s < 12) {sc : Nat → Int32} {ar : Nat → Nat → Int32} : WP V (cdT Ev) mx (d + 1) 160 [.ref b, .int (nI s)] (MH b sc ar lg G z) Q = Q none (MH b sc (va_up ar 1 (heF (ar 1) s)) lg G z) := by
  rw [e_160]
  simp only [s_160_0, s_160_0_n, s_160_1, s_160_4, s_160_6, s_160_7, s_160_8, s_160_9, s_160_10, s_160_11, s_160_12, s_160_15, s_160_15_n, s_160_16, s_160_19, s_160_21, s_160_22, s_160_23, s_160_24, s_160_25, s_160_26, s_160_27, s_160_28, s_160_29, s_160_30, s_160_30_n, s_160_31, s_160_34, s_160_36, s_160_37, s_160_38, s_160_39, s_160_40, s_160_41, s_160_42, s_160_43, ↓reduceIte, eq_self, rts_some, rts_none, nq_int, nq_ref, nq_null, nq_none, okr1_0, okr1_1, okr_b, List.length_nil, List.length_cons, Nat.zero_le, Nat.reduceAdd, Nat.reduceLeDiff, b2i_0, b2i_n0, b2i_1, b2i_n1, ite_not, if_true, if_false, not_true_eq_false, not_false_eq_true, true_and, and_true, false_and, and_false, mg_now, mg_mind, mg_then, mp_kept, mg_kept, mg_text, mp_texted, mg_texted, mg_rules, mg_sizes, mp_ruled, mg_ruled, mg_read, mp_size, mg_size, mp_at, mg_at, mp_well, mg_well, mp_within, mg_within, mp_sum, mg_sum, mp_free, mg_free, mg_names, mg_letters, mg_begins, mg_words, mg_sums, mg_above, mg_bodies, mg_trace, mp_ran, mg_ran, mg_sorts, mg_lengths, mg_items, mg_moved, ma_now, ms_now, ma_mind, ms_mind, ma_then, ms_then, ma_text, ms_text, ma_rules, ms_rules, ma_sizes, ms_sizes, ma_read, ms_read, ma_names, ms_names, ma_letters, ma_begins, ma_words, ma_sums, ms_sums, ma_above, ma_bodies, ma_trace, ms_trace, ma_sorts, ms_sorts, ma_lengths, ms_lengths, ma_items, ms_items, ma_moved, ms_moved, mcv, cl_0, cl_1, cl_2, cl_3, cl_4, cl_5, cl_6, cl_7, cl_8, cl_9, cl_10, cl_11, cl_12, cl_13, cl_14, cl_15, cl_16, cl_17, cl_18, cl_19, cl_20, cl_21, cl_22, cl_23, cl_24, cl_25, cl_26, cl_27, cl_28, cl_29, cl_30, cl_31, cl_68, cl_69, cl_70, cl_71, cl_82, cl_103, ix_0_120, ix_1_120, ix_2_120, ix_3_120, ix_4_120, ix_5_120, ix_6_120, ix_7_120, ix_8_120, ix_9_120, ix_10_120, ix_11_120, ix_12_120, ix_13_120, ix_68_120, ix_69_120, ix_70_120, ix_71_120, ix_82_120, ix_103_120, ix_0_6, ix_1_6, ix_2_6, ix_3_6, ix_4_6, ix_5_6, ix_0_12, ix_1_12, ix_2_12, ix_3_12, ix_4_12, ix_5_12, ix_6_12, ix_7_12, ix_8_12, ix_9_12, ix_10_12, ix_11_12, is1, vu, va_uu]
  unfold heF
  by_cases hb : bt (ar 1 12) s = 1
  · have hb' : (ar 1 12 >>> (nI s &&& 31)) &&& 1 = 1 := hb
    rw [if_pos hb', if_pos hb, pk_un (by decide)]
    rfl
  · have hb' : ¬ (ar 1 12 >>> (nI s &&& 31)) &&& 1 = 1 := hb
    rw [if_neg hb', if_neg hb, va_us]
end
