/-! Acts, traces, who is taken for what: the reference. -/
theorem acF_ex {K i a : Nat} {v x : Int32} {t : Tr} (hK : K < 7) (ha : a < 3) : ∃ r, acF K v i 8 K a x t = some r := by
  match K, a, hK, ha with
  | 0, 0, _, _ => exact ⟨_, rfl⟩
  | 0, 1, _, _ => exact ⟨_, rfl⟩
  | 0, 2, _, _ => exact ⟨_, rfl⟩
  | 1, 0, _, _ => exact ⟨_, rfl⟩
  | 1, 1, _, _ => exact ⟨_, rfl⟩
  | 1, 2, _, _ => exact ⟨_, rfl⟩
  | 2, 0, _, _ => exact ⟨_, rfl⟩
  | 2, 1, _, _ => exact ⟨_, rfl⟩
  | 2, 2, _, _ => exact ⟨_, rfl⟩
  | 3, 0, _, _ => exact ⟨_, rfl⟩
  | 3, 1, _, _ => exact ⟨_, rfl⟩
  | 3, 2, _, _ => exact ⟨_, rfl⟩
  | 4, 0, _, _ => exact ⟨_, rfl⟩
  | 4, 1, _, _ => exact ⟨_, rfl⟩
  | 4, 2, _, _ => exact ⟨_, rfl⟩
  | 5, 0, _, _ => exact ⟨_, rfl⟩
  | 5, 1, _, _ => exact ⟨_, rfl⟩
  | 5, 2, _, _ => exact ⟨_, rfl⟩
  | 6, 0, _, _ => exact ⟨_, rfl⟩
  | 6, 1, _, _ => exact ⟨_, rfl⟩
  | 6, 2, _, _ => exact ⟨_, rfl⟩
def acR (N : Nat → Int32) (f : Nat → Int32) (p a x : Int32) : Int32 × Tr := if oneQ N p ∧ (0 ≤ a ∧ a ≤ 2) then (acF (N (14 + 9 * p.toNatClampNeg + 0)).toNatClampNeg (N (14 + 9 * p.toNatClampNeg + 1)) p.toNatClampNeg 8 (N (14 + 9 * p.toNatClampNeg + 0)).toNatClampNeg a.toNatClampNeg x (f, 0)).getD (0, f, 0) else (0, f, 0)
/-- people are of kinds -/
def KDok (N : Nat → Int32) (c : Nat) : Prop := ∀ i, i < c → ∃ K, K < 7 ∧ N (14 + 9 * i + 0) = nI K
def trR (n : Int32) (f : Nat → Int32) (i : Int32) : Int32 := if 0 ≤ i ∧ i ≤ (if n < 20 then n else 20) - 1 then f i.toNatClampNeg else -1
def ancF (K : Nat) (k : Int32) : Bool := match K with
  | 0 => decide (k = 0)
  | 1 => decide (k = 1) || decide (k = 0)
  | 2 => decide (k = 2) || decide (k = 0)
  | 3 => decide (k = 3) || decide (k = 0)
  | 4 => decide (k = 4) || decide (k = 1) || decide (k = 0)
  | 5 => decide (k = 5) || decide (k = 2) || decide (k = 0)
  | 6 => decide (k = 6) || decide (k = 3) || decide (k = 0)
  | _ => false
def tkR (N : Nat → Int32) (p k : Int32) : Int32 := if 0 ≤ k ∧ k ≤ 6 then (if oneQ N p then (if ancF (N (14 + 9 * p.toNatClampNeg + 0)).toNatClampNeg k = true then N (14 + 9 * p.toNatClampNeg + 0) else -12) else -11) else -2
section
variable {V : Nat → Option AE} {Ev : Nat → Value} {d : Nat} {Q : Option Value → HS → Prop} {h : HS}
variable {b : Nat} {lg : Nat → Nat → Int64} {G : Nat → Option AE} {z : Nat × Nat} {sc : Nat → Int32} {ar : Nat → Nat → Int32} {c : Nat} {p a x k : Int32}
theorem m_act (hc : c6 (ar 1) c) (hK : KDok (ar 1) c) : WP V (cdT Ev) mx (d + 30) 185 [.ref b, .int p, .int a, .int x] (MH b sc ar lg G z) Q = Q (some (.int (acR (ar 1) (ar 15) p a x).1)) (TH b sc ar lg G z (acR (ar 1) (ar 15) p a x).2) := by
  have hc6 := hc.2
  rw [e_185]
  simp only [s_185_0, s_185_0_n, s_185_1, s_185_2, s_185_5, s_185_5_n, s_185_6, s_185_7, s_185_10, s_185_13, s_185_14, s_185_15, s_185_16, s_185_19, s_185_23, s_185_24, s_185_25, s_185_26, s_185_29, s_185_32, s_185_33, ↓reduceIte, eq_self, rts_some, rts_none, nq_int, nq_ref, nq_null, nq_none, okr1_0, okr1_1, okr_b, List.length_nil, List.length_cons, Nat.zero_le, Nat.reduceAdd, Nat.reduceLeDiff, b2i_0, b2i_n0, b2i_1, b2i_n1, ite_not, if_true, if_false, not_true_eq_false, not_false_eq_true, true_and, and_true, false_and, and_false, mg_now, mg_mind, mg_then, mp_kept, mg_kept, mg_text, mp_texted, mg_texted, mg_rules, mg_sizes, mp_ruled, mg_ruled, mg_read, mp_size, mg_size, mp_at, mg_at, mp_well, mg_well, mp_within, mg_within, mp_sum, mg_sum, mp_free, mg_free, mg_names, mg_letters, mg_begins, mg_words, mg_sums, mg_above, mg_bodies, mg_trace, mp_ran, mg_ran, mg_sorts, mg_lengths, mg_items, mg_moved, ma_now, ms_now, ma_mind, ms_mind, ma_then, ms_then, ma_text, ms_text, ma_rules, ms_rules, ma_sizes, ms_sizes, ma_read, ms_read, ma_names, ms_names, ma_letters, ma_begins, ma_words, ma_sums, ms_sums, ma_above, ma_bodies, ma_trace, ms_trace, ma_sorts, ms_sorts, ma_lengths, ms_lengths, ma_items, ms_items, ma_moved, ms_moved, mcv, m_isOne, m_isIn]
  unfold acR
  by_cases h1 : oneQ (ar 1) p
  · rw [if_pos h1]
    by_cases h2 : 0 ≤ a ∧ a ≤ 2
    · rw [if_pos h2, if_pos ⟨h1, h2⟩]
      obtain ⟨i, hi, rfl⟩ := oneQ_k hc h1
      obtain ⟨j, hj, rfl⟩ := nI_of2 (M := 2) (n := 2) (by decide) (Int32.not_lt.mpr h2.1) h2.2
      obtain ⟨K, hK7, eK⟩ := hK i hi
      rw [nI_clamp (show i < 2 ^ 31 by omega), nI_clamp (show j < 2 ^ 31 by omega), eK, nI_clamp (show K < 2 ^ 31 by omega)]
      obtain ⟨r, hr⟩ := acF_ex (i := i) (v := ar 1 (14 + 9 * i + 1)) (x := x) (t := ((ar 15, 0) : Tr)) hK7 (show j < 3 by omega)
      rw [hr]
      have hb := m_byKind (V := V) (Ev := Ev) (b := b) (lg := lg) (G := G) (z := z) (sc := sc) (ar := ar) (K := K) (i := i) (by omega) eK hK7 8 K j x (ar 15, 0) r hK7 (by omega) (show 0 + 2 ^ 8 ≤ 2 ^ 20 by decide) hr
      have e0 : (MH b (va_up sc 9 0) ar lg G z) = TH b sc ar lg G z (ar 15, 0) := by
        show _ = MH b (va_up sc 9 (nI 0)) (va_up ar 15 (ar 15)) lg G z
        rw [va_us]
        rfl
      simp only [s_185_0, s_185_0_n, s_185_1, s_185_2, s_185_5, s_185_5_n, s_185_6, s_185_7, s_185_10, s_185_13, s_185_14, s_185_15, s_185_16, s_185_19, s_185_22, s_185_22_n, s_185_23, s_185_24, s_185_25, s_185_26, s_185_29, s_185_32, s_185_33, ↓reduceIte, eq_self, rts_some, rts_none, nq_int, nq_ref, nq_null, nq_none, okr1_0, okr1_1, okr_b, List.length_nil, List.length_cons, Nat.zero_le, Nat.reduceAdd, Nat.reduceLeDiff, b2i_0, b2i_n0, b2i_1, b2i_n1, ite_not, if_true, if_false, not_true_eq_false, not_false_eq_true, true_and, and_true, false_and, and_false, mg_now, mg_mind, mg_then, mp_kept, mg_kept, mg_text, mp_texted, mg_texted, mg_rules, mg_sizes, mp_ruled, mg_ruled, mg_read, mp_size, mg_size, mp_at, mg_at, mp_well, mg_well, mp_within, mg_within, mp_sum, mg_sum, mp_free, mg_free, mg_names, mg_letters, mg_begins, mg_words, mg_sums, mg_above, mg_bodies, mg_trace, mp_ran, mg_ran, mg_sorts, mg_lengths, mg_items, mg_moved, ma_now, ms_now, ma_mind, ms_mind, ma_then, ms_then, ma_text, ms_text, ma_rules, ms_rules, ma_sizes, ms_sizes, ma_read, ms_read, ma_names, ms_names, ma_letters, ma_begins, ma_words, ma_sums, ms_sums, ma_above, ma_bodies, ma_trace, ms_trace, ma_sorts, ms_sorts, ma_lengths, ms_lengths, ma_items, ms_items, ma_moved, ms_moved, mcv]
      rw [e_183]
      simp only [s_183_0, s_183_0_n, s_183_1, s_183_1_n, s_183_2, s_183_3, s_183_4, s_183_7, s_183_8, s_183_9, s_183_10, s_183_13, ↓reduceIte, eq_self, rts_some, rts_none, nq_int, nq_ref, nq_null, nq_none, okr1_0, okr1_1, okr_b, List.length_nil, List.length_cons, Nat.zero_le, Nat.reduceAdd, Nat.reduceLeDiff, b2i_0, b2i_n0, b2i_1, b2i_n1, ite_not, if_true, if_false, not_true_eq_false, not_false_eq_true, true_and, and_true, false_and, and_false, mg_now, mg_mind, mg_then, mp_kept, mg_kept, mg_text, mp_texted, mg_texted, mg_rules, mg_sizes, mp_ruled, mg_ruled, mg_read, mp_size, mg_size, mp_at, mg_at, mp_well, mg_well, mp_within, mg_within, mp_sum, mg_sum, mp_free, mg_free, mg_names, mg_letters, mg_begins, mg_words, mg_sums, mg_above, mg_bodies, mg_trace, mp_ran, mg_ran, mg_sorts, mg_lengths, mg_items, mg_moved, ma_now, ms_now, ma_mind, ms_mind, ma_then, ms_then, ma_text, ms_text, ma_rules, ms_rules, ma_sizes, ms_sizes, ma_read, ms_read, ma_names, ms_names, ma_letters, ma_begins, ma_words, ma_sums, ms_sums, ma_above, ma_bodies, ma_trace, ms_trace, ma_sorts, ms_sorts, ma_lengths, ms_lengths, ma_items, ms_items, ma_moved, ms_moved, mcv, q_number_0 (show i < 6 by omega), eK]
      rw [e0, show d + 28 = (d + 4) + 3 * 8 by omega, hb]
      simp only [s_183_0, s_183_0_n, s_183_1, s_183_1_n, s_183_2, s_183_3, s_183_4, s_183_7, s_183_8, s_183_9, s_183_10, s_183_13, s_185_0, s_185_0_n, s_185_1, s_185_2, s_185_5, s_185_5_n, s_185_6, s_185_7, s_185_10, s_185_13, s_185_14, s_185_15, s_185_16, s_185_19, s_185_22, s_185_22_n, s_185_23, s_185_24, s_185_25, s_185_26, s_185_29, s_185_32, s_185_33, ↓reduceIte, eq_self, rts_some, rts_none, nq_int, nq_ref, nq_null, nq_none, okr1_0, okr1_1, okr_b, List.length_nil, List.length_cons, Nat.zero_le, Nat.reduceAdd, Nat.reduceLeDiff, b2i_0, b2i_n0, b2i_1, b2i_n1, ite_not, if_true, if_false, not_true_eq_false, not_false_eq_true, true_and, and_true, false_and, and_false]
      rfl
    · rw [if_neg h2, if_neg (fun h => h2 h.2)]
      show _ = Q (some (.int 0)) (MH b (va_up sc 9 (nI 0)) (va_up ar 15 (ar 15)) lg G z)
      rw [va_us]
      rfl
  · rw [if_neg h1, if_neg (fun h => h1 h.1)]
    show _ = Q (some (.int 0)) (MH b (va_up sc 9 (nI 0)) (va_up ar 15 (ar 15)) lg G z)
    rw [va_us]
    rfl
theorem m_trace {n : Nat} (h9 : sc 9 = nI n) (hn : n < 2 ^ 20) : WP V (cdT Ev) mx (d + 2) 186 [.ref b, .int p] (MH b sc ar lg G z) Q = Q (some (.int (trR (sc 9) (ar 15) p))) (MH b sc ar lg G z) := by
  rw [e_186]
  simp only [s_186_0, s_186_1, s_186_2, s_186_4, s_186_4_n, s_186_5, s_186_8, s_186_11, s_186_12, s_186_13, s_186_16, s_186_20, s_186_23, s_186_24, s_186_25, s_186_28, s_186_29, ↓reduceIte, eq_self, rts_some, rts_none, nq_int, nq_ref, nq_null, nq_none, okr1_0, okr1_1, okr_b, List.length_nil, List.length_cons, Nat.zero_le, Nat.reduceAdd, Nat.reduceLeDiff, b2i_0, b2i_n0, b2i_1, b2i_n1, ite_not, if_true, if_false, not_true_eq_false, not_false_eq_true, true_and, and_true, false_and, and_false, mg_now, mg_mind, mg_then, mp_kept, mg_kept, mg_text, mp_texted, mg_texted, mg_rules, mg_sizes, mp_ruled, mg_ruled, mg_read, mp_size, mg_size, mp_at, mg_at, mp_well, mg_well, mp_within, mg_within, mp_sum, mg_sum, mp_free, mg_free, mg_names, mg_letters, mg_begins, mg_words, mg_sums, mg_above, mg_bodies, mg_trace, mp_ran, mg_ran, mg_sorts, mg_lengths, mg_items, mg_moved, ma_now, ms_now, ma_mind, ms_mind, ma_then, ms_then, ma_text, ms_text, ma_rules, ms_rules, ma_sizes, ms_sizes, ma_read, ms_read, ma_names, ms_names, ma_letters, ma_begins, ma_words, ma_sums, ms_sums, ma_above, ma_bodies, ma_trace, ms_trace, ma_sorts, ms_sorts, ma_lengths, ms_lengths, ma_items, ms_items, ma_moved, ms_moved, mcv, m_isIn, j_min]
  unfold trR
  by_cases h1 : 0 ≤ p ∧ p ≤ (if sc 9 < 20 then sc 9 else 20) - 1
  · rw [if_pos h1, if_pos h1]
    have hx : ix p 20 = True := by
      obtain ⟨j, hj, rfl⟩ := nI_of (Int32.not_lt.mpr h1.1)
      have h2 := h1.2
      rw [h9] at h2
      by_cases h20 : nI n < 20
      · rw [if_pos h20] at h2
        have h20' : n < 20 := (nI_ltI (by omega) (by decide)).mp h20
        rcases n with _ | m
        · have := Int32.le_trans (nI_pos' hj) h2
          exact absurd this (by decide)
        · rw [nI_pred] at h2
          have := (nI_leI hj (by omega)).mp h2
          exact ix_nIT (by omega) (by decide)
      · rw [if_neg h20, show (20 : Int32) - 1 = nI 19 from rfl] at h2
        have := (nI_leI hj (by decide)).mp h2
        exact ix_nIT (by omega) (by decide)
    simp only [s_186_0, s_186_1, s_186_2, s_186_4, s_186_4_n, s_186_5, s_186_8, s_186_11, s_186_12, s_186_13, s_186_16, s_186_19, s_186_19_n, s_186_20, s_186_23, s_186_24, s_186_25, s_186_28, s_186_29, ↓reduceIte, eq_self, rts_some, rts_none, nq_int, nq_ref, nq_null, nq_none, okr1_0, okr1_1, okr_b, List.length_nil, List.length_cons, Nat.zero_le, Nat.reduceAdd, Nat.reduceLeDiff, b2i_0, b2i_n0, b2i_1, b2i_n1, ite_not, if_true, if_false, not_true_eq_false, not_false_eq_true, true_and, and_true, false_and, and_false, mg_now, mg_mind, mg_then, mp_kept, mg_kept, mg_text, mp_texted, mg_texted, mg_rules, mg_sizes, mp_ruled, mg_ruled, mg_read, mp_size, mg_size, mp_at, mg_at, mp_well, mg_well, mp_within, mg_within, mp_sum, mg_sum, mp_free, mg_free, mg_names, mg_letters, mg_begins, mg_words, mg_sums, mg_above, mg_bodies, mg_trace, mp_ran, mg_ran, mg_sorts, mg_lengths, mg_items, mg_moved, ma_now, ms_now, ma_mind, ms_mind, ma_then, ms_then, ma_text, ms_text, ma_rules, ms_rules, ma_sizes, ms_sizes, ma_read, ms_read, ma_names, ms_names, ma_letters, ma_begins, ma_words, ma_sums, ms_sums, ma_above, ma_bodies, ma_trace, ms_trace, ma_sorts, ms_sorts, ma_lengths, ms_lengths, ma_items, ms_items, ma_moved, ms_moved, mcv, hx]
  · rw [if_neg h1, if_neg h1]
theorem m_tkz {is k : Int32} {j : Nat} (hj : is = nI j) (hj7 : j < 7) : wp V (cdT Ev) mx d 187 31 [some (.ref b), some (.int p), some (.int k), some (.int is)] [] (MH b sc ar lg G z) Q = if is = k then wp V (cdT Ev) mx d 187 51 [some (.ref b), some (.int p), some (.int k), some (.int is)] [] (MH b sc ar lg G z) Q else wp V (cdT Ev) mx d 187 31 [some (.ref b), some (.int p), some (.int k), some (.int (c_above j))] [] (MH b sc ar lg G z) Q := by
  subst hj
  have hne : (nI j = -1) = False := eq_false (fun e => by
    have := nI_toInt (n := j) (by omega)
    rw [e] at this
    have h2 : ((-1 : Int32).toInt) = -1 := by decide
    omega)
  have hx : ix (nI j) 7 = True := ix_nIT (by omega) (by decide)
  rw [s_187_31]
  simp only [s_187_0, s_187_1, s_187_2, s_187_4, s_187_7, s_187_10, s_187_12, s_187_13, s_187_13_n, s_187_14, s_187_15, s_187_18, s_187_21, s_187_23, s_187_24, s_187_24_n, s_187_25, s_187_26, s_187_27, s_187_30, s_187_32, s_187_33, s_187_36, s_187_37, s_187_38, s_187_41, s_187_41_n, s_187_42, s_187_45, s_187_46, s_187_47, s_187_48, s_187_52, s_187_53, s_187_56, s_187_56_n, s_187_57, s_187_58, s_187_59, s_187_62, s_187_65, s_187_67, ↓reduceIte, eq_self, rts_some, rts_none, nq_int, nq_ref, nq_null, nq_none, okr1_0, okr1_1, okr_b, List.length_nil, List.length_cons, Nat.zero_le, Nat.reduceAdd, Nat.reduceLeDiff, b2i_0, b2i_n0, b2i_1, b2i_n1, ite_not, if_true, if_false, not_true_eq_false, not_false_eq_true, true_and, and_true, false_and, and_false, mg_now, mg_mind, mg_then, mp_kept, mg_kept, mg_text, mp_texted, mg_texted, mg_rules, mg_sizes, mp_ruled, mg_ruled, mg_read, mp_size, mg_size, mp_at, mg_at, mp_well, mg_well, mp_within, mg_within, mp_sum, mg_sum, mp_free, mg_free, mg_names, mg_letters, mg_begins, mg_words, mg_sums, mg_above, mg_bodies, mg_trace, mp_ran, mg_ran, mg_sorts, mg_lengths, mg_items, mg_moved, ma_now, ms_now, ma_mind, ms_mind, ma_then, ms_then, ma_text, ms_text, ma_rules, ms_rules, ma_sizes, ms_sizes, ma_read, ms_read, ma_names, ms_names, ma_letters, ma_begins, ma_words, ma_sums, ms_sums, ma_above, ma_bodies, ma_trace, ms_trace, ma_sorts, ms_sorts, ma_lengths, ms_lengths, ma_items, ms_items, ma_moved, ms_moved, mcv, hne, hx, nI_clamp (show j < 2 ^ 31 by omega)]
theorem m_tkn {k : Int32} : wp V (cdT Ev) mx d 187 31 [some (.ref b), some (.int p), some (.int k), some (.int (-1))] [] (MH b sc ar lg G z) Q = wp V (cdT Ev) mx d 187 51 [some (.ref b), some (.int p), some (.int k), some (.int (-1))] [] (MH b sc ar lg G z) Q := by
  rw [s_187_31]
  simp only [s_187_0, s_187_1, s_187_2, s_187_4, s_187_7, s_187_10, s_187_12, s_187_13, s_187_13_n, s_187_14, s_187_15, s_187_18, s_187_21, s_187_23, s_187_24, s_187_24_n, s_187_25, s_187_26, s_187_27, s_187_30, s_187_32, s_187_33, s_187_36, s_187_37, s_187_38, s_187_41, s_187_41_n, s_187_42, s_187_45, s_187_46, s_187_47, s_187_48, s_187_52, s_187_53, s_187_56, s_187_56_n, s_187_57, s_187_58, s_187_59, s_187_62, s_187_65, s_187_67, ↓reduceIte, eq_self, rts_some, rts_none, nq_int, nq_ref, nq_null, nq_none, okr1_0, okr1_1, okr_b, List.length_nil, List.length_cons, Nat.zero_le, Nat.reduceAdd, Nat.reduceLeDiff, b2i_0, b2i_n0, b2i_1, b2i_n1, ite_not, if_true, if_false, not_true_eq_false, not_false_eq_true, true_and, and_true, false_and, and_false, mg_now, mg_mind, mg_then, mp_kept, mg_kept, mg_text, mp_texted, mg_texted, mg_rules, mg_sizes, mp_ruled, mg_ruled, mg_read, mp_size, mg_size, mp_at, mg_at, mp_well, mg_well, mp_within, mg_within, mp_sum, mg_sum, mp_free, mg_free, mg_names, mg_letters, mg_begins, mg_words, mg_sums, mg_above, mg_bodies, mg_trace, mp_ran, mg_ran, mg_sorts, mg_lengths, mg_items, mg_moved, ma_now, ms_now, ma_mind, ms_mind, ma_then, ms_then, ma_text, ms_text, ma_rules, ms_rules, ma_sizes, ms_sizes, ma_read, ms_read, ma_names, ms_names, ma_letters, ma_begins, ma_words, ma_sums, ms_sums, ma_above, ma_bodies, ma_trace, ms_trace, ma_sorts, ms_sorts, ma_lengths, ms_lengths, ma_items, ms_items, ma_moved, ms_moved, mcv]
theorem m_tk31 {K : Nat} (hK : K < 7) (hk : 0 ≤ k) : wp V (cdT Ev) mx d 187 31 [some (.ref b), some (.int p), some (.int k), some (.int (nI K))] [] (MH b sc ar lg G z) Q = if ancF K k = true then wp V (cdT Ev) mx d 187 51 [some (.ref b), some (.int p), some (.int k), some (.int k)] [] (MH b sc ar lg G z) Q else wp V (cdT Ev) mx d 187 51 [some (.ref b), some (.int p), some (.int k), some (.int (-1))] [] (MH b sc ar lg G z) Q := by
  match K, hK with
  | 0, _ =>
    rw [m_tkz (is := nI 0) (j := 0) rfl (by decide)]
    by_cases e0 : (nI 0 : Int32) = k
    · rw [if_pos e0, if_pos (by subst e0; decide), e0]
    rw [if_neg e0, c_above_0]
    rw [m_tkn, if_neg]
    simp only [ancF, Bool.or_eq_true, decide_eq_true_eq, not_or]
    exact fun h => e0 h.symm
  | 1, _ =>
    rw [m_tkz (is := nI 1) (j := 1) rfl (by decide)]
    by_cases e0 : (nI 1 : Int32) = k
    · rw [if_pos e0, if_pos (by subst e0; decide), e0]
    rw [if_neg e0, show c_above 1 = nI 0 from c_above_1]
    rw [m_tkz (is := nI 0) (j := 0) rfl (by decide)]
    by_cases e1 : (nI 0 : Int32) = k
    · rw [if_pos e1, if_pos (by subst e1; decide), e1]
    rw [if_neg e1, c_above_0]
    rw [m_tkn, if_neg]
    simp only [ancF, Bool.or_eq_true, decide_eq_true_eq, not_or]
    exact ⟨fun h => e0 h.symm, fun h => e1 h.symm⟩
  | 2, _ =>
    rw [m_tkz (is := nI 2) (j := 2) rfl (by decide)]
    by_cases e0 : (nI 2 : Int32) = k
    · rw [if_pos e0, if_pos (by subst e0; decide), e0]
    rw [if_neg e0, show c_above 2 = nI 0 from c_above_2]
    rw [m_tkz (is := nI 0) (j := 0) rfl (by decide)]
    by_cases e1 : (nI 0 : Int32) = k
    · rw [if_pos e1, if_pos (by subst e1; decide), e1]
    rw [if_neg e1, c_above_0]
    rw [m_tkn, if_neg]
    simp only [ancF, Bool.or_eq_true, decide_eq_true_eq, not_or]
    exact ⟨fun h => e0 h.symm, fun h => e1 h.symm⟩
  | 3, _ =>
    rw [m_tkz (is := nI 3) (j := 3) rfl (by decide)]
    by_cases e0 : (nI 3 : Int32) = k
    · rw [if_pos e0, if_pos (by subst e0; decide), e0]
    rw [if_neg e0, show c_above 3 = nI 0 from c_above_3]
    rw [m_tkz (is := nI 0) (j := 0) rfl (by decide)]
    by_cases e1 : (nI 0 : Int32) = k
    · rw [if_pos e1, if_pos (by subst e1; decide), e1]
    rw [if_neg e1, c_above_0]
    rw [m_tkn, if_neg]
    simp only [ancF, Bool.or_eq_true, decide_eq_true_eq, not_or]
    exact ⟨fun h => e0 h.symm, fun h => e1 h.symm⟩
  | 4, _ =>
    rw [m_tkz (is := nI 4) (j := 4) rfl (by decide)]
    by_cases e0 : (nI 4 : Int32) = k
    · rw [if_pos e0, if_pos (by subst e0; decide), e0]
    rw [if_neg e0, show c_above 4 = nI 1 from c_above_4]
    rw [m_tkz (is := nI 1) (j := 1) rfl (by decide)]
    by_cases e1 : (nI 1 : Int32) = k
    · rw [if_pos e1, if_pos (by subst e1; decide), e1]
    rw [if_neg e1, show c_above 1 = nI 0 from c_above_1]
    rw [m_tkz (is := nI 0) (j := 0) rfl (by decide)]
    by_cases e2 : (nI 0 : Int32) = k
    · rw [if_pos e2, if_pos (by subst e2; decide), e2]
    rw [if_neg e2, c_above_0]
    rw [m_tkn, if_neg]
    simp only [ancF, Bool.or_eq_true, decide_eq_true_eq, not_or]
    exact ⟨⟨fun h => e0 h.symm, fun h => e1 h.symm⟩, fun h => e2 h.symm⟩
  | 5, _ =>
    rw [m_tkz (is := nI 5) (j := 5) rfl (by decide)]
    by_cases e0 : (nI 5 : Int32) = k
    · rw [if_pos e0, if_pos (by subst e0; decide), e0]
    rw [if_neg e0, show c_above 5 = nI 2 from c_above_5]
    rw [m_tkz (is := nI 2) (j := 2) rfl (by decide)]
    by_cases e1 : (nI 2 : Int32) = k
    · rw [if_pos e1, if_pos (by subst e1; decide), e1]
    rw [if_neg e1, show c_above 2 = nI 0 from c_above_2]
    rw [m_tkz (is := nI 0) (j := 0) rfl (by decide)]
    by_cases e2 : (nI 0 : Int32) = k
    · rw [if_pos e2, if_pos (by subst e2; decide), e2]
    rw [if_neg e2, c_above_0]
    rw [m_tkn, if_neg]
    simp only [ancF, Bool.or_eq_true, decide_eq_true_eq, not_or]
    exact ⟨⟨fun h => e0 h.symm, fun h => e1 h.symm⟩, fun h => e2 h.symm⟩
  | 6, _ =>
    rw [m_tkz (is := nI 6) (j := 6) rfl (by decide)]
    by_cases e0 : (nI 6 : Int32) = k
    · rw [if_pos e0, if_pos (by subst e0; decide), e0]
    rw [if_neg e0, show c_above 6 = nI 3 from c_above_6]
    rw [m_tkz (is := nI 3) (j := 3) rfl (by decide)]
    by_cases e1 : (nI 3 : Int32) = k
    · rw [if_pos e1, if_pos (by subst e1; decide), e1]
    rw [if_neg e1, show c_above 3 = nI 0 from c_above_3]
    rw [m_tkz (is := nI 0) (j := 0) rfl (by decide)]
    by_cases e2 : (nI 0 : Int32) = k
    · rw [if_pos e2, if_pos (by subst e2; decide), e2]
    rw [if_neg e2, c_above_0]
    rw [m_tkn, if_neg]
    simp only [ancF, Bool.or_eq_true, decide_eq_true_eq, not_or]
    exact ⟨⟨fun h => e0 h.symm, fun h => e1 h.symm⟩, fun h => e2 h.symm⟩
theorem m_taken (hc : c6 (ar 1) c) (hK : KDok (ar 1) c) : WP V (cdT Ev) mx (d + 3) 187 [.ref b, .int p, .int k] (MH b sc ar lg G z) Q = Q (some (.int (tkR (ar 1) p k))) (MH b sc ar lg G z) := by
  have hc6 := hc.2
  rw [e_187]
  simp only [s_187_0, s_187_1, s_187_2, s_187_4, s_187_7, s_187_10, s_187_12, s_187_13, s_187_13_n, s_187_14, s_187_15, s_187_18, s_187_21, s_187_23, s_187_25, s_187_26, s_187_27, s_187_30, s_187_31, s_187_32, s_187_33, s_187_36, s_187_37, s_187_38, s_187_41, s_187_41_n, s_187_42, s_187_45, s_187_46, s_187_47, s_187_48, s_187_51, s_187_52, s_187_53, s_187_56, s_187_56_n, s_187_57, s_187_58, s_187_59, s_187_62, s_187_65, s_187_67, ↓reduceIte, eq_self, rts_some, rts_none, nq_int, nq_ref, nq_null, nq_none, okr1_0, okr1_1, okr_b, List.length_nil, List.length_cons, Nat.zero_le, Nat.reduceAdd, Nat.reduceLeDiff, b2i_0, b2i_n0, b2i_1, b2i_n1, ite_not, if_true, if_false, not_true_eq_false, not_false_eq_true, true_and, and_true, false_and, and_false, mg_now, mg_mind, mg_then, mp_kept, mg_kept, mg_text, mp_texted, mg_texted, mg_rules, mg_sizes, mp_ruled, mg_ruled, mg_read, mp_size, mg_size, mp_at, mg_at, mp_well, mg_well, mp_within, mg_within, mp_sum, mg_sum, mp_free, mg_free, mg_names, mg_letters, mg_begins, mg_words, mg_sums, mg_above, mg_bodies, mg_trace, mp_ran, mg_ran, mg_sorts, mg_lengths, mg_items, mg_moved, ma_now, ms_now, ma_mind, ms_mind, ma_then, ms_then, ma_text, ms_text, ma_rules, ms_rules, ma_sizes, ms_sizes, ma_read, ms_read, ma_names, ms_names, ma_letters, ma_begins, ma_words, ma_sums, ms_sums, ma_above, ma_bodies, ma_trace, ms_trace, ma_sorts, ms_sorts, ma_lengths, ms_lengths, ma_items, ms_items, ma_moved, ms_moved, mcv, m_isOne, m_isIn]
  unfold tkR
  by_cases h1 : 0 ≤ k ∧ k ≤ 6
  · rw [if_pos h1, if_pos h1]
    by_cases h2 : oneQ (ar 1) p
    · rw [if_pos h2, if_pos h2]
      obtain ⟨i, hi, rfl⟩ := oneQ_k hc h2
      obtain ⟨K, hK7, eK⟩ := hK i hi
      rw [nI_clamp (show i < 2 ^ 31 by omega), eK, nI_clamp (show K < 2 ^ 31 by omega)]
      simp only [s_187_0, s_187_1, s_187_2, s_187_4, s_187_7, s_187_10, s_187_12, s_187_13, s_187_13_n, s_187_14, s_187_15, s_187_18, s_187_21, s_187_23, s_187_24, s_187_24_n, s_187_25, s_187_26, s_187_27, s_187_30, s_187_32, s_187_33, s_187_36, s_187_37, s_187_38, s_187_41, s_187_41_n, s_187_42, s_187_45, s_187_46, s_187_47, s_187_48, s_187_51, s_187_52, s_187_53, s_187_56, s_187_56_n, s_187_57, s_187_58, s_187_59, s_187_62, s_187_65, s_187_67, ↓reduceIte, eq_self, rts_some, rts_none, nq_int, nq_ref, nq_null, nq_none, okr1_0, okr1_1, okr_b, List.length_nil, List.length_cons, Nat.zero_le, Nat.reduceAdd, Nat.reduceLeDiff, b2i_0, b2i_n0, b2i_1, b2i_n1, ite_not, if_true, if_false, not_true_eq_false, not_false_eq_true, true_and, and_true, false_and, and_false, mg_now, mg_mind, mg_then, mp_kept, mg_kept, mg_text, mp_texted, mg_texted, mg_rules, mg_sizes, mp_ruled, mg_ruled, mg_read, mp_size, mg_size, mp_at, mg_at, mp_well, mg_well, mp_within, mg_within, mp_sum, mg_sum, mp_free, mg_free, mg_names, mg_letters, mg_begins, mg_words, mg_sums, mg_above, mg_bodies, mg_trace, mp_ran, mg_ran, mg_sorts, mg_lengths, mg_items, mg_moved, ma_now, ms_now, ma_mind, ms_mind, ma_then, ms_then, ma_text, ms_text, ma_rules, ms_rules, ma_sizes, ms_sizes, ma_read, ms_read, ma_names, ms_names, ma_letters, ma_begins, ma_words, ma_sums, ms_sums, ma_above, ma_bodies, ma_trace, ms_trace, ma_sorts, ms_sorts, ma_lengths, ms_lengths, ma_items, ms_items, ma_moved, ms_moved, mcv, q_number_0 (show i < 6 by omega), eK]
      rw [m_tk31 hK7 h1.1]
      by_cases h3 : ancF K k = true
      · rw [if_pos h3, if_pos h3]
        simp only [s_187_0, s_187_1, s_187_2, s_187_4, s_187_7, s_187_10, s_187_12, s_187_13, s_187_13_n, s_187_14, s_187_15, s_187_18, s_187_21, s_187_23, s_187_24, s_187_24_n, s_187_25, s_187_26, s_187_27, s_187_30, s_187_32, s_187_33, s_187_36, s_187_37, s_187_38, s_187_41, s_187_41_n, s_187_42, s_187_45, s_187_46, s_187_47, s_187_48, s_187_51, s_187_52, s_187_53, s_187_56, s_187_56_n, s_187_57, s_187_58, s_187_59, s_187_62, s_187_65, s_187_67, ↓reduceIte, eq_self, rts_some, rts_none, nq_int, nq_ref, nq_null, nq_none, okr1_0, okr1_1, okr_b, List.length_nil, List.length_cons, Nat.zero_le, Nat.reduceAdd, Nat.reduceLeDiff, b2i_0, b2i_n0, b2i_1, b2i_n1, ite_not, if_true, if_false, not_true_eq_false, not_false_eq_true, true_and, and_true, false_and, and_false, mg_now, mg_mind, mg_then, mp_kept, mg_kept, mg_text, mp_texted, mg_texted, mg_rules, mg_sizes, mp_ruled, mg_ruled, mg_read, mp_size, mg_size, mp_at, mg_at, mp_well, mg_well, mp_within, mg_within, mp_sum, mg_sum, mp_free, mg_free, mg_names, mg_letters, mg_begins, mg_words, mg_sums, mg_above, mg_bodies, mg_trace, mp_ran, mg_ran, mg_sorts, mg_lengths, mg_items, mg_moved, ma_now, ms_now, ma_mind, ms_mind, ma_then, ms_then, ma_text, ms_text, ma_rules, ms_rules, ma_sizes, ms_sizes, ma_read, ms_read, ma_names, ms_names, ma_letters, ma_begins, ma_words, ma_sums, ms_sums, ma_above, ma_bodies, ma_trace, ms_trace, ma_sorts, ms_sorts, ma_lengths, ms_lengths, ma_items, ms_items, ma_moved, ms_moved, mcv, q_number_0 (show i < 6 by omega), eK]
      · rw [if_neg h3, if_neg h3]
        have : ((-1 : Int32) = k) = False := eq_false (fun e => by
          rw [← e] at h1
          exact absurd h1.1 (by decide))
        simp only [s_187_0, s_187_1, s_187_2, s_187_4, s_187_7, s_187_10, s_187_12, s_187_13, s_187_13_n, s_187_14, s_187_15, s_187_18, s_187_21, s_187_23, s_187_24, s_187_24_n, s_187_25, s_187_26, s_187_27, s_187_30, s_187_32, s_187_33, s_187_36, s_187_37, s_187_38, s_187_41, s_187_41_n, s_187_42, s_187_45, s_187_46, s_187_47, s_187_48, s_187_51, s_187_52, s_187_53, s_187_56, s_187_56_n, s_187_57, s_187_58, s_187_59, s_187_62, s_187_65, s_187_67, ↓reduceIte, eq_self, rts_some, rts_none, nq_int, nq_ref, nq_null, nq_none, okr1_0, okr1_1, okr_b, List.length_nil, List.length_cons, Nat.zero_le, Nat.reduceAdd, Nat.reduceLeDiff, b2i_0, b2i_n0, b2i_1, b2i_n1, ite_not, if_true, if_false, not_true_eq_false, not_false_eq_true, true_and, and_true, false_and, and_false, mg_now, mg_mind, mg_then, mp_kept, mg_kept, mg_text, mp_texted, mg_texted, mg_rules, mg_sizes, mp_ruled, mg_ruled, mg_read, mp_size, mg_size, mp_at, mg_at, mp_well, mg_well, mp_within, mg_within, mp_sum, mg_sum, mp_free, mg_free, mg_names, mg_letters, mg_begins, mg_words, mg_sums, mg_above, mg_bodies, mg_trace, mp_ran, mg_ran, mg_sorts, mg_lengths, mg_items, mg_moved, ma_now, ms_now, ma_mind, ms_mind, ma_then, ms_then, ma_text, ms_text, ma_rules, ms_rules, ma_sizes, ms_sizes, ma_read, ms_read, ma_names, ms_names, ma_letters, ma_begins, ma_words, ma_sums, ms_sums, ma_above, ma_bodies, ma_trace, ms_trace, ma_sorts, ms_sorts, ma_lengths, ms_lengths, ma_items, ms_items, ma_moved, ms_moved, mcv, this]
    · rw [if_neg h2, if_neg h2]
  · rw [if_neg h1, if_neg h1]
end
