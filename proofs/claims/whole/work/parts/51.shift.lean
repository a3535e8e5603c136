/-! Tapes that are shifted and judged: the reference. -/
theorem updL_s {f : Nat → Int64} {k j : Nat} {v : Int64} : vp_updL f k v j = if j = k then v else f j := rfl
def mvF (f g : Nat → Int64) (from' : Nat) : Nat → Nat → Int64
  | 0 => g
  | k + 1 => vp_updL (mvF f g from' k) k (f (from' + k))
def bkL (m f : Nat → Int64) (to' : Nat) : Nat → Nat → Int64
  | 0 => f
  | k + 1 => vp_updL (bkL m f to' k) (to' + k) (m k)
theorem mvF_k {f g : Nat → Int64} {a : Nat} : ∀ n j, j < n → mvF f g a n j = f (a + j) := by
  intro n
  induction n with
  | zero =>
    intro j hj
    omega
  | succ n ih =>
    intro j hj
    simp only [mvF, updL_s]
    by_cases e : j = n
    · subst e
      rw [if_pos rfl]
    · rw [if_neg e]
      exact ih j (by omega)
theorem bkL_eq {f g : Nat → Int64} {a c : Nat} : ∀ n N, n ≤ N → bkL (mvF f g a N) f c n = shF f a c n := by
  intro n
  induction n with
  | zero =>
    intro N _
    funext k
    simp only [bkL, shF]
    rw [if_neg (by omega)]
  | succ n ih =>
    intro N hN
    funext k
    simp only [bkL, updL_s]
    rw [ih N (by omega), mvF_k N n (by omega)]
    simp only [shF]
    by_cases e : k = c + n
    · subst e
      rw [if_pos rfl, if_pos (by omega), Nat.add_sub_cancel_left]
    · rw [if_neg e]
      by_cases h : c ≤ k ∧ k < c + n
      · rw [if_pos h, if_pos (by omega)]
      · rw [if_neg h, if_neg (by omega)]
section
variable {V : Nat → Option AE} {Ev : Nat → Value} {d : Nat} {Q : Option Value → HS → Prop} {h : HS}
variable {b : Nat} {lg : Nat → Nat → Int64} {G : Nat → Option AE} {z : Nat × Nat} {sc : Nat → Int32} {ar : Nat → Nat → Int32} {t i s n o j : Int32} {v : Int64}
theorem x60b {t i k : Nat} : (60 : Int32) * nI t + nI i + nI k = nI (60 * t + i + k) := by rw [x60, nI_add]
theorem m_sh1 {t i o j n : Nat} (ht : t < 6) (hn : i + n ≤ 60) : ∀ m k, k + m = n → ∀ lg0 : Nat → Nat → Int64, wp V (cdT Ev) mx d 193 102 [some (.ref b), some (.int (nI t)), some (.int (nI i)), some (.int (nI o)), some (.int (nI j)), some (.int (nI n)), some (.int (nI k))] [] (MH b sc ar (va_up lg0 19 (mvF (lg0 18) (lg0 19) (60 * t + i) k)) G z) Q = wp V (cdT Ev) mx d 193 136 [some (.ref b), some (.int (nI t)), some (.int (nI i)), some (.int (nI o)), some (.int (nI j)), some (.int (nI n)), some (.int (nI n))] [] (MH b sc ar (va_up lg0 19 (mvF (lg0 18) (lg0 19) (60 * t + i) n)) G z) Q := by
  intro m
  induction m with
  | zero =>
    intro k hk lg0
    obtain rfl : k = n := by omega
    have hle : (nI k ≤ nI k) = True := eq_true (nI_le (by omega) (by omega))
    rw [s_193_102]
    simp only [s_193_0, s_193_1, s_193_4, s_193_7, s_193_8, s_193_11, s_193_14, s_193_15, s_193_16, s_193_16_n, s_193_17, s_193_20, s_193_21, s_193_22, s_193_25, s_193_25_n, s_193_26, s_193_29, s_193_30, s_193_31, s_193_34, s_193_36, s_193_37, s_193_37_n, s_193_38, s_193_41, s_193_42, s_193_43, s_193_43_n, s_193_44, s_193_47, s_193_48, s_193_49, s_193_52, s_193_54, s_193_55, s_193_57, s_193_60, s_193_61, s_193_64, s_193_66, s_193_69, s_193_71, s_193_71_n, s_193_72, s_193_75, s_193_76, s_193_77, s_193_78, s_193_79, s_193_82, s_193_84, s_193_84_n, s_193_85, s_193_88, s_193_89, s_193_90, s_193_92, s_193_93, s_193_96, s_193_98, s_193_99, s_193_100, s_193_104, s_193_106, s_193_109, s_193_109_n, s_193_110, s_193_113, s_193_115, s_193_115_n, s_193_116, s_193_119, s_193_121, s_193_122, s_193_123, s_193_124, s_193_125, s_193_127, s_193_128, s_193_129, s_193_130, s_193_133, s_193_137, s_193_139, s_193_141, s_193_143, s_193_146, s_193_146_n, s_193_147, s_193_150, s_193_152, s_193_153, s_193_154, s_193_156, s_193_157, s_193_159, s_193_160, s_193_160_n, s_193_161, s_193_164, s_193_166, s_193_167, s_193_168, s_193_171, s_193_174, s_193_176, ↓reduceIte, eq_self, rts_some, rts_none, nq_int, nq_ref, nq_null, nq_none, okr1_0, okr1_1, okr_b, List.length_nil, List.length_cons, Nat.zero_le, Nat.reduceAdd, Nat.reduceLeDiff, b2i_0, b2i_n0, b2i_1, b2i_n1, ite_not, if_true, if_false, not_true_eq_false, not_false_eq_true, true_and, and_true, false_and, and_false, hle]
  | succ m ih =>
    intro k hk lg0
    have hlt : (nI n ≤ nI k) = False := eq_false (nI_ge (by omega) (by omega))
    have hx : ix (nI (60 * t + i + k)) 360 = True := ix_nIT (by omega) (by decide)
    have hx2 : ix (nI k) 60 = True := ix_nIT (by omega) (by decide)
    rw [← ih (k + 1) (by omega) lg0, s_193_102]
    simp only [s_193_0, s_193_1, s_193_4, s_193_7, s_193_8, s_193_11, s_193_14, s_193_15, s_193_16, s_193_16_n, s_193_17, s_193_20, s_193_21, s_193_22, s_193_25, s_193_25_n, s_193_26, s_193_29, s_193_30, s_193_31, s_193_34, s_193_36, s_193_37, s_193_37_n, s_193_38, s_193_41, s_193_42, s_193_43, s_193_43_n, s_193_44, s_193_47, s_193_48, s_193_49, s_193_52, s_193_54, s_193_55, s_193_57, s_193_60, s_193_61, s_193_64, s_193_66, s_193_69, s_193_71, s_193_71_n, s_193_72, s_193_75, s_193_76, s_193_77, s_193_78, s_193_79, s_193_82, s_193_84, s_193_84_n, s_193_85, s_193_88, s_193_89, s_193_90, s_193_92, s_193_93, s_193_96, s_193_98, s_193_99, s_193_100, s_193_104, s_193_106, s_193_109, s_193_109_n, s_193_110, s_193_113, s_193_115, s_193_115_n, s_193_116, s_193_119, s_193_121, s_193_122, s_193_123, s_193_124, s_193_125, s_193_127, s_193_128, s_193_129, s_193_130, s_193_133, s_193_137, s_193_139, s_193_141, s_193_143, s_193_146, s_193_146_n, s_193_147, s_193_150, s_193_152, s_193_153, s_193_154, s_193_156, s_193_157, s_193_159, s_193_160, s_193_160_n, s_193_161, s_193_164, s_193_166, s_193_167, s_193_168, s_193_171, s_193_174, s_193_176, ↓reduceIte, eq_self, rts_some, rts_none, nq_int, nq_ref, nq_null, nq_none, okr1_0, okr1_1, okr_b, List.length_nil, List.length_cons, Nat.zero_le, Nat.reduceAdd, Nat.reduceLeDiff, b2i_0, b2i_n0, b2i_1, b2i_n1, ite_not, if_true, if_false, not_true_eq_false, not_false_eq_true, true_and, and_true, false_and, and_false, mg_now, mg_mind, mg_then, mp_kept, mg_kept, mg_text, mp_texted, mg_texted, mg_rules, mg_sizes, mp_ruled, mg_ruled, mg_read, mp_size, mg_size, mp_at, mg_at, mp_well, mg_well, mp_within, mg_within, mp_sum, mg_sum, mp_free, mg_free, mg_names, mg_letters, mg_begins, mg_words, mg_sums, mg_above, mg_bodies, mg_trace, mp_ran, mg_ran, mg_sorts, mg_lengths, mg_items, mg_moved, ma_now, ms_now, ma_mind, ms_mind, ma_then, ms_then, ma_text, ms_text, ma_rules, ms_rules, ma_sizes, ms_sizes, ma_read, ms_read, ma_names, ms_names, ma_letters, ma_begins, ma_words, ma_sums, ms_sums, ma_above, ma_bodies, ma_trace, ms_trace, ma_sorts, ms_sorts, ma_lengths, ms_lengths, ma_items, ms_items, ma_moved, ms_moved, mcv, hlt, x60b, hx, hx2, nI_clamp (show 60 * t + i + k < 2 ^ 31 by omega), nI_clamp (show k < 2 ^ 31 by omega), nI_1, vu, va_uu, Nat.reduceEqDiff]
    rfl
theorem m_sh2 {t i o j n : Nat} (ho : o < 6) (hn : j + n ≤ 60) {M : Nat → Int64} : ∀ m k, k + m = n → ∀ lg0 : Nat → Nat → Int64, lg0 19 = M → wp V (cdT Ev) mx d 193 139 [some (.ref b), some (.int (nI t)), some (.int (nI i)), some (.int (nI o)), some (.int (nI j)), some (.int (nI n)), some (.int (nI k))] [] (MH b sc ar (va_up lg0 18 (bkL M (lg0 18) (60 * o + j) k)) G z) Q = Q (some (.int (nI n))) (MH b sc ar (va_up lg0 18 (bkL M (lg0 18) (60 * o + j) n)) G z) := by
  intro m
  induction m with
  | zero =>
    intro k hk lg0 hM
    obtain rfl : k = n := by omega
    have hle : (nI k ≤ nI k) = True := eq_true (nI_le (by omega) (by omega))
    rw [s_193_139]
    simp only [s_193_0, s_193_1, s_193_4, s_193_7, s_193_8, s_193_11, s_193_14, s_193_15, s_193_16, s_193_16_n, s_193_17, s_193_20, s_193_21, s_193_22, s_193_25, s_193_25_n, s_193_26, s_193_29, s_193_30, s_193_31, s_193_34, s_193_36, s_193_37, s_193_37_n, s_193_38, s_193_41, s_193_42, s_193_43, s_193_43_n, s_193_44, s_193_47, s_193_48, s_193_49, s_193_52, s_193_54, s_193_55, s_193_57, s_193_60, s_193_61, s_193_64, s_193_66, s_193_69, s_193_71, s_193_71_n, s_193_72, s_193_75, s_193_76, s_193_77, s_193_78, s_193_79, s_193_82, s_193_84, s_193_84_n, s_193_85, s_193_88, s_193_89, s_193_90, s_193_92, s_193_93, s_193_96, s_193_98, s_193_99, s_193_100, s_193_104, s_193_106, s_193_109, s_193_109_n, s_193_110, s_193_113, s_193_115, s_193_115_n, s_193_116, s_193_119, s_193_121, s_193_122, s_193_123, s_193_124, s_193_125, s_193_127, s_193_128, s_193_129, s_193_130, s_193_133, s_193_136, s_193_137, s_193_141, s_193_143, s_193_146, s_193_146_n, s_193_147, s_193_150, s_193_152, s_193_153, s_193_154, s_193_156, s_193_157, s_193_159, s_193_160, s_193_160_n, s_193_161, s_193_164, s_193_166, s_193_167, s_193_168, s_193_171, s_193_174, s_193_176, ↓reduceIte, eq_self, rts_some, rts_none, nq_int, nq_ref, nq_null, nq_none, okr1_0, okr1_1, okr_b, List.length_nil, List.length_cons, Nat.zero_le, Nat.reduceAdd, Nat.reduceLeDiff, b2i_0, b2i_n0, b2i_1, b2i_n1, ite_not, if_true, if_false, not_true_eq_false, not_false_eq_true, true_and, and_true, false_and, and_false, hle]
  | succ m ih =>
    intro k hk lg0 hM
    have hlt : (nI n ≤ nI k) = False := eq_false (nI_ge (by omega) (by omega))
    have hx : ix (nI (60 * o + j + k)) 360 = True := ix_nIT (by omega) (by decide)
    have hx2 : ix (nI k) 60 = True := ix_nIT (by omega) (by decide)
    rw [← ih (k + 1) (by omega) lg0 hM, s_193_139]
    simp only [s_193_0, s_193_1, s_193_4, s_193_7, s_193_8, s_193_11, s_193_14, s_193_15, s_193_16, s_193_16_n, s_193_17, s_193_20, s_193_21, s_193_22, s_193_25, s_193_25_n, s_193_26, s_193_29, s_193_30, s_193_31, s_193_34, s_193_36, s_193_37, s_193_37_n, s_193_38, s_193_41, s_193_42, s_193_43, s_193_43_n, s_193_44, s_193_47, s_193_48, s_193_49, s_193_52, s_193_54, s_193_55, s_193_57, s_193_60, s_193_61, s_193_64, s_193_66, s_193_69, s_193_71, s_193_71_n, s_193_72, s_193_75, s_193_76, s_193_77, s_193_78, s_193_79, s_193_82, s_193_84, s_193_84_n, s_193_85, s_193_88, s_193_89, s_193_90, s_193_92, s_193_93, s_193_96, s_193_98, s_193_99, s_193_100, s_193_104, s_193_106, s_193_109, s_193_109_n, s_193_110, s_193_113, s_193_115, s_193_115_n, s_193_116, s_193_119, s_193_121, s_193_122, s_193_123, s_193_124, s_193_125, s_193_127, s_193_128, s_193_129, s_193_130, s_193_133, s_193_136, s_193_137, s_193_141, s_193_143, s_193_146, s_193_146_n, s_193_147, s_193_150, s_193_152, s_193_153, s_193_154, s_193_156, s_193_157, s_193_159, s_193_160, s_193_160_n, s_193_161, s_193_164, s_193_166, s_193_167, s_193_168, s_193_171, s_193_174, s_193_176, ↓reduceIte, eq_self, rts_some, rts_none, nq_int, nq_ref, nq_null, nq_none, okr1_0, okr1_1, okr_b, List.length_nil, List.length_cons, Nat.zero_le, Nat.reduceAdd, Nat.reduceLeDiff, b2i_0, b2i_n0, b2i_1, b2i_n1, ite_not, if_true, if_false, not_true_eq_false, not_false_eq_true, true_and, and_true, false_and, and_false, mg_now, mg_mind, mg_then, mp_kept, mg_kept, mg_text, mp_texted, mg_texted, mg_rules, mg_sizes, mp_ruled, mg_ruled, mg_read, mp_size, mg_size, mp_at, mg_at, mp_well, mg_well, mp_within, mg_within, mp_sum, mg_sum, mp_free, mg_free, mg_names, mg_letters, mg_begins, mg_words, mg_sums, mg_above, mg_bodies, mg_trace, mp_ran, mg_ran, mg_sorts, mg_lengths, mg_items, mg_moved, ma_now, ms_now, ma_mind, ms_mind, ma_then, ms_then, ma_text, ms_text, ma_rules, ms_rules, ma_sizes, ms_sizes, ma_read, ms_read, ma_names, ms_names, ma_letters, ma_begins, ma_words, ma_sums, ms_sums, ma_above, ma_bodies, ma_trace, ms_trace, ma_sorts, ms_sorts, ma_lengths, ms_lengths, ma_items, ms_items, ma_moved, ms_moved, mcv, hlt, x60b, hx, hx2, nI_clamp (show 60 * o + j + k < 2 ^ 31 by omega), nI_clamp (show k < 2 ^ 31 by omega), nI_1, vu, va_uu, Nat.reduceEqDiff, hM]
    rfl
/-- what a shift answers -/
abbrev plaQ (ls : Nat → Int32) (t i o j n : Int32) : Prop := ¬ n < 0 ∧ ¬ i < 0 ∧ ¬ j < 0 ∧ ¬ ls t.toNatClampNeg - i < n ∧ ¬ ls o.toNatClampNeg - j < n
theorem m_shift (hT : TPok (ar 16) (ar 17)) (H1 : ¬ (tapQ t ∧ tapQ o) → Q (some (.int (-1))) (MH b sc ar lg G z)) (H2 : tapQ t → tapQ o → (ar 16 t.toNatClampNeg < 0 ∨ ar 16 o.toNatClampNeg < 0) → Q (some (.int (-11))) (MH b sc ar lg G z)) (H3 : tapQ t → tapQ o → ¬ ar 16 t.toNatClampNeg < 0 → ¬ ar 16 o.toNatClampNeg < 0 → ¬ ar 16 t.toNatClampNeg = ar 16 o.toNatClampNeg → Q (some (.int (-12))) (MH b sc ar lg G z)) (H4 : tapQ t → tapQ o → ¬ ar 16 t.toNatClampNeg < 0 → ¬ ar 16 o.toNatClampNeg < 0 → ar 16 t.toNatClampNeg = ar 16 o.toNatClampNeg → ¬ plaQ (ar 17) t i o j n → Q (some (.int (-13))) (MH b sc ar lg G z)) (H5 : tapQ t → tapQ o → ¬ ar 16 t.toNatClampNeg < 0 → ¬ ar 16 o.toNatClampNeg < 0 → ar 16 t.toNatClampNeg = ar 16 o.toNatClampNeg → plaQ (ar 17) t i o j n → ∀ m, Q (some (.int n)) (MH b sc ar (va_up (va_up lg 19 m) 18 (shF (lg 18) (60 * t.toNatClampNeg + i.toNatClampNeg) (60 * o.toNatClampNeg + j.toNatClampNeg) n.toNatClampNeg)) G z)) : WP V (cdT Ev) mx (d + 3) 193 [.ref b, .int t, .int i, .int o, .int j, .int n] (MH b sc ar lg G z) Q := by
  rw [e_193]
  by_cases h1 : tapQ t
  · by_cases h2 : tapQ o
    · obtain ⟨k, hk, rfl⟩ := tapQ_k h1
      obtain ⟨k2, hk2, rfl⟩ := tapQ_k h2
      obtain ⟨L, hL, eL, -⟩ := hT k hk
      obtain ⟨L2, hL2, eL2, -⟩ := hT k2 hk2
      have hx : ix (nI k) 6 = True := ix_nIT (by omega) (by decide)
      have hx2 : ix (nI k2) 6 = True := ix_nIT (by omega) (by decide)
      have G2 := H2 h1 h2
      have G3 := H3 h1 h2
      have G4 := H4 h1 h2
      have G5 := H5 h1 h2
      simp only [plaQ] at G4 G5
      rw [nI_clamp (show k < 2 ^ 31 by omega), nI_clamp (show k2 < 2 ^ 31 by omega)] at G2 G3 G4 G5
      simp only [tapQ] at h1 h2
      simp only [s_193_0, s_193_1, s_193_4, s_193_7, s_193_8, s_193_11, s_193_14, s_193_15, s_193_16, s_193_16_n, s_193_17, s_193_20, s_193_21, s_193_22, s_193_25, s_193_25_n, s_193_26, s_193_29, s_193_30, s_193_31, s_193_34, s_193_36, s_193_37, s_193_37_n, s_193_38, s_193_41, s_193_42, s_193_43, s_193_43_n, s_193_44, s_193_47, s_193_48, s_193_49, s_193_52, s_193_54, s_193_57, s_193_60, s_193_61, s_193_64, s_193_66, s_193_69, s_193_71, s_193_71_n, s_193_72, s_193_75, s_193_76, s_193_77, s_193_78, s_193_79, s_193_82, s_193_84, s_193_84_n, s_193_85, s_193_88, s_193_89, s_193_90, s_193_92, s_193_93, s_193_96, s_193_98, s_193_99, s_193_100, s_193_102, s_193_104, s_193_106, s_193_109, s_193_109_n, s_193_110, s_193_113, s_193_115, s_193_115_n, s_193_116, s_193_119, s_193_121, s_193_122, s_193_123, s_193_124, s_193_125, s_193_127, s_193_128, s_193_129, s_193_130, s_193_133, s_193_136, s_193_137, s_193_139, s_193_141, s_193_143, s_193_146, s_193_146_n, s_193_147, s_193_150, s_193_152, s_193_153, s_193_154, s_193_156, s_193_157, s_193_159, s_193_160, s_193_160_n, s_193_161, s_193_164, s_193_166, s_193_167, s_193_168, s_193_171, s_193_174, s_193_176, ↓reduceIte, eq_self, rts_some, rts_none, nq_int, nq_ref, nq_null, nq_none, okr1_0, okr1_1, okr_b, List.length_nil, List.length_cons, Nat.zero_le, Nat.reduceAdd, Nat.reduceLeDiff, b2i_0, b2i_n0, b2i_1, b2i_n1, ite_not, if_true, if_false, not_true_eq_false, not_false_eq_true, true_and, and_true, false_and, and_false, mg_now, mg_mind, mg_then, mp_kept, mg_kept, mg_text, mp_texted, mg_texted, mg_rules, mg_sizes, mp_ruled, mg_ruled, mg_read, mp_size, mg_size, mp_at, mg_at, mp_well, mg_well, mp_within, mg_within, mp_sum, mg_sum, mp_free, mg_free, mg_names, mg_letters, mg_begins, mg_words, mg_sums, mg_above, mg_bodies, mg_trace, mp_ran, mg_ran, mg_sorts, mg_lengths, mg_items, mg_moved, ma_now, ms_now, ma_mind, ms_mind, ma_then, ms_then, ma_text, ms_text, ma_rules, ms_rules, ma_sizes, ms_sizes, ma_read, ms_read, ma_names, ms_names, ma_letters, ma_begins, ma_words, ma_sums, ms_sums, ma_above, ma_bodies, ma_trace, ms_trace, ma_sorts, ms_sorts, ma_lengths, ms_lengths, ma_items, ms_items, ma_moved, ms_moved, mcv, m_isTape, h1, h2, and_self, hx, hx2, nI_clamp (show k < 2 ^ 31 by omega), nI_clamp (show k2 < 2 ^ 31 by omega)]
      by_cases s1 : ar 16 k < 0
      · rw [if_pos s1]
        exact G2 (Or.inl s1)
      rw [if_neg s1]
      by_cases s2 : ar 16 k2 < 0
      · rw [if_neg (Int32.not_le.mpr s2)]
        exact G2 (Or.inr s2)
      rw [if_pos (Int32.not_lt.mp s2)]
      by_cases s3n : ¬ ar 16 k = ar 16 k2
      · rw [if_neg s3n]
        exact G3 s1 s2 s3n
      have s3 := Classical.not_not.mp s3n
      rw [if_pos s3]
      have K4 := G4 s1 s2 s3
      have K5 := G5 s1 s2 s3
      simp only [s_193_0, s_193_1, s_193_4, s_193_7, s_193_8, s_193_11, s_193_14, s_193_15, s_193_16, s_193_16_n, s_193_17, s_193_20, s_193_21, s_193_22, s_193_25, s_193_25_n, s_193_26, s_193_29, s_193_30, s_193_31, s_193_34, s_193_36, s_193_37, s_193_37_n, s_193_38, s_193_41, s_193_42, s_193_43, s_193_43_n, s_193_44, s_193_47, s_193_48, s_193_49, s_193_52, s_193_54, s_193_55, s_193_57, s_193_60, s_193_61, s_193_64, s_193_66, s_193_69, s_193_71, s_193_71_n, s_193_72, s_193_75, s_193_76, s_193_77, s_193_78, s_193_79, s_193_82, s_193_84, s_193_84_n, s_193_85, s_193_88, s_193_89, s_193_90, s_193_92, s_193_93, s_193_96, s_193_98, s_193_99, s_193_100, s_193_104, s_193_106, s_193_109, s_193_109_n, s_193_110, s_193_113, s_193_115, s_193_115_n, s_193_116, s_193_119, s_193_121, s_193_122, s_193_123, s_193_124, s_193_125, s_193_127, s_193_128, s_193_129, s_193_130, s_193_133, s_193_136, s_193_137, s_193_139, s_193_141, s_193_143, s_193_146, s_193_146_n, s_193_147, s_193_150, s_193_152, s_193_153, s_193_154, s_193_156, s_193_157, s_193_159, s_193_160, s_193_160_n, s_193_161, s_193_164, s_193_166, s_193_167, s_193_168, s_193_171, s_193_174, s_193_176, ↓reduceIte, eq_self, rts_some, rts_none, nq_int, nq_ref, nq_null, nq_none, okr1_0, okr1_1, okr_b, List.length_nil, List.length_cons, Nat.zero_le, Nat.reduceAdd, Nat.reduceLeDiff, b2i_0, b2i_n0, b2i_1, b2i_n1, ite_not, if_true, if_false, not_true_eq_false, not_false_eq_true, true_and, and_true, false_and, and_false, mg_now, mg_mind, mg_then, mp_kept, mg_kept, mg_text, mp_texted, mg_texted, mg_rules, mg_sizes, mp_ruled, mg_ruled, mg_read, mp_size, mg_size, mp_at, mg_at, mp_well, mg_well, mp_within, mg_within, mp_sum, mg_sum, mp_free, mg_free, mg_names, mg_letters, mg_begins, mg_words, mg_sums, mg_above, mg_bodies, mg_trace, mp_ran, mg_ran, mg_sorts, mg_lengths, mg_items, mg_moved, ma_now, ms_now, ma_mind, ms_mind, ma_then, ms_then, ma_text, ms_text, ma_rules, ms_rules, ma_sizes, ms_sizes, ma_read, ms_read, ma_names, ms_names, ma_letters, ma_begins, ma_words, ma_sums, ms_sums, ma_above, ma_bodies, ma_trace, ms_trace, ma_sorts, ms_sorts, ma_lengths, ms_lengths, ma_items, ms_items, ma_moved, ms_moved, mcv, hx, hx2, nI_clamp (show k < 2 ^ 31 by omega), nI_clamp (show k2 < 2 ^ 31 by omega)]
      by_cases q1 : n < 0
      · rw [if_pos q1]
        exact K4 (fun h => h.1 q1)
      rw [if_neg q1]
      by_cases q2 : i < 0
      · rw [if_pos q2]
        exact K4 (fun h => h.2.1 q2)
      rw [if_neg q2]
      by_cases q3 : j < 0
      · rw [if_pos q3]
        exact K4 (fun h => h.2.2.1 q3)
      rw [if_neg q3]
      by_cases q4 : ar 17 k - i < n
      · rw [if_pos q4]
        exact K4 (fun h => h.2.2.2.1 q4)
      rw [if_neg q4]
      by_cases q5 : ar 17 k2 - j < n
      · rw [if_neg (Int32.not_le.mpr q5)]
        exact K4 (fun h => h.2.2.2.2 q5)
      rw [if_pos (Int32.not_lt.mp q5)]
      have K6 := K5 ⟨q1, q2, q3, q4, q5⟩
      obtain ⟨n', hn', rfl⟩ := nI_of q1
      obtain ⟨i', hi', rfl⟩ := nI_of q2
      obtain ⟨j', hj', rfl⟩ := nI_of q3
      rw [eL] at q4
      rw [eL2] at q5
      have r4 := (le_sub60 hn' hL hi').mp q4
      have r5 := (le_sub60 hn' hL2 hj').mp q5
      rw [nI_clamp hn', nI_clamp hi', nI_clamp hj'] at K6
      have w1 := m_sh1 (V := V) (Ev := Ev) (d := d + 2) (Q := Q) (b := b) (G := G) (z := z) (sc := sc) (ar := ar) (t := k) (i := i') (o := k2) (j := j') (n := n') hk (by omega) n' 0 (by omega) lg
      rw [mvF, va_us] at w1
      refine Eq.mpr w1 ?_
      clear w1
      simp only [s_193_0, s_193_1, s_193_4, s_193_7, s_193_8, s_193_11, s_193_14, s_193_15, s_193_16, s_193_16_n, s_193_17, s_193_20, s_193_21, s_193_22, s_193_25, s_193_25_n, s_193_26, s_193_29, s_193_30, s_193_31, s_193_34, s_193_36, s_193_37, s_193_37_n, s_193_38, s_193_41, s_193_42, s_193_43, s_193_43_n, s_193_44, s_193_47, s_193_48, s_193_49, s_193_52, s_193_54, s_193_55, s_193_57, s_193_60, s_193_61, s_193_64, s_193_66, s_193_69, s_193_71, s_193_71_n, s_193_72, s_193_75, s_193_76, s_193_77, s_193_78, s_193_79, s_193_82, s_193_84, s_193_84_n, s_193_85, s_193_88, s_193_89, s_193_90, s_193_92, s_193_93, s_193_96, s_193_98, s_193_99, s_193_100, s_193_104, s_193_106, s_193_109, s_193_109_n, s_193_110, s_193_113, s_193_115, s_193_115_n, s_193_116, s_193_119, s_193_121, s_193_122, s_193_123, s_193_124, s_193_125, s_193_127, s_193_128, s_193_129, s_193_130, s_193_133, s_193_136, s_193_137, s_193_141, s_193_143, s_193_146, s_193_146_n, s_193_147, s_193_150, s_193_152, s_193_153, s_193_154, s_193_156, s_193_157, s_193_159, s_193_160, s_193_160_n, s_193_161, s_193_164, s_193_166, s_193_167, s_193_168, s_193_171, s_193_174, s_193_176, ↓reduceIte, eq_self, rts_some, rts_none, nq_int, nq_ref, nq_null, nq_none, okr1_0, okr1_1, okr_b, List.length_nil, List.length_cons, Nat.zero_le, Nat.reduceAdd, Nat.reduceLeDiff, b2i_0, b2i_n0, b2i_1, b2i_n1, ite_not, if_true, if_false, not_true_eq_false, not_false_eq_true, true_and, and_true, false_and, and_false]
      have w2 := m_sh2 (V := V) (Ev := Ev) (d := d + 2) (Q := Q) (b := b) (G := G) (z := z) (sc := sc) (ar := ar) (t := k) (i := i') (o := k2) (j := j') (n := n') hk2 (by omega) n' 0 (by omega) (va_up lg 19 (mvF (lg 18) (lg 19) (60 * k + i') n')) rfl
      rw [bkL, va_us] at w2
      refine Eq.mpr w2 ?_
      have := K6 (mvF (lg 18) (lg 19) (60 * k + i') n')
      rw [← bkL_eq (g := lg 19) n' n' (Nat.le_refl _)] at this
      exact this
    · simp only [tapQ] at h1 h2
      simp only [s_193_0, s_193_1, s_193_4, s_193_7, s_193_8, s_193_11, s_193_14, s_193_15, s_193_17, s_193_20, s_193_21, s_193_22, s_193_25, s_193_25_n, s_193_26, s_193_29, s_193_30, s_193_31, s_193_34, s_193_36, s_193_37, s_193_37_n, s_193_38, s_193_41, s_193_42, s_193_43, s_193_43_n, s_193_44, s_193_47, s_193_48, s_193_49, s_193_52, s_193_54, s_193_55, s_193_57, s_193_60, s_193_61, s_193_64, s_193_66, s_193_69, s_193_71, s_193_71_n, s_193_72, s_193_75, s_193_76, s_193_77, s_193_78, s_193_79, s_193_82, s_193_84, s_193_84_n, s_193_85, s_193_88, s_193_89, s_193_90, s_193_92, s_193_93, s_193_96, s_193_98, s_193_99, s_193_100, s_193_102, s_193_104, s_193_106, s_193_109, s_193_109_n, s_193_110, s_193_113, s_193_115, s_193_115_n, s_193_116, s_193_119, s_193_121, s_193_122, s_193_123, s_193_124, s_193_125, s_193_127, s_193_128, s_193_129, s_193_130, s_193_133, s_193_136, s_193_137, s_193_139, s_193_141, s_193_143, s_193_146, s_193_146_n, s_193_147, s_193_150, s_193_152, s_193_153, s_193_154, s_193_156, s_193_157, s_193_159, s_193_160, s_193_160_n, s_193_161, s_193_164, s_193_166, s_193_167, s_193_168, s_193_171, s_193_174, s_193_176, ↓reduceIte, eq_self, rts_some, rts_none, nq_int, nq_ref, nq_null, nq_none, okr1_0, okr1_1, okr_b, List.length_nil, List.length_cons, Nat.zero_le, Nat.reduceAdd, Nat.reduceLeDiff, b2i_0, b2i_n0, b2i_1, b2i_n1, ite_not, if_true, if_false, not_true_eq_false, not_false_eq_true, true_and, and_true, false_and, and_false, m_isTape, h1, h2, and_self]
      exact H1 (fun h => h2 h.2)
  · have h1' := h1
    simp only [tapQ] at h1'
    simp only [s_193_0, s_193_1, s_193_4, s_193_7, s_193_8, s_193_11, s_193_14, s_193_15, s_193_17, s_193_20, s_193_21, s_193_22, s_193_25, s_193_25_n, s_193_26, s_193_29, s_193_30, s_193_31, s_193_34, s_193_36, s_193_37, s_193_37_n, s_193_38, s_193_41, s_193_42, s_193_43, s_193_43_n, s_193_44, s_193_47, s_193_48, s_193_49, s_193_52, s_193_54, s_193_55, s_193_57, s_193_60, s_193_61, s_193_64, s_193_66, s_193_69, s_193_71, s_193_71_n, s_193_72, s_193_75, s_193_76, s_193_77, s_193_78, s_193_79, s_193_82, s_193_84, s_193_84_n, s_193_85, s_193_88, s_193_89, s_193_90, s_193_92, s_193_93, s_193_96, s_193_98, s_193_99, s_193_100, s_193_102, s_193_104, s_193_106, s_193_109, s_193_109_n, s_193_110, s_193_113, s_193_115, s_193_115_n, s_193_116, s_193_119, s_193_121, s_193_122, s_193_123, s_193_124, s_193_125, s_193_127, s_193_128, s_193_129, s_193_130, s_193_133, s_193_136, s_193_137, s_193_139, s_193_141, s_193_143, s_193_146, s_193_146_n, s_193_147, s_193_150, s_193_152, s_193_153, s_193_154, s_193_156, s_193_157, s_193_159, s_193_160, s_193_160_n, s_193_161, s_193_164, s_193_166, s_193_167, s_193_168, s_193_171, s_193_174, s_193_176, ↓reduceIte, eq_self, rts_some, rts_none, nq_int, nq_ref, nq_null, nq_none, okr1_0, okr1_1, okr_b, List.length_nil, List.length_cons, Nat.zero_le, Nat.reduceAdd, Nat.reduceLeDiff, b2i_0, b2i_n0, b2i_1, b2i_n1, ite_not, if_true, if_false, not_true_eq_false, not_false_eq_true, true_and, and_true, false_and, and_false, m_isTape, h1']
    exact H1 (fun h => h1 h.1)
theorem m_judge_l {t i L : Nat} (ht : t < 6) (hi : i < 2 ^ 31) (hL : L ≤ 60) (eL : ar 17 t = nI L) : ∀ m k, k + m = 12 → ∀ l4, wp V (cdT Ev) mx d 194 34 [some (.ref b), some (.int (nI t)), some (.int (nI i)), some (.int (nI k)), l4, none] [] (MH b sc ar lg G z) Q = Q (some (.int (juF (ar 1) (fun k => lg 18 (60 * t + k)) L i m k))) (MH b sc ar lg G z) := by
  intro m
  have hi0 : (nI i < 0) = False := eq_false (nI_pos hi)
  have hxt : ix (nI t) 6 = True := ix_nIT (by omega) (by decide)
  induction m with
  | zero =>
    intro k hk l4
    obtain rfl : k = 12 := by omega
    have hle : ((12 : Int32) ≤ nI 12) = True := by decide
    rw [s_194_34]
    simp only [s_194_0, s_194_1, s_194_4, s_194_7, s_194_8, s_194_9, s_194_9_n, s_194_10, s_194_13, s_194_14, s_194_15, s_194_16, s_194_19, s_194_19_n, s_194_20, s_194_23, s_194_24, s_194_25, s_194_26, s_194_29, s_194_31, s_194_32, s_194_33, s_194_35, s_194_37, s_194_40, s_194_41, s_194_42, s_194_43, s_194_44, s_194_45, s_194_47, s_194_48, s_194_51, s_194_53, s_194_53_n, s_194_54, s_194_57, s_194_58, s_194_59, s_194_60, s_194_61, s_194_64, s_194_66, s_194_67, s_194_68, s_194_69, s_194_69_n, s_194_70, s_194_73, s_194_75, s_194_76, s_194_77, s_194_79, s_194_80, s_194_81, s_194_82, s_194_82_n, s_194_83, s_194_86, s_194_87, s_194_88, s_194_89, s_194_90, s_194_93, s_194_94, s_194_95, s_194_98, s_194_101, s_194_103, ↓reduceIte, eq_self, rts_some, rts_none, nq_int, nq_ref, nq_null, nq_none, okr1_0, okr1_1, okr_b, List.length_nil, List.length_cons, Nat.zero_le, Nat.reduceAdd, Nat.reduceLeDiff, b2i_0, b2i_n0, b2i_1, b2i_n1, ite_not, if_true, if_false, not_true_eq_false, not_false_eq_true, true_and, and_true, false_and, and_false, hle]
    rfl
  | succ m ih =>
    intro k hk l4
    have hlt : ((12 : Int32) ≤ nI k) = False := eq_false (nI_ge (a := k) (b := 12) (by omega) (by decide))
    have hxk : ix (nI k) 120 = True := ix_nIT (by omega) (by decide)
    rw [s_194_34, juF]
    by_cases hp : L ≤ i + k
    · have hc : (lg_cmp (lN (i + k)) (lN L) < 0) = False := eq_false (fun h => by
        have := (pk_lLT (by omega) (by omega)).mp ((lg_cmp_lt _ _).mp h)
        omega)
      rw [if_pos hp]
      simp only [s_194_0, s_194_1, s_194_4, s_194_7, s_194_8, s_194_9, s_194_9_n, s_194_10, s_194_13, s_194_14, s_194_15, s_194_16, s_194_19, s_194_19_n, s_194_20, s_194_23, s_194_24, s_194_25, s_194_26, s_194_29, s_194_31, s_194_32, s_194_33, s_194_35, s_194_37, s_194_40, s_194_41, s_194_42, s_194_43, s_194_44, s_194_45, s_194_47, s_194_48, s_194_51, s_194_53, s_194_53_n, s_194_54, s_194_57, s_194_58, s_194_59, s_194_60, s_194_61, s_194_64, s_194_66, s_194_67, s_194_68, s_194_69, s_194_69_n, s_194_70, s_194_73, s_194_75, s_194_76, s_194_77, s_194_79, s_194_80, s_194_81, s_194_82, s_194_82_n, s_194_83, s_194_86, s_194_87, s_194_88, s_194_89, s_194_90, s_194_93, s_194_94, s_194_95, s_194_98, s_194_101, s_194_103, ↓reduceIte, eq_self, rts_some, rts_none, nq_int, nq_ref, nq_null, nq_none, okr1_0, okr1_1, okr_b, List.length_nil, List.length_cons, Nat.zero_le, Nat.reduceAdd, Nat.reduceLeDiff, b2i_0, b2i_n0, b2i_1, b2i_n1, ite_not, if_true, if_false, not_true_eq_false, not_false_eq_true, true_and, and_true, false_and, and_false, mg_now, mg_mind, mg_then, mp_kept, mg_kept, mg_text, mp_texted, mg_texted, mg_rules, mg_sizes, mp_ruled, mg_ruled, mg_read, mp_size, mg_size, mp_at, mg_at, mp_well, mg_well, mp_within, mg_within, mp_sum, mg_sum, mp_free, mg_free, mg_names, mg_letters, mg_begins, mg_words, mg_sums, mg_above, mg_bodies, mg_trace, mp_ran, mg_ran, mg_sorts, mg_lengths, mg_items, mg_moved, ma_now, ms_now, ma_mind, ms_mind, ma_then, ms_then, ma_text, ms_text, ma_rules, ms_rules, ma_sizes, ms_sizes, ma_read, ms_read, ma_names, ms_names, ma_letters, ma_begins, ma_words, ma_sums, ms_sums, ma_above, ma_bodies, ma_trace, ms_trace, ma_sorts, ms_sorts, ma_lengths, ms_lengths, ma_items, ms_items, ma_moved, ms_moved, mcv, hlt, nI_l hi, nI_l (show k < 2 ^ 31 by omega), lN_add, hi0, hxt, nI_clamp (show t < 2 ^ 31 by omega), eL, nI_l (show L < 2 ^ 31 by omega), hc]
    · have hc : (lg_cmp (lN (i + k)) (lN L) < 0) = True := eq_true ((lg_cmp_lt _ _).mpr ((pk_lLT (by omega) (by omega)).mpr (by omega)))
      have hx2 : ix (nI (60 * t + (i + k))) 360 = True := ix_nIT (by omega) (by decide)
      rw [if_neg hp]
      have hcm : ∀ x y : Int64, (lg_cmp x y = 0) = (x = y) := fun x y => propext (lg_cmp_eq x y)
      simp only [s_194_0, s_194_1, s_194_4, s_194_7, s_194_8, s_194_9, s_194_9_n, s_194_10, s_194_13, s_194_14, s_194_15, s_194_16, s_194_19, s_194_19_n, s_194_20, s_194_23, s_194_24, s_194_25, s_194_26, s_194_29, s_194_31, s_194_32, s_194_33, s_194_35, s_194_37, s_194_40, s_194_41, s_194_42, s_194_43, s_194_44, s_194_45, s_194_47, s_194_48, s_194_51, s_194_53, s_194_53_n, s_194_54, s_194_57, s_194_58, s_194_59, s_194_60, s_194_61, s_194_64, s_194_66, s_194_67, s_194_68, s_194_69, s_194_69_n, s_194_70, s_194_73, s_194_75, s_194_76, s_194_77, s_194_79, s_194_80, s_194_81, s_194_82, s_194_82_n, s_194_83, s_194_86, s_194_87, s_194_88, s_194_89, s_194_90, s_194_93, s_194_94, s_194_95, s_194_98, s_194_101, s_194_103, ↓reduceIte, eq_self, rts_some, rts_none, nq_int, nq_ref, nq_null, nq_none, okr1_0, okr1_1, okr_b, List.length_nil, List.length_cons, Nat.zero_le, Nat.reduceAdd, Nat.reduceLeDiff, b2i_0, b2i_n0, b2i_1, b2i_n1, ite_not, if_true, if_false, not_true_eq_false, not_false_eq_true, true_and, and_true, false_and, and_false, mg_now, mg_mind, mg_then, mp_kept, mg_kept, mg_text, mp_texted, mg_texted, mg_rules, mg_sizes, mp_ruled, mg_ruled, mg_read, mp_size, mg_size, mp_at, mg_at, mp_well, mg_well, mp_within, mg_within, mp_sum, mg_sum, mp_free, mg_free, mg_names, mg_letters, mg_begins, mg_words, mg_sums, mg_above, mg_bodies, mg_trace, mp_ran, mg_ran, mg_sorts, mg_lengths, mg_items, mg_moved, ma_now, ms_now, ma_mind, ms_mind, ma_then, ms_then, ma_text, ms_text, ma_rules, ms_rules, ma_sizes, ms_sizes, ma_read, ms_read, ma_names, ms_names, ma_letters, ma_begins, ma_words, ma_sums, ms_sums, ma_above, ma_bodies, ma_trace, ms_trace, ma_sorts, ms_sorts, ma_lengths, ms_lengths, ma_items, ms_items, ma_moved, ms_moved, mcv, hlt, nI_l hi, nI_l (show k < 2 ^ 31 by omega), lN_add, hi0, hxt, nI_clamp (show t < 2 ^ 31 by omega), eL, nI_l (show L < 2 ^ 31 by omega), hc, lN_i, x60, hx2, nI_clamp (show 60 * t + (i + k) < 2 ^ 31 by omega), hxk, nI_clamp (show k < 2 ^ 31 by omega), hcm, nI_1]
      by_cases he : lg 18 (60 * t + (i + k)) = (ar 1 k).toInt64
      · rw [if_pos he, if_pos he]
        exact ih (k + 1) (by omega) _
      · rw [if_neg he, if_neg he]
theorem m_judge (hT : TPok (ar 16) (ar 17)) : WP V (cdT Ev) mx (d + 3) 194 [.ref b, .int t, .int i] (MH b sc ar lg G z) Q = Q (some (.int (juR (ar 1) (ar 16) (ar 17) (lg 18) t i))) (MH b sc ar lg G z) := by
  rw [e_194]
  unfold juR
  by_cases h1 : tapQ t
  · obtain ⟨k, hk, rfl⟩ := tapQ_k h1
    obtain ⟨L, hL, eL, -⟩ := hT k hk
    have hx : ix (nI k) 6 = True := ix_nIT (by omega) (by decide)
    rw [if_pos h1, nI_clamp (show k < 2 ^ 31 by omega), eL, nI_clamp (show L < 2 ^ 31 by omega)]
    simp only [tapQ] at h1
    have hgo : wp V (cdT Ev) mx (d + 2) 194 32 [some (.ref b), some (.int (nI k)), some (.int i), none, none, none] [] (MH b sc ar lg G z) Q = Q (some (.int (if i < 0 then 100 else juF (ar 1) (fun j => lg 18 (60 * k + j)) L i.toNatClampNeg 12 0))) (MH b sc ar lg G z) := by
      by_cases hi : i < 0
      · rw [if_pos hi]
        have h12 : ((12 : Int32) ≤ 0) = False := by decide
        have h100 : (100 : Int32) + 0 = 100 := by decide
        simp only [s_194_0, s_194_1, s_194_4, s_194_7, s_194_8, s_194_9, s_194_9_n, s_194_10, s_194_13, s_194_14, s_194_15, s_194_16, s_194_19, s_194_19_n, s_194_20, s_194_23, s_194_24, s_194_25, s_194_26, s_194_29, s_194_31, s_194_32, s_194_33, s_194_35, s_194_37, s_194_40, s_194_41, s_194_42, s_194_43, s_194_44, s_194_45, s_194_47, s_194_48, s_194_51, s_194_53, s_194_53_n, s_194_54, s_194_57, s_194_58, s_194_59, s_194_60, s_194_61, s_194_64, s_194_66, s_194_67, s_194_68, s_194_69, s_194_69_n, s_194_70, s_194_73, s_194_75, s_194_76, s_194_77, s_194_79, s_194_80, s_194_81, s_194_82, s_194_82_n, s_194_83, s_194_86, s_194_87, s_194_88, s_194_89, s_194_90, s_194_93, s_194_94, s_194_95, s_194_98, s_194_101, s_194_103, ↓reduceIte, eq_self, rts_some, rts_none, nq_int, nq_ref, nq_null, nq_none, okr1_0, okr1_1, okr_b, List.length_nil, List.length_cons, Nat.zero_le, Nat.reduceAdd, Nat.reduceLeDiff, b2i_0, b2i_n0, b2i_1, b2i_n1, ite_not, if_true, if_false, not_true_eq_false, not_false_eq_true, true_and, and_true, false_and, and_false]
        rw [s_194_34]
        simp only [s_194_0, s_194_1, s_194_4, s_194_7, s_194_8, s_194_9, s_194_9_n, s_194_10, s_194_13, s_194_14, s_194_15, s_194_16, s_194_19, s_194_19_n, s_194_20, s_194_23, s_194_24, s_194_25, s_194_26, s_194_29, s_194_31, s_194_32, s_194_33, s_194_35, s_194_37, s_194_40, s_194_41, s_194_42, s_194_43, s_194_44, s_194_45, s_194_47, s_194_48, s_194_51, s_194_53, s_194_53_n, s_194_54, s_194_57, s_194_58, s_194_59, s_194_60, s_194_61, s_194_64, s_194_66, s_194_67, s_194_68, s_194_69, s_194_69_n, s_194_70, s_194_73, s_194_75, s_194_76, s_194_77, s_194_79, s_194_80, s_194_81, s_194_82, s_194_82_n, s_194_83, s_194_86, s_194_87, s_194_88, s_194_89, s_194_90, s_194_93, s_194_94, s_194_95, s_194_98, s_194_101, s_194_103, ↓reduceIte, eq_self, rts_some, rts_none, nq_int, nq_ref, nq_null, nq_none, okr1_0, okr1_1, okr_b, List.length_nil, List.length_cons, Nat.zero_le, Nat.reduceAdd, Nat.reduceLeDiff, b2i_0, b2i_n0, b2i_1, b2i_n1, ite_not, if_true, if_false, not_true_eq_false, not_false_eq_true, true_and, and_true, false_and, and_false, hi, h12, h100]
      · rw [if_neg hi]
        obtain ⟨i', hi', rfl⟩ := nI_of hi
        rw [nI_clamp hi']
        simp only [s_194_0, s_194_1, s_194_4, s_194_7, s_194_8, s_194_9, s_194_9_n, s_194_10, s_194_13, s_194_14, s_194_15, s_194_16, s_194_19, s_194_19_n, s_194_20, s_194_23, s_194_24, s_194_25, s_194_26, s_194_29, s_194_31, s_194_32, s_194_33, s_194_35, s_194_37, s_194_40, s_194_41, s_194_42, s_194_43, s_194_44, s_194_45, s_194_47, s_194_48, s_194_51, s_194_53, s_194_53_n, s_194_54, s_194_57, s_194_58, s_194_59, s_194_60, s_194_61, s_194_64, s_194_66, s_194_67, s_194_68, s_194_69, s_194_69_n, s_194_70, s_194_73, s_194_75, s_194_76, s_194_77, s_194_79, s_194_80, s_194_81, s_194_82, s_194_82_n, s_194_83, s_194_86, s_194_87, s_194_88, s_194_89, s_194_90, s_194_93, s_194_94, s_194_95, s_194_98, s_194_101, s_194_103, ↓reduceIte, eq_self, rts_some, rts_none, nq_int, nq_ref, nq_null, nq_none, okr1_0, okr1_1, okr_b, List.length_nil, List.length_cons, Nat.zero_le, Nat.reduceAdd, Nat.reduceLeDiff, b2i_0, b2i_n0, b2i_1, b2i_n1, ite_not, if_true, if_false, not_true_eq_false, not_false_eq_true, true_and, and_true, false_and, and_false]
        exact m_judge_l hk hi' hL eL 12 0 rfl none
    simp only [s_194_0, s_194_1, s_194_4, s_194_7, s_194_8, s_194_9, s_194_9_n, s_194_10, s_194_13, s_194_14, s_194_15, s_194_16, s_194_19, s_194_19_n, s_194_20, s_194_23, s_194_24, s_194_25, s_194_26, s_194_29, s_194_31, s_194_33, s_194_34, s_194_35, s_194_37, s_194_40, s_194_41, s_194_42, s_194_43, s_194_44, s_194_45, s_194_47, s_194_48, s_194_51, s_194_53, s_194_53_n, s_194_54, s_194_57, s_194_58, s_194_59, s_194_60, s_194_61, s_194_64, s_194_66, s_194_67, s_194_68, s_194_69, s_194_69_n, s_194_70, s_194_73, s_194_75, s_194_76, s_194_77, s_194_79, s_194_80, s_194_81, s_194_82, s_194_82_n, s_194_83, s_194_86, s_194_87, s_194_88, s_194_89, s_194_90, s_194_93, s_194_94, s_194_95, s_194_98, s_194_101, s_194_103, ↓reduceIte, eq_self, rts_some, rts_none, nq_int, nq_ref, nq_null, nq_none, okr1_0, okr1_1, okr_b, List.length_nil, List.length_cons, Nat.zero_le, Nat.reduceAdd, Nat.reduceLeDiff, b2i_0, b2i_n0, b2i_1, b2i_n1, ite_not, if_true, if_false, not_true_eq_false, not_false_eq_true, true_and, and_true, false_and, and_false, mg_now, mg_mind, mg_then, mp_kept, mg_kept, mg_text, mp_texted, mg_texted, mg_rules, mg_sizes, mp_ruled, mg_ruled, mg_read, mp_size, mg_size, mp_at, mg_at, mp_well, mg_well, mp_within, mg_within, mp_sum, mg_sum, mp_free, mg_free, mg_names, mg_letters, mg_begins, mg_words, mg_sums, mg_above, mg_bodies, mg_trace, mp_ran, mg_ran, mg_sorts, mg_lengths, mg_items, mg_moved, ma_now, ms_now, ma_mind, ms_mind, ma_then, ms_then, ma_text, ms_text, ma_rules, ms_rules, ma_sizes, ms_sizes, ma_read, ms_read, ma_names, ms_names, ma_letters, ma_begins, ma_words, ma_sums, ms_sums, ma_above, ma_bodies, ma_trace, ms_trace, ma_sorts, ms_sorts, ma_lengths, ms_lengths, ma_items, ms_items, ma_moved, ms_moved, mcv, m_isTape, h1, and_self, hx, nI_clamp (show k < 2 ^ 31 by omega)]
    by_cases s1 : ar 16 k = -1
    · rw [if_pos s1, if_pos (Or.inl s1), hgo]
    · rw [if_neg s1]
      by_cases s3 : ar 16 k = 3
      · rw [if_pos s3, if_pos (Or.inr s3), hgo]
      · have c1 : ¬ (ar 16 k = -1 ∨ ar 16 k = 3) := fun h => h.elim s1 s3
        rw [if_neg s3, if_neg c1]
  · rw [if_neg h1]
    simp only [tapQ] at h1
    simp only [s_194_0, s_194_1, s_194_4, s_194_7, s_194_8, s_194_10, s_194_13, s_194_14, s_194_15, s_194_16, s_194_19, s_194_19_n, s_194_20, s_194_23, s_194_24, s_194_25, s_194_26, s_194_29, s_194_31, s_194_32, s_194_33, s_194_34, s_194_35, s_194_37, s_194_40, s_194_41, s_194_42, s_194_43, s_194_44, s_194_45, s_194_47, s_194_48, s_194_51, s_194_53, s_194_53_n, s_194_54, s_194_57, s_194_58, s_194_59, s_194_60, s_194_61, s_194_64, s_194_66, s_194_67, s_194_68, s_194_69, s_194_69_n, s_194_70, s_194_73, s_194_75, s_194_76, s_194_77, s_194_79, s_194_80, s_194_81, s_194_82, s_194_82_n, s_194_83, s_194_86, s_194_87, s_194_88, s_194_89, s_194_90, s_194_93, s_194_94, s_194_95, s_194_98, s_194_101, s_194_103, ↓reduceIte, eq_self, rts_some, rts_none, nq_int, nq_ref, nq_null, nq_none, okr1_0, okr1_1, okr_b, List.length_nil, List.length_cons, Nat.zero_le, Nat.reduceAdd, Nat.reduceLeDiff, b2i_0, b2i_n0, b2i_1, b2i_n1, ite_not, if_true, if_false, not_true_eq_false, not_false_eq_true, true_and, and_true, false_and, and_false, m_isTape, h1]
end
