/-! The reference reads what joins tests. -/
/-- a reading: what it comes to where the text is well there, and where it is not; u: an answer that waits -/
def okA (nm : Nat → Int32) (r : Bool × Nat × List Int32) (u : List Bool) (P : Int32 → Nat → Int32 → Prop) : Prop :=
  (r.1 = true → ∃ v : Bool, (∀ st, evR nm r.2.2 (u ++ st) = v :: st) ∧ P (b2i (v = true)) r.2.1 1) ∧ (r.1 = false → ∃ c : Bool, P (b2i (c = true)) r.2.1 0)
theorem pNum_f {T : Nat → Int32} {n a : Nat} (h : (pNum T n a).1 = false) : (pNum T n a).2.1 = a := by
  unfold pNum at h ⊢
  split
  · rename_i h1
    simp only [h1, and_self, if_true] at h
    split at h <;> cases h
  · rfl
section
variable {V : Nat → Option AE} {Ev : Nat → Value} {b : Nat} {sc : Nat → Int32} {ar : Nat → Nat → Int32} {lg : Nat → Nat → Int64} {G : Nat → Option AE} {z : Nat × Nat}
variable {n : Nat} {s f : Int32}
theorem b2i_dec {c : Prop} [Decidable c] : b2i c = b2i (decide c = true) := by
  unfold b2i
  by_cases h : c <;> simp [h]
theorem b2i_ff : (0 : Int32) = b2i (false = true) := by decide
theorem m_test1 (hn : sc 3 = nI n) (hn1 : n ≤ 100) {w : Int32} {a : Nat} (ha : a ≤ n) : okA (ar 8) ((pTest (ar 7) n a).1, (pTest (ar 7) n a).2.1, [(pTest (ar 7) n a).2.2]) [] (fun x a' wl => ∀ (d : Nat) (Q : Option Value → HS → Prop), WP V (cdT Ev) mx (d + 3) 146 [.ref b] (MH b (ps sc (nI a) 1 w s f) ar lg G z) Q = Q (some (.int x)) (MH b (ps sc (nI a') wl w s f) ar lg G z)) := by
  have e1 : ((-1 : Int32) = -1) = True := by simp
  have key : ∀ (d : Nat) (Q : Option Value → HS → Prop), WP V (cdT Ev) mx (d + 3) 146 [.ref b] (MH b (ps sc (nI a) 1 w s f) ar lg G z) Q = if a < n then (match pLet (ar 7 a) with
      | none => Q (some (.int 0)) (MH b (ps sc (nI a) 0 w s f) ar lg G z)
      | some k => wp V (cdT Ev) mx (d + 2) 146 57 [some (.ref b), some (.int (nI k)), some (.int 6), none] [] (MH b (ps sc (nI (a + 1)) 1 w s f) ar lg G z) Q)
      else Q (some (.int 0)) (MH b (ps sc (nI a) 0 w s f) ar lg G z) := by
    intro d Q
    rw [m_test_35 hn hn1 (by omega) (d + 1) Q]
    by_cases h1 : a < n
    · rw [decide_eq_true h1, nmd_let, if_pos h1]
      cases hl : pLet (ar 7 a) with
      | none =>
        simp only [s_146_0, s_146_1, s_146_2, s_146_3, s_146_5, s_146_7, s_146_10, s_146_10_n, s_146_11, s_146_11_n, s_146_12, s_146_15, s_146_16, s_146_17, s_146_20, s_146_23, s_146_24, s_146_27, s_146_28, s_146_29, s_146_32, s_146_35, s_146_36, s_146_37, s_146_40, s_146_40_n, s_146_41, s_146_42, s_146_45, s_146_46, s_146_47, s_146_47_n, s_146_48, s_146_48_i, s_146_49, s_146_52, s_146_53, s_146_54, s_146_57, s_146_57_n, s_146_58, s_146_60, s_146_63, s_146_66, s_146_67, s_146_70, s_146_70_n, s_146_71, s_146_73, s_146_76, s_146_79, s_146_80, s_146_83, s_146_84, s_146_85, s_146_85_n, s_146_86, s_146_87, s_146_90, s_146_92, s_146_95, s_146_96, s_146_99, s_146_101, s_146_104, s_146_106, s_146_109, s_146_109_n, s_146_110, s_146_113, s_146_114, s_146_115, s_146_118, s_146_118_n, s_146_119, s_146_122, s_146_123, s_146_124, s_146_125, s_146_128, s_146_129, s_146_132, s_146_133, s_146_136, s_146_137, s_146_140, s_146_140_n, s_146_141, s_146_144, s_146_145, s_146_146, s_146_147, s_146_150, s_146_151, s_146_154, s_146_155, s_146_158, s_146_158_n, s_146_159, s_146_162, s_146_163, s_146_164, s_146_165, s_146_168, s_146_169, s_146_172, s_146_173, ↓reduceIte, eq_self, rts_some, rts_none, nq_int, nq_ref, nq_null, nq_none, okr1_0, okr1_1, okr_b, List.length_nil, List.length_cons, Nat.zero_le, Nat.reduceAdd, Nat.reduceLeDiff, b2i_0, b2i_n0, b2i_1, b2i_n1, ite_not, if_true, if_false, not_true_eq_false, not_false_eq_true, true_and, and_true, false_and, and_false, mg_now, mg_mind, mg_then, mp_kept, mg_kept, mg_text, mp_texted, mg_texted, mg_rules, mg_sizes, mp_ruled, mg_ruled, mg_read, mp_size, mg_size, mp_at, mg_at, mp_well, mg_well, mp_within, mg_within, mp_sum, mg_sum, mp_free, mg_free, mg_names, mg_letters, mg_begins, mg_words, mg_sums, mg_above, mg_bodies, mg_trace, mp_ran, mg_ran, mg_sorts, mg_lengths, mg_items, mg_moved, ma_now, ms_now, ma_mind, ms_mind, ma_then, ms_then, ma_text, ms_text, ma_rules, ms_rules, ma_sizes, ms_sizes, ma_read, ms_read, ma_names, ms_names, ma_letters, ma_begins, ma_words, ma_sums, ms_sums, ma_above, ma_bodies, ma_trace, ms_trace, ma_sorts, ms_sorts, ma_lengths, ms_lengths, ma_items, ms_items, ma_moved, ms_moved, mcv, pu_5, okv1_0]
      | some k =>
        have hk := pLet_k hl
        have hne : ¬ nI k = -1 := nI_neg (by omega) (by decide)
        simp only [s_146_35, s_146_36, s_146_37, s_146_47, s_146_48, s_146_49, s_146_52, s_146_53, s_146_54, ↓reduceIte, eq_self, rts_some, rts_none, nq_int, nq_ref, nq_null, nq_none, okr1_0, okr1_1, okr_b, List.length_nil, List.length_cons, Nat.zero_le, Nat.reduceAdd, Nat.reduceLeDiff, b2i_0, b2i_n0, b2i_1, b2i_n1, ite_not, if_true, if_false, not_true_eq_false, not_false_eq_true, true_and, and_true, false_and, and_false, mg_now, mg_mind, mg_then, mp_kept, mg_kept, mg_text, mp_texted, mg_texted, mg_rules, mg_sizes, mp_ruled, mg_ruled, mg_read, mp_size, mg_size, mp_at, mg_at, mp_well, mg_well, mp_within, mg_within, mp_sum, mg_sum, mp_free, mg_free, mg_names, mg_letters, mg_begins, mg_words, mg_sums, mg_above, mg_bodies, mg_trace, mp_ran, mg_ran, mg_sorts, mg_lengths, mg_items, mg_moved, ma_now, ms_now, ma_mind, ms_mind, ma_then, ms_then, ma_text, ms_text, ma_rules, ms_rules, ma_sizes, ms_sizes, ma_read, ms_read, ma_names, ms_names, ma_letters, ma_begins, ma_words, ma_sums, ms_sums, ma_above, ma_bodies, ma_trace, ms_trace, ma_sorts, ms_sorts, ma_lengths, ms_lengths, ma_items, ms_items, ma_moved, ms_moved, mcv, hne, ps_4, pu_4, nI_1]
    · rw [decide_eq_false h1, nmd_none, if_neg h1]
      simp only [s_146_0, s_146_1, s_146_2, s_146_3, s_146_5, s_146_7, s_146_10, s_146_10_n, s_146_11, s_146_11_n, s_146_12, s_146_15, s_146_16, s_146_17, s_146_20, s_146_23, s_146_24, s_146_27, s_146_28, s_146_29, s_146_32, s_146_35, s_146_36, s_146_37, s_146_40, s_146_40_n, s_146_41, s_146_42, s_146_45, s_146_46, s_146_47, s_146_47_n, s_146_48, s_146_48_i, s_146_49, s_146_52, s_146_53, s_146_54, s_146_57, s_146_57_n, s_146_58, s_146_60, s_146_63, s_146_66, s_146_67, s_146_70, s_146_70_n, s_146_71, s_146_73, s_146_76, s_146_79, s_146_80, s_146_83, s_146_84, s_146_85, s_146_85_n, s_146_86, s_146_87, s_146_90, s_146_92, s_146_95, s_146_96, s_146_99, s_146_101, s_146_104, s_146_106, s_146_109, s_146_109_n, s_146_110, s_146_113, s_146_114, s_146_115, s_146_118, s_146_118_n, s_146_119, s_146_122, s_146_123, s_146_124, s_146_125, s_146_128, s_146_129, s_146_132, s_146_133, s_146_136, s_146_137, s_146_140, s_146_140_n, s_146_141, s_146_144, s_146_145, s_146_146, s_146_147, s_146_150, s_146_151, s_146_154, s_146_155, s_146_158, s_146_158_n, s_146_159, s_146_162, s_146_163, s_146_164, s_146_165, s_146_168, s_146_169, s_146_172, s_146_173, ↓reduceIte, eq_self, rts_some, rts_none, nq_int, nq_ref, nq_null, nq_none, okr1_0, okr1_1, okr_b, List.length_nil, List.length_cons, Nat.zero_le, Nat.reduceAdd, Nat.reduceLeDiff, b2i_0, b2i_n0, b2i_1, b2i_n1, ite_not, if_true, if_false, not_true_eq_false, not_false_eq_true, true_and, and_true, false_and, and_false, mg_now, mg_mind, mg_then, mp_kept, mg_kept, mg_text, mp_texted, mg_texted, mg_rules, mg_sizes, mp_ruled, mg_ruled, mg_read, mp_size, mg_size, mp_at, mg_at, mp_well, mg_well, mp_within, mg_within, mp_sum, mg_sum, mp_free, mg_free, mg_names, mg_letters, mg_begins, mg_words, mg_sums, mg_above, mg_bodies, mg_trace, mp_ran, mg_ran, mg_sorts, mg_lengths, mg_items, mg_moved, ma_now, ms_now, ma_mind, ms_mind, ma_then, ms_then, ma_text, ms_text, ma_rules, ms_rules, ma_sizes, ms_sizes, ma_read, ms_read, ma_names, ms_names, ma_letters, ma_begins, ma_words, ma_sums, ms_sums, ma_above, ma_bodies, ma_trace, ms_trace, ma_sorts, ms_sorts, ma_lengths, ms_lengths, ma_items, ms_items, ma_moved, ms_moved, mcv, pu_5, okv1_0]
  unfold pTest
  by_cases h1 : a < n
  · simp only [h1, if_true] at key ⊢
    cases hl : pLet (ar 7 a) with
    | none =>
      rw [hl] at key
      exact ⟨fun h => (by cases h), fun _ => ⟨false, fun d Q => by rw [key, ← b2i_ff]⟩⟩
    | some k =>
      rw [hl] at key
      have hk := pLet_k hl
      simp only [m_test_57 hn hn1 (show a + 1 ≤ n by omega) hk] at key
      by_cases h2 : a + 1 < n
      · simp only [h2, if_true] at key ⊢
        cases hs : pSgn (ar 7 (a + 1)) with
        | none =>
          rw [hs] at key
          exact ⟨fun h => (by cases h), fun _ => ⟨_, fun d Q => by rw [key, b2i_dec]⟩⟩
        | some w' =>
          rw [hs] at key
          have hw := pSgn_k hs
          dsimp only at key ⊢
          have hp := @pNum_v (ar 7) n (a + 2)
          have hq := @pNum_f (ar 7) n (a + 2)
          rw [show a + 1 + 1 = a + 2 from rfl] at key
          generalize pNum (ar 7) n (a + 2) = r at key hp hq ⊢
          obtain ⟨o, a', v⟩ := r
          cases o with
          | true =>
            obtain ⟨m, hm, em⟩ := hp rfl
            dsimp only at em key ⊢
            subst em
            refine ⟨fun _ => ⟨tv (ar 8) k w' (nI m), fun st => evC_test hk hw hm st, fun d Q => ?_⟩, fun h => (by cases h)⟩
            rw [key, if_pos rfl]
          | false =>
            dsimp only at key ⊢
            refine ⟨fun h => (by cases h), fun _ => ⟨tv (ar 8) k w' 0, fun d Q => ?_⟩⟩
            rw [key, if_neg (by decide), show a' = a + 2 from hq rfl]
      · simp only [h2, if_false] at key ⊢
        exact ⟨fun h => (by cases h), fun _ => ⟨_, fun d Q => by rw [key, b2i_dec]⟩⟩
  · simp only [h1, if_false] at key ⊢
    exact ⟨fun h => (by cases h), fun _ => ⟨false, fun d Q => by rw [key, ← b2i_ff]⟩⟩
end
section
variable {V : Nat → Option AE} {Ev : Nat → Value} {b : Nat} {sc : Nat → Int32} {ar : Nat → Nat → Int32} {lg : Nat → Nat → Int64} {G : Nat → Option AE} {z : Nat × Nat}
variable {n : Nat} {s f : Int32}
theorem b2i_and {c e : Bool} : b2i ((c && e) = true) = (if c = true then (if e = true then 1 else 0) else 0) := by
  cases c <;> cases e <;> decide
theorem b2i_or {c e : Bool} : b2i ((c || e) = true) = (if c = true then 1 else (if e = true then 1 else 0)) := by
  cases c <;> cases e <;> decide
theorem b2i_not {c : Bool} : b2i ((!c) = true) = (if c = true then 0 else 1) := by
  cases c <;> decide
theorem ifQ {c : Prop} [Decidable c] {α : Type} {K : α → Prop} {x y : α} : (if c then K x else K y) = K (if c then x else y) := by
  by_cases h : c <;> simp [h]
/-- any, both, factor and what follows in them, read over the whole text -/
theorem rd (hn : sc 3 = nI n) (hn1 : n ≤ 100) : ∀ (g w a : Nat), w ≤ 4 → a ≤ n →
    (4 * (n - a) + 3 ≤ g → okA (ar 8) (pE (ar 7) n g 0 w a) [] (fun x a' wl => ∀ (d : Nat), 6 + 3 * (4 - w) ≤ d → ∀ (Q : Option Value → HS → Prop), WP V (cdT Ev) mx d 149 [.ref b] (MH b (ps sc (nI a) 1 (nI w) s f) ar lg G z) Q = Q (some (.int x)) (MH b (ps sc (nI a') wl (nI w) s f) ar lg G z))) ∧
    (4 * (n - a) + 2 ≤ g → okA (ar 8) (pE (ar 7) n g 1 w a) [] (fun x a' wl => ∀ (d : Nat), 5 + 3 * (4 - w) ≤ d → ∀ (Q : Option Value → HS → Prop), WP V (cdT Ev) mx d 148 [.ref b] (MH b (ps sc (nI a) 1 (nI w) s f) ar lg G z) Q = Q (some (.int x)) (MH b (ps sc (nI a') wl (nI w) s f) ar lg G z))) ∧
    (4 * (n - a) + 1 ≤ g → okA (ar 8) (pE (ar 7) n g 2 w a) [] (fun x a' wl => ∀ (d : Nat), 4 + 3 * (4 - w) ≤ d → ∀ (Q : Option Value → HS → Prop), WP V (cdT Ev) mx d 147 [.ref b] (MH b (ps sc (nI a) 1 (nI w) s f) ar lg G z) Q = Q (some (.int x)) (MH b (ps sc (nI a') wl (nI w) s f) ar lg G z))) ∧
    (4 * (n - a) + 1 ≤ g → ∀ (u : Bool) (l2 : Option Value), okA (ar 8) (pE (ar 7) n g 3 w a) [u] (fun x a' wl => ∀ (d : Nat), 5 + 3 * (4 - w) ≤ d → ∀ (Q : Option Value → HS → Prop), wp V (cdT Ev) mx d 149 5 [some (.ref b), some (.int (b2i (u = true))), l2] [] (MH b (ps sc (nI a) 1 (nI w) s f) ar lg G z) Q = Q (some (.int x)) (MH b (ps sc (nI a') wl (nI w) s f) ar lg G z))) ∧
    (4 * (n - a) + 1 ≤ g → ∀ (u : Bool) (l2 : Option Value), okA (ar 8) (pE (ar 7) n g 4 w a) [u] (fun x a' wl => ∀ (d : Nat), 4 + 3 * (4 - w) ≤ d → ∀ (Q : Option Value → HS → Prop), wp V (cdT Ev) mx d 148 5 [some (.ref b), some (.int (b2i (u = true))), l2] [] (MH b (ps sc (nI a) 1 (nI w) s f) ar lg G z) Q = Q (some (.int x)) (MH b (ps sc (nI a') wl (nI w) s f) ar lg G z))) := by
  have e1 : ((1 : Int32) = 0) = False := by decide
  -- with the text unwell the loops end at once
  have dead3 : ∀ (w a : Nat) (c : Bool) (l2 : Option Value), a ≤ n → ∀ d, 1 ≤ d → ∀ (Q : Option Value → HS → Prop), wp V (cdT Ev) mx d 149 5 [some (.ref b), some (.int (b2i (c = true))), l2] [] (MH b (ps sc (nI a) 0 (nI w) s f) ar lg G z) Q = Q (some (.int (b2i (c = true)))) (MH b (ps sc (nI a) 0 (nI w) s f) ar lg G z) := by
    intro w a c l2 ha d hd Q
    obtain ⟨d, rfl⟩ : ∃ k, d = k + 1 := ⟨d - 1, by omega⟩
    rw [s_149_5]
    simp only [s_149_0, s_149_0_n, s_149_1, s_149_4, s_149_6, s_149_8, s_149_11, s_149_14, s_149_14_n, s_149_15, s_149_15_i, s_149_16, s_149_19, s_149_20, s_149_21, s_149_24, s_149_24_n, s_149_25, s_149_28, s_149_29, s_149_30, s_149_33, s_149_34, s_149_37, s_149_38, s_149_41, s_149_42, s_149_43, s_149_46, s_149_47, ↓reduceIte, eq_self, rts_some, rts_none, nq_int, nq_ref, nq_null, nq_none, okr1_0, okr1_1, okr_b, List.length_nil, List.length_cons, Nat.zero_le, Nat.reduceAdd, Nat.reduceLeDiff, b2i_0, b2i_n0, b2i_1, b2i_n1, ite_not, if_true, if_false, not_true_eq_false, not_false_eq_true, true_and, and_true, false_and, and_false, mg_now, mg_mind, mg_then, mp_kept, mg_kept, mg_text, mp_texted, mg_texted, mg_rules, mg_sizes, mp_ruled, mg_ruled, mg_read, mp_size, mg_size, mp_at, mg_at, mp_well, mg_well, mp_within, mg_within, mp_sum, mg_sum, mp_free, mg_free, mg_names, mg_letters, mg_begins, mg_words, mg_sums, mg_above, mg_bodies, mg_trace, mp_ran, mg_ran, mg_sorts, mg_lengths, mg_items, mg_moved, ma_now, ms_now, ma_mind, ms_mind, ma_then, ms_then, ma_text, ms_text, ma_rules, ms_rules, ma_sizes, ms_sizes, ma_read, ms_read, ma_names, ms_names, ma_letters, ma_begins, ma_words, ma_sums, ms_sums, ma_above, ma_bodies, ma_trace, ms_trace, ma_sorts, ms_sorts, ma_lengths, ms_lengths, ma_items, ms_items, ma_moved, ms_moved, mcv, m_isAt hn hn1 (show a ≤ 100 by omega), eq_self]
  have dead4 : ∀ (w a : Nat) (c : Bool) (l2 : Option Value), a ≤ n → ∀ d, 1 ≤ d → ∀ (Q : Option Value → HS → Prop), wp V (cdT Ev) mx d 148 5 [some (.ref b), some (.int (b2i (c = true))), l2] [] (MH b (ps sc (nI a) 0 (nI w) s f) ar lg G z) Q = Q (some (.int (b2i (c = true)))) (MH b (ps sc (nI a) 0 (nI w) s f) ar lg G z) := by
    intro w a c l2 ha d hd Q
    obtain ⟨d, rfl⟩ : ∃ k, d = k + 1 := ⟨d - 1, by omega⟩
    rw [s_148_5]
    simp only [s_148_0, s_148_0_n, s_148_1, s_148_4, s_148_6, s_148_8, s_148_11, s_148_14, s_148_14_n, s_148_15, s_148_15_i, s_148_16, s_148_19, s_148_20, s_148_21, s_148_24, s_148_24_n, s_148_25, s_148_28, s_148_29, s_148_30, s_148_33, s_148_34, s_148_37, s_148_38, s_148_41, s_148_42, s_148_43, s_148_46, s_148_47, ↓reduceIte, eq_self, rts_some, rts_none, nq_int, nq_ref, nq_null, nq_none, okr1_0, okr1_1, okr_b, List.length_nil, List.length_cons, Nat.zero_le, Nat.reduceAdd, Nat.reduceLeDiff, b2i_0, b2i_n0, b2i_1, b2i_n1, ite_not, if_true, if_false, not_true_eq_false, not_false_eq_true, true_and, and_true, false_and, and_false, mg_now, mg_mind, mg_then, mp_kept, mg_kept, mg_text, mp_texted, mg_texted, mg_rules, mg_sizes, mp_ruled, mg_ruled, mg_read, mp_size, mg_size, mp_at, mg_at, mp_well, mg_well, mp_within, mg_within, mp_sum, mg_sum, mp_free, mg_free, mg_names, mg_letters, mg_begins, mg_words, mg_sums, mg_above, mg_bodies, mg_trace, mp_ran, mg_ran, mg_sorts, mg_lengths, mg_items, mg_moved, ma_now, ms_now, ma_mind, ms_mind, ma_then, ms_then, ma_text, ms_text, ma_rules, ms_rules, ma_sizes, ms_sizes, ma_read, ms_read, ma_names, ms_names, ma_letters, ma_begins, ma_words, ma_sums, ms_sums, ma_above, ma_bodies, ma_trace, ms_trace, ma_sorts, ms_sorts, ma_lengths, ms_lengths, ma_items, ms_items, ma_moved, ms_moved, mcv, m_isAt hn hn1 (show a ≤ 100 by omega), eq_self]
  intro g
  induction g with
  | zero =>
    intro w a hw ha
    exact ⟨fun h => absurd h (by omega), fun h => absurd h (by omega), fun h => absurd h (by omega), fun h => absurd h (by omega), fun h => absurd h (by omega)⟩
  | succ g ih =>
    intro w a hw ha
    refine ⟨fun hg => ?_, fun hg => ?_, fun hg => ?_, fun hg u l2 => ?_, fun hg u l2 => ?_⟩
    · -- any
      obtain ⟨-, i1, -, -, -⟩ := ih w a hw ha
      have i1 := i1 (by omega)
      have ad := pE_adv (ar 7) n g 1 w a ha
      simp only [pE]
      generalize pE (ar 7) n g 1 w a = r1 at i1 ad
      obtain ⟨o1, a1, c1⟩ := r1
      cases o1 with
      | false =>
        obtain ⟨c, hc⟩ := i1.2 rfl
        refine ⟨fun h => (by cases h), fun _ => ⟨c, fun d hd Q => ?_⟩⟩
        obtain ⟨d, rfl⟩ : ∃ k, d = k + 1 := ⟨d - 1, by omega⟩
        rw [e_149]
        simp only [s_149_0, s_149_0_n, s_149_1, s_149_4, s_149_6, s_149_8, s_149_11, s_149_14, s_149_14_n, s_149_15, s_149_15_i, s_149_16, s_149_19, s_149_20, s_149_21, s_149_24, s_149_24_n, s_149_25, s_149_28, s_149_29, s_149_30, s_149_33, s_149_34, s_149_37, s_149_38, s_149_41, s_149_42, s_149_43, s_149_46, s_149_47, ↓reduceIte, eq_self, rts_some, rts_none, nq_int, nq_ref, nq_null, nq_none, okr1_0, okr1_1, okr_b, List.length_nil, List.length_cons, Nat.zero_le, Nat.reduceAdd, Nat.reduceLeDiff, b2i_0, b2i_n0, b2i_1, b2i_n1, ite_not, if_true, if_false, not_true_eq_false, not_false_eq_true, true_and, and_true, false_and, and_false, mg_now, mg_mind, mg_then, mp_kept, mg_kept, mg_text, mp_texted, mg_texted, mg_rules, mg_sizes, mp_ruled, mg_ruled, mg_read, mp_size, mg_size, mp_at, mg_at, mp_well, mg_well, mp_within, mg_within, mp_sum, mg_sum, mp_free, mg_free, mg_names, mg_letters, mg_begins, mg_words, mg_sums, mg_above, mg_bodies, mg_trace, mp_ran, mg_ran, mg_sorts, mg_lengths, mg_items, mg_moved, ma_now, ms_now, ma_mind, ms_mind, ma_then, ms_then, ma_text, ms_text, ma_rules, ms_rules, ma_sizes, ms_sizes, ma_read, ms_read, ma_names, ms_names, ma_letters, ma_begins, ma_words, ma_sums, ms_sums, ma_above, ma_bodies, ma_trace, ms_trace, ma_sorts, ms_sorts, ma_lengths, ms_lengths, ma_items, ms_items, ma_moved, ms_moved, mcv]
        rw [hc d (by omega)]
        simp only [s_149_0, s_149_0_n, s_149_1, s_149_4, s_149_6, s_149_8, s_149_11, s_149_14, s_149_14_n, s_149_15, s_149_15_i, s_149_16, s_149_19, s_149_20, s_149_21, s_149_24, s_149_24_n, s_149_25, s_149_28, s_149_29, s_149_30, s_149_33, s_149_34, s_149_37, s_149_38, s_149_41, s_149_42, s_149_43, s_149_46, s_149_47, ↓reduceIte, eq_self, rts_some, rts_none, nq_int, nq_ref, nq_null, nq_none, okr1_0, okr1_1, okr_b, List.length_nil, List.length_cons, Nat.zero_le, Nat.reduceAdd, Nat.reduceLeDiff, b2i_0, b2i_n0, b2i_1, b2i_n1, ite_not, if_true, if_false, not_true_eq_false, not_false_eq_true, true_and, and_true, false_and, and_false]
        exact dead3 w a1 c none ad.2.1 d (by omega) Q
      | true =>
        obtain ⟨v1, hv1, p1⟩ := i1.1 rfl
        obtain ⟨-, -, -, i3, -⟩ := ih w a1 hw ad.2.1
        have ad1 := ad.2.2 rfl (by decide)
        have i3 := i3 (by dsimp only at ad1; omega) v1 none
        dsimp only at i3 ⊢
        generalize pE (ar 7) n g 3 w a1 = r3 at i3
        obtain ⟨o3, a2, c2⟩ := r3
        have hgo : ∀ (x : Int32) (wl : Int32), (∀ (d : Nat), 5 + 3 * (4 - w) ≤ d → ∀ (Q : Option Value → HS → Prop), wp V (cdT Ev) mx d 149 5 [some (.ref b), some (.int (b2i (v1 = true))), none] [] (MH b (ps sc (nI a1) 1 (nI w) s f) ar lg G z) Q = Q (some (.int x)) (MH b (ps sc (nI a2) wl (nI w) s f) ar lg G z)) → ∀ (d : Nat), 6 + 3 * (4 - w) ≤ d → ∀ (Q : Option Value → HS → Prop), WP V (cdT Ev) mx d 149 [.ref b] (MH b (ps sc (nI a) 1 (nI w) s f) ar lg G z) Q = Q (some (.int x)) (MH b (ps sc (nI a2) wl (nI w) s f) ar lg G z) := by
          intro x wl hx d hd Q
          obtain ⟨d, rfl⟩ : ∃ k, d = k + 1 := ⟨d - 1, by omega⟩
          rw [e_149]
          simp only [s_149_0, s_149_0_n, s_149_1, s_149_4, s_149_6, s_149_8, s_149_11, s_149_14, s_149_14_n, s_149_15, s_149_15_i, s_149_16, s_149_19, s_149_20, s_149_21, s_149_24, s_149_24_n, s_149_25, s_149_28, s_149_29, s_149_30, s_149_33, s_149_34, s_149_37, s_149_38, s_149_41, s_149_42, s_149_43, s_149_46, s_149_47, ↓reduceIte, eq_self, rts_some, rts_none, nq_int, nq_ref, nq_null, nq_none, okr1_0, okr1_1, okr_b, List.length_nil, List.length_cons, Nat.zero_le, Nat.reduceAdd, Nat.reduceLeDiff, b2i_0, b2i_n0, b2i_1, b2i_n1, ite_not, if_true, if_false, not_true_eq_false, not_false_eq_true, true_and, and_true, false_and, and_false, mg_now, mg_mind, mg_then, mp_kept, mg_kept, mg_text, mp_texted, mg_texted, mg_rules, mg_sizes, mp_ruled, mg_ruled, mg_read, mp_size, mg_size, mp_at, mg_at, mp_well, mg_well, mp_within, mg_within, mp_sum, mg_sum, mp_free, mg_free, mg_names, mg_letters, mg_begins, mg_words, mg_sums, mg_above, mg_bodies, mg_trace, mp_ran, mg_ran, mg_sorts, mg_lengths, mg_items, mg_moved, ma_now, ms_now, ma_mind, ms_mind, ma_then, ms_then, ma_text, ms_text, ma_rules, ms_rules, ma_sizes, ms_sizes, ma_read, ms_read, ma_names, ms_names, ma_letters, ma_begins, ma_words, ma_sums, ms_sums, ma_above, ma_bodies, ma_trace, ms_trace, ma_sorts, ms_sorts, ma_lengths, ms_lengths, ma_items, ms_items, ma_moved, ms_moved, mcv]
          rw [p1 d (by omega)]
          simp only [s_149_0, s_149_0_n, s_149_1, s_149_4, s_149_6, s_149_8, s_149_11, s_149_14, s_149_14_n, s_149_15, s_149_15_i, s_149_16, s_149_19, s_149_20, s_149_21, s_149_24, s_149_24_n, s_149_25, s_149_28, s_149_29, s_149_30, s_149_33, s_149_34, s_149_37, s_149_38, s_149_41, s_149_42, s_149_43, s_149_46, s_149_47, ↓reduceIte, eq_self, rts_some, rts_none, nq_int, nq_ref, nq_null, nq_none, okr1_0, okr1_1, okr_b, List.length_nil, List.length_cons, Nat.zero_le, Nat.reduceAdd, Nat.reduceLeDiff, b2i_0, b2i_n0, b2i_1, b2i_n1, ite_not, if_true, if_false, not_true_eq_false, not_false_eq_true, true_and, and_true, false_and, and_false]
          exact hx d (by omega) Q
        refine ⟨fun h => ?_, fun h => ?_⟩
        · obtain ⟨v, hv, p3⟩ := i3.1 h
          refine ⟨v, fun st => ?_, hgo _ _ p3⟩
          rw [List.nil_append, evR_app, show evR (ar 8) c1 st = v1 :: st from hv1 st]
          exact hv st
        · obtain ⟨c, p3⟩ := i3.2 h
          exact ⟨c, hgo _ _ p3⟩
    · -- both
      obtain ⟨-, -, i1, -, -⟩ := ih w a hw ha
      have i1 := i1 (by omega)
      have ad := pE_adv (ar 7) n g 2 w a ha
      simp only [pE]
      generalize pE (ar 7) n g 2 w a = r1 at i1 ad
      obtain ⟨o1, a1, c1⟩ := r1
      cases o1 with
      | false =>
        obtain ⟨c, hc⟩ := i1.2 rfl
        refine ⟨fun h => (by cases h), fun _ => ⟨c, fun d hd Q => ?_⟩⟩
        obtain ⟨d, rfl⟩ : ∃ k, d = k + 1 := ⟨d - 1, by omega⟩
        rw [e_148]
        simp only [s_148_0, s_148_0_n, s_148_1, s_148_4, s_148_6, s_148_8, s_148_11, s_148_14, s_148_14_n, s_148_15, s_148_15_i, s_148_16, s_148_19, s_148_20, s_148_21, s_148_24, s_148_24_n, s_148_25, s_148_28, s_148_29, s_148_30, s_148_33, s_148_34, s_148_37, s_148_38, s_148_41, s_148_42, s_148_43, s_148_46, s_148_47, ↓reduceIte, eq_self, rts_some, rts_none, nq_int, nq_ref, nq_null, nq_none, okr1_0, okr1_1, okr_b, List.length_nil, List.length_cons, Nat.zero_le, Nat.reduceAdd, Nat.reduceLeDiff, b2i_0, b2i_n0, b2i_1, b2i_n1, ite_not, if_true, if_false, not_true_eq_false, not_false_eq_true, true_and, and_true, false_and, and_false, mg_now, mg_mind, mg_then, mp_kept, mg_kept, mg_text, mp_texted, mg_texted, mg_rules, mg_sizes, mp_ruled, mg_ruled, mg_read, mp_size, mg_size, mp_at, mg_at, mp_well, mg_well, mp_within, mg_within, mp_sum, mg_sum, mp_free, mg_free, mg_names, mg_letters, mg_begins, mg_words, mg_sums, mg_above, mg_bodies, mg_trace, mp_ran, mg_ran, mg_sorts, mg_lengths, mg_items, mg_moved, ma_now, ms_now, ma_mind, ms_mind, ma_then, ms_then, ma_text, ms_text, ma_rules, ms_rules, ma_sizes, ms_sizes, ma_read, ms_read, ma_names, ms_names, ma_letters, ma_begins, ma_words, ma_sums, ms_sums, ma_above, ma_bodies, ma_trace, ms_trace, ma_sorts, ms_sorts, ma_lengths, ms_lengths, ma_items, ms_items, ma_moved, ms_moved, mcv]
        rw [hc d (by omega)]
        simp only [s_148_0, s_148_0_n, s_148_1, s_148_4, s_148_6, s_148_8, s_148_11, s_148_14, s_148_14_n, s_148_15, s_148_15_i, s_148_16, s_148_19, s_148_20, s_148_21, s_148_24, s_148_24_n, s_148_25, s_148_28, s_148_29, s_148_30, s_148_33, s_148_34, s_148_37, s_148_38, s_148_41, s_148_42, s_148_43, s_148_46, s_148_47, ↓reduceIte, eq_self, rts_some, rts_none, nq_int, nq_ref, nq_null, nq_none, okr1_0, okr1_1, okr_b, List.length_nil, List.length_cons, Nat.zero_le, Nat.reduceAdd, Nat.reduceLeDiff, b2i_0, b2i_n0, b2i_1, b2i_n1, ite_not, if_true, if_false, not_true_eq_false, not_false_eq_true, true_and, and_true, false_and, and_false]
        exact dead4 w a1 c none ad.2.1 d (by omega) Q
      | true =>
        obtain ⟨v1, hv1, p1⟩ := i1.1 rfl
        obtain ⟨-, -, -, -, i3⟩ := ih w a1 hw ad.2.1
        have ad1 := ad.2.2 rfl (by decide)
        have i3 := i3 (by dsimp only at ad1; omega) v1 none
        dsimp only at i3 ⊢
        generalize pE (ar 7) n g 4 w a1 = r3 at i3
        obtain ⟨o3, a2, c2⟩ := r3
        have hgo : ∀ (x : Int32) (wl : Int32), (∀ (d : Nat), 4 + 3 * (4 - w) ≤ d → ∀ (Q : Option Value → HS → Prop), wp V (cdT Ev) mx d 148 5 [some (.ref b), some (.int (b2i (v1 = true))), none] [] (MH b (ps sc (nI a1) 1 (nI w) s f) ar lg G z) Q = Q (some (.int x)) (MH b (ps sc (nI a2) wl (nI w) s f) ar lg G z)) → ∀ (d : Nat), 5 + 3 * (4 - w) ≤ d → ∀ (Q : Option Value → HS → Prop), WP V (cdT Ev) mx d 148 [.ref b] (MH b (ps sc (nI a) 1 (nI w) s f) ar lg G z) Q = Q (some (.int x)) (MH b (ps sc (nI a2) wl (nI w) s f) ar lg G z) := by
          intro x wl hx d hd Q
          obtain ⟨d, rfl⟩ : ∃ k, d = k + 1 := ⟨d - 1, by omega⟩
          rw [e_148]
          simp only [s_148_0, s_148_0_n, s_148_1, s_148_4, s_148_6, s_148_8, s_148_11, s_148_14, s_148_14_n, s_148_15, s_148_15_i, s_148_16, s_148_19, s_148_20, s_148_21, s_148_24, s_148_24_n, s_148_25, s_148_28, s_148_29, s_148_30, s_148_33, s_148_34, s_148_37, s_148_38, s_148_41, s_148_42, s_148_43, s_148_46, s_148_47, ↓reduceIte, eq_self, rts_some, rts_none, nq_int, nq_ref, nq_null, nq_none, okr1_0, okr1_1, okr_b, List.length_nil, List.length_cons, Nat.zero_le, Nat.reduceAdd, Nat.reduceLeDiff, b2i_0, b2i_n0, b2i_1, b2i_n1, ite_not, if_true, if_false, not_true_eq_false, not_false_eq_true, true_and, and_true, false_and, and_false, mg_now, mg_mind, mg_then, mp_kept, mg_kept, mg_text, mp_texted, mg_texted, mg_rules, mg_sizes, mp_ruled, mg_ruled, mg_read, mp_size, mg_size, mp_at, mg_at, mp_well, mg_well, mp_within, mg_within, mp_sum, mg_sum, mp_free, mg_free, mg_names, mg_letters, mg_begins, mg_words, mg_sums, mg_above, mg_bodies, mg_trace, mp_ran, mg_ran, mg_sorts, mg_lengths, mg_items, mg_moved, ma_now, ms_now, ma_mind, ms_mind, ma_then, ms_then, ma_text, ms_text, ma_rules, ms_rules, ma_sizes, ms_sizes, ma_read, ms_read, ma_names, ms_names, ma_letters, ma_begins, ma_words, ma_sums, ms_sums, ma_above, ma_bodies, ma_trace, ms_trace, ma_sorts, ms_sorts, ma_lengths, ms_lengths, ma_items, ms_items, ma_moved, ms_moved, mcv]
          rw [p1 d (by omega)]
          simp only [s_148_0, s_148_0_n, s_148_1, s_148_4, s_148_6, s_148_8, s_148_11, s_148_14, s_148_14_n, s_148_15, s_148_15_i, s_148_16, s_148_19, s_148_20, s_148_21, s_148_24, s_148_24_n, s_148_25, s_148_28, s_148_29, s_148_30, s_148_33, s_148_34, s_148_37, s_148_38, s_148_41, s_148_42, s_148_43, s_148_46, s_148_47, ↓reduceIte, eq_self, rts_some, rts_none, nq_int, nq_ref, nq_null, nq_none, okr1_0, okr1_1, okr_b, List.length_nil, List.length_cons, Nat.zero_le, Nat.reduceAdd, Nat.reduceLeDiff, b2i_0, b2i_n0, b2i_1, b2i_n1, ite_not, if_true, if_false, not_true_eq_false, not_false_eq_true, true_and, and_true, false_and, and_false]
          exact hx d (by omega) Q
        refine ⟨fun h => ?_, fun h => ?_⟩
        · obtain ⟨v, hv, p3⟩ := i3.1 h
          refine ⟨v, fun st => ?_, hgo _ _ p3⟩
          rw [List.nil_append, evR_app, show evR (ar 8) c1 st = v1 :: st from hv1 st]
          exact hv st
        · obtain ⟨c, p3⟩ := i3.2 h
          exact ⟨c, hgo _ _ p3⟩
    · -- factor
      simp only [pE]
      by_cases c33 : w < 4 ∧ a < n ∧ ar 7 a = 33
      · obtain ⟨-, -, i1, -, -⟩ := ih (w + 1) (a + 1) (by omega) (by omega)
        have i1 := i1 (by omega)
        have h4 : ((4 : Int32) ≤ nI w) = False := eq_false (nI_ge (a := w) (b := 4) c33.1 (by decide))
        rw [if_pos c33]
        generalize pE (ar 7) n g 2 (w + 1) (a + 1) = r1 at i1
        obtain ⟨o1, a1, c1⟩ := r1
        have hgo : ∀ (v : Bool) (wl : Int32), (∀ (d : Nat), 4 + 3 * (4 - (w + 1)) ≤ d → ∀ (Q : Option Value → HS → Prop), WP V (cdT Ev) mx d 147 [.ref b] (MH b (ps sc (nI (a + 1)) 1 (nI (w + 1)) s f) ar lg G z) Q = Q (some (.int (b2i (v = true)))) (MH b (ps sc (nI a1) wl (nI (w + 1)) s f) ar lg G z)) → ∀ (d : Nat), 4 + 3 * (4 - w) ≤ d → ∀ (Q : Option Value → HS → Prop), WP V (cdT Ev) mx d 147 [.ref b] (MH b (ps sc (nI a) 1 (nI w) s f) ar lg G z) Q = Q (some (.int (b2i ((!v) = true)))) (MH b (ps sc (nI a1) wl (nI w) s f) ar lg G z) := by
          intro v wl hx d hd Q
          obtain ⟨d, rfl⟩ : ∃ k, d = k + 2 := ⟨d - 2, by omega⟩
          rw [e_147]
          simp only [s_147_0, s_147_0_n, s_147_1, s_147_4, s_147_5, s_147_8, s_147_8_n, s_147_9, s_147_11, s_147_14, s_147_17, s_147_17_n, s_147_18, s_147_18_i, s_147_19, s_147_22, s_147_23, s_147_24, s_147_27, s_147_27_n, s_147_28, s_147_28_i, s_147_29, s_147_32, s_147_33, s_147_34, s_147_37, s_147_37_n, s_147_38, s_147_41, s_147_44, s_147_45, s_147_48, s_147_49, s_147_50, s_147_50_n, s_147_51, s_147_51_i, s_147_52, s_147_55, s_147_56, s_147_57, s_147_60, s_147_63, s_147_63_n, s_147_64, s_147_67, s_147_68, s_147_71, s_147_71_n, s_147_72, s_147_74, s_147_77, s_147_80, s_147_80_n, s_147_81, s_147_81_i, s_147_82, s_147_85, s_147_86, s_147_87, s_147_90, s_147_90_n, s_147_91, s_147_91_i, s_147_92, s_147_95, s_147_96, s_147_97, s_147_100, s_147_100_n, s_147_101, s_147_104, s_147_105, s_147_105_n, s_147_106, s_147_106_i, s_147_107, s_147_110, s_147_111, s_147_112, s_147_115, s_147_115_n, s_147_116, s_147_118, s_147_121, s_147_124, s_147_124_n, s_147_125, s_147_128, s_147_129, s_147_130, ↓reduceIte, eq_self, rts_some, rts_none, nq_int, nq_ref, nq_null, nq_none, okr1_0, okr1_1, okr_b, List.length_nil, List.length_cons, Nat.zero_le, Nat.reduceAdd, Nat.reduceLeDiff, b2i_0, b2i_n0, b2i_1, b2i_n1, ite_not, if_true, if_false, not_true_eq_false, not_false_eq_true, true_and, and_true, false_and, and_false, mg_now, mg_mind, mg_then, mp_kept, mg_kept, mg_text, mp_texted, mg_texted, mg_rules, mg_sizes, mp_ruled, mg_ruled, mg_read, mp_size, mg_size, mp_at, mg_at, mp_well, mg_well, mp_within, mg_within, mp_sum, mg_sum, mp_free, mg_free, mg_names, mg_letters, mg_begins, mg_words, mg_sums, mg_above, mg_bodies, mg_trace, mp_ran, mg_ran, mg_sorts, mg_lengths, mg_items, mg_moved, ma_now, ms_now, ma_mind, ms_mind, ma_then, ms_then, ma_text, ms_text, ma_rules, ms_rules, ma_sizes, ms_sizes, ma_read, ms_read, ma_names, ms_names, ma_letters, ma_begins, ma_words, ma_sums, ms_sums, ma_above, ma_bodies, ma_trace, ms_trace, ma_sorts, ms_sorts, ma_lengths, ms_lengths, ma_items, ms_items, ma_moved, ms_moved, mcv, m_isAt hn hn1 (show a ≤ 100 by omega), ps_4, ps_6, pu_4, pu_6, h4, c33, e1, and_self, nI_1]
          rw [hx (d + 1) (by omega)]
          cases v <;> simp only [s_147_0, s_147_0_n, s_147_1, s_147_4, s_147_5, s_147_8, s_147_8_n, s_147_9, s_147_11, s_147_14, s_147_17, s_147_17_n, s_147_18, s_147_18_i, s_147_19, s_147_22, s_147_23, s_147_24, s_147_27, s_147_27_n, s_147_28, s_147_28_i, s_147_29, s_147_32, s_147_33, s_147_34, s_147_37, s_147_37_n, s_147_38, s_147_41, s_147_44, s_147_45, s_147_48, s_147_49, s_147_50, s_147_50_n, s_147_51, s_147_51_i, s_147_52, s_147_55, s_147_56, s_147_57, s_147_60, s_147_63, s_147_63_n, s_147_64, s_147_67, s_147_68, s_147_71, s_147_71_n, s_147_72, s_147_74, s_147_77, s_147_80, s_147_80_n, s_147_81, s_147_81_i, s_147_82, s_147_85, s_147_86, s_147_87, s_147_90, s_147_90_n, s_147_91, s_147_91_i, s_147_92, s_147_95, s_147_96, s_147_97, s_147_100, s_147_100_n, s_147_101, s_147_104, s_147_105, s_147_105_n, s_147_106, s_147_106_i, s_147_107, s_147_110, s_147_111, s_147_112, s_147_115, s_147_115_n, s_147_116, s_147_118, s_147_121, s_147_124, s_147_124_n, s_147_125, s_147_128, s_147_129, s_147_130, ↓reduceIte, eq_self, rts_some, rts_none, nq_int, nq_ref, nq_null, nq_none, okr1_0, okr1_1, okr_b, List.length_nil, List.length_cons, Nat.zero_le, Nat.reduceAdd, Nat.reduceLeDiff, b2i_0, b2i_n0, b2i_1, b2i_n1, ite_not, if_true, if_false, not_true_eq_false, not_false_eq_true, true_and, and_true, false_and, and_false, mg_now, mg_mind, mg_then, mp_kept, mg_kept, mg_text, mp_texted, mg_texted, mg_rules, mg_sizes, mp_ruled, mg_ruled, mg_read, mp_size, mg_size, mp_at, mg_at, mp_well, mg_well, mp_within, mg_within, mp_sum, mg_sum, mp_free, mg_free, mg_names, mg_letters, mg_begins, mg_words, mg_sums, mg_above, mg_bodies, mg_trace, mp_ran, mg_ran, mg_sorts, mg_lengths, mg_items, mg_moved, ma_now, ms_now, ma_mind, ms_mind, ma_then, ms_then, ma_text, ms_text, ma_rules, ms_rules, ma_sizes, ms_sizes, ma_read, ms_read, ma_names, ms_names, ma_letters, ma_begins, ma_words, ma_sums, ms_sums, ma_above, ma_bodies, ma_trace, ms_trace, ma_sorts, ms_sorts, ma_lengths, ms_lengths, ma_items, ms_items, ma_moved, ms_moved, mcv, ps_6, pu_6, nI_pred, b2i_not, Bool.false_eq_true, eq_self]
        refine ⟨fun h => ?_, fun h => ?_⟩
        · cases o1 with
          | false => cases h
          | true =>
            obtain ⟨v, hv, p1⟩ := i1.1 rfl
            refine ⟨!v, fun st => ?_, hgo _ _ p1⟩
            show evR (ar 8) (c1 ++ [-1]) ([] ++ st) = _
            rw [evR_app, show evR (ar 8) c1 ([] ++ st) = v :: st from hv st]
            rfl
        · cases o1 with
          | true => cases h
          | false =>
            obtain ⟨c, p1⟩ := i1.2 rfl
            exact ⟨!c, hgo _ _ p1⟩
      · rw [if_neg c33]
        by_cases c40 : w < 4 ∧ a < n ∧ ar 7 a = 40
        · obtain ⟨i1, -, -, -, -⟩ := ih (w + 1) (a + 1) (by omega) (by omega)
          have i1 := i1 (by omega)
          have ad := pE_adv (ar 7) n g 0 (w + 1) (a + 1) (by omega)
          have h4 : ((4 : Int32) ≤ nI w) = False := eq_false (nI_ge (a := w) (b := 4) c40.1 (by decide))
          have e40 : ((40 : Int32) = 33) = False := by decide
          rw [if_pos c40]
          generalize pE (ar 7) n g 0 (w + 1) (a + 1) = r1 at i1 ad
          obtain ⟨o1, a1, c1⟩ := r1
          have ha1 : a1 ≤ n := ad.2.1
          have hgo : ∀ (v : Bool) (wl : Int32), (∀ (d : Nat), 6 + 3 * (4 - (w + 1)) ≤ d → ∀ (Q : Option Value → HS → Prop), WP V (cdT Ev) mx d 149 [.ref b] (MH b (ps sc (nI (a + 1)) 1 (nI (w + 1)) s f) ar lg G z) Q = Q (some (.int (b2i (v = true)))) (MH b (ps sc (nI a1) wl (nI (w + 1)) s f) ar lg G z)) → ∀ (d : Nat), 4 + 3 * (4 - w) ≤ d → ∀ (Q : Option Value → HS → Prop), WP V (cdT Ev) mx d 147 [.ref b] (MH b (ps sc (nI a) 1 (nI w) s f) ar lg G z) Q = if ¬ wl = 0 ∧ a1 < n ∧ ar 7 a1 = 41 then Q (some (.int (b2i (v = true)))) (MH b (ps sc (nI (a1 + 1)) wl (nI w) s f) ar lg G z) else Q (some (.int (b2i (v = true)))) (MH b (ps sc (nI a1) 0 (nI w) s f) ar lg G z) := by
            intro v wl hx d hd Q
            obtain ⟨d, rfl⟩ : ∃ k, d = k + 3 := ⟨d - 3, by omega⟩
            rw [e_147]
            simp only [s_147_0, s_147_0_n, s_147_1, s_147_4, s_147_5, s_147_8, s_147_8_n, s_147_9, s_147_11, s_147_14, s_147_17, s_147_17_n, s_147_18, s_147_18_i, s_147_19, s_147_22, s_147_23, s_147_24, s_147_27, s_147_27_n, s_147_28, s_147_28_i, s_147_29, s_147_32, s_147_33, s_147_34, s_147_37, s_147_37_n, s_147_38, s_147_41, s_147_44, s_147_45, s_147_48, s_147_49, s_147_50, s_147_50_n, s_147_51, s_147_51_i, s_147_52, s_147_55, s_147_56, s_147_57, s_147_60, s_147_63, s_147_63_n, s_147_64, s_147_67, s_147_68, s_147_71, s_147_71_n, s_147_72, s_147_74, s_147_77, s_147_80, s_147_80_n, s_147_81, s_147_81_i, s_147_82, s_147_85, s_147_86, s_147_87, s_147_90, s_147_90_n, s_147_91, s_147_91_i, s_147_92, s_147_95, s_147_96, s_147_97, s_147_100, s_147_100_n, s_147_101, s_147_104, s_147_105, s_147_105_n, s_147_106, s_147_106_i, s_147_107, s_147_110, s_147_111, s_147_112, s_147_115, s_147_115_n, s_147_116, s_147_118, s_147_121, s_147_124, s_147_124_n, s_147_125, s_147_128, s_147_129, s_147_130, ↓reduceIte, eq_self, rts_some, rts_none, nq_int, nq_ref, nq_null, nq_none, okr1_0, okr1_1, okr_b, List.length_nil, List.length_cons, Nat.zero_le, Nat.reduceAdd, Nat.reduceLeDiff, b2i_0, b2i_n0, b2i_1, b2i_n1, ite_not, if_true, if_false, not_true_eq_false, not_false_eq_true, true_and, and_true, false_and, and_false, mg_now, mg_mind, mg_then, mp_kept, mg_kept, mg_text, mp_texted, mg_texted, mg_rules, mg_sizes, mp_ruled, mg_ruled, mg_read, mp_size, mg_size, mp_at, mg_at, mp_well, mg_well, mp_within, mg_within, mp_sum, mg_sum, mp_free, mg_free, mg_names, mg_letters, mg_begins, mg_words, mg_sums, mg_above, mg_bodies, mg_trace, mp_ran, mg_ran, mg_sorts, mg_lengths, mg_items, mg_moved, ma_now, ms_now, ma_mind, ms_mind, ma_then, ms_then, ma_text, ms_text, ma_rules, ms_rules, ma_sizes, ms_sizes, ma_read, ms_read, ma_names, ms_names, ma_letters, ma_begins, ma_words, ma_sums, ms_sums, ma_above, ma_bodies, ma_trace, ms_trace, ma_sorts, ms_sorts, ma_lengths, ms_lengths, ma_items, ms_items, ma_moved, ms_moved, mcv, m_isAt hn hn1 (show a ≤ 100 by omega), ps_4, ps_6, pu_4, pu_6, h4, c40, e1, e40, and_self, nI_1]
            rw [hx (d + 2) (by omega)]
            simp only [s_147_0, s_147_0_n, s_147_1, s_147_4, s_147_5, s_147_8, s_147_8_n, s_147_9, s_147_11, s_147_14, s_147_17, s_147_17_n, s_147_18, s_147_18_i, s_147_19, s_147_22, s_147_23, s_147_24, s_147_27, s_147_27_n, s_147_28, s_147_28_i, s_147_29, s_147_32, s_147_33, s_147_34, s_147_37, s_147_37_n, s_147_38, s_147_41, s_147_44, s_147_45, s_147_48, s_147_49, s_147_50, s_147_50_n, s_147_51, s_147_51_i, s_147_52, s_147_55, s_147_56, s_147_57, s_147_60, s_147_63, s_147_63_n, s_147_64, s_147_67, s_147_68, s_147_71, s_147_71_n, s_147_72, s_147_74, s_147_77, s_147_80, s_147_80_n, s_147_81, s_147_81_i, s_147_82, s_147_85, s_147_86, s_147_87, s_147_90, s_147_90_n, s_147_91, s_147_91_i, s_147_92, s_147_95, s_147_96, s_147_97, s_147_100, s_147_100_n, s_147_101, s_147_104, s_147_105, s_147_105_n, s_147_106, s_147_106_i, s_147_107, s_147_110, s_147_111, s_147_112, s_147_115, s_147_115_n, s_147_116, s_147_118, s_147_121, s_147_124, s_147_124_n, s_147_125, s_147_128, s_147_129, s_147_130, ↓reduceIte, eq_self, rts_some, rts_none, nq_int, nq_ref, nq_null, nq_none, okr1_0, okr1_1, okr_b, List.length_nil, List.length_cons, Nat.zero_le, Nat.reduceAdd, Nat.reduceLeDiff, b2i_0, b2i_n0, b2i_1, b2i_n1, ite_not, if_true, if_false, not_true_eq_false, not_false_eq_true, true_and, and_true, false_and, and_false, mg_now, mg_mind, mg_then, mp_kept, mg_kept, mg_text, mp_texted, mg_texted, mg_rules, mg_sizes, mp_ruled, mg_ruled, mg_read, mp_size, mg_size, mp_at, mg_at, mp_well, mg_well, mp_within, mg_within, mp_sum, mg_sum, mp_free, mg_free, mg_names, mg_letters, mg_begins, mg_words, mg_sums, mg_above, mg_bodies, mg_trace, mp_ran, mg_ran, mg_sorts, mg_lengths, mg_items, mg_moved, ma_now, ms_now, ma_mind, ms_mind, ma_then, ms_then, ma_text, ms_text, ma_rules, ms_rules, ma_sizes, ms_sizes, ma_read, ms_read, ma_names, ms_names, ma_letters, ma_begins, ma_words, ma_sums, ms_sums, ma_above, ma_bodies, ma_trace, ms_trace, ma_sorts, ms_sorts, ma_lengths, ms_lengths, ma_items, ms_items, ma_moved, ms_moved, mcv, ps_6, pu_6, nI_pred, m_takes hn hn1 (show a1 ≤ 100 by omega)]
          cases o1 with
          | false =>
            obtain ⟨c, p1⟩ := i1.2 rfl
            refine ⟨fun h => (by cases h), fun _ => ⟨c, fun d hd Q => ?_⟩⟩
            rw [hgo _ _ p1 d hd Q, if_neg (by simp)]
          | true =>
            obtain ⟨v, hv, p1⟩ := i1.1 rfl
            dsimp only
            by_cases h41 : a1 < n ∧ ar 7 a1 = 41
            · rw [if_pos h41]
              refine ⟨fun _ => ⟨v, hv, fun d hd Q => ?_⟩, fun h => (by cases h)⟩
              rw [hgo _ _ p1 d hd Q, if_pos ⟨by decide, h41⟩]
            · rw [if_neg h41]
              refine ⟨fun h => (by cases h), fun _ => ⟨v, fun d hd Q => ?_⟩⟩
              rw [hgo _ _ p1 d hd Q, if_neg (fun q => h41 q.2)]
        · rw [if_neg c40]
          have ht := m_test1 (V := V) (Ev := Ev) (b := b) (sc := sc) (ar := ar) (lg := lg) (G := G) (z := z) (s := s) (f := f) hn hn1 (w := nI w) ha
          have hgo : ∀ (d : Nat), 4 + 3 * (4 - w) ≤ d → ∀ (Q : Option Value → HS → Prop), WP V (cdT Ev) mx d 147 [.ref b] (MH b (ps sc (nI a) 1 (nI w) s f) ar lg G z) Q = WP V (cdT Ev) mx (d - 1) 146 [.ref b] (MH b (ps sc (nI a) 1 (nI w) s f) ar lg G z) (fun r h' => wp V (cdT Ev) mx (d - 1) 147 128 [some (.ref b), none] (rts r []) h' Q) := by
            intro d hd Q
            obtain ⟨d, rfl⟩ : ∃ k, d = k + 3 := ⟨d - 3, by omega⟩
            rw [e_147]
            by_cases hw4 : w < 4
            · have h4 : ((4 : Int32) ≤ nI w) = False := eq_false (nI_ge (a := w) (b := 4) hw4 (by decide))
              have q1 : (a < n ∧ ar 7 a = 33) = False := eq_false (fun q => c33 ⟨hw4, q⟩)
              have q2 : (a < n ∧ ar 7 a = 40) = False := eq_false (fun q => c40 ⟨hw4, q⟩)
              simp only [s_147_0, s_147_0_n, s_147_1, s_147_4, s_147_5, s_147_8, s_147_8_n, s_147_9, s_147_11, s_147_14, s_147_17, s_147_17_n, s_147_18, s_147_18_i, s_147_19, s_147_22, s_147_23, s_147_24, s_147_27, s_147_27_n, s_147_28, s_147_28_i, s_147_29, s_147_32, s_147_33, s_147_34, s_147_37, s_147_37_n, s_147_38, s_147_41, s_147_44, s_147_45, s_147_48, s_147_49, s_147_50, s_147_50_n, s_147_51, s_147_51_i, s_147_52, s_147_55, s_147_56, s_147_57, s_147_60, s_147_63, s_147_63_n, s_147_64, s_147_67, s_147_68, s_147_71, s_147_71_n, s_147_72, s_147_74, s_147_77, s_147_80, s_147_80_n, s_147_81, s_147_81_i, s_147_82, s_147_85, s_147_86, s_147_87, s_147_90, s_147_90_n, s_147_91, s_147_91_i, s_147_92, s_147_95, s_147_96, s_147_97, s_147_100, s_147_100_n, s_147_101, s_147_104, s_147_105, s_147_105_n, s_147_106, s_147_106_i, s_147_107, s_147_110, s_147_111, s_147_112, s_147_115, s_147_115_n, s_147_116, s_147_118, s_147_121, s_147_124, s_147_124_n, s_147_125, s_147_129, s_147_130, ↓reduceIte, eq_self, rts_some, rts_none, nq_int, nq_ref, nq_null, nq_none, okr1_0, okr1_1, okr_b, List.length_nil, List.length_cons, Nat.zero_le, Nat.reduceAdd, Nat.reduceLeDiff, b2i_0, b2i_n0, b2i_1, b2i_n1, ite_not, if_true, if_false, not_true_eq_false, not_false_eq_true, true_and, and_true, false_and, and_false, mg_now, mg_mind, mg_then, mp_kept, mg_kept, mg_text, mp_texted, mg_texted, mg_rules, mg_sizes, mp_ruled, mg_ruled, mg_read, mp_size, mg_size, mp_at, mg_at, mp_well, mg_well, mp_within, mg_within, mp_sum, mg_sum, mp_free, mg_free, mg_names, mg_letters, mg_begins, mg_words, mg_sums, mg_above, mg_bodies, mg_trace, mp_ran, mg_ran, mg_sorts, mg_lengths, mg_items, mg_moved, ma_now, ms_now, ma_mind, ms_mind, ma_then, ms_then, ma_text, ms_text, ma_rules, ms_rules, ma_sizes, ms_sizes, ma_read, ms_read, ma_names, ms_names, ma_letters, ma_begins, ma_words, ma_sums, ms_sums, ma_above, ma_bodies, ma_trace, ms_trace, ma_sorts, ms_sorts, ma_lengths, ms_lengths, ma_items, ms_items, ma_moved, ms_moved, mcv, m_isAt hn hn1 (show a ≤ 100 by omega), ps_6, h4, q1, q2, Nat.add_sub_cancel]
              rfl
            · have h4 : ((4 : Int32) ≤ nI w) = True := by
                have : w = 4 := by omega
                subst this
                decide
              simp only [s_147_0, s_147_0_n, s_147_1, s_147_4, s_147_5, s_147_8, s_147_8_n, s_147_9, s_147_11, s_147_14, s_147_17, s_147_17_n, s_147_18, s_147_18_i, s_147_19, s_147_22, s_147_23, s_147_24, s_147_27, s_147_27_n, s_147_28, s_147_28_i, s_147_29, s_147_32, s_147_33, s_147_34, s_147_37, s_147_37_n, s_147_38, s_147_41, s_147_44, s_147_45, s_147_48, s_147_49, s_147_50, s_147_50_n, s_147_51, s_147_51_i, s_147_52, s_147_55, s_147_56, s_147_57, s_147_60, s_147_63, s_147_63_n, s_147_64, s_147_67, s_147_68, s_147_71, s_147_71_n, s_147_72, s_147_74, s_147_77, s_147_80, s_147_80_n, s_147_81, s_147_81_i, s_147_82, s_147_85, s_147_86, s_147_87, s_147_90, s_147_90_n, s_147_91, s_147_91_i, s_147_92, s_147_95, s_147_96, s_147_97, s_147_100, s_147_100_n, s_147_101, s_147_104, s_147_105, s_147_105_n, s_147_106, s_147_106_i, s_147_107, s_147_110, s_147_111, s_147_112, s_147_115, s_147_115_n, s_147_116, s_147_118, s_147_121, s_147_124, s_147_124_n, s_147_125, s_147_129, s_147_130, ↓reduceIte, eq_self, rts_some, rts_none, nq_int, nq_ref, nq_null, nq_none, okr1_0, okr1_1, okr_b, List.length_nil, List.length_cons, Nat.zero_le, Nat.reduceAdd, Nat.reduceLeDiff, b2i_0, b2i_n0, b2i_1, b2i_n1, ite_not, if_true, if_false, not_true_eq_false, not_false_eq_true, true_and, and_true, false_and, and_false, mg_now, mg_mind, mg_then, mp_kept, mg_kept, mg_text, mp_texted, mg_texted, mg_rules, mg_sizes, mp_ruled, mg_ruled, mg_read, mp_size, mg_size, mp_at, mg_at, mp_well, mg_well, mp_within, mg_within, mp_sum, mg_sum, mp_free, mg_free, mg_names, mg_letters, mg_begins, mg_words, mg_sums, mg_above, mg_bodies, mg_trace, mp_ran, mg_ran, mg_sorts, mg_lengths, mg_items, mg_moved, ma_now, ms_now, ma_mind, ms_mind, ma_then, ms_then, ma_text, ms_text, ma_rules, ms_rules, ma_sizes, ms_sizes, ma_read, ms_read, ma_names, ms_names, ma_letters, ma_begins, ma_words, ma_sums, ms_sums, ma_above, ma_bodies, ma_trace, ms_trace, ma_sorts, ms_sorts, ma_lengths, ms_lengths, ma_items, ms_items, ma_moved, ms_moved, mcv, ps_6, h4]
              rfl
          have hout : ∀ (x : Int32) (a' : Nat) (wl : Int32), (∀ (d : Nat) (Q : Option Value → HS → Prop), WP V (cdT Ev) mx (d + 3) 146 [.ref b] (MH b (ps sc (nI a) 1 (nI w) s f) ar lg G z) Q = Q (some (.int x)) (MH b (ps sc (nI a') wl (nI w) s f) ar lg G z)) → okr 1 (.int x) = true → ∀ (d : Nat), 4 + 3 * (4 - w) ≤ d → ∀ (Q : Option Value → HS → Prop), WP V (cdT Ev) mx d 147 [.ref b] (MH b (ps sc (nI a) 1 (nI w) s f) ar lg G z) Q = Q (some (.int x)) (MH b (ps sc (nI a') wl (nI w) s f) ar lg G z) := by
            intro x a' wl hx ho d hd Q
            rw [hgo d hd Q]
            obtain ⟨d, rfl⟩ : ∃ k, d = k + 4 := ⟨d - 4, by omega⟩
            rw [show d + 4 - 1 = d + 3 from rfl, hx d]
            simp only [s_147_0, s_147_0_n, s_147_1, s_147_4, s_147_5, s_147_8, s_147_8_n, s_147_9, s_147_11, s_147_14, s_147_17, s_147_17_n, s_147_18, s_147_18_i, s_147_19, s_147_22, s_147_23, s_147_24, s_147_27, s_147_27_n, s_147_28, s_147_28_i, s_147_29, s_147_32, s_147_33, s_147_34, s_147_37, s_147_37_n, s_147_38, s_147_41, s_147_44, s_147_45, s_147_48, s_147_49, s_147_50, s_147_50_n, s_147_51, s_147_51_i, s_147_52, s_147_55, s_147_56, s_147_57, s_147_60, s_147_63, s_147_63_n, s_147_64, s_147_67, s_147_68, s_147_71, s_147_71_n, s_147_72, s_147_74, s_147_77, s_147_80, s_147_80_n, s_147_81, s_147_81_i, s_147_82, s_147_85, s_147_86, s_147_87, s_147_90, s_147_90_n, s_147_91, s_147_91_i, s_147_92, s_147_95, s_147_96, s_147_97, s_147_100, s_147_100_n, s_147_101, s_147_104, s_147_105, s_147_105_n, s_147_106, s_147_106_i, s_147_107, s_147_110, s_147_111, s_147_112, s_147_115, s_147_115_n, s_147_116, s_147_118, s_147_121, s_147_124, s_147_124_n, s_147_125, s_147_128, s_147_129, s_147_130, ↓reduceIte, eq_self, rts_some, rts_none, nq_int, nq_ref, nq_null, nq_none, okr1_0, okr1_1, okr_b, List.length_nil, List.length_cons, Nat.zero_le, Nat.reduceAdd, Nat.reduceLeDiff, b2i_0, b2i_n0, b2i_1, b2i_n1, ite_not, if_true, if_false, not_true_eq_false, not_false_eq_true, true_and, and_true, false_and, and_false, ho]
          generalize pTest (ar 7) n a = r at ht
          obtain ⟨o, a1, c⟩ := r
          cases o with
          | true =>
            obtain ⟨v, hv, p1⟩ := ht.1 rfl
            exact ⟨fun _ => ⟨v, hv, hout _ _ _ p1 okr_b⟩, fun h => (by cases h)⟩
          | false =>
            obtain ⟨c', p1⟩ := ht.2 rfl
            exact ⟨fun h => (by cases h), fun _ => ⟨c', hout _ _ _ p1 okr_b⟩⟩
    · -- what follows in X12_any
      have i1 : a < n → okA (ar 8) (pE (ar 7) n g 1 w (a + 1)) [] (fun x a' wl => ∀ (d : Nat), 5 + 3 * (4 - w) ≤ d → ∀ (Q : Option Value → HS → Prop), WP V (cdT Ev) mx d 148 [.ref b] (MH b (ps sc (nI (a + 1)) 1 (nI w) s f) ar lg G z) Q = Q (some (.int x)) (MH b (ps sc (nI a') wl (nI w) s f) ar lg G z)) := by
        intro hlt
        have := ih w (a + 1) hw (by omega)
        exact this.2.1 (by omega)
      simp only [pE]
      by_cases cc : a < n ∧ ar 7 a = 124
      · rw [if_pos cc]
        have i1 := i1 cc.1
        have ad := pE_adv (ar 7) n g 1 w (a + 1) (by omega)
        generalize pE (ar 7) n g 1 w (a + 1) = r1 at i1 ad
        obtain ⟨o1, a1, c1⟩ := r1
        have hstep : ∀ (v1 : Bool) (wl : Int32), (∀ (d : Nat), 5 + 3 * (4 - w) ≤ d → ∀ (Q : Option Value → HS → Prop), WP V (cdT Ev) mx d 148 [.ref b] (MH b (ps sc (nI (a + 1)) 1 (nI w) s f) ar lg G z) Q = Q (some (.int (b2i (v1 = true)))) (MH b (ps sc (nI a1) wl (nI w) s f) ar lg G z)) → ∀ (d : Nat), 5 + 3 * (4 - w) ≤ d → ∀ (Q : Option Value → HS → Prop), wp V (cdT Ev) mx d 149 5 [some (.ref b), some (.int (b2i (u = true))), l2] [] (MH b (ps sc (nI a) 1 (nI w) s f) ar lg G z) Q = wp V (cdT Ev) mx d 149 5 [some (.ref b), some (.int (b2i ((u || v1) = true))), some (.int (b2i (v1 = true)))] [] (MH b (ps sc (nI a1) wl (nI w) s f) ar lg G z) Q := by
          intro v1 wl hx d hd Q
          obtain ⟨d, rfl⟩ : ∃ k, d = k + 1 := ⟨d - 1, by omega⟩
          rw [s_149_5]
          simp only [s_149_0, s_149_0_n, s_149_1, s_149_4, s_149_6, s_149_8, s_149_11, s_149_14, s_149_14_n, s_149_15, s_149_15_i, s_149_16, s_149_19, s_149_20, s_149_21, s_149_24, s_149_24_n, s_149_25, s_149_28, s_149_29, s_149_30, s_149_33, s_149_34, s_149_37, s_149_38, s_149_41, s_149_42, s_149_43, s_149_46, s_149_47, ↓reduceIte, eq_self, rts_some, rts_none, nq_int, nq_ref, nq_null, nq_none, okr1_0, okr1_1, okr_b, List.length_nil, List.length_cons, Nat.zero_le, Nat.reduceAdd, Nat.reduceLeDiff, b2i_0, b2i_n0, b2i_1, b2i_n1, ite_not, if_true, if_false, not_true_eq_false, not_false_eq_true, true_and, and_true, false_and, and_false, mg_now, mg_mind, mg_then, mp_kept, mg_kept, mg_text, mp_texted, mg_texted, mg_rules, mg_sizes, mp_ruled, mg_ruled, mg_read, mp_size, mg_size, mp_at, mg_at, mp_well, mg_well, mp_within, mg_within, mp_sum, mg_sum, mp_free, mg_free, mg_names, mg_letters, mg_begins, mg_words, mg_sums, mg_above, mg_bodies, mg_trace, mp_ran, mg_ran, mg_sorts, mg_lengths, mg_items, mg_moved, ma_now, ms_now, ma_mind, ms_mind, ma_then, ms_then, ma_text, ms_text, ma_rules, ms_rules, ma_sizes, ms_sizes, ma_read, ms_read, ma_names, ms_names, ma_letters, ma_begins, ma_words, ma_sums, ms_sums, ma_above, ma_bodies, ma_trace, ms_trace, ma_sorts, ms_sorts, ma_lengths, ms_lengths, ma_items, ms_items, ma_moved, ms_moved, mcv, m_isAt hn hn1 (show a ≤ 100 by omega), cc, e1, and_self, ps_4, pu_4, nI_1]
          rw [hx (d + 1) (by omega)]
          cases u <;> cases v1 <;> (simp only [s_149_0, s_149_0_n, s_149_1, s_149_4, s_149_6, s_149_8, s_149_11, s_149_14, s_149_14_n, s_149_15, s_149_15_i, s_149_16, s_149_19, s_149_20, s_149_21, s_149_24, s_149_24_n, s_149_25, s_149_28, s_149_29, s_149_30, s_149_33, s_149_34, s_149_37, s_149_38, s_149_41, s_149_42, s_149_43, s_149_46, s_149_47, ↓reduceIte, eq_self, rts_some, rts_none, nq_int, nq_ref, nq_null, nq_none, okr1_0, okr1_1, okr_b, List.length_nil, List.length_cons, Nat.zero_le, Nat.reduceAdd, Nat.reduceLeDiff, b2i_0, b2i_n0, b2i_1, b2i_n1, ite_not, if_true, if_false, not_true_eq_false, not_false_eq_true, true_and, and_true, false_and, and_false, Bool.false_eq_true, eq_self]; rfl)
        cases o1 with
        | false =>
          obtain ⟨c, p1⟩ := i1.2 rfl
          refine ⟨fun h => (by cases h), fun _ => ⟨u || c, fun d hd Q => ?_⟩⟩
          rw [hstep _ _ p1 d hd Q]
          exact dead3 w a1 (u || c) _ ad.2.1 d (by omega) Q
        | true =>
          obtain ⟨v1, hv1, p1⟩ := i1.1 rfl
          have ad1 : a + 1 < a1 := ad.2.2 rfl (by decide)
          have i3 := (ih w a1 hw ad.2.1).2.2.2.1 (by omega) (u || v1) (some (.int (b2i (v1 = true))))
          dsimp only at i3 ⊢
          generalize pE (ar 7) n g 3 w a1 = r3 at i3
          obtain ⟨o3, a2, c2⟩ := r3
          refine ⟨fun h => ?_, fun h => ?_⟩
          · obtain ⟨v, hv, p3⟩ := i3.1 h
            refine ⟨v, fun st => ?_, fun d hd Q => ?_⟩
            · show evR (ar 8) (c1 ++ [-3] ++ c2) ([u] ++ st) = _
              rw [evR_app, evR_app, show evR (ar 8) c1 ([u] ++ st) = v1 :: u :: st from hv1 (u :: st)]
              exact hv st
            · rw [hstep _ _ p1 d hd Q]
              exact p3 d hd Q
          · obtain ⟨c, p3⟩ := i3.2 h
            refine ⟨c, fun d hd Q => ?_⟩
            rw [hstep _ _ p1 d hd Q]
            exact p3 d hd Q
      · rw [if_neg cc]
        refine ⟨fun _ => ⟨u, fun st => rfl, fun d hd Q => ?_⟩, fun h => (by cases h)⟩
        obtain ⟨d, rfl⟩ : ∃ k, d = k + 1 := ⟨d - 1, by omega⟩
        rw [s_149_5]
        simp only [s_149_0, s_149_0_n, s_149_1, s_149_4, s_149_6, s_149_8, s_149_11, s_149_14, s_149_14_n, s_149_15, s_149_15_i, s_149_16, s_149_19, s_149_20, s_149_21, s_149_24, s_149_24_n, s_149_25, s_149_28, s_149_29, s_149_30, s_149_33, s_149_34, s_149_37, s_149_38, s_149_41, s_149_42, s_149_43, s_149_46, s_149_47, ↓reduceIte, eq_self, rts_some, rts_none, nq_int, nq_ref, nq_null, nq_none, okr1_0, okr1_1, okr_b, List.length_nil, List.length_cons, Nat.zero_le, Nat.reduceAdd, Nat.reduceLeDiff, b2i_0, b2i_n0, b2i_1, b2i_n1, ite_not, if_true, if_false, not_true_eq_false, not_false_eq_true, true_and, and_true, false_and, and_false, mg_now, mg_mind, mg_then, mp_kept, mg_kept, mg_text, mp_texted, mg_texted, mg_rules, mg_sizes, mp_ruled, mg_ruled, mg_read, mp_size, mg_size, mp_at, mg_at, mp_well, mg_well, mp_within, mg_within, mp_sum, mg_sum, mp_free, mg_free, mg_names, mg_letters, mg_begins, mg_words, mg_sums, mg_above, mg_bodies, mg_trace, mp_ran, mg_ran, mg_sorts, mg_lengths, mg_items, mg_moved, ma_now, ms_now, ma_mind, ms_mind, ma_then, ms_then, ma_text, ms_text, ma_rules, ms_rules, ma_sizes, ms_sizes, ma_read, ms_read, ma_names, ms_names, ma_letters, ma_begins, ma_words, ma_sums, ms_sums, ma_above, ma_bodies, ma_trace, ms_trace, ma_sorts, ms_sorts, ma_lengths, ms_lengths, ma_items, ms_items, ma_moved, ms_moved, mcv, m_isAt hn hn1 (show a ≤ 100 by omega), cc, e1]
    · -- what follows in X12_both
      have i1 : a < n → okA (ar 8) (pE (ar 7) n g 2 w (a + 1)) [] (fun x a' wl => ∀ (d : Nat), 4 + 3 * (4 - w) ≤ d → ∀ (Q : Option Value → HS → Prop), WP V (cdT Ev) mx d 147 [.ref b] (MH b (ps sc (nI (a + 1)) 1 (nI w) s f) ar lg G z) Q = Q (some (.int x)) (MH b (ps sc (nI a') wl (nI w) s f) ar lg G z)) := by
        intro hlt
        have := ih w (a + 1) hw (by omega)
        exact this.2.2.1 (by omega)
      simp only [pE]
      by_cases cc : a < n ∧ ar 7 a = 38
      · rw [if_pos cc]
        have i1 := i1 cc.1
        have ad := pE_adv (ar 7) n g 2 w (a + 1) (by omega)
        generalize pE (ar 7) n g 2 w (a + 1) = r1 at i1 ad
        obtain ⟨o1, a1, c1⟩ := r1
        have hstep : ∀ (v1 : Bool) (wl : Int32), (∀ (d : Nat), 4 + 3 * (4 - w) ≤ d → ∀ (Q : Option Value → HS → Prop), WP V (cdT Ev) mx d 147 [.ref b] (MH b (ps sc (nI (a + 1)) 1 (nI w) s f) ar lg G z) Q = Q (some (.int (b2i (v1 = true)))) (MH b (ps sc (nI a1) wl (nI w) s f) ar lg G z)) → ∀ (d : Nat), 4 + 3 * (4 - w) ≤ d → ∀ (Q : Option Value → HS → Prop), wp V (cdT Ev) mx d 148 5 [some (.ref b), some (.int (b2i (u = true))), l2] [] (MH b (ps sc (nI a) 1 (nI w) s f) ar lg G z) Q = wp V (cdT Ev) mx d 148 5 [some (.ref b), some (.int (b2i ((u && v1) = true))), some (.int (b2i (v1 = true)))] [] (MH b (ps sc (nI a1) wl (nI w) s f) ar lg G z) Q := by
          intro v1 wl hx d hd Q
          obtain ⟨d, rfl⟩ : ∃ k, d = k + 1 := ⟨d - 1, by omega⟩
          rw [s_148_5]
          simp only [s_148_0, s_148_0_n, s_148_1, s_148_4, s_148_6, s_148_8, s_148_11, s_148_14, s_148_14_n, s_148_15, s_148_15_i, s_148_16, s_148_19, s_148_20, s_148_21, s_148_24, s_148_24_n, s_148_25, s_148_28, s_148_29, s_148_30, s_148_33, s_148_34, s_148_37, s_148_38, s_148_41, s_148_42, s_148_43, s_148_46, s_148_47, ↓reduceIte, eq_self, rts_some, rts_none, nq_int, nq_ref, nq_null, nq_none, okr1_0, okr1_1, okr_b, List.length_nil, List.length_cons, Nat.zero_le, Nat.reduceAdd, Nat.reduceLeDiff, b2i_0, b2i_n0, b2i_1, b2i_n1, ite_not, if_true, if_false, not_true_eq_false, not_false_eq_true, true_and, and_true, false_and, and_false, mg_now, mg_mind, mg_then, mp_kept, mg_kept, mg_text, mp_texted, mg_texted, mg_rules, mg_sizes, mp_ruled, mg_ruled, mg_read, mp_size, mg_size, mp_at, mg_at, mp_well, mg_well, mp_within, mg_within, mp_sum, mg_sum, mp_free, mg_free, mg_names, mg_letters, mg_begins, mg_words, mg_sums, mg_above, mg_bodies, mg_trace, mp_ran, mg_ran, mg_sorts, mg_lengths, mg_items, mg_moved, ma_now, ms_now, ma_mind, ms_mind, ma_then, ms_then, ma_text, ms_text, ma_rules, ms_rules, ma_sizes, ms_sizes, ma_read, ms_read, ma_names, ms_names, ma_letters, ma_begins, ma_words, ma_sums, ms_sums, ma_above, ma_bodies, ma_trace, ms_trace, ma_sorts, ms_sorts, ma_lengths, ms_lengths, ma_items, ms_items, ma_moved, ms_moved, mcv, m_isAt hn hn1 (show a ≤ 100 by omega), cc, e1, and_self, ps_4, pu_4, nI_1]
          rw [hx (d + 1) (by omega)]
          cases u <;> cases v1 <;> (simp only [s_148_0, s_148_0_n, s_148_1, s_148_4, s_148_6, s_148_8, s_148_11, s_148_14, s_148_14_n, s_148_15, s_148_15_i, s_148_16, s_148_19, s_148_20, s_148_21, s_148_24, s_148_24_n, s_148_25, s_148_28, s_148_29, s_148_30, s_148_33, s_148_34, s_148_37, s_148_38, s_148_41, s_148_42, s_148_43, s_148_46, s_148_47, ↓reduceIte, eq_self, rts_some, rts_none, nq_int, nq_ref, nq_null, nq_none, okr1_0, okr1_1, okr_b, List.length_nil, List.length_cons, Nat.zero_le, Nat.reduceAdd, Nat.reduceLeDiff, b2i_0, b2i_n0, b2i_1, b2i_n1, ite_not, if_true, if_false, not_true_eq_false, not_false_eq_true, true_and, and_true, false_and, and_false, Bool.false_eq_true, eq_self]; rfl)
        cases o1 with
        | false =>
          obtain ⟨c, p1⟩ := i1.2 rfl
          refine ⟨fun h => (by cases h), fun _ => ⟨u && c, fun d hd Q => ?_⟩⟩
          rw [hstep _ _ p1 d hd Q]
          exact dead4 w a1 (u && c) _ ad.2.1 d (by omega) Q
        | true =>
          obtain ⟨v1, hv1, p1⟩ := i1.1 rfl
          have ad1 : a + 1 < a1 := ad.2.2 rfl (by decide)
          have i3 := (ih w a1 hw ad.2.1).2.2.2.2 (by omega) (u && v1) (some (.int (b2i (v1 = true))))
          dsimp only at i3 ⊢
          generalize pE (ar 7) n g 4 w a1 = r3 at i3
          obtain ⟨o3, a2, c2⟩ := r3
          refine ⟨fun h => ?_, fun h => ?_⟩
          · obtain ⟨v, hv, p3⟩ := i3.1 h
            refine ⟨v, fun st => ?_, fun d hd Q => ?_⟩
            · show evR (ar 8) (c1 ++ [-2] ++ c2) ([u] ++ st) = _
              rw [evR_app, evR_app, show evR (ar 8) c1 ([u] ++ st) = v1 :: u :: st from hv1 (u :: st)]
              exact hv st
            · rw [hstep _ _ p1 d hd Q]
              exact p3 d hd Q
          · obtain ⟨c, p3⟩ := i3.2 h
            refine ⟨c, fun d hd Q => ?_⟩
            rw [hstep _ _ p1 d hd Q]
            exact p3 d hd Q
      · rw [if_neg cc]
        refine ⟨fun _ => ⟨u, fun st => rfl, fun d hd Q => ?_⟩, fun h => (by cases h)⟩
        obtain ⟨d, rfl⟩ : ∃ k, d = k + 1 := ⟨d - 1, by omega⟩
        rw [s_148_5]
        simp only [s_148_0, s_148_0_n, s_148_1, s_148_4, s_148_6, s_148_8, s_148_11, s_148_14, s_148_14_n, s_148_15, s_148_15_i, s_148_16, s_148_19, s_148_20, s_148_21, s_148_24, s_148_24_n, s_148_25, s_148_28, s_148_29, s_148_30, s_148_33, s_148_34, s_148_37, s_148_38, s_148_41, s_148_42, s_148_43, s_148_46, s_148_47, ↓reduceIte, eq_self, rts_some, rts_none, nq_int, nq_ref, nq_null, nq_none, okr1_0, okr1_1, okr_b, List.length_nil, List.length_cons, Nat.zero_le, Nat.reduceAdd, Nat.reduceLeDiff, b2i_0, b2i_n0, b2i_1, b2i_n1, ite_not, if_true, if_false, not_true_eq_false, not_false_eq_true, true_and, and_true, false_and, and_false, mg_now, mg_mind, mg_then, mp_kept, mg_kept, mg_text, mp_texted, mg_texted, mg_rules, mg_sizes, mp_ruled, mg_ruled, mg_read, mp_size, mg_size, mp_at, mg_at, mp_well, mg_well, mp_within, mg_within, mp_sum, mg_sum, mp_free, mg_free, mg_names, mg_letters, mg_begins, mg_words, mg_sums, mg_above, mg_bodies, mg_trace, mp_ran, mg_ran, mg_sorts, mg_lengths, mg_items, mg_moved, ma_now, ms_now, ma_mind, ms_mind, ma_then, ms_then, ma_text, ms_text, ma_rules, ms_rules, ma_sizes, ms_sizes, ma_read, ms_read, ma_names, ms_names, ma_letters, ma_begins, ma_words, ma_sums, ms_sums, ma_above, ma_bodies, ma_trace, ms_trace, ma_sorts, ms_sorts, ma_lengths, ms_lengths, ma_items, ms_items, ma_moved, ms_moved, mcv, m_isAt hn hn1 (show a ≤ 100 by omega), cc, e1]
end
