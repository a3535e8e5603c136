/-! A new person: the class. -/
section
variable {V : Nat → Option AE} {Ev : Nat → Value} {d : Nat} {Q : Option Value → HS → Prop} {h : HS}
theorem nw_at {e : AE} {n : Nat} : (hnew h e n).1 h.2.1 = some e := if_pos rfl
theorem nw_put {e e' : AE} {n : Nat} : hput (hnew h e n) h.2.1 e' = hnew h e' n := Prod.ext va_uu rfl
theorem nw_pf {cs : List Nat} {k t ci n : Nat} {v : Value} {vs : List Value} {K : HS → Prop} (hc : ci ∈ cs) (hk : k < vs.length) (hv : okv t v = true) : pf cs k t v (hnew h (.inr (ci, vs)) n) h.2.1 K = K (hnew h (.inr (ci, vs.set k v)) n) := by
  simp only [pf, nw_at]
  rw [if_pos ⟨hc, hk, hv⟩, nw_put]
theorem nw2_at {e f : AE} {n m : Nat} : (hnew (hnew h e n) f m).1 h.2.1 = some e := by
  show va_up (va_up h.1 h.2.1 (some e)) (h.2.1 + 1) (some f) h.2.1 = _
  unfold va_up
  rw [if_neg (by omega), if_pos rfl]
theorem nw2_put {e e' f : AE} {n m : Nat} : hput (hnew (hnew h e n) f m) h.2.1 e' = hnew (hnew h e' n) f m := by
  refine Prod.ext (funext fun a => ?_) rfl
  show va_up (va_up (va_up h.1 h.2.1 (some e)) (h.2.1 + 1) (some f)) h.2.1 (some e') a = va_up (va_up h.1 h.2.1 (some e')) (h.2.1 + 1) (some f) a
  unfold va_up
  by_cases h1 : a = h.2.1
  · subst h1
    rw [if_pos rfl, if_neg (by omega), if_pos rfl]
  · rw [if_neg h1]
    by_cases h2 : a = h.2.1 + 1
    · rw [if_pos h2, if_pos h2]
    · rw [if_neg h2, if_neg h2, if_neg h1, if_neg h1]
theorem nw2_pf {cs : List Nat} {k t ci n m : Nat} {v : Value} {vs : List Value} {f : AE} {K : HS → Prop} (hc : ci ∈ cs) (hk : k < vs.length) (hv : okv t v = true) : pf cs k t v (hnew (hnew h (.inr (ci, vs)) n) f m) h.2.1 K = K (hnew (hnew h (.inr (ci, vs.set k v)) n) f m) := by
  simp only [pf, nw2_at]
  rw [if_pos ⟨hc, hk, hv⟩, nw2_put]
abbrev CP : List Nat := [1, 2, 3, 4, 5, 6, 8]
theorem c_in4 {ci n : Nat} {k nu : Int32} {x0 x1 : Value} {r : List Value} (hc : ci ∈ CP) : WP V (cdT Ev) mx (d + 1) 24 [.ref h.2.1, .int k, .int nu] (hnew h (.inr (ci, x0 :: x1 :: r)) n) Q = Q none (hnew h (.inr (ci, .int k :: .int nu :: r)) n) := by
  rw [e_24]
  have p0 : ∀ (x0 x1 : Value) (K : HS → Prop), pf [1, 2, 3, 4, 5, 6, 8] 0 0 (.int k) (hnew h (.inr (ci, x0 :: x1 :: r)) n) h.2.1 K = K (hnew h (.inr (ci, .int k :: x1 :: r)) n) := fun x0 x1 K => nw_pf hc (by simp) rfl
  have p1 : ∀ (x0 x1 : Value) (K : HS → Prop), pf [1, 2, 3, 4, 5, 6, 8] 1 0 (.int nu) (hnew h (.inr (ci, x0 :: x1 :: r)) n) h.2.1 K = K (hnew h (.inr (ci, x0 :: .int nu :: r)) n) := fun x0 x1 K => nw_pf hc (by simp) rfl
  simp only [s_24_0, s_24_0_n, s_24_1, s_24_4, s_24_4_n, s_24_5, s_24_6, s_24_9, s_24_9_n, s_24_10, s_24_11, s_24_14, ↓reduceIte, eq_self, rts_some, rts_none, nq_int, nq_ref, nq_null, nq_none, okr1_0, okr1_1, okr_b, List.length_nil, List.length_cons, Nat.zero_le, Nat.reduceAdd, Nat.reduceLeDiff, b2i_0, b2i_n0, b2i_1, b2i_n1, ite_not, if_true, if_false, not_true_eq_false, not_false_eq_true, true_and, and_true, false_and, and_false, p0, p1]
theorem c_in2 {ci n : Nat} {k nu : Int32} {x0 x1 : Value} {r : List Value} (hc : ci ∈ CP) : WP V (cdT Ev) mx (d + 2) 18 [.ref h.2.1, .int k, .int nu] (hnew h (.inr (ci, x0 :: x1 :: r)) n) Q = Q none (hnew h (.inr (ci, .int k :: .int nu :: r)) n) := by
  rw [e_18]
  simp only [s_18_0, s_18_0_n, s_18_1, s_18_2, s_18_3, s_18_6, ↓reduceIte, eq_self, rts_some, rts_none, nq_int, nq_ref, nq_null, nq_none, okr1_0, okr1_1, okr_b, List.length_nil, List.length_cons, Nat.zero_le, Nat.reduceAdd, Nat.reduceLeDiff, b2i_0, b2i_n0, b2i_1, b2i_n1, ite_not, if_true, if_false, not_true_eq_false, not_false_eq_true, true_and, and_true, false_and, and_false, c_in4 hc]
theorem c_in3 {ci n : Nat} {k nu : Int32} {x0 x1 : Value} {r : List Value} (hc : ci ∈ CP) : WP V (cdT Ev) mx (d + 2) 21 [.ref h.2.1, .int k, .int nu] (hnew h (.inr (ci, x0 :: x1 :: r)) n) Q = Q none (hnew h (.inr (ci, .int k :: .int nu :: r)) n) := by
  rw [e_21]
  simp only [s_21_0, s_21_0_n, s_21_1, s_21_2, s_21_3, s_21_6, ↓reduceIte, eq_self, rts_some, rts_none, nq_int, nq_ref, nq_null, nq_none, okr1_0, okr1_1, okr_b, List.length_nil, List.length_cons, Nat.zero_le, Nat.reduceAdd, Nat.reduceLeDiff, b2i_0, b2i_n0, b2i_1, b2i_n1, ite_not, if_true, if_false, not_true_eq_false, not_false_eq_true, true_and, and_true, false_and, and_false, c_in4 hc]
theorem c_in6 {ci n : Nat} {k nu : Int32} {x0 x1 : Value} {r : List Value} (hc : ci ∈ CP) : WP V (cdT Ev) mx (d + 2) 34 [.ref h.2.1, .int k, .int nu] (hnew h (.inr (ci, x0 :: x1 :: r)) n) Q = Q none (hnew h (.inr (ci, .int k :: .int nu :: r)) n) := by
  rw [e_34]
  simp only [s_34_0, s_34_0_n, s_34_1, s_34_2, s_34_3, s_34_6, ↓reduceIte, eq_self, rts_some, rts_none, nq_int, nq_ref, nq_null, nq_none, okr1_0, okr1_1, okr_b, List.length_nil, List.length_cons, Nat.zero_le, Nat.reduceAdd, Nat.reduceLeDiff, b2i_0, b2i_n0, b2i_1, b2i_n1, ite_not, if_true, if_false, not_true_eq_false, not_false_eq_true, true_and, and_true, false_and, and_false, c_in4 hc]
theorem c_in1 {ci n : Nat} {k nu : Int32} {x0 x1 : Value} {r : List Value} (hc : ci ∈ CP) : WP V (cdT Ev) mx (d + 3) 15 [.ref h.2.1, .int k, .int nu] (hnew h (.inr (ci, x0 :: x1 :: r)) n) Q = Q none (hnew h (.inr (ci, .int k :: .int nu :: r)) n) := by
  rw [e_15]
  simp only [s_15_0, s_15_0_n, s_15_1, s_15_2, s_15_3, s_15_6, ↓reduceIte, eq_self, rts_some, rts_none, nq_int, nq_ref, nq_null, nq_none, okr1_0, okr1_1, okr_b, List.length_nil, List.length_cons, Nat.zero_le, Nat.reduceAdd, Nat.reduceLeDiff, b2i_0, b2i_n0, b2i_1, b2i_n1, ite_not, if_true, if_false, not_true_eq_false, not_false_eq_true, true_and, and_true, false_and, and_false, c_in2 hc]
theorem c_in5 {ci n : Nat} {k nu : Int32} {x0 x1 : Value} {r : List Value} (hc : ci ∈ CP) : WP V (cdT Ev) mx (d + 3) 30 [.ref h.2.1, .int k, .int nu] (hnew h (.inr (ci, x0 :: x1 :: r)) n) Q = Q none (hnew h (.inr (ci, .int k :: .int nu :: r)) n) := by
  rw [e_30]
  simp only [s_30_0, s_30_0_n, s_30_1, s_30_2, s_30_3, s_30_6, ↓reduceIte, eq_self, rts_some, rts_none, nq_int, nq_ref, nq_null, nq_none, okr1_0, okr1_1, okr_b, List.length_nil, List.length_cons, Nat.zero_le, Nat.reduceAdd, Nat.reduceLeDiff, b2i_0, b2i_n0, b2i_1, b2i_n1, ite_not, if_true, if_false, not_true_eq_false, not_false_eq_true, true_and, and_true, false_and, and_false, c_in6 hc]
theorem c_in8 {n : Nat} {k nu : Int32} {x0 x1 x2 x3 x4 x5 x6 : Value} : WP V (cdT Ev) mx (d + 3) 41 [.ref h.2.1, .int k, .int nu] (hnew h (.inr (8, [x0, x1, x2, x3, x4, x5, x6])) n) Q = Q none (hnew (hnew h (.inr (8, [.int k, .int nu, x2, x3, x4, x5, .ref (h.2.1 + 1)])) n) (.inl (2, 4, .inl (fun _ => 0))) 4) := by
  have p6 : ∀ (x0 x1 x2 x3 x4 x5 x6 : Value) (a : Nat) (f : AE) (K : HS → Prop), pf [8] 6 2 (.ref a) (hnew (hnew h (.inr (8, [x0, x1, x2, x3, x4, x5, x6])) n) f 4) h.2.1 K = K (hnew (hnew h (.inr (8, [x0, x1, x2, x3, x4, x5, .ref a])) n) f 4) := fun x0 x1 x2 x3 x4 x5 x6 a f K => nw2_pf (by decide) (by simp) rfl
  have h4 : (¬ ((4 : Int32) < 0 ∨ (1000 : Nat) < 4)) = True := by decide
  have es : (hnew h (.inr (8, [.int k, .int nu, x2, x3, x4, x5, x6])) n).2.1 = h.2.1 + 1 := rfl
  rw [e_41]
  simp only [s_41_0, s_41_0_n, s_41_1, s_41_2, s_41_3, s_41_6, s_41_6_n, s_41_7, s_41_8, s_41_10, s_41_13, ↓reduceIte, eq_self, rts_some, rts_none, nq_int, nq_ref, nq_null, nq_none, okr1_0, okr1_1, okr_b, List.length_nil, List.length_cons, Nat.zero_le, Nat.reduceAdd, Nat.reduceLeDiff, b2i_0, b2i_n0, b2i_1, b2i_n1, ite_not, if_true, if_false, not_true_eq_false, not_false_eq_true, true_and, and_true, false_and, and_false, c_in3 (show 8 ∈ CP by decide), h4, cl_4, es, p6]
/-- a new person of kind K in the heap -/
def nwP (h : HS) (K : Nat) (nu v s : Int32) : HS := if K = 6 then hnew (hnew h (.inr (8, [.int 6, .int nu, .int v, .int s, .int 0, .int 0, .ref (h.2.1 + 1)])) 7) (.inl (2, 4, .inl (fun _ => 0))) 4 else hnew h (.inr (kc (nI K), [.int (nI K), .int nu, .int v, .int s, .int 0, .int 0])) 6
theorem c_made {K : Nat} (hK : K < 7) {nu : Int32} : WP V (cdT Ev) mx (d + 4) 112 [.int (nI K), .int nu] h Q = Q (some (.ref h.2.1)) (nwP h K nu 0 0) := by
  have i1 : ∀ v : Value, is1 v = is1 v := fun _ => rfl
  rw [e_112]
  match K, hK with
  | 0, _ =>
    have hs : ∀ T : Nat → Prop, swp T 101 (nI 0) [(1, 40), (2, 50), (3, 60), (4, 70), (5, 80), (6, 90)] = T 101 := fun T => rfl
    simp only [s_112_0, s_112_1, s_112_40, s_112_43, s_112_43_i, s_112_44, s_112_45, s_112_46, s_112_49, s_112_49_n, s_112_50, s_112_53, s_112_53_i, s_112_54, s_112_55, s_112_56, s_112_59, s_112_59_n, s_112_60, s_112_63, s_112_63_i, s_112_64, s_112_65, s_112_66, s_112_69, s_112_69_n, s_112_70, s_112_73, s_112_73_i, s_112_74, s_112_75, s_112_76, s_112_79, s_112_79_n, s_112_80, s_112_83, s_112_83_i, s_112_84, s_112_85, s_112_86, s_112_89, s_112_89_n, s_112_90, s_112_93, s_112_93_i, s_112_94, s_112_96, s_112_97, s_112_100, s_112_100_n, s_112_101, s_112_104, s_112_104_i, s_112_105, s_112_106, s_112_107, s_112_110, s_112_110_n, ↓reduceIte, eq_self, rts_some, rts_none, nq_int, nq_ref, nq_null, nq_none, okr1_0, okr1_1, okr_b, List.length_nil, List.length_cons, Nat.zero_le, Nat.reduceAdd, Nat.reduceLeDiff, b2i_0, b2i_n0, b2i_1, b2i_n1, ite_not, if_true, if_false, not_true_eq_false, not_false_eq_true, true_and, and_true, false_and, and_false, hs, c_in4 (show 4 ∈ CP by decide), okr3_r]
    rfl
  | 1, _ =>
    have hs : ∀ T : Nat → Prop, swp T 101 (nI 1) [(1, 40), (2, 50), (3, 60), (4, 70), (5, 80), (6, 90)] = T 40 := fun T => rfl
    simp only [s_112_0, s_112_1, s_112_40, s_112_43, s_112_43_i, s_112_44, s_112_45, s_112_46, s_112_49, s_112_49_n, s_112_50, s_112_53, s_112_53_i, s_112_54, s_112_55, s_112_56, s_112_59, s_112_59_n, s_112_60, s_112_63, s_112_63_i, s_112_64, s_112_65, s_112_66, s_112_69, s_112_69_n, s_112_70, s_112_73, s_112_73_i, s_112_74, s_112_75, s_112_76, s_112_79, s_112_79_n, s_112_80, s_112_83, s_112_83_i, s_112_84, s_112_85, s_112_86, s_112_89, s_112_89_n, s_112_90, s_112_93, s_112_93_i, s_112_94, s_112_96, s_112_97, s_112_100, s_112_100_n, s_112_101, s_112_104, s_112_104_i, s_112_105, s_112_106, s_112_107, s_112_110, s_112_110_n, ↓reduceIte, eq_self, rts_some, rts_none, nq_int, nq_ref, nq_null, nq_none, okr1_0, okr1_1, okr_b, List.length_nil, List.length_cons, Nat.zero_le, Nat.reduceAdd, Nat.reduceLeDiff, b2i_0, b2i_n0, b2i_1, b2i_n1, ite_not, if_true, if_false, not_true_eq_false, not_false_eq_true, true_and, and_true, false_and, and_false, hs, c_in6 (show 6 ∈ CP by decide), okr3_r]
    rfl
  | 2, _ =>
    have hs : ∀ T : Nat → Prop, swp T 101 (nI 2) [(1, 40), (2, 50), (3, 60), (4, 70), (5, 80), (6, 90)] = T 50 := fun T => rfl
    simp only [s_112_0, s_112_1, s_112_40, s_112_43, s_112_43_i, s_112_44, s_112_45, s_112_46, s_112_49, s_112_49_n, s_112_50, s_112_53, s_112_53_i, s_112_54, s_112_55, s_112_56, s_112_59, s_112_59_n, s_112_60, s_112_63, s_112_63_i, s_112_64, s_112_65, s_112_66, s_112_69, s_112_69_n, s_112_70, s_112_73, s_112_73_i, s_112_74, s_112_75, s_112_76, s_112_79, s_112_79_n, s_112_80, s_112_83, s_112_83_i, s_112_84, s_112_85, s_112_86, s_112_89, s_112_89_n, s_112_90, s_112_93, s_112_93_i, s_112_94, s_112_96, s_112_97, s_112_100, s_112_100_n, s_112_101, s_112_104, s_112_104_i, s_112_105, s_112_106, s_112_107, s_112_110, s_112_110_n, ↓reduceIte, eq_self, rts_some, rts_none, nq_int, nq_ref, nq_null, nq_none, okr1_0, okr1_1, okr_b, List.length_nil, List.length_cons, Nat.zero_le, Nat.reduceAdd, Nat.reduceLeDiff, b2i_0, b2i_n0, b2i_1, b2i_n1, ite_not, if_true, if_false, not_true_eq_false, not_false_eq_true, true_and, and_true, false_and, and_false, hs, c_in2 (show 2 ∈ CP by decide), okr3_r]
    rfl
  | 3, _ =>
    have hs : ∀ T : Nat → Prop, swp T 101 (nI 3) [(1, 40), (2, 50), (3, 60), (4, 70), (5, 80), (6, 90)] = T 60 := fun T => rfl
    simp only [s_112_0, s_112_1, s_112_40, s_112_43, s_112_43_i, s_112_44, s_112_45, s_112_46, s_112_49, s_112_49_n, s_112_50, s_112_53, s_112_53_i, s_112_54, s_112_55, s_112_56, s_112_59, s_112_59_n, s_112_60, s_112_63, s_112_63_i, s_112_64, s_112_65, s_112_66, s_112_69, s_112_69_n, s_112_70, s_112_73, s_112_73_i, s_112_74, s_112_75, s_112_76, s_112_79, s_112_79_n, s_112_80, s_112_83, s_112_83_i, s_112_84, s_112_85, s_112_86, s_112_89, s_112_89_n, s_112_90, s_112_93, s_112_93_i, s_112_94, s_112_96, s_112_97, s_112_100, s_112_100_n, s_112_101, s_112_104, s_112_104_i, s_112_105, s_112_106, s_112_107, s_112_110, s_112_110_n, ↓reduceIte, eq_self, rts_some, rts_none, nq_int, nq_ref, nq_null, nq_none, okr1_0, okr1_1, okr_b, List.length_nil, List.length_cons, Nat.zero_le, Nat.reduceAdd, Nat.reduceLeDiff, b2i_0, b2i_n0, b2i_1, b2i_n1, ite_not, if_true, if_false, not_true_eq_false, not_false_eq_true, true_and, and_true, false_and, and_false, hs, c_in3 (show 3 ∈ CP by decide), okr3_r]
    rfl
  | 4, _ =>
    have hs : ∀ T : Nat → Prop, swp T 101 (nI 4) [(1, 40), (2, 50), (3, 60), (4, 70), (5, 80), (6, 90)] = T 70 := fun T => rfl
    simp only [s_112_0, s_112_1, s_112_40, s_112_43, s_112_43_i, s_112_44, s_112_45, s_112_46, s_112_49, s_112_49_n, s_112_50, s_112_53, s_112_53_i, s_112_54, s_112_55, s_112_56, s_112_59, s_112_59_n, s_112_60, s_112_63, s_112_63_i, s_112_64, s_112_65, s_112_66, s_112_69, s_112_69_n, s_112_70, s_112_73, s_112_73_i, s_112_74, s_112_75, s_112_76, s_112_79, s_112_79_n, s_112_80, s_112_83, s_112_83_i, s_112_84, s_112_85, s_112_86, s_112_89, s_112_89_n, s_112_90, s_112_93, s_112_93_i, s_112_94, s_112_96, s_112_97, s_112_100, s_112_100_n, s_112_101, s_112_104, s_112_104_i, s_112_105, s_112_106, s_112_107, s_112_110, s_112_110_n, ↓reduceIte, eq_self, rts_some, rts_none, nq_int, nq_ref, nq_null, nq_none, okr1_0, okr1_1, okr_b, List.length_nil, List.length_cons, Nat.zero_le, Nat.reduceAdd, Nat.reduceLeDiff, b2i_0, b2i_n0, b2i_1, b2i_n1, ite_not, if_true, if_false, not_true_eq_false, not_false_eq_true, true_and, and_true, false_and, and_false, hs, c_in5 (show 5 ∈ CP by decide), okr3_r]
    rfl
  | 5, _ =>
    have hs : ∀ T : Nat → Prop, swp T 101 (nI 5) [(1, 40), (2, 50), (3, 60), (4, 70), (5, 80), (6, 90)] = T 80 := fun T => rfl
    simp only [s_112_0, s_112_1, s_112_40, s_112_43, s_112_43_i, s_112_44, s_112_45, s_112_46, s_112_49, s_112_49_n, s_112_50, s_112_53, s_112_53_i, s_112_54, s_112_55, s_112_56, s_112_59, s_112_59_n, s_112_60, s_112_63, s_112_63_i, s_112_64, s_112_65, s_112_66, s_112_69, s_112_69_n, s_112_70, s_112_73, s_112_73_i, s_112_74, s_112_75, s_112_76, s_112_79, s_112_79_n, s_112_80, s_112_83, s_112_83_i, s_112_84, s_112_85, s_112_86, s_112_89, s_112_89_n, s_112_90, s_112_93, s_112_93_i, s_112_94, s_112_96, s_112_97, s_112_100, s_112_100_n, s_112_101, s_112_104, s_112_104_i, s_112_105, s_112_106, s_112_107, s_112_110, s_112_110_n, ↓reduceIte, eq_self, rts_some, rts_none, nq_int, nq_ref, nq_null, nq_none, okr1_0, okr1_1, okr_b, List.length_nil, List.length_cons, Nat.zero_le, Nat.reduceAdd, Nat.reduceLeDiff, b2i_0, b2i_n0, b2i_1, b2i_n1, ite_not, if_true, if_false, not_true_eq_false, not_false_eq_true, true_and, and_true, false_and, and_false, hs, c_in1 (show 1 ∈ CP by decide), okr3_r]
    rfl
  | 6, _ =>
    have hs : ∀ T : Nat → Prop, swp T 101 (nI 6) [(1, 40), (2, 50), (3, 60), (4, 70), (5, 80), (6, 90)] = T 90 := fun T => rfl
    simp only [s_112_0, s_112_1, s_112_40, s_112_43, s_112_43_i, s_112_44, s_112_45, s_112_46, s_112_49, s_112_49_n, s_112_50, s_112_53, s_112_53_i, s_112_54, s_112_55, s_112_56, s_112_59, s_112_59_n, s_112_60, s_112_63, s_112_63_i, s_112_64, s_112_65, s_112_66, s_112_69, s_112_69_n, s_112_70, s_112_73, s_112_73_i, s_112_74, s_112_75, s_112_76, s_112_79, s_112_79_n, s_112_80, s_112_83, s_112_83_i, s_112_84, s_112_85, s_112_86, s_112_89, s_112_89_n, s_112_90, s_112_93, s_112_93_i, s_112_94, s_112_96, s_112_97, s_112_100, s_112_100_n, s_112_101, s_112_104, s_112_104_i, s_112_105, s_112_106, s_112_107, s_112_110, s_112_110_n, ↓reduceIte, eq_self, rts_some, rts_none, nq_int, nq_ref, nq_null, nq_none, okr1_0, okr1_1, okr_b, List.length_nil, List.length_cons, Nat.zero_le, Nat.reduceAdd, Nat.reduceLeDiff, b2i_0, b2i_n0, b2i_1, b2i_n1, ite_not, if_true, if_false, not_true_eq_false, not_false_eq_true, true_and, and_true, false_and, and_false, hs, c_in8, okr3_r]
    rfl
theorem nwP_p2 {K : Nat} (hK : K < 7) {nu v s x : Int32} {T : HS → Prop} : pf [1, 2, 3, 4, 5, 6, 8] 2 0 (.int x) (nwP h K nu v s) h.2.1 T = T (nwP h K nu x s) := by
  unfold nwP
  split
  · exact nw2_pf (by decide) (by simp) rfl
  · exact nw_pf (kc_in _) (by simp) rfl
theorem nwP_p3 {K : Nat} (hK : K < 7) {nu v s x : Int32} {T : HS → Prop} : pf [1, 2, 3, 4, 5, 6, 8] 3 0 (.int x) (nwP h K nu v s) h.2.1 T = T (nwP h K nu v x) := by
  unfold nwP
  split
  · exact nw2_pf (by decide) (by simp) rfl
  · exact nw_pf (kc_in _) (by simp) rfl
theorem nwP_lt {K : Nat} {nu v s : Int32} {a : Nat} (ha : a < h.2.1) : (nwP h K nu v s).1 a = h.1 a := by
  unfold nwP
  split
  · show va_up (va_up h.1 h.2.1 _) (h.2.1 + 1) _ a = _
    unfold va_up
    rw [if_neg (by omega), if_neg (by omega)]
  · show va_up h.1 h.2.1 _ a = _
    unfold va_up
    rw [if_neg (by omega)]
theorem nwP_gf {K : Nat} {nu v s : Int32} {a k : Nat} {cs : List Nat} {T : Value → Prop} (ha : a < h.2.1) : gf cs k (nwP h K nu v s) a T = gf cs k h a T := by
  simp only [gf, nwP_lt ha]
theorem nwP_big {K : Nat} {nu v s : Int32} {a : Nat} (ha : h.2.1 + 2 ≤ a) : (nwP h K nu v s).1 a = h.1 a := by
  unfold nwP
  split
  · show va_up (va_up h.1 h.2.1 _) (h.2.1 + 1) _ a = _
    unfold va_up
    rw [if_neg (by omega), if_neg (by omega)]
  · show va_up h.1 h.2.1 _ a = _
    unfold va_up
    rw [if_neg (by omega)]
theorem nwP_at {K : Nat} {nu v s : Int32} : (nwP h K nu v s).1 h.2.1 = some (.inr (kc (nI K), .int (nI K) :: .int nu :: .int v :: .int s :: .int 0 :: .int 0 :: (if K = 6 then [.ref (h.2.1 + 1)] else []))) := by
  unfold nwP
  split
  · rename_i e
    subst e
    exact nw2_at
  · exact nw_at
theorem nwP_at1 {nu v s : Int32} : (nwP h 6 nu v s).1 (h.2.1 + 1) = some (.inl (2, 4, .inl (fun _ => 0))) := if_pos rfl
theorem nwP_z {K : Nat} {nu v s : Int32} : (nwP h K nu v s).2 = (h.2.1 + (if K = 6 then 2 else 1), h.2.2 + (if K = 6 then 11 else 6)) := by
  unfold nwP
  split <;> rfl
end
