/-! Constructors. -/
theorem hns_snoc {X : HS} {l : List (AE × Nat)} {e : AE} {m : Nat} : hns X (l ++ [(e, m)]) = hnew (hns X l) e m := hns_app l [(e, m)] X
section
variable {h : HS} {cs : List Nat} {k t ci n m : Nat} {v : Value} {vs : List Value} {l l2 : List (AE × Nat)} {e : AE} {K : HS → Prop}
theorem pf_n0 (hc : ci ∈ cs) (hk : k < vs.length) (hv : okv t v = true) : pf cs k t v (hnew (hnew h (.inr (ci, vs)) n) e m) h.2.1 K = K (hns (hnew h (.inr (ci, vs.set k v)) n) [(e, m)]) := pf_hns (l := [(e, m)]) hc hk hv
theorem pf_n1 (hc : ci ∈ cs) (hk : k < vs.length) (hv : okv t v = true) : pf cs k t v (hnew (hns (hnew h (.inr (ci, vs)) n) l) e m) h.2.1 K = K (hns (hnew h (.inr (ci, vs.set k v)) n) (l ++ [(e, m)])) := by
  rw [← hns_snoc]
  exact pf_hns hc hk hv
theorem pf_n2 (hc : ci ∈ cs) (hk : k < vs.length) (hv : okv t v = true) : pf cs k t v (hns (hns (hnew h (.inr (ci, vs)) n) l) l2) h.2.1 K = K (hns (hnew h (.inr (ci, vs.set k v)) n) (l ++ l2)) := by
  rw [← hns_app]
  exact pf_hns hc hk hv
theorem si_new {X : HS} {kk N : Nat} {i x : Int32} {f : Nat → Int32} (hi : ix i N = True) : si kk i x (hnew X (.inl (kk, N, .inl f)) m) X.2.1 K = K (hnew X (.inl (kk, N, .inl (upd f i.toNatClampNeg x))) m) := by
  have h1 : (hnew X (.inl (kk, N, .inl f)) m).1 X.2.1 = some (.inl (kk, N, .inl f)) := if_pos rfl
  simp only [si, h1, hi, true_and]
  rw [nw_put]
end
def roL (a N : Nat) : List (AE × Nat) := [(.inr (7, [.ref (a + 1), .ref (a + 2), .int 0]), 3), (.inl (2, N, .inl (fun _ => 0)), N), (.inl (2, N, .inl (fun _ => 0)), N)]
section
variable {V : Nat → Option AE} {Ev : Nat → Value} {d : Nat} {Q : Option Value → HS → Prop} {h : HS}

theorem c_roInit {N : Nat} {n : Int32} (hn : n.toNatClampNeg = N) (h0 : (n < 0) = False) (hN : (¬ (1000 : Nat) < N) = True) : WP V (cdT Ev) mx (d + 2) 37 [.ref h.2.1, .int n] (hnew h (.inr (7, [.null, .null, .int 0])) 3) Q = Q none (hns h (roL h.2.1 N)) := by
  have hN' : ((1000 : Nat) < N) = False := eq_false (fun g => ((of_eq_true hN)) g)
  rw [e_37]
  simp only [s_37_0, s_37_1, s_37_4, s_37_5, s_37_6, s_37_9, s_37_10, s_37_11, s_37_12, s_37_14, ↓reduceIte, eq_self, rts_some, rts_none, nq_int, nq_ref, nq_null, nq_none, okr1_0, okr1_1, okr_b, List.length_nil, List.length_cons, Nat.zero_le, Nat.reduceAdd, Nat.reduceLeDiff, b2i_0, b2i_n0, b2i_1, b2i_n1, ite_not, if_true, if_false, not_true_eq_false, not_false_eq_true, true_and, and_true, false_and, and_false, j_max, h0, hn, hN', or_self, not_false_eq_true]
  rw [pf_n0 (by decide) (by simp) rfl]
  simp only [s_37_17, s_37_18, s_37_19, s_37_21, ↓reduceIte, eq_self, rts_some, rts_none, nq_int, nq_ref, nq_null, nq_none, okr1_0, okr1_1, okr_b, List.length_nil, List.length_cons, Nat.zero_le, Nat.reduceAdd, Nat.reduceLeDiff, b2i_0, b2i_n0, b2i_1, b2i_n1, ite_not, if_true, if_false, not_true_eq_false, not_false_eq_true, true_and, and_true, false_and, and_false, h0, hn, hN', or_self, not_false_eq_true]
  rw [pf_n1 (by decide) (by simp) rfl]
  simp only [s_37_24, ↓reduceIte, eq_self, rts_some, rts_none, nq_int, nq_ref, nq_null, nq_none, okr1_0, okr1_1, okr_b, List.length_nil, List.length_cons, Nat.zero_le, Nat.reduceAdd, Nat.reduceLeDiff, b2i_0, b2i_n0, b2i_1, b2i_n1, ite_not, if_true, if_false, not_true_eq_false, not_false_eq_true, true_and, and_true, false_and, and_false]
  rfl
def trL (a : Nat) : List (AE × Nat) := [(.inr (9, [.ref (a + 1), .int 0]), 2), (.inl (2, 20, .inl (fun _ => 0)), 20)]
theorem c_trInit : WP V (cdT Ev) mx (d + 1) 46 [.ref h.2.1] (hnew h (.inr (9, [.null, .int 0])) 2) Q = Q none (hns h (trL h.2.1)) := by
  have k20 : (¬ ((20 : Int32) < 0 ∨ (1000 : Nat) < 20)) = True := by decide
  have c20 : (20 : Int32).toNatClampNeg = 20 := by decide
  rw [e_46]
  simp only [s_46_0, s_46_1, s_46_4, s_46_5, s_46_7, s_46_9, ↓reduceIte, eq_self, rts_some, rts_none, nq_int, nq_ref, nq_null, nq_none, okr1_0, okr1_1, okr_b, List.length_nil, List.length_cons, Nat.zero_le, Nat.reduceAdd, Nat.reduceLeDiff, b2i_0, b2i_n0, b2i_1, b2i_n1, ite_not, if_true, if_false, not_true_eq_false, not_false_eq_true, true_and, and_true, false_and, and_false, k20, c20]
  rw [pf_n0 (by decide) (by simp) rfl]
  simp only [s_46_12, ↓reduceIte, eq_self, rts_some, rts_none, nq_int, nq_ref, nq_null, nq_none, okr1_0, okr1_1, okr_b, List.length_nil, List.length_cons, Nat.zero_le, Nat.reduceAdd, Nat.reduceLeDiff, b2i_0, b2i_n0, b2i_1, b2i_n1, ite_not, if_true, if_false, not_true_eq_false, not_false_eq_true, true_and, and_true, false_and, and_false]
  rfl
def tens : Nat → Int32 := (upd (upd (upd (upd (upd (upd (upd (upd (upd (upd (upd (upd (fun _ => 0) 0 10) 1 10) 2 10) 3 10) 4 10) 5 10) 6 10) 7 10) 8 10) 9 10) 10 10) 11 10)
def woL (a : Nat) : List (AE × Nat) := [(.inr (10, [.ref (a + 1), .ref (a + 2), .int 0, .int 0, .int 0, .int 0, .ref (a + 3), .ref (a + 6), .ref (a + 9), .null, .ref (a + 12)]), 11), (.inl (2, 12, .inl tens), 12), (.inl (4, 6, .inr (.inr (.inr (.inr (fun _ => none))))), 6)] ++ roL (a + 3) 5 ++ roL (a + 6) 10 ++ roL (a + 9) 8 ++ [(.inl (2, 6, .inl (fun _ => 0)), 6)]
theorem c_woInit : WP V (cdT Ev) mx (d + 3) 48 [.ref h.2.1] (hnew h (.inr (10, [.null, .null, .int 0, .int 0, .int 0, .int 0, .null, .null, .null, .null, .null])) 11) Q = Q none (hns h (woL h.2.1)) := by
  have k6 : (¬ ((6 : Int32) < 0 ∨ (1000 : Nat) < 6)) = True := by decide
  have k12 : (¬ ((12 : Int32) < 0 ∨ (1000 : Nat) < 12)) = True := by decide
  have c0 : (0 : Int32).toNatClampNeg = 0 := by decide
  have c1 : (1 : Int32).toNatClampNeg = 1 := by decide
  have c2 : (2 : Int32).toNatClampNeg = 2 := by decide
  have c3 : (3 : Int32).toNatClampNeg = 3 := by decide
  have c4 : (4 : Int32).toNatClampNeg = 4 := by decide
  have c5 : (5 : Int32).toNatClampNeg = 5 := by decide
  have c6 : (6 : Int32).toNatClampNeg = 6 := by decide
  have c7 : (7 : Int32).toNatClampNeg = 7 := by decide
  have c8 : (8 : Int32).toNatClampNeg = 8 := by decide
  have c9 : (9 : Int32).toNatClampNeg = 9 := by decide
  have c10 : (10 : Int32).toNatClampNeg = 10 := by decide
  have c11 : (11 : Int32).toNatClampNeg = 11 := by decide
  have c12 : (12 : Int32).toNatClampNeg = 12 := by decide
  have q0_12 : ix (0 : Int32) 12 = True := eq_true (by unfold ix; decide)
  have q1_12 : ix (1 : Int32) 12 = True := eq_true (by unfold ix; decide)
  have q2_12 : ix (2 : Int32) 12 = True := eq_true (by unfold ix; decide)
  have q3_12 : ix (3 : Int32) 12 = True := eq_true (by unfold ix; decide)
  have q4_12 : ix (4 : Int32) 12 = True := eq_true (by unfold ix; decide)
  have q5_12 : ix (5 : Int32) 12 = True := eq_true (by unfold ix; decide)
  have q6_12 : ix (6 : Int32) 12 = True := eq_true (by unfold ix; decide)
  have q7_12 : ix (7 : Int32) 12 = True := eq_true (by unfold ix; decide)
  have q8_12 : ix (8 : Int32) 12 = True := eq_true (by unfold ix; decide)
  have q9_12 : ix (9 : Int32) 12 = True := eq_true (by unfold ix; decide)
  have q10_12 : ix (10 : Int32) 12 = True := eq_true (by unfold ix; decide)
  have q11_12 : ix (11 : Int32) 12 = True := eq_true (by unfold ix; decide)
  rw [e_48]
  simp only [s_48_0, s_48_1, s_48_4, s_48_5, s_48_7, s_48_9, s_48_10, s_48_11, s_48_13, s_48_14, s_48_15, s_48_16, s_48_18, s_48_19, s_48_20, s_48_21, s_48_23, s_48_24, s_48_25, s_48_26, s_48_28, s_48_29, s_48_30, s_48_31, s_48_33, s_48_34, s_48_35, s_48_36, s_48_38, s_48_39, s_48_40, s_48_42, s_48_44, s_48_45, s_48_46, s_48_48, s_48_50, s_48_51, s_48_52, s_48_54, s_48_56, s_48_57, s_48_58, s_48_60, s_48_62, s_48_63, s_48_64, s_48_66, s_48_68, s_48_69, s_48_70, s_48_72, s_48_74, s_48_75, ↓reduceIte, eq_self, rts_some, rts_none, nq_int, nq_ref, nq_null, nq_none, okr1_0, okr1_1, okr_b, List.length_nil, List.length_cons, Nat.zero_le, Nat.reduceAdd, Nat.reduceLeDiff, b2i_0, b2i_n0, b2i_1, b2i_n1, ite_not, if_true, if_false, not_true_eq_false, not_false_eq_true, true_and, and_true, false_and, and_false, k6, k12, c0, c1, c2, c3, c4, c5, c6, c7, c8, c9, c10, c11, c12, si_new q0_12, si_new q1_12, si_new q2_12, si_new q3_12, si_new q4_12, si_new q5_12, si_new q6_12, si_new q7_12, si_new q8_12, si_new q9_12, si_new q10_12, si_new q11_12]
  rw [pf_n0 (by decide) (by simp) rfl]
  simp only [s_48_78, s_48_79, s_48_81, s_48_84, ↓reduceIte, eq_self, rts_some, rts_none, nq_int, nq_ref, nq_null, nq_none, okr1_0, okr1_1, okr_b, List.length_nil, List.length_cons, Nat.zero_le, Nat.reduceAdd, Nat.reduceLeDiff, b2i_0, b2i_n0, b2i_1, b2i_n1, ite_not, if_true, if_false, not_true_eq_false, not_false_eq_true, true_and, and_true, false_and, and_false, k6, k12, c0, c1, c2, c3, c4, c5, c6, c7, c8, c9, c10, c11, c12, si_new q0_12, si_new q1_12, si_new q2_12, si_new q3_12, si_new q4_12, si_new q5_12, si_new q6_12, si_new q7_12, si_new q8_12, si_new q9_12, si_new q10_12, si_new q11_12]
  rw [pf_n1 (by decide) (by simp) rfl]
  simp only [s_48_87, s_48_88, s_48_91, s_48_92, s_48_93, ↓reduceIte, eq_self, rts_some, rts_none, nq_int, nq_ref, nq_null, nq_none, okr1_0, okr1_1, okr_b, List.length_nil, List.length_cons, Nat.zero_le, Nat.reduceAdd, Nat.reduceLeDiff, b2i_0, b2i_n0, b2i_1, b2i_n1, ite_not, if_true, if_false, not_true_eq_false, not_false_eq_true, true_and, and_true, false_and, and_false]
  rw [c_roInit (N := 5) (n := 5) (by decide) (eq_false (by decide)) (eq_true (by decide))]
  simp only [s_48_96, ↓reduceIte, eq_self, rts_some, rts_none, nq_int, nq_ref, nq_null, nq_none, okr1_0, okr1_1, okr_b, List.length_nil, List.length_cons, Nat.zero_le, Nat.reduceAdd, Nat.reduceLeDiff, b2i_0, b2i_n0, b2i_1, b2i_n1, ite_not, if_true, if_false, not_true_eq_false, not_false_eq_true, true_and, and_true, false_and, and_false]
  rw [pf_n2 (by decide) (by simp) rfl]
  simp only [s_48_99, s_48_100, s_48_103, s_48_104, s_48_106, ↓reduceIte, eq_self, rts_some, rts_none, nq_int, nq_ref, nq_null, nq_none, okr1_0, okr1_1, okr_b, List.length_nil, List.length_cons, Nat.zero_le, Nat.reduceAdd, Nat.reduceLeDiff, b2i_0, b2i_n0, b2i_1, b2i_n1, ite_not, if_true, if_false, not_true_eq_false, not_false_eq_true, true_and, and_true, false_and, and_false]
  rw [c_roInit (N := 10) (n := 10) (by decide) (eq_false (by decide)) (eq_true (by decide))]
  simp only [s_48_109, ↓reduceIte, eq_self, rts_some, rts_none, nq_int, nq_ref, nq_null, nq_none, okr1_0, okr1_1, okr_b, List.length_nil, List.length_cons, Nat.zero_le, Nat.reduceAdd, Nat.reduceLeDiff, b2i_0, b2i_n0, b2i_1, b2i_n1, ite_not, if_true, if_false, not_true_eq_false, not_false_eq_true, true_and, and_true, false_and, and_false]
  rw [pf_n2 (by decide) (by simp) rfl]
  simp only [s_48_112, s_48_113, s_48_116, s_48_117, s_48_119, ↓reduceIte, eq_self, rts_some, rts_none, nq_int, nq_ref, nq_null, nq_none, okr1_0, okr1_1, okr_b, List.length_nil, List.length_cons, Nat.zero_le, Nat.reduceAdd, Nat.reduceLeDiff, b2i_0, b2i_n0, b2i_1, b2i_n1, ite_not, if_true, if_false, not_true_eq_false, not_false_eq_true, true_and, and_true, false_and, and_false]
  rw [c_roInit (N := 8) (n := 8) (by decide) (eq_false (by decide)) (eq_true (by decide))]
  simp only [s_48_122, ↓reduceIte, eq_self, rts_some, rts_none, nq_int, nq_ref, nq_null, nq_none, okr1_0, okr1_1, okr_b, List.length_nil, List.length_cons, Nat.zero_le, Nat.reduceAdd, Nat.reduceLeDiff, b2i_0, b2i_n0, b2i_1, b2i_n1, ite_not, if_true, if_false, not_true_eq_false, not_false_eq_true, true_and, and_true, false_and, and_false]
  rw [pf_n2 (by decide) (by simp) rfl]
  simp only [s_48_125, s_48_126, s_48_128, s_48_130, ↓reduceIte, eq_self, rts_some, rts_none, nq_int, nq_ref, nq_null, nq_none, okr1_0, okr1_1, okr_b, List.length_nil, List.length_cons, Nat.zero_le, Nat.reduceAdd, Nat.reduceLeDiff, b2i_0, b2i_n0, b2i_1, b2i_n1, ite_not, if_true, if_false, not_true_eq_false, not_false_eq_true, true_and, and_true, false_and, and_false, k6, k12, c0, c1, c2, c3, c4, c5, c6, c7, c8, c9, c10, c11, c12, si_new q0_12, si_new q1_12, si_new q2_12, si_new q3_12, si_new q4_12, si_new q5_12, si_new q6_12, si_new q7_12, si_new q8_12, si_new q9_12, si_new q10_12, si_new q11_12]
  rw [pf_n1 (by decide) (by simp) rfl]
  simp only [s_48_133, ↓reduceIte, eq_self, rts_some, rts_none, nq_int, nq_ref, nq_null, nq_none, okr1_0, okr1_1, okr_b, List.length_nil, List.length_cons, Nat.zero_le, Nat.reduceAdd, Nat.reduceLeDiff, b2i_0, b2i_n0, b2i_1, b2i_n1, ite_not, if_true, if_false, not_true_eq_false, not_false_eq_true, true_and, and_true, false_and, and_false]
  rfl
end
