/-! Small methods of the class; its first object; two worlds. -/
theorem ge32 {a b x : Int32} (h : a.toInt = b.toInt + 1) : (a ≤ x) = ¬ (x ≤ b) := by
  rw [Int32.le_iff_toInt_le, Int32.le_iff_toInt_le, h]
  exact propext (by omega)
theorem b2i_if {p : Prop} [Decidable p] {x y : Prop} : (if p then x else y) = (if p then x else y) := rfl
section
variable {V : Nat → Option AE} {Ev : Nat → Value} {d : Nat} {Q : Option Value → HS → Prop} {h : HS}
theorem c_isSen {x : Int32} : WP V (cdT Ev) mx (d + 1) 101 [.int x] h Q = Q (some (.int (b2i (0 ≤ x ∧ x ≤ 11)))) h := by
  have e : ∀ x : Int32, ((12 : Int32) ≤ x) = ¬ (x ≤ 11) := fun x => ge32 (by decide)
  rw [e_101]
  by_cases h0 : x < 0
  · rw [b2i_f (fun h => absurd h0 (Int32.not_lt.mpr h.1))]
    simp only [s_101_0, s_101_1, s_101_4, s_101_5, s_101_7, s_101_10, s_101_11, s_101_14, s_101_15, ↓reduceIte, eq_self, rts_some, rts_none, nq_int, nq_ref, nq_null, nq_none, okr1_0, okr1_1, okr_b, List.length_nil, List.length_cons, Nat.zero_le, Nat.reduceAdd, Nat.reduceLeDiff, b2i_0, b2i_n0, b2i_1, b2i_n1, ite_not, if_true, if_false, not_true_eq_false, not_false_eq_true, true_and, and_true, false_and, and_false, h0]
  · by_cases h1 : x ≤ 11
    · rw [b2i_t ⟨Int32.not_lt.mp h0, h1⟩]
      simp only [s_101_0, s_101_1, s_101_4, s_101_5, s_101_7, s_101_10, s_101_11, s_101_14, s_101_15, ↓reduceIte, eq_self, rts_some, rts_none, nq_int, nq_ref, nq_null, nq_none, okr1_0, okr1_1, okr_b, List.length_nil, List.length_cons, Nat.zero_le, Nat.reduceAdd, Nat.reduceLeDiff, b2i_0, b2i_n0, b2i_1, b2i_n1, ite_not, if_true, if_false, not_true_eq_false, not_false_eq_true, true_and, and_true, false_and, and_false, h0, e, h1]
    · rw [b2i_f (fun h => h1 h.2)]
      simp only [s_101_0, s_101_1, s_101_4, s_101_5, s_101_7, s_101_10, s_101_11, s_101_14, s_101_15, ↓reduceIte, eq_self, rts_some, rts_none, nq_int, nq_ref, nq_null, nq_none, okr1_0, okr1_1, okr_b, List.length_nil, List.length_cons, Nat.zero_le, Nat.reduceAdd, Nat.reduceLeDiff, b2i_0, b2i_n0, b2i_1, b2i_n1, ite_not, if_true, if_false, not_true_eq_false, not_false_eq_true, true_and, and_true, false_and, and_false, h0, e, h1]
theorem c_isSet {x : Int32} : WP V (cdT Ev) mx (d + 1) 102 [.int x] h Q = Q (some (.int (b2i (0 ≤ x ∧ x ≤ 4095)))) h := by
  have e : ∀ x : Int32, ((4096 : Int32) ≤ x) = ¬ (x ≤ 4095) := fun x => ge32 (by decide)
  rw [e_102]
  by_cases h0 : x < 0
  · rw [b2i_f (fun h => absurd h0 (Int32.not_lt.mpr h.1))]
    simp only [s_102_0, s_102_1, s_102_4, s_102_5, s_102_8, s_102_11, s_102_12, s_102_15, s_102_16, ↓reduceIte, eq_self, rts_some, rts_none, nq_int, nq_ref, nq_null, nq_none, okr1_0, okr1_1, okr_b, List.length_nil, List.length_cons, Nat.zero_le, Nat.reduceAdd, Nat.reduceLeDiff, b2i_0, b2i_n0, b2i_1, b2i_n1, ite_not, if_true, if_false, not_true_eq_false, not_false_eq_true, true_and, and_true, false_and, and_false, h0]
  · by_cases h1 : x ≤ 4095
    · rw [b2i_t ⟨Int32.not_lt.mp h0, h1⟩]
      simp only [s_102_0, s_102_1, s_102_4, s_102_5, s_102_8, s_102_11, s_102_12, s_102_15, s_102_16, ↓reduceIte, eq_self, rts_some, rts_none, nq_int, nq_ref, nq_null, nq_none, okr1_0, okr1_1, okr_b, List.length_nil, List.length_cons, Nat.zero_le, Nat.reduceAdd, Nat.reduceLeDiff, b2i_0, b2i_n0, b2i_1, b2i_n1, ite_not, if_true, if_false, not_true_eq_false, not_false_eq_true, true_and, and_true, false_and, and_false, h0, e, h1]
    · rw [b2i_f (fun h => h1 h.2)]
      simp only [s_102_0, s_102_1, s_102_4, s_102_5, s_102_8, s_102_11, s_102_12, s_102_15, s_102_16, ↓reduceIte, eq_self, rts_some, rts_none, nq_int, nq_ref, nq_null, nq_none, okr1_0, okr1_1, okr_b, List.length_nil, List.length_cons, Nat.zero_le, Nat.reduceAdd, Nat.reduceLeDiff, b2i_0, b2i_n0, b2i_1, b2i_n1, ite_not, if_true, if_false, not_true_eq_false, not_false_eq_true, true_and, and_true, false_and, and_false, h0, e, h1]
theorem c_isWor {x : Int32} : WP V (cdT Ev) mx (d + 1) 103 [.int x] h Q = Q (some (.int (b2i (0 ≤ x ∧ x ≤ 20)))) h := by
  have e : ∀ x : Int32, ((20 : Int32) < x) = ¬ (x ≤ 20) := fun x => propext Int32.not_le.symm
  rw [e_103]
  by_cases h0 : x < 0
  · rw [b2i_f (fun h => absurd h0 (Int32.not_lt.mpr h.1))]
    simp only [s_103_0, s_103_1, s_103_4, s_103_5, s_103_7, s_103_10, s_103_11, s_103_14, s_103_15, ↓reduceIte, eq_self, rts_some, rts_none, nq_int, nq_ref, nq_null, nq_none, okr1_0, okr1_1, okr_b, List.length_nil, List.length_cons, Nat.zero_le, Nat.reduceAdd, Nat.reduceLeDiff, b2i_0, b2i_n0, b2i_1, b2i_n1, ite_not, if_true, if_false, not_true_eq_false, not_false_eq_true, true_and, and_true, false_and, and_false, h0]
  · by_cases h1 : x ≤ 20
    · rw [b2i_t ⟨Int32.not_lt.mp h0, h1⟩]
      simp only [s_103_0, s_103_1, s_103_4, s_103_5, s_103_7, s_103_10, s_103_11, s_103_14, s_103_15, ↓reduceIte, eq_self, rts_some, rts_none, nq_int, nq_ref, nq_null, nq_none, okr1_0, okr1_1, okr_b, List.length_nil, List.length_cons, Nat.zero_le, Nat.reduceAdd, Nat.reduceLeDiff, b2i_0, b2i_n0, b2i_1, b2i_n1, ite_not, if_true, if_false, not_true_eq_false, not_false_eq_true, true_and, and_true, false_and, and_false, h0, e, h1]
    · rw [b2i_f (fun h => h1 h.2)]
      simp only [s_103_0, s_103_1, s_103_4, s_103_5, s_103_7, s_103_10, s_103_11, s_103_14, s_103_15, ↓reduceIte, eq_self, rts_some, rts_none, nq_int, nq_ref, nq_null, nq_none, okr1_0, okr1_1, okr_b, List.length_nil, List.length_cons, Nat.zero_le, Nat.reduceAdd, Nat.reduceLeDiff, b2i_0, b2i_n0, b2i_1, b2i_n1, ite_not, if_true, if_false, not_true_eq_false, not_false_eq_true, true_and, and_true, false_and, and_false, h0, e, h1]
theorem c_areD {x : Int32} : WP V (cdT Ev) mx (d + 1) 104 [.int x] h Q = Q (some (.int (b2i (0 ≤ x ∧ x ≤ 60)))) h := by
  have e : ∀ x : Int32, ((60 : Int32) < x) = ¬ (x ≤ 60) := fun x => propext Int32.not_le.symm
  rw [e_104]
  by_cases h0 : x < 0
  · rw [b2i_f (fun h => absurd h0 (Int32.not_lt.mpr h.1))]
    simp only [s_104_0, s_104_1, s_104_4, s_104_5, s_104_7, s_104_10, s_104_11, s_104_14, s_104_15, ↓reduceIte, eq_self, rts_some, rts_none, nq_int, nq_ref, nq_null, nq_none, okr1_0, okr1_1, okr_b, List.length_nil, List.length_cons, Nat.zero_le, Nat.reduceAdd, Nat.reduceLeDiff, b2i_0, b2i_n0, b2i_1, b2i_n1, ite_not, if_true, if_false, not_true_eq_false, not_false_eq_true, true_and, and_true, false_and, and_false, h0]
  · by_cases h1 : x ≤ 60
    · rw [b2i_t ⟨Int32.not_lt.mp h0, h1⟩]
      simp only [s_104_0, s_104_1, s_104_4, s_104_5, s_104_7, s_104_10, s_104_11, s_104_14, s_104_15, ↓reduceIte, eq_self, rts_some, rts_none, nq_int, nq_ref, nq_null, nq_none, okr1_0, okr1_1, okr_b, List.length_nil, List.length_cons, Nat.zero_le, Nat.reduceAdd, Nat.reduceLeDiff, b2i_0, b2i_n0, b2i_1, b2i_n1, ite_not, if_true, if_false, not_true_eq_false, not_false_eq_true, true_and, and_true, false_and, and_false, h0, e, h1]
    · rw [b2i_f (fun h => h1 h.2)]
      simp only [s_104_0, s_104_1, s_104_4, s_104_5, s_104_7, s_104_10, s_104_11, s_104_14, s_104_15, ↓reduceIte, eq_self, rts_some, rts_none, nq_int, nq_ref, nq_null, nq_none, okr1_0, okr1_1, okr_b, List.length_nil, List.length_cons, Nat.zero_le, Nat.reduceAdd, Nat.reduceLeDiff, b2i_0, b2i_n0, b2i_1, b2i_n1, ite_not, if_true, if_false, not_true_eq_false, not_false_eq_true, true_and, and_true, false_and, and_false, h0, e, h1]
theorem c_isTap {x : Int32} : WP V (cdT Ev) mx (d + 1) 106 [.int x] h Q = Q (some (.int (b2i (0 ≤ x ∧ x ≤ 5)))) h := by
  have e : ∀ x : Int32, ((6 : Int32) ≤ x) = ¬ (x ≤ 5) := fun x => ge32 (by decide)
  rw [e_106]
  by_cases h0 : x < 0
  · rw [b2i_f (fun h => absurd h0 (Int32.not_lt.mpr h.1))]
    simp only [s_106_0, s_106_1, s_106_4, s_106_5, s_106_7, s_106_10, s_106_11, s_106_14, s_106_15, ↓reduceIte, eq_self, rts_some, rts_none, nq_int, nq_ref, nq_null, nq_none, okr1_0, okr1_1, okr_b, List.length_nil, List.length_cons, Nat.zero_le, Nat.reduceAdd, Nat.reduceLeDiff, b2i_0, b2i_n0, b2i_1, b2i_n1, ite_not, if_true, if_false, not_true_eq_false, not_false_eq_true, true_and, and_true, false_and, and_false, h0]
  · by_cases h1 : x ≤ 5
    · rw [b2i_t ⟨Int32.not_lt.mp h0, h1⟩]
      simp only [s_106_0, s_106_1, s_106_4, s_106_5, s_106_7, s_106_10, s_106_11, s_106_14, s_106_15, ↓reduceIte, eq_self, rts_some, rts_none, nq_int, nq_ref, nq_null, nq_none, okr1_0, okr1_1, okr_b, List.length_nil, List.length_cons, Nat.zero_le, Nat.reduceAdd, Nat.reduceLeDiff, b2i_0, b2i_n0, b2i_1, b2i_n1, ite_not, if_true, if_false, not_true_eq_false, not_false_eq_true, true_and, and_true, false_and, and_false, h0, e, h1]
    · rw [b2i_f (fun h => h1 h.2)]
      simp only [s_106_0, s_106_1, s_106_4, s_106_5, s_106_7, s_106_10, s_106_11, s_106_14, s_106_15, ↓reduceIte, eq_self, rts_some, rts_none, nq_int, nq_ref, nq_null, nq_none, okr1_0, okr1_1, okr_b, List.length_nil, List.length_cons, Nat.zero_le, Nat.reduceAdd, Nat.reduceLeDiff, b2i_0, b2i_n0, b2i_1, b2i_n1, ite_not, if_true, if_false, not_true_eq_false, not_false_eq_true, true_and, and_true, false_and, and_false, h0, e, h1]
theorem part_k {x : Int32} : (0 ≤ x ∧ x ≤ 1) = (x = 0 ∨ x = 1) := by
  rw [Int32.le_iff_toInt_le, Int32.le_iff_toInt_le, ← Int32.toInt_inj, ← Int32.toInt_inj]
  exact propext (by
    show (0 : Int) ≤ _ ∧ _ ≤ (1 : Int) ↔ _ = (0 : Int) ∨ _ = (1 : Int)
    omega)
theorem c_isPart {x : Int32} : WP V (cdT Ev) mx (d + 1) 105 [.int x] h Q = Q (some (.int (b2i (0 ≤ x ∧ x ≤ 1)))) h := by
  rw [e_105]
  by_cases h0 : x = 0
  · rw [b2i_t (by rw [part_k]; exact Or.inl h0)]
    simp only [s_105_0, s_105_1, s_105_4, s_105_5, s_105_6, s_105_9, s_105_10, s_105_13, s_105_14, ↓reduceIte, eq_self, rts_some, rts_none, nq_int, nq_ref, nq_null, nq_none, okr1_0, okr1_1, okr_b, List.length_nil, List.length_cons, Nat.zero_le, Nat.reduceAdd, Nat.reduceLeDiff, b2i_0, b2i_n0, b2i_1, b2i_n1, ite_not, if_true, if_false, not_true_eq_false, not_false_eq_true, true_and, and_true, false_and, and_false, h0]
  · by_cases h1 : x = 1
    · rw [b2i_t (by rw [part_k]; exact Or.inr h1)]
      subst h1
      simp only [s_105_0, s_105_1, s_105_4, s_105_5, s_105_6, s_105_9, s_105_10, s_105_13, s_105_14, ↓reduceIte, eq_self, rts_some, rts_none, nq_int, nq_ref, nq_null, nq_none, okr1_0, okr1_1, okr_b, List.length_nil, List.length_cons, Nat.zero_le, Nat.reduceAdd, Nat.reduceLeDiff, b2i_0, b2i_n0, b2i_1, b2i_n1, ite_not, if_true, if_false, not_true_eq_false, not_false_eq_true, true_and, and_true, false_and, and_false, show ((1 : Int32) = 0) = False from by decide]
    · rw [b2i_f (by rw [part_k]; exact fun h => h.elim h0 h1)]
      simp only [s_105_0, s_105_1, s_105_4, s_105_5, s_105_6, s_105_9, s_105_10, s_105_13, s_105_14, ↓reduceIte, eq_self, rts_some, rts_none, nq_int, nq_ref, nq_null, nq_none, okr1_0, okr1_1, okr_b, List.length_nil, List.length_cons, Nat.zero_le, Nat.reduceAdd, Nat.reduceLeDiff, b2i_0, b2i_n0, b2i_1, b2i_n1, ite_not, if_true, if_false, not_true_eq_false, not_false_eq_true, true_and, and_true, false_and, and_false, h0, h1]
theorem c_orNot {x : Int32} : WP V (cdT Ev) mx (d + 1) 107 [.int x] h Q = Q (some (.int (if 0 ≤ x then x else -5))) h := by
  rw [e_107]
  by_cases h0 : 0 ≤ x
  · simp only [s_107_0, s_107_1, s_107_4, s_107_6, s_107_9, s_107_10, ↓reduceIte, eq_self, rts_some, rts_none, nq_int, nq_ref, nq_null, nq_none, okr1_0, okr1_1, okr_b, List.length_nil, List.length_cons, Nat.zero_le, Nat.reduceAdd, Nat.reduceLeDiff, b2i_0, b2i_n0, b2i_1, b2i_n1, ite_not, if_true, if_false, not_true_eq_false, not_false_eq_true, true_and, and_true, false_and, and_false, h0]
  · simp only [s_107_0, s_107_1, s_107_4, s_107_6, s_107_9, s_107_10, ↓reduceIte, eq_self, rts_some, rts_none, nq_int, nq_ref, nq_null, nq_none, okr1_0, okr1_1, okr_b, List.length_nil, List.length_cons, Nat.zero_le, Nat.reduceAdd, Nat.reduceLeDiff, b2i_0, b2i_n0, b2i_1, b2i_n1, ite_not, if_true, if_false, not_true_eq_false, not_false_eq_true, true_and, and_true, false_and, and_false, h0]
theorem c_isOther {x y : Int32} : WP V (cdT Ev) mx (d + 1) 117 [.int x, .int y] h Q = Q (some (.int (b2i (0 ≤ x ∧ ¬ x = y)))) h := by
  rw [e_117]
  by_cases h0 : x < 0
  · rw [b2i_f (fun h => absurd h0 (Int32.not_lt.mpr h.1))]
    simp only [s_117_0, s_117_1, s_117_4, s_117_5, s_117_6, s_117_9, s_117_10, s_117_13, s_117_14, ↓reduceIte, eq_self, rts_some, rts_none, nq_int, nq_ref, nq_null, nq_none, okr1_0, okr1_1, okr_b, List.length_nil, List.length_cons, Nat.zero_le, Nat.reduceAdd, Nat.reduceLeDiff, b2i_0, b2i_n0, b2i_1, b2i_n1, ite_not, if_true, if_false, not_true_eq_false, not_false_eq_true, true_and, and_true, false_and, and_false, h0]
  · by_cases h1 : x = y
    · rw [b2i_f (fun h => h.2 h1)]
      subst h1
      simp only [s_117_0, s_117_1, s_117_4, s_117_5, s_117_6, s_117_9, s_117_10, s_117_13, s_117_14, ↓reduceIte, eq_self, rts_some, rts_none, nq_int, nq_ref, nq_null, nq_none, okr1_0, okr1_1, okr_b, List.length_nil, List.length_cons, Nat.zero_le, Nat.reduceAdd, Nat.reduceLeDiff, b2i_0, b2i_n0, b2i_1, b2i_n1, ite_not, if_true, if_false, not_true_eq_false, not_false_eq_true, true_and, and_true, false_and, and_false, h0]
    · rw [b2i_t ⟨Int32.not_lt.mp h0, h1⟩]
      simp only [s_117_0, s_117_1, s_117_4, s_117_5, s_117_6, s_117_9, s_117_10, s_117_13, s_117_14, ↓reduceIte, eq_self, rts_some, rts_none, nq_int, nq_ref, nq_null, nq_none, okr1_0, okr1_1, okr_b, List.length_nil, List.length_cons, Nat.zero_le, Nat.reduceAdd, Nat.reduceLeDiff, b2i_0, b2i_n0, b2i_1, b2i_n1, ite_not, if_true, if_false, not_true_eq_false, not_false_eq_true, true_and, and_true, false_and, and_false, h0, h1]
end
/-- the first object -/
def DM (LG : Nat → Nat) (D : Nat → Option AE) (kf : Int32) (nb : Nat) : Prop := D 0 = some (.inr (11, [.ref (LG 100), .ref (LG 150), .ref (LG 200), .int kf, .ref (LG (300 + 5 * nb)), .int (nI nb), .ref (LG 1), .ref (LG 3), .ref (LG 4), .ref (LG 5)]))
section
variable {LG gr : Nat → Nat} {C D G : Nat → Option AE} {z : Nat × Nat} {kf : Int32} {nb : Nat}
variable {M F Mt Ft : Nat → Int32} {ex xt : Nat → Bool} {hd ht : Option Nat}
theorem DM_W {B : Nat} (hB : 0 < B) (h : DM LG C kf nb) : DM LG (WC LG B M F ex hd C) kf nb := (WC_out (Or.inl hB)).trans h
theorem DM_x {LG' : Nat → Nat} (e : ∀ r, (r < 100 ∨ r = 100 ∨ r = 150 ∨ r = 200 ∨ 300 ≤ r) → LG' r = LG r) (h : DM LG C kf nb) : DM LG' C kf nb := by
  unfold DM
  rw [e 100 (by omega), e 150 (by omega), e 200 (by omega), e (300 + 5 * nb) (by omega), e 1 (by omega), e 3 (by omega), e 4 (by omega), e 5 (by omega)]
  exact h
theorem dg_0 (hg : ∀ r, gr (LG r) = r) (h : DM LG C kf nb) {K : Value → Prop} : gf [11] 0 (GH LG gr C G z) (LG 0) K = K (.ref (LG 100)) := r_gf hg h (by decide) rfl
theorem dg_1 (hg : ∀ r, gr (LG r) = r) (h : DM LG C kf nb) {K : Value → Prop} : gf [11] 1 (GH LG gr C G z) (LG 0) K = K (.ref (LG 150)) := r_gf hg h (by decide) rfl
theorem dg_2 (hg : ∀ r, gr (LG r) = r) (h : DM LG C kf nb) {K : Value → Prop} : gf [11] 2 (GH LG gr C G z) (LG 0) K = K (.ref (LG 200)) := r_gf hg h (by decide) rfl
theorem dg_3 (hg : ∀ r, gr (LG r) = r) (h : DM LG C kf nb) {K : Value → Prop} : gf [11] 3 (GH LG gr C G z) (LG 0) K = K (.int kf) := r_gf hg h (by decide) rfl
theorem dg_4 (hg : ∀ r, gr (LG r) = r) (h : DM LG C kf nb) {K : Value → Prop} : gf [11] 4 (GH LG gr C G z) (LG 0) K = K (.ref (LG (300 + 5 * nb))) := r_gf hg h (by decide) rfl
theorem dg_5 (hg : ∀ r, gr (LG r) = r) (h : DM LG C kf nb) {K : Value → Prop} : gf [11] 5 (GH LG gr C G z) (LG 0) K = K (.int (nI nb)) := r_gf hg h (by decide) rfl
theorem dg_6 (hg : ∀ r, gr (LG r) = r) (h : DM LG C kf nb) {K : Value → Prop} : gf [11] 6 (GH LG gr C G z) (LG 0) K = K (.ref (LG 1)) := r_gf hg h (by decide) rfl
theorem dg_7 (hg : ∀ r, gr (LG r) = r) (h : DM LG C kf nb) {K : Value → Prop} : gf [11] 7 (GH LG gr C G z) (LG 0) K = K (.ref (LG 3)) := r_gf hg h (by decide) rfl
theorem dg_8 (hg : ∀ r, gr (LG r) = r) (h : DM LG C kf nb) {K : Value → Prop} : gf [11] 8 (GH LG gr C G z) (LG 0) K = K (.ref (LG 4)) := r_gf hg h (by decide) rfl
theorem dg_9 (hg : ∀ r, gr (LG r) = r) (h : DM LG C kf nb) {K : Value → Prop} : gf [11] 9 (GH LG gr C G z) (LG 0) K = K (.ref (LG 5)) := r_gf hg h (by decide) rfl
theorem dcv (hg : ∀ r, gr (LG r) = r) (h : DM LG C kf nb) {y : Nat} {K : Nat → Prop} : cv [(11, y)] (GH LG gr C G z) (LG 0) K = K y := r_cv hg h rfl
/-- two worlds change places -/
theorem WC_sw {B B2 : Nat} (hD : B2 + 25 ≤ B ∨ B + 25 ≤ B2) : WC LG B M F ex hd (WC LG B2 Mt Ft xt ht D) = WC LG B2 Mt Ft xt ht (WC LG B M F ex hd D) := by
  funext r
  by_cases h1 : r < B ∨ B + 25 ≤ r
  · rw [WC_out h1]
    by_cases h2 : r < B2 ∨ B2 + 25 ≤ r
    · rw [WC_out h2, WC_out h2, WC_out h1]
    · obtain ⟨k, hk, rfl⟩ : ∃ k, k < 25 ∧ r = B2 + k := ⟨r - B2, by omega, by omega⟩
      rw [WC_k k hk, WC_k k hk]
  · obtain ⟨k, hk, rfl⟩ : ∃ k, k < 25 ∧ r = B + k := ⟨r - B, by omega, by omega⟩
    rw [WC_k k hk, WC_out (by omega), WC_k k hk]
theorem OW_W {B : Nat} : OW LG (WC LG B M F ex hd D) B M F ex hd := fun k hk => WC_k k hk
theorem HB_W {B B2 : Nat} {hh : Option Nat} {cl : List Cls} (hD : B2 + 25 ≤ B ∨ B + 25 ≤ B2) (ho : ∀ r, hh = some r → r + 5 ≤ B ∨ B + 25 ≤ r) (h : HB LG D B2 hh cl) : HB LG (WC LG B M F ex hd D) B2 hh cl := by
  cases hh with
  | none => exact h
  | some r =>
    have := ho r rfl
    exact ⟨h.1, BrC_of (fun k hk => WC_out (by omega)) h.2⟩
/-- a bridge's role -/
def bR (hh : Option Nat) : Prop := ∀ r, hh = some r → 300 ≤ r ∧ r < 350
theorem HB_b {B B2 : Nat} {hh : Option Nat} {cl : List Cls} (hb : bR hh) (hB : B2 + 25 ≤ 300) (h : HB LG D B hh cl) : HB LG D B2 hh cl := by
  cases hh with
  | none => exact h
  | some r =>
    have := hb r rfl
    exact ⟨by omega, h.2⟩
theorem BrC_x {LG' : Nat → Nat} {r : Nat} {cl : List Cls} (e : ∀ k, k < 5 → LG' (r + k) = LG (r + k)) (h : BrC LG D r cl) : BrC LG' D r cl := by
  unfold BrC
  rw [e 1 (by decide), e 2 (by decide), e 3 (by decide), e 4 (by decide)]
  exact h
theorem HB_x {LG' : Nat → Nat} {B : Nat} {hh : Option Nat} {cl : List Cls} (hb : bR hh) (e : ∀ r, 300 ≤ r → LG' r = LG r) (h : HB LG D B hh cl) : HB LG' D B hh cl := by
  cases hh with
  | none => exact h
  | some r =>
    have := hb r rfl
    exact ⟨h.1, BrC_x (fun k hk => e _ (by omega)) h.2⟩
end
