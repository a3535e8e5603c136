/-! Strings that are constants: the class's way to them. -/
def SR (V : Nat → Option AE) (h : HS) (a : Nat) (l : List Int32) : Prop := ∃ v, V (2 * a + 1) = some (.inr (100, [.ref v, .int 0])) ∧ V (2 * v) = some (.inl (0, l.length, .inl (fun j => l.getD j 0))) ∧ h.1 v = none
def CH (l : List Int32) : Prop := l.length ≤ 6 ∧ ∀ i, ∃ q, q < 128 ∧ l.getD i 0 = nI q
def ixO (l : List Int32) (c : Int32) : Nat → Nat → Int32
  | 0, _ => -1
  | f + 1, i => if l.getD i 0 = c then nI i else ixO l c f (i + 1)
theorem ch_8 : ∀ q, q < 128 → (nI q).toInt8.toInt32 = nI q := by decide +kernel
theorem ch_16 : ∀ q, q < 128 → ((nI q).toUInt32 % 65536).toInt32 = nI q := by decide +kernel
theorem ch_255 : ∀ q, q < 128 → nI q &&& 255 = nI q := by decide +kernel
theorem ch_ok : ∀ q, q < 128 → okr 4 (.int (nI q)) = true := by decide +kernel
theorem ch_nar : ∀ q, q < 128 → vp_nar .byte (nI q) = nI q := by decide +kernel
theorem shr_0 {x : Int32} : x >>> ((0 : Int32) &&& 31) = x := by
  rw [show (0 : Int32) &&& 31 = 0 by decide]
  exact Int32.shiftRight_zero
section
variable {V : Nat → Option AE} {Ev : Nat → Value} {d : Nat} {Q : Option Value → HS → Prop} {h : HS} {a : Nat} {l : List Int32}
theorem sr_gs0 (hs : SR V h a l) : ∃ v, (∀ K : Value → Prop, gs 0 V a K = K (.ref v)) ∧ (∀ K : Value → Prop, gs 1 V a K = K (.int 0)) ∧ (∀ K : Prop, cstr V a K = K) ∧ (∀ K : Int32 → Prop, ln V h v K = K (nI l.length)) ∧ (∀ (i : Int32) (K : Int32 → Prop), ai 0 i V h v K = (ix i l.length ∧ K (l.getD i.toNatClampNeg 0))) := by
  obtain ⟨v, h1, h2, h3⟩ := hs
  refine ⟨v, fun K => ?_, fun K => ?_, fun K => ?_, fun K => ?_, fun i K => ?_⟩
  · simp only [gs, h1]
    rfl
  · simp only [gs, h1]
    rfl
  · simp only [cstr, h1]
  · simp only [ln, lk, h3, h2]
    exact propext ⟨fun h => h.2, fun h => ⟨by decide, h⟩⟩
  · simp only [ai, lk, h3, h2, true_and]
theorem okr5_0 : okr 5 (.int 0) = true := by decide
theorem c_coder (hs : SR V h a l) : WP V (cdT Ev) mx (d + 1) 202 [.ref a] h Q = Q (some (.int 0)) h := by
  obtain ⟨v, g0, g1, -⟩ := sr_gs0 hs
  rw [e_202]
  simp only [s_202_0, s_202_3, s_202_6, s_202_6_n, s_202_7, s_202_10, s_202_13, s_202_14, ↓reduceIte, eq_self, rts_some, rts_none, nq_int, nq_ref, nq_null, nq_none, okr1_0, okr1_1, okr_b, List.length_nil, List.length_cons, Nat.zero_le, Nat.reduceAdd, Nat.reduceLeDiff, b2i_0, b2i_n0, b2i_1, b2i_n1, ite_not, if_true, if_false, not_true_eq_false, not_false_eq_true, true_and, and_true, false_and, and_false, g1, okr5_0, show ((1 : Int32) = 0) = False from by decide]
theorem c_isLat (hs : SR V h a l) : WP V (cdT Ev) mx (d + 1) 203 [.ref a] h Q = Q (some (.int 1)) h := by
  obtain ⟨v, g0, g1, -⟩ := sr_gs0 hs
  rw [e_203]
  simp only [s_203_0, s_203_3, s_203_6, s_203_6_n, s_203_7, s_203_10, s_203_13, s_203_14, s_203_17, s_203_18, ↓reduceIte, eq_self, rts_some, rts_none, nq_int, nq_ref, nq_null, nq_none, okr1_0, okr1_1, okr_b, List.length_nil, List.length_cons, Nat.zero_le, Nat.reduceAdd, Nat.reduceLeDiff, b2i_0, b2i_n0, b2i_1, b2i_n1, ite_not, if_true, if_false, not_true_eq_false, not_false_eq_true, true_and, and_true, false_and, and_false, g1, show ((1 : Int32) = 0) = False from by decide]
theorem c_slen (hs : SR V h a l) : WP V (cdT Ev) mx (d + 2) 198 [.ref a] h Q = Q (some (.int (nI l.length))) h := by
  obtain ⟨v, g0, g1, gc, gl, -⟩ := sr_gs0 hs
  rw [e_198]
  simp only [s_198_0, s_198_0_n, s_198_1, s_198_4, s_198_5, s_198_5_n, s_198_6, s_198_9, s_198_10, ↓reduceIte, eq_self, rts_some, rts_none, nq_int, nq_ref, nq_null, nq_none, okr1_0, okr1_1, okr_b, List.length_nil, List.length_cons, Nat.zero_le, Nat.reduceAdd, Nat.reduceLeDiff, b2i_0, b2i_n0, b2i_1, b2i_n1, ite_not, if_true, if_false, not_true_eq_false, not_false_eq_true, true_and, and_true, false_and, and_false, g0, gl, gc, c_coder hs, shr_0]
theorem e_209_n {p0 p1 : Int32} : WP V (cdT Ev) mx (d + 1) 209 [.int p0, .int p1, .null] h Q = wp V (cdT Ev) mx d 209 0 [some (.int p0), some (.int p1), some .null] [] h Q := propext (WP_eq (Nat.le_of_ble_eq_true rfl))
theorem c_chk {i n : Nat} (hi : i < n) (hn : n < 2 ^ 31) (hE : Ev 6 = .null ∨ ∃ a, Ev 6 = .ref a) : WP V (cdT Ev) mx (d + 2) 204 [.int (nI i), .int (nI n)] h Q = Q none h := by
  have k1 : (nI i < (0 : Int32)) = False := eq_false (nI_pos (by omega))
  have k2 : (nI i < nI n) = True := eq_true (nI_lt hi hn)
  rw [e_204]
  rcases hE with e | ⟨b, e⟩
  · simp only [s_204_0, s_204_1, s_204_2, s_204_5, s_204_8, s_204_8_i, s_204_9, ↓reduceIte, eq_self, rts_some, rts_none, nq_int, nq_ref, nq_null, nq_none, okr1_0, okr1_1, okr_b, List.length_nil, List.length_cons, Nat.zero_le, Nat.reduceAdd, Nat.reduceLeDiff, b2i_0, b2i_n0, b2i_1, b2i_n1, ite_not, if_true, if_false, not_true_eq_false, not_false_eq_true, true_and, and_true, false_and, and_false, e]
    rw [e_209_n]
    simp only [s_209_0, s_209_1, s_209_4, s_209_5, s_209_6, s_209_9, s_209_9_n, s_209_10, s_209_11, s_209_16, s_209_17, s_204_0, s_204_1, s_204_2, s_204_5, s_204_8, s_204_8_i, s_204_9, ↓reduceIte, eq_self, rts_some, rts_none, nq_int, nq_ref, nq_null, nq_none, okr1_0, okr1_1, okr_b, List.length_nil, List.length_cons, Nat.zero_le, Nat.reduceAdd, Nat.reduceLeDiff, b2i_0, b2i_n0, b2i_1, b2i_n1, ite_not, if_true, if_false, not_true_eq_false, not_false_eq_true, true_and, and_true, false_and, and_false, k1, k2, is1_i]
  · simp only [s_204_0, s_204_1, s_204_2, s_204_5, s_204_8, s_204_8_i, s_204_9, ↓reduceIte, eq_self, rts_some, rts_none, nq_int, nq_ref, nq_null, nq_none, okr1_0, okr1_1, okr_b, List.length_nil, List.length_cons, Nat.zero_le, Nat.reduceAdd, Nat.reduceLeDiff, b2i_0, b2i_n0, b2i_1, b2i_n1, ite_not, if_true, if_false, not_true_eq_false, not_false_eq_true, true_and, and_true, false_and, and_false, e]
    rw [e_209]
    simp only [s_209_0, s_209_1, s_209_4, s_209_5, s_209_6, s_209_9, s_209_9_n, s_209_10, s_209_11, s_209_16, s_209_17, s_204_0, s_204_1, s_204_2, s_204_5, s_204_8, s_204_8_i, s_204_9, ↓reduceIte, eq_self, rts_some, rts_none, nq_int, nq_ref, nq_null, nq_none, okr1_0, okr1_1, okr_b, List.length_nil, List.length_cons, Nat.zero_le, Nat.reduceAdd, Nat.reduceLeDiff, b2i_0, b2i_n0, b2i_1, b2i_n1, ite_not, if_true, if_false, not_true_eq_false, not_false_eq_true, true_and, and_true, false_and, and_false, k1, k2, is1_i]
theorem c_charAt (hs : SR V h a l) (hl : CH l) {i : Nat} (hi : i < l.length) (hE : Ev 6 = .null ∨ ∃ a, Ev 6 = .ref a) : WP V (cdT Ev) mx (d + 4) 199 [.ref a, .int (nI i)] h Q = Q (some (.int (l.getD i 0))) h := by
  obtain ⟨v, g0, g1, gc, gl, ga⟩ := sr_gs0 hs
  obtain ⟨q, hq, eq⟩ := hl.2 i
  have hl6 := hl.1
  have hx := ix_nIT hi (show l.length < 2 ^ 31 by omega)
  have cc : ∀ Q : Option Value → HS → Prop, WP V (cdT Ev) mx (d + 3) 205 [.ref v, .int (nI i)] h Q = Q (some (.int (nI q))) h := by
    intro Q
    rw [e_205]
    simp only [s_205_0, s_205_1, s_205_1_n, s_205_2, s_205_3, s_205_6, s_205_6_n, s_205_7, s_205_8, s_205_9, s_205_12, s_205_13, s_205_14, ↓reduceIte, eq_self, rts_some, rts_none, nq_int, nq_ref, nq_null, nq_none, okr1_0, okr1_1, okr_b, List.length_nil, List.length_cons, Nat.zero_le, Nat.reduceAdd, Nat.reduceLeDiff, b2i_0, b2i_n0, b2i_1, b2i_n1, ite_not, if_true, if_false, not_true_eq_false, not_false_eq_true, true_and, and_true, false_and, and_false, gl, c_chk hi (show l.length < 2 ^ 31 by omega) hE, ga, hx, nI_clamp (show i < 2 ^ 31 by omega), eq, ch_255 q hq, ch_16 q hq, ch_ok q hq]
  rw [e_199]
  simp only [s_199_0, s_199_0_n, s_199_1, s_199_4, s_199_7, s_199_7_n, s_199_8, s_199_11, s_199_12, s_199_15, s_199_16, s_199_16_n, s_199_17, s_199_20, s_199_24, ↓reduceIte, eq_self, rts_some, rts_none, nq_int, nq_ref, nq_null, nq_none, okr1_0, okr1_1, okr_b, List.length_nil, List.length_cons, Nat.zero_le, Nat.reduceAdd, Nat.reduceLeDiff, b2i_0, b2i_n0, b2i_1, b2i_n1, ite_not, if_true, if_false, not_true_eq_false, not_false_eq_true, true_and, and_true, false_and, and_false, gc, c_isLat hs, show ((1 : Int32) = 0) = False from by decide, g0, cc, eq, ch_ok q hq]
theorem c_ixc_l {v : Nat} (hl : l.length ≤ 6) (ga : ∀ (i : Int32) (K : Int32 → Prop), ai 0 i V h v K = (ix i l.length ∧ K (l.getD i.toNatClampNeg 0))) {c c0 x2 : Int32} : ∀ m j, j + m = l.length → wp V (cdT Ev) mx d 208 7 [some (.ref v), some (.int c0), some (.int x2), some (.int (nI l.length)), some (.int c), some (.int (nI j))] [] h Q = Q (some (.int (ixO l c m j))) h := by
  intro m
  induction m with
  | zero =>
    intro j hj
    have : j = l.length := by omega
    subst this
    rw [s_208_7]
    simp only [s_208_0, s_208_1, s_208_2, s_208_4, s_208_5, s_208_9, s_208_10, s_208_13, s_208_13_n, s_208_14, s_208_16, s_208_17, s_208_19, s_208_22, s_208_24, s_208_25, s_208_28, s_208_31, s_208_32, ↓reduceIte, eq_self, rts_some, rts_none, nq_int, nq_ref, nq_null, nq_none, okr1_0, okr1_1, okr_b, List.length_nil, List.length_cons, Nat.zero_le, Nat.reduceAdd, Nat.reduceLeDiff, b2i_0, b2i_n0, b2i_1, b2i_n1, ite_not, if_true, if_false, not_true_eq_false, not_false_eq_true, true_and, and_true, false_and, and_false, Int32.le_refl, ixO]
  | succ m ih =>
    intro j hj
    have hlt : (nI l.length ≤ nI j) = False := eq_false (nI_ge (show j < l.length by omega) (by omega))
    have hx := ix_nIT (show j < l.length by omega) (show l.length < 2 ^ 31 by omega)
    rw [s_208_7]
    simp only [ixO]
    by_cases hc : l.getD j 0 = c
    · rw [if_pos hc]
      simp only [s_208_0, s_208_1, s_208_2, s_208_4, s_208_5, s_208_9, s_208_10, s_208_13, s_208_13_n, s_208_14, s_208_16, s_208_17, s_208_19, s_208_22, s_208_24, s_208_25, s_208_28, s_208_31, s_208_32, ↓reduceIte, eq_self, rts_some, rts_none, nq_int, nq_ref, nq_null, nq_none, okr1_0, okr1_1, okr_b, List.length_nil, List.length_cons, Nat.zero_le, Nat.reduceAdd, Nat.reduceLeDiff, b2i_0, b2i_n0, b2i_1, b2i_n1, ite_not, if_true, if_false, not_true_eq_false, not_false_eq_true, true_and, and_true, false_and, and_false, hlt, ga, hx, nI_clamp (show j < 2 ^ 31 by omega), eq_true hc]
    · rw [if_neg hc]
      simp only [s_208_0, s_208_1, s_208_2, s_208_4, s_208_5, s_208_9, s_208_10, s_208_13, s_208_13_n, s_208_14, s_208_16, s_208_17, s_208_19, s_208_22, s_208_24, s_208_25, s_208_28, s_208_31, s_208_32, ↓reduceIte, eq_self, rts_some, rts_none, nq_int, nq_ref, nq_null, nq_none, okr1_0, okr1_1, okr_b, List.length_nil, List.length_cons, Nat.zero_le, Nat.reduceAdd, Nat.reduceLeDiff, b2i_0, b2i_n0, b2i_1, b2i_n1, ite_not, if_true, if_false, not_true_eq_false, not_false_eq_true, true_and, and_true, false_and, and_false, hlt, ga, hx, nI_clamp (show j < 2 ^ 31 by omega), eq_false hc, nI_1]
      exact ih (j + 1) (by omega)
theorem c_indexOf (hs : SR V h a l) (hl : CH l) (hl0 : 0 < l.length) {q : Nat} (hq : q < 128) : WP V (cdT Ev) mx (d + 6) 200 [.ref a, .int (nI q)] h Q = Q (some (.int (ixO l (nI q) l.length 0))) h := by
  obtain ⟨v, g0, g1, gc, gl, ga⟩ := sr_gs0 hs
  have hl6 := hl.1
  have k1 : (nI q < (0 : Int32)) = False := eq_false (nI_pos (by omega))
  have k2 : ((255 : Int32) < nI q) = False := eq_false (nI_nlt (a := 255) (b := q) (by omega) (by decide))
  have ce : ∀ (d : Nat) (Q : Option Value → HS → Prop), WP V (cdT Ev) mx (d + 1) 206 [.int (nI q)] h Q = Q (some (.int 1)) h := by
    intro d Q
    rw [e_206]
    simp only [s_206_0, s_206_1, s_206_4, s_206_5, s_206_8, s_206_11, s_206_12, s_206_15, s_206_16, ↓reduceIte, eq_self, rts_some, rts_none, nq_int, nq_ref, nq_null, nq_none, okr1_0, okr1_1, okr_b, List.length_nil, List.length_cons, Nat.zero_le, Nat.reduceAdd, Nat.reduceLeDiff, b2i_0, b2i_n0, b2i_1, b2i_n1, ite_not, if_true, if_false, not_true_eq_false, not_false_eq_true, true_and, and_true, false_and, and_false, k1, k2]
  have k3 : (nI 0 < nI l.length) = True := eq_true (nI_lt hl0 (by omega))
  have ic : ∀ (d : Nat) (Q : Option Value → HS → Prop), WP V (cdT Ev) mx (d + 1) 208 [.ref v, .int (nI q), .int 0, .int (nI l.length)] h Q = Q (some (.int (ixO l (nI q) l.length 0))) h := by
    intro d Q
    rw [e_208]
    simp only [s_208_0, s_208_1, s_208_2, s_208_4, s_208_5, ↓reduceIte, eq_self, rts_some, rts_none, nq_int, nq_ref, nq_null, nq_none, okr1_0, okr1_1, okr_b, List.length_nil, List.length_cons, Nat.zero_le, Nat.reduceAdd, Nat.reduceLeDiff, b2i_0, b2i_n0, b2i_1, b2i_n1, ite_not, if_true, if_false, not_true_eq_false, not_false_eq_true, true_and, and_true, false_and, and_false, ch_8 q hq]
    exact c_ixc_l hl6 ga l.length 0 (by omega)
  have ii : ∀ (d : Nat) (Q : Option Value → HS → Prop), WP V (cdT Ev) mx (d + 2) 207 [.ref v, .int (nI q), .int 0, .int (nI l.length)] h Q = Q (some (.int (ixO l (nI q) l.length 0))) h := by
    intro d Q
    have e1 : (if (0 : Int32) < 0 then (0 : Int32) else 0) = 0 := rfl
    have k4 : ((0 : Int32) < nI l.length) = True := k3
    rw [e_207]
    simp only [s_207_0, s_207_1, s_207_4, s_207_7, s_207_8, s_207_9, s_207_10, s_207_11, s_207_14, s_207_15, s_207_16, s_207_16_n, s_207_17, s_207_18, s_207_21, s_207_22, s_207_23, s_207_24, s_207_27, s_207_28, s_207_29, s_207_29_n, s_207_30, s_207_31, s_207_32, s_207_33, s_207_36, ↓reduceIte, eq_self, rts_some, rts_none, nq_int, nq_ref, nq_null, nq_none, okr1_0, okr1_1, okr_b, List.length_nil, List.length_cons, Nat.zero_le, Nat.reduceAdd, Nat.reduceLeDiff, b2i_0, b2i_n0, b2i_1, b2i_n1, ite_not, if_true, if_false, not_true_eq_false, not_false_eq_true, true_and, and_true, false_and, and_false, ce, show ((1 : Int32) = 0) = False from by decide, j_max, j_min, e1, gl, ite_self, k4, ic]
  have i2 : ∀ (d : Nat) (Q : Option Value → HS → Prop), WP V (cdT Ev) mx (d + 3) 201 [.ref a, .int (nI q), .int 0] h Q = Q (some (.int (ixO l (nI q) l.length 0))) h := by
    intro d Q
    rw [e_201]
    simp only [s_201_0, s_201_0_n, s_201_1, s_201_4, s_201_7, s_201_7_n, s_201_8, s_201_11, s_201_12, s_201_13, s_201_13_n, s_201_14, s_201_17, s_201_20, s_201_23, s_201_23_n, s_201_24, s_201_27, s_201_28, s_201_29, s_201_29_n, s_201_30, s_201_36, ↓reduceIte, eq_self, rts_some, rts_none, nq_int, nq_ref, nq_null, nq_none, okr1_0, okr1_1, okr_b, List.length_nil, List.length_cons, Nat.zero_le, Nat.reduceAdd, Nat.reduceLeDiff, b2i_0, b2i_n0, b2i_1, b2i_n1, ite_not, if_true, if_false, not_true_eq_false, not_false_eq_true, true_and, and_true, false_and, and_false, gc, c_isLat hs, show ((1 : Int32) = 0) = False from by decide, g0, c_slen hs, ii]
  rw [e_200]
  simp only [s_200_0, s_200_0_n, s_200_1, s_200_2, s_200_3, s_200_6, ↓reduceIte, eq_self, rts_some, rts_none, nq_int, nq_ref, nq_null, nq_none, okr1_0, okr1_1, okr_b, List.length_nil, List.length_cons, Nat.zero_le, Nat.reduceAdd, Nat.reduceLeDiff, b2i_0, b2i_n0, b2i_1, b2i_n1, ite_not, if_true, if_false, not_true_eq_false, not_false_eq_true, true_and, and_true, false_and, and_false, gc, i2]
end
