/-! A person's urge: the class. -/
theorem kc_0 : kc 0 = 4 := by decide
theorem kc_1 : kc 1 = 6 := by decide
theorem kc_2 : kc 2 = 2 := by decide
theorem kc_3 : kc 3 = 3 := by decide
theorem kc_4 : kc 4 = 5 := by decide
theorem kc_5 : kc 5 = 1 := by decide
theorem kc_6 : kc 6 = 8 := by decide
theorem min9 {x : Int32} : (if 9 < x then 9 else x) = (if x < 9 then x else 9) := by
  by_cases h1 : 9 < x
  · rw [if_pos h1, if_neg (Int32.lt_asymm h1)]
  · rw [if_neg h1]
    by_cases h2 : x < 9
    · rw [if_pos h2]
    · rw [if_neg h2]
      exact Int32.le_antisymm (Int32.not_lt.mp h1) (Int32.not_lt.mp h2)
/-- what holds of a person in a world -/
def P1 (M : Nat → Int32) (i : Nat) : Prop := (∃ K, K < 7 ∧ M (14 + 9 * i + 0) = nI K) ∧ (M (14 + 9 * i + 3) = 0 ∨ M (14 + 9 * i + 3) = 1) ∧ isS (M (14 + 9 * i + 2))
/-- a person's cells: the object at B + 13 + i, its row at B + 19 + i -/
def PO (LG : Nat → Nat) (C : Nat → Option AE) (B : Nat) (M : Nat → Int32) (i : Nat) : Prop := C (B + 13 + i) = some (.inr (kc (M (14 + 9 * i + 0)), pfs LG B M i)) ∧ (M (14 + 9 * i + 0) = 6 → C (B + 19 + i) = some (.inl (2, 4, .inl (ca (14 + 9 * i + 5) 1 4 M))))
section
variable {V : Nat → Option AE} {LG gr : Nat → Nat} {B : Nat} {M : Nat → Int32} {C G : Nat → Option AE} {z : Nat × Nat}
theorem og_0 (hg : ∀ r, gr (LG r) = r) {i : Nat} (hp : PO LG C B M i) {K : Value → Prop} : gf [1, 2, 3, 4, 5, 6, 8] 0 (GH LG gr C G z) (LG (B + 13 + i)) K = K (.int (M (14 + 9 * i + 0))) := r_gf hg hp.1 (kc_in _) rfl
theorem og_1 (hg : ∀ r, gr (LG r) = r) {i : Nat} (hp : PO LG C B M i) {K : Value → Prop} : gf [1, 2, 3, 4, 5, 6, 8] 1 (GH LG gr C G z) (LG (B + 13 + i)) K = K (.int (nI i)) := r_gf hg hp.1 (kc_in _) rfl
theorem og_2 (hg : ∀ r, gr (LG r) = r) {i : Nat} (hp : PO LG C B M i) {K : Value → Prop} : gf [1, 2, 3, 4, 5, 6, 8] 2 (GH LG gr C G z) (LG (B + 13 + i)) K = K (.int (M (14 + 9 * i + 1))) := r_gf hg hp.1 (kc_in _) rfl
theorem og_3 (hg : ∀ r, gr (LG r) = r) {i : Nat} (hp : PO LG C B M i) {K : Value → Prop} : gf [1, 2, 3, 4, 5, 6, 8] 3 (GH LG gr C G z) (LG (B + 13 + i)) K = K (.int (M (14 + 9 * i + 2))) := r_gf hg hp.1 (kc_in _) rfl
theorem og_4 (hg : ∀ r, gr (LG r) = r) {i : Nat} (hp : PO LG C B M i) {K : Value → Prop} : gf [1, 2, 3, 4, 5, 6, 8] 4 (GH LG gr C G z) (LG (B + 13 + i)) K = K (.int (M (14 + 9 * i + 3))) := r_gf hg hp.1 (kc_in _) rfl
theorem og_5 (hg : ∀ r, gr (LG r) = r) {i : Nat} (hp : PO LG C B M i) {K : Value → Prop} : gf [1, 2, 3, 4, 5, 6, 8] 5 (GH LG gr C G z) (LG (B + 13 + i)) K = K (.int (M (14 + 9 * i + 4))) := r_gf hg hp.1 (kc_in _) rfl
theorem og_6 (hg : ∀ r, gr (LG r) = r) {i : Nat} (hp : PO LG C B M i) (hk : M (14 + 9 * i + 0) = 6) {K : Value → Prop} : gf [8] 6 (GH LG gr C G z) (LG (B + 13 + i)) K = K (.ref (LG (B + 19 + i))) := r_gf hg hp.1 (by rw [hk]; decide) (by simp only [pfs, hk, if_true]; rfl)
theorem oa_m (hg : ∀ r, gr (LG r) = r) {i : Nat} (hp : PO LG C B M i) (hk : M (14 + 9 * i + 0) = 6) {j : Int32} {K : Int32 → Prop} : ai 2 j V (GH LG gr C G z) (LG (B + 19 + i)) K = (ix j 4 ∧ K (M (14 + 9 * i + (5 + j.toNatClampNeg)))) := by
  rw [r_ai hg (hp.2 hk)]
  refine propext (and_congr_right (fun h => ?_))
  have h2 : j.toNatClampNeg < 4 := by
    unfold ix at h
    omega
  rw [ca_at h2, show 14 + 9 * i + 5 + 1 * j.toNatClampNeg = 14 + 9 * i + (5 + j.toNatClampNeg) by omega]
theorem ocv (hg : ∀ r, gr (LG r) = r) {i : Nat} (hp : PO LG C B M i) {tab : List (Nat × Nat)} {K : Nat → Prop} : cv tab (GH LG gr C G z) (LG (B + 13 + i)) K = cvk tab (M (14 + 9 * i + 0)) K := by
  simp only [cv, GH_at hg hp.1, cvk]
  cases tabl tab (kc (M (14 + 9 * i + 0))) <;> rfl
end
section
variable {V : Nat → Option AE} {Ev : Nat → Value} {d : Nat} {Q : Option Value → HS → Prop}
variable {LG gr : Nat → Nat} {B : Nat} {M F : Nat → Int32} {C G : Nat → Option AE} {z : Nat × Nat}
abbrev UT : List (Nat × Nat) := [(1, 16), (2, 19), (3, 22), (4, 26), (5, 31), (6, 35), (8, 43)]
theorem c_poet (hg : ∀ r, gr (LG r) = r) {i : Nat} (hp : PO LG C B M i) {s sum sz : Int32} (hc : kc (M (14 + 9 * i + 0)) ∈ [5, 6]) (hb : M (14 + 9 * i + 3) = 0 ∨ M (14 + 9 * i + 3) = 1) : WP V (cdT Ev) mx (d + 1) 35 [.ref (LG (B + 13 + i)), .int s, .int sum, .int sz] (GH LG gr C G z) Q = Q (some (.int (sum + (if M (14 + 9 * i + 3) = 1 then M (14 + 9 * i + 1) else 0)))) (GH LG gr C G z) := by
  have g4 : ∀ K : Value → Prop, gf [5, 6] 4 (GH LG gr C G z) (LG (B + 13 + i)) K = K (.int (M (14 + 9 * i + 3))) := fun K => r_gf hg hp.1 hc rfl
  have g2 : ∀ K : Value → Prop, gf [5, 6] 2 (GH LG gr C G z) (LG (B + 13 + i)) K = K (.int (M (14 + 9 * i + 1))) := fun K => r_gf hg hp.1 hc rfl
  have z10 : ((1 : Int32) = 0) = False := by decide
  have z01 : ((0 : Int32) = 1) = False := by decide
  rw [e_35]
  rcases hb with h0 | h1
  · simp only [s_35_0, s_35_0_n, s_35_1, s_35_4, s_35_7, s_35_8, s_35_8_n, s_35_9, s_35_12, s_35_13, s_35_16, s_35_17, ↓reduceIte, eq_self, rts_some, rts_none, nq_int, nq_ref, nq_null, nq_none, okr1_0, okr1_1, okr_b, List.length_nil, List.length_cons, Nat.zero_le, Nat.reduceAdd, Nat.reduceLeDiff, b2i_0, b2i_n0, b2i_1, b2i_n1, ite_not, if_true, if_false, not_true_eq_false, not_false_eq_true, true_and, and_true, false_and, and_false, g4, g2, h0, z01, Int32.add_zero]
  · simp only [s_35_0, s_35_0_n, s_35_1, s_35_4, s_35_7, s_35_8, s_35_8_n, s_35_9, s_35_12, s_35_13, s_35_16, s_35_17, ↓reduceIte, eq_self, rts_some, rts_none, nq_int, nq_ref, nq_null, nq_none, okr1_0, okr1_1, okr_b, List.length_nil, List.length_cons, Nat.zero_le, Nat.reduceAdd, Nat.reduceLeDiff, b2i_0, b2i_n0, b2i_1, b2i_n1, ite_not, if_true, if_false, not_true_eq_false, not_false_eq_true, true_and, and_true, false_and, and_false, g4, g2, h1, z10]
theorem c_urgeBy (hg : ∀ r, gr (LG r) = r) {i s : Nat} (hp : PO LG C B M i) (hs : s < 12) (hP : P1 M i) {sum sz : Int32} : cvk UT (M (14 + 9 * i + 0)) (fun y => WP V (cdT Ev) mx (d + 3) y [.ref (LG (B + 13 + i)), .int (nI s), .int sum, .int sz] (GH LG gr C G z) Q) = Q (some (.int (urg M i s sum sz))) (GH LG gr C G z) := by
  obtain ⟨⟨K, hK, eK⟩, hb, -⟩ := hP
  have z2 : ((2 : Int32) = 0) = False := by decide
  have z4 : ((4 : Int32) = 0) = False := by decide
  match K, hK, eK with
  | 0, _, eK =>
    have e0 : M (14 + 9 * i + 0) = 0 := eK
    have eu : urg M i s sum sz = sum := by
      unfold urg
      rw [e0]
      rfl
    rw [eu, e0]
    show WP V (cdT Ev) mx (d + 3) 26 _ _ _ = _
    rw [e_26]
    simp only [s_26_0, s_26_1, ↓reduceIte, eq_self, rts_some, rts_none, nq_int, nq_ref, nq_null, nq_none, okr1_0, okr1_1, okr_b, List.length_nil, List.length_cons, Nat.zero_le, Nat.reduceAdd, Nat.reduceLeDiff, b2i_0, b2i_n0, b2i_1, b2i_n1, ite_not, if_true, if_false, not_true_eq_false, not_false_eq_true, true_and, and_true, false_and, and_false]
  | 1, _, eK =>
    have e0 : M (14 + 9 * i + 0) = 1 := eK
    have eu : urg M i s sum sz = sum + (if M (14 + 9 * i + 3) = 1 then M (14 + 9 * i + 1) else 0) := by
      unfold urg
      rw [e0]
      rfl
    rw [eu, e0]
    exact c_poet (d := d + 2) hg hp (by rw [e0]; decide) hb
  | 2, _, eK =>
    have e0 : M (14 + 9 * i + 0) = 2 := eK
    have eu : urg M i s sum sz = sum / 2 := by
      unfold urg
      rw [e0]
      rfl
    rw [eu, e0]
    show WP V (cdT Ev) mx (d + 3) 19 _ _ _ = _
    rw [e_19]
    simp only [s_19_0, s_19_1, s_19_2, s_19_3, ↓reduceIte, eq_self, rts_some, rts_none, nq_int, nq_ref, nq_null, nq_none, okr1_0, okr1_1, okr_b, List.length_nil, List.length_cons, Nat.zero_le, Nat.reduceAdd, Nat.reduceLeDiff, b2i_0, b2i_n0, b2i_1, b2i_n1, ite_not, if_true, if_false, not_true_eq_false, not_false_eq_true, true_and, and_true, false_and, and_false, z2]
  | 3, _, eK =>
    have e0 : M (14 + 9 * i + 0) = 3 := eK
    have eu : urg M i s sum sz = sum - sz := by
      unfold urg
      rw [e0]
      rfl
    rw [eu, e0]
    show WP V (cdT Ev) mx (d + 3) 22 _ _ _ = _
    rw [e_22]
    simp only [s_22_0, s_22_1, s_22_2, s_22_3, ↓reduceIte, eq_self, rts_some, rts_none, nq_int, nq_ref, nq_null, nq_none, okr1_0, okr1_1, okr_b, List.length_nil, List.length_cons, Nat.zero_le, Nat.reduceAdd, Nat.reduceLeDiff, b2i_0, b2i_n0, b2i_1, b2i_n1, ite_not, if_true, if_false, not_true_eq_false, not_false_eq_true, true_and, and_true, false_and, and_false]
  | 4, _, eK =>
    have e0 : M (14 + 9 * i + 0) = 4 := eK
    have eu : urg M i s sum sz = if nI s - nI s / 2 * 2 = 0 then 2 * (sum + (if M (14 + 9 * i + 3) = 1 then M (14 + 9 * i + 1) else 0)) else sum + (if M (14 + 9 * i + 3) = 1 then M (14 + 9 * i + 1) else 0) := by
      unfold urg
      rw [e0]
      rfl
    have hcv : ∀ K : Nat → Prop, cv [(5, 35)] (GH LG gr C G z) (LG (B + 13 + i)) K = K 35 := fun K => r_cv hg hp.1 (by rw [e0]; rfl)
    rw [eu, e0]
    show WP V (cdT Ev) mx (d + 3) 31 _ _ _ = _
    rw [e_31]
    have hq := fun (Q : Option Value → HS → Prop) => c_poet (V := V) (Ev := Ev) (d := d + 1) (Q := Q) (C := C) (G := G) (z := z) (B := B) (s := nI s) (sum := sum) (sz := sz) hg hp (by rw [e0]; decide) hb
    simp only [s_31_0, s_31_0_n, s_31_1, s_31_2, s_31_3, s_31_4, s_31_7, s_31_9, s_31_10, s_31_11, s_31_12, s_31_15, s_31_17, s_31_18, s_31_19, s_31_22, s_31_24, ↓reduceIte, eq_self, rts_some, rts_none, nq_int, nq_ref, nq_null, nq_none, okr1_0, okr1_1, okr_b, List.length_nil, List.length_cons, Nat.zero_le, Nat.reduceAdd, Nat.reduceLeDiff, b2i_0, b2i_n0, b2i_1, b2i_n1, ite_not, if_true, if_false, not_true_eq_false, not_false_eq_true, true_and, and_true, false_and, and_false, hcv, hq, z2]
    by_cases h2 : nI s - nI s / 2 * 2 = 0
    · rw [if_pos h2, if_pos h2, Int32.mul_comm]
    · rw [if_neg h2, if_neg h2]
  | 5, _, eK =>
    have e0 : M (14 + 9 * i + 0) = 5 := eK
    have eu : urg M i s sum sz = sum / 2 - (if M (14 + 9 * i + 4) < 9 then M (14 + 9 * i + 4) else 9) := by
      unfold urg
      rw [e0]
      rfl
    have hcv : ∀ K : Nat → Prop, cv [(1, 19)] (GH LG gr C G z) (LG (B + 13 + i)) K = K 19 := fun K => r_cv hg hp.1 (by rw [e0]; rfl)
    have g5 : ∀ K : Value → Prop, gf [1] 5 (GH LG gr C G z) (LG (B + 13 + i)) K = K (.int (M (14 + 9 * i + 4))) := fun K => r_gf hg hp.1 (by rw [e0]; decide) rfl
    have hcl : ∀ (d : Nat) (x y z : Int32) (h : HS) (a : Nat) (Q : Option Value → HS → Prop), WP V (cdT Ev) mx (d + 1) 19 [.ref a, .int x, .int y, .int z] h Q = Q (some (.int (y / 2))) h := by
      intro d x y z h a Q
      rw [e_19]
      simp only [s_19_0, s_19_1, s_19_2, s_19_3, ↓reduceIte, eq_self, rts_some, rts_none, nq_int, nq_ref, nq_null, nq_none, okr1_0, okr1_1, okr_b, List.length_nil, List.length_cons, Nat.zero_le, Nat.reduceAdd, Nat.reduceLeDiff, b2i_0, b2i_n0, b2i_1, b2i_n1, ite_not, if_true, if_false, not_true_eq_false, not_false_eq_true, true_and, and_true, false_and, and_false, z2]
    rw [eu, e0]
    show WP V (cdT Ev) mx (d + 3) 16 _ _ _ = _
    rw [e_16]
    simp only [s_16_0, s_16_0_n, s_16_1, s_16_2, s_16_3, s_16_4, s_16_7, s_16_7_n, s_16_8, s_16_11, s_16_13, s_16_16, s_16_17, ↓reduceIte, eq_self, rts_some, rts_none, nq_int, nq_ref, nq_null, nq_none, okr1_0, okr1_1, okr_b, List.length_nil, List.length_cons, Nat.zero_le, Nat.reduceAdd, Nat.reduceLeDiff, b2i_0, b2i_n0, b2i_1, b2i_n1, ite_not, if_true, if_false, not_true_eq_false, not_false_eq_true, true_and, and_true, false_and, and_false, hcv, g5, hcl, j_min, min9]
  | 6, _, eK =>
    have e0 : M (14 + 9 * i + 0) = 6 := eK
    have eu : urg M i s sum sz = sum - sz + M (14 + 9 * i + (5 + s % 4)) := by
      unfold urg
      rw [e0]
      rfl
    have hcv : ∀ K : Nat → Prop, cv [(8, 22)] (GH LG gr C G z) (LG (B + 13 + i)) K = K 22 := fun K => r_cv hg hp.1 (by rw [e0]; rfl)
    have hcl : ∀ (d : Nat) (x y z : Int32) (h : HS) (a : Nat) (Q : Option Value → HS → Prop), WP V (cdT Ev) mx (d + 1) 22 [.ref a, .int x, .int y, .int z] h Q = Q (some (.int (y - z))) h := by
      intro d x y z h a Q
      rw [e_22]
      simp only [s_22_0, s_22_1, s_22_2, s_22_3, ↓reduceIte, eq_self, rts_some, rts_none, nq_int, nq_ref, nq_null, nq_none, okr1_0, okr1_1, okr_b, List.length_nil, List.length_cons, Nat.zero_le, Nat.reduceAdd, Nat.reduceLeDiff, b2i_0, b2i_n0, b2i_1, b2i_n1, ite_not, if_true, if_false, not_true_eq_false, not_false_eq_true, true_and, and_true, false_and, and_false]
    have hr : nI s - nI s / 4 * 4 = nI (s % 4) := pk_rem (d := 4) (by omega) (by decide) (by decide)
    have hx : ix (nI (s % 4)) 4 = True := ix_nIT (by omega) (by decide)
    rw [eu, e0]
    show WP V (cdT Ev) mx (d + 3) 43 _ _ _ = _
    rw [e_43]
    simp only [s_43_0, s_43_0_n, s_43_1, s_43_2, s_43_3, s_43_4, s_43_7, s_43_7_n, s_43_8, s_43_11, s_43_12, s_43_13, s_43_14, s_43_15, s_43_16, ↓reduceIte, eq_self, rts_some, rts_none, nq_int, nq_ref, nq_null, nq_none, okr1_0, okr1_1, okr_b, List.length_nil, List.length_cons, Nat.zero_le, Nat.reduceAdd, Nat.reduceLeDiff, b2i_0, b2i_n0, b2i_1, b2i_n1, ite_not, if_true, if_false, not_true_eq_false, not_false_eq_true, true_and, and_true, false_and, and_false, hcv, hcl, og_6 hg hp e0, oa_m hg hp e0, hr, hx, nI_clamp (show s % 4 < 2 ^ 31 by omega), z4]
end
