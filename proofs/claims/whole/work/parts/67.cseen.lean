/-! What is seen of one, sets by their sizes: the class. -/
/-- what the rows seen tell of one: -2 nothing, -3 unlike ones -/
def soF (M : Nat → Int32) (p : Int32) : Nat → Nat → Int32 → Int32
  | 0, _, t => t
  | f + 1, r, t => if M (72 + 2 * r) = p then (if ¬ t = -2 ∧ ¬ t = M (73 + 2 * r) then -3 else soF M p f (r + 1) (M (73 + 2 * r))) else soF M p f (r + 1) t
/-- whether all is as seen -/
def isF (M : Nat → Int32) (cl : List Cls) : Nat → Nat → Bool
  | 0, _ => true
  | f + 1, r => if tipF M cl (M (72 + 2 * r)).toNatClampNeg (M (14 + 9 * (M (72 + 2 * r)).toNatClampNeg + 2)) = M (73 + 2 * r) then isF M cl f (r + 1) else false
def SEok (M : Nat → Int32) (k c : Nat) : Prop := M 71 = nI k ∧ k ≤ 5 ∧ ∀ r, r < k → (∃ i, i < c ∧ M (72 + 2 * r) = nI i) ∧ (M (73 + 2 * r) = -1 ∨ ∃ s, s < 12 ∧ M (73 + 2 * r) = nI s)
def uF (M : Nat → Int32) (cl : List Cls) (i sz : Nat) : Nat → Int32 := fun s => urg M i s (smF M cl i s) (nI sz)
def bnF (u : Nat → Int32) (t : Nat) : Nat → Nat
  | 0 => 0
  | s + 1 => bnF u t s + (if u s < u t ∨ (u s = u t ∧ t < s) then 1 else 0)
def unF (u : Nat → Int32) : Nat → Nat
  | 0 => 0
  | s + 1 => unF u s + (if 0 < u s then 0 else 1)
def chF (a : Nat) : Nat → Nat
  | 0 => 1
  | i + 1 => chF a i * (a - i) / (i + 1)
def chV (a n : Nat) : Nat := if a < n then 0 else chF a n
def swF (M : Nat → Int32) (cl : List Cls) (i t : Nat) : Nat → Nat
  | 0 => 0
  | m + 1 => swF M cl i t m + (if 0 < uF M cl i (m + 1) t then chV (bnF (uF M cl i (m + 1)) t 12) m else 0)
def sxF (M : Nat → Int32) (cl : List Cls) (i : Nat) : Nat → Nat
  | 0 => 0
  | m + 1 => sxF M cl i m + chV (unF (uF M cl i m) 12) m
theorem bnF_le {u : Nat → Int32} {t : Nat} : ∀ s, bnF u t s ≤ s := by
  intro s
  induction s with
  | zero => exact Nat.le_refl _
  | succ s ih =>
    simp only [bnF]
    split <;> omega
theorem unF_le {u : Nat → Int32} : ∀ s, unF u s ≤ s := by
  intro s
  induction s with
  | zero => exact Nat.le_refl _
  | succ s ih =>
    simp only [unF]
    split <;> omega
theorem chF_le : ∀ a, a < 13 → ∀ i, i < 13 → chF a i ≤ 1000 := by decide
section
variable {V : Nat → Option AE} {Ev : Nat → Value} {d : Nat} {Q : Option Value → HS → Prop}
theorem c_choices_l {a n : Nat} (ha : a ≤ 12) (hn : n ≤ a) {h : HS} : ∀ m j, j + m = n → wp V (cdT Ev) mx d 111 15 [some (.int (nI a)), some (.int (nI n)), some (.int (nI (chF a j))), some (.int (nI j))] [] h Q = Q (some (.int (nI (chF a n)))) h := by
  intro m
  induction m with
  | zero =>
    intro j hj
    have : j = n := by omega
    subst this
    simp only [s_111_0, s_111_1, s_111_4, s_111_5, s_111_6, s_111_9, s_111_10, s_111_11, s_111_12, s_111_13, s_111_14, s_111_15, s_111_16, s_111_17, s_111_20, s_111_21, s_111_22, s_111_23, s_111_24, s_111_25, s_111_26, s_111_27, s_111_28, s_111_29, s_111_30, s_111_33, s_111_36, s_111_37, ↓reduceIte, eq_self, rts_some, rts_none, nq_int, nq_ref, nq_null, nq_none, okr1_0, okr1_1, okr_b, List.length_nil, List.length_cons, Nat.zero_le, Nat.reduceAdd, Nat.reduceLeDiff, b2i_0, b2i_n0, b2i_1, b2i_n1, ite_not, if_true, if_false, not_true_eq_false, not_false_eq_true, true_and, and_true, false_and, and_false, Int32.le_refl]
  | succ m ih =>
    intro j hj
    have hlt : (nI n ≤ nI j) = False := eq_false (nI_ge (show j < n by omega) (by omega))
    have hb := chF_le a (by omega) j (by omega)
    have h0 : (nI (j + 1) = 0) = False := eq_false (nI_ne0 (by omega) (by omega))
    have hlt2 : chF a j * (a - j) < 2 ^ 31 := Nat.lt_of_le_of_lt (Nat.mul_le_mul hb (show a - j ≤ 12 by omega)) (by decide)
    have e : nI (chF a j) * (nI a - nI j) / nI (j + 1) = nI (chF a (j + 1)) := by
      rw [pk_sub (by omega), pk_mul, pk_div hlt2 (by omega) (by omega)]
      rfl
    rw [s_111_15]
    simp only [s_111_0, s_111_1, s_111_4, s_111_5, s_111_6, s_111_9, s_111_10, s_111_11, s_111_12, s_111_13, s_111_14, s_111_16, s_111_17, s_111_20, s_111_21, s_111_22, s_111_23, s_111_24, s_111_25, s_111_26, s_111_27, s_111_28, s_111_29, s_111_30, s_111_33, s_111_36, s_111_37, ↓reduceIte, eq_self, rts_some, rts_none, nq_int, nq_ref, nq_null, nq_none, okr1_0, okr1_1, okr_b, List.length_nil, List.length_cons, Nat.zero_le, Nat.reduceAdd, Nat.reduceLeDiff, b2i_0, b2i_n0, b2i_1, b2i_n1, ite_not, if_true, if_false, not_true_eq_false, not_false_eq_true, true_and, and_true, false_and, and_false, hlt, nI_1, h0, e]
    exact ih (j + 1) (by omega)
theorem c_choices {a n : Nat} (ha : a ≤ 12) (hn : n ≤ 12) {h : HS} : WP V (cdT Ev) mx (d + 1) 111 [.int (nI a), .int (nI n)] h Q = Q (some (.int (nI (chV a n)))) h := by
  rw [e_111]
  unfold chV
  by_cases hl : a < n
  · rw [if_pos hl]
    simp only [s_111_0, s_111_1, s_111_4, s_111_5, s_111_6, s_111_9, s_111_10, s_111_11, s_111_12, s_111_13, s_111_14, s_111_15, s_111_16, s_111_17, s_111_20, s_111_21, s_111_22, s_111_23, s_111_24, s_111_25, s_111_26, s_111_27, s_111_28, s_111_29, s_111_30, s_111_33, s_111_36, s_111_37, ↓reduceIte, eq_self, rts_some, rts_none, nq_int, nq_ref, nq_null, nq_none, okr1_0, okr1_1, okr_b, List.length_nil, List.length_cons, Nat.zero_le, Nat.reduceAdd, Nat.reduceLeDiff, b2i_0, b2i_n0, b2i_1, b2i_n1, ite_not, if_true, if_false, not_true_eq_false, not_false_eq_true, true_and, and_true, false_and, and_false, eq_false (nI_pos (show n < 2 ^ 31 by omega)), eq_false (nI_ge hl (show n < 2 ^ 31 by omega))]
    rfl
  · rw [if_neg hl]
    simp only [s_111_0, s_111_1, s_111_4, s_111_5, s_111_6, s_111_11, s_111_12, s_111_13, s_111_14, ↓reduceIte, eq_self, rts_some, rts_none, nq_int, nq_ref, nq_null, nq_none, okr1_0, okr1_1, okr_b, List.length_nil, List.length_cons, Nat.zero_le, Nat.reduceAdd, Nat.reduceLeDiff, b2i_0, b2i_n0, b2i_1, b2i_n1, ite_not, if_true, if_false, not_true_eq_false, not_false_eq_true, true_and, and_true, false_and, and_false, eq_false (nI_pos (show n < 2 ^ 31 by omega)), eq_true (nI_le (show n ≤ a by omega) (show a < 2 ^ 31 by omega))]
    exact c_choices_l ha (by omega) n 0 (by omega)
theorem c_choices_m {n : Nat} (hn : n ≤ 12) {h : HS} : WP V (cdT Ev) mx (d + 1) 111 [.int (-1), .int (nI n)] h Q = Q (some (.int 0)) h := by
  have h1 : (nI n ≤ -1) = False := eq_false (fun h => by
    have h2 := nI_pos' (n := n) (by omega)
    exact absurd (Int32.le_trans h2 h) (by decide))
  rw [e_111]
  simp only [s_111_0, s_111_1, s_111_4, s_111_5, s_111_6, s_111_9, s_111_10, s_111_11, s_111_12, s_111_13, s_111_14, s_111_15, s_111_16, s_111_17, s_111_20, s_111_21, s_111_22, s_111_23, s_111_24, s_111_25, s_111_26, s_111_27, s_111_28, s_111_29, s_111_30, s_111_33, s_111_36, s_111_37, ↓reduceIte, eq_self, rts_some, rts_none, nq_int, nq_ref, nq_null, nq_none, okr1_0, okr1_1, okr_b, List.length_nil, List.length_cons, Nat.zero_le, Nat.reduceAdd, Nat.reduceLeDiff, b2i_0, b2i_n0, b2i_1, b2i_n1, ite_not, if_true, if_false, not_true_eq_false, not_false_eq_true, true_and, and_true, false_and, and_false, eq_false (nI_pos (show n < 2 ^ 31 by omega)), h1]
variable {LG gr : Nat → Nat} {B : Nat} {M F : Nat → Int32} {ex : Nat → Bool} {hd : Option Nat} {C G : Nat → Option AE} {z : Nat × Nat} {cl : List Cls}
theorem c_seenOf_l (hg : ∀ r, gr (LG r) = r) {k : Nat} (hk : k ≤ 5) (h71 : M 71 = nI k) {p : Int32} : ∀ m j, j + m = k → ∀ t, wp V (cdT Ev) mx d 63 5 [some (.ref (LG B)), some (.int p), some (.int t), some (.int (nI j))] [] (GW LG gr B M F ex hd C G z) Q = Q (some (.int (soF M p m j t))) (GW LG gr B M F ex hd C G z) := by
  intro m
  induction m with
  | zero =>
    intro j hj t
    have : j = k := by omega
    subst this
    simp only [s_63_0, s_63_2, s_63_3, s_63_4, s_63_5, s_63_6, s_63_6_n, s_63_7, s_63_10, s_63_13, s_63_16, s_63_16_n, s_63_17, s_63_20, s_63_23, s_63_24, s_63_25, s_63_26, s_63_29, s_63_30, s_63_32, s_63_35, s_63_36, s_63_36_n, s_63_37, s_63_40, s_63_43, s_63_44, s_63_45, s_63_48, s_63_50, s_63_51, s_63_51_n, s_63_52, s_63_55, s_63_58, s_63_59, s_63_60, s_63_61, s_63_64, s_63_67, s_63_68, ↓reduceIte, eq_self, rts_some, rts_none, nq_int, nq_ref, nq_null, nq_none, okr1_0, okr1_1, okr_b, List.length_nil, List.length_cons, Nat.zero_le, Nat.reduceAdd, Nat.reduceLeDiff, b2i_0, b2i_n0, b2i_1, b2i_n1, ite_not, if_true, if_false, not_true_eq_false, not_false_eq_true, true_and, and_true, false_and, and_false, wg_6 hg, wrg_3_2 hg, h71, Int32.le_refl, soF]
  | succ m ih =>
    intro j hj t
    have hlt : (nI k ≤ nI j) = False := eq_false (nI_ge (show j < k by omega) (by omega))
    have hx : ix (nI j) 5 = True := ix_nIT (by omega) (by decide)
    have hcl := nI_clamp (show j < 2 ^ 31 by omega)
    rw [s_63_5]
    simp only [soF]
    by_cases h1 : M (72 + 2 * j) = p
    · by_cases h2 : t = -2
      · rw [if_pos h1, if_neg (fun h => h.1 h2)]
        simp only [s_63_0, s_63_2, s_63_3, s_63_4, s_63_6, s_63_6_n, s_63_7, s_63_10, s_63_13, s_63_16, s_63_16_n, s_63_17, s_63_20, s_63_23, s_63_24, s_63_25, s_63_26, s_63_29, s_63_30, s_63_32, s_63_35, s_63_36, s_63_36_n, s_63_37, s_63_40, s_63_43, s_63_44, s_63_45, s_63_48, s_63_50, s_63_51, s_63_51_n, s_63_52, s_63_55, s_63_58, s_63_59, s_63_60, s_63_61, s_63_64, s_63_67, s_63_68, ↓reduceIte, eq_self, rts_some, rts_none, nq_int, nq_ref, nq_null, nq_none, okr1_0, okr1_1, okr_b, List.length_nil, List.length_cons, Nat.zero_le, Nat.reduceAdd, Nat.reduceLeDiff, b2i_0, b2i_n0, b2i_1, b2i_n1, ite_not, if_true, if_false, not_true_eq_false, not_false_eq_true, true_and, and_true, false_and, and_false, wg_6 hg, wrg_3_2 hg, wrg_3_0 hg, wrg_3_1 hg, wa_4 hg, wa_5 hg, h71, hlt, hx, hcl, h1, h2, nI_1]
        exact ih (j + 1) (by omega) _
      · by_cases h3 : t = M (73 + 2 * j)
        · rw [if_pos h1, if_neg (fun h => h.2 h3)]
          simp only [s_63_0, s_63_2, s_63_3, s_63_4, s_63_6, s_63_6_n, s_63_7, s_63_10, s_63_13, s_63_16, s_63_16_n, s_63_17, s_63_20, s_63_23, s_63_24, s_63_25, s_63_26, s_63_29, s_63_30, s_63_32, s_63_35, s_63_36, s_63_36_n, s_63_37, s_63_40, s_63_43, s_63_44, s_63_45, s_63_48, s_63_50, s_63_51, s_63_51_n, s_63_52, s_63_55, s_63_58, s_63_59, s_63_60, s_63_61, s_63_64, s_63_67, s_63_68, ↓reduceIte, eq_self, rts_some, rts_none, nq_int, nq_ref, nq_null, nq_none, okr1_0, okr1_1, okr_b, List.length_nil, List.length_cons, Nat.zero_le, Nat.reduceAdd, Nat.reduceLeDiff, b2i_0, b2i_n0, b2i_1, b2i_n1, ite_not, if_true, if_false, not_true_eq_false, not_false_eq_true, true_and, and_true, false_and, and_false, wg_6 hg, wrg_3_2 hg, wrg_3_0 hg, wrg_3_1 hg, wa_4 hg, wa_5 hg, h71, hlt, hx, hcl, h1, eq_false h2, eq_true h3, nI_1]
          exact ih (j + 1) (by omega) _
        · rw [if_pos h1, if_pos ⟨h2, h3⟩]
          simp only [s_63_0, s_63_2, s_63_3, s_63_4, s_63_6, s_63_6_n, s_63_7, s_63_10, s_63_13, s_63_16, s_63_16_n, s_63_17, s_63_20, s_63_23, s_63_24, s_63_25, s_63_26, s_63_29, s_63_30, s_63_32, s_63_35, s_63_36, s_63_36_n, s_63_37, s_63_40, s_63_43, s_63_44, s_63_45, s_63_48, s_63_50, s_63_51, s_63_51_n, s_63_52, s_63_55, s_63_58, s_63_59, s_63_60, s_63_61, s_63_64, s_63_67, s_63_68, ↓reduceIte, eq_self, rts_some, rts_none, nq_int, nq_ref, nq_null, nq_none, okr1_0, okr1_1, okr_b, List.length_nil, List.length_cons, Nat.zero_le, Nat.reduceAdd, Nat.reduceLeDiff, b2i_0, b2i_n0, b2i_1, b2i_n1, ite_not, if_true, if_false, not_true_eq_false, not_false_eq_true, true_and, and_true, false_and, and_false, wg_6 hg, wrg_3_2 hg, wrg_3_0 hg, wrg_3_1 hg, wa_4 hg, wa_5 hg, h71, hlt, hx, hcl, h1, h2, h3, nI_1]
    · rw [if_neg h1]
      simp only [s_63_0, s_63_2, s_63_3, s_63_4, s_63_6, s_63_6_n, s_63_7, s_63_10, s_63_13, s_63_16, s_63_16_n, s_63_17, s_63_20, s_63_23, s_63_24, s_63_25, s_63_26, s_63_29, s_63_30, s_63_32, s_63_35, s_63_36, s_63_36_n, s_63_37, s_63_40, s_63_43, s_63_44, s_63_45, s_63_48, s_63_50, s_63_51, s_63_51_n, s_63_52, s_63_55, s_63_58, s_63_59, s_63_60, s_63_61, s_63_64, s_63_67, s_63_68, ↓reduceIte, eq_self, rts_some, rts_none, nq_int, nq_ref, nq_null, nq_none, okr1_0, okr1_1, okr_b, List.length_nil, List.length_cons, Nat.zero_le, Nat.reduceAdd, Nat.reduceLeDiff, b2i_0, b2i_n0, b2i_1, b2i_n1, ite_not, if_true, if_false, not_true_eq_false, not_false_eq_true, true_and, and_true, false_and, and_false, wg_6 hg, wrg_3_2 hg, wrg_3_0 hg, wrg_3_1 hg, wa_4 hg, wa_5 hg, h71, hlt, hx, hcl, h1, nI_1]
      exact ih (j + 1) (by omega) _
theorem c_seenOf (hg : ∀ r, gr (LG r) = r) {k : Nat} (hk : k ≤ 5) (h71 : M 71 = nI k) {p : Int32} : WP V (cdT Ev) mx (d + 1) 63 [.ref (LG B), .int p] (GW LG gr B M F ex hd C G z) Q = Q (some (.int (soF M p k 0 (-2)))) (GW LG gr B M F ex hd C G z) := by
  rw [e_63]
  simp only [s_63_0, s_63_2, s_63_3, s_63_4, ↓reduceIte, eq_self, rts_some, rts_none, nq_int, nq_ref, nq_null, nq_none, okr1_0, okr1_1, okr_b, List.length_nil, List.length_cons, Nat.zero_le, Nat.reduceAdd, Nat.reduceLeDiff, b2i_0, b2i_n0, b2i_1, b2i_n1, ite_not, if_true, if_false, not_true_eq_false, not_false_eq_true, true_and, and_true, false_and, and_false]
  exact c_seenOf_l hg hk h71 k 0 (by omega) _
theorem c_isSeenSo_l (hg : ∀ r, gr (LG r) = r) {k c : Nat} (hs : SEok M k c) (hk : WK M ex c) (hb : HB LG C B hd cl) (H : ∀ F', Q (some (.int (bI (isF M cl k 0)))) (GW LG gr B M F' ex hd C G z)) : ∀ m j, j + m = k → isF M cl k 0 = isF M cl m j → ∀ F l2, nl l2 = true → wp V (cdT Ev) mx (d + 4) 64 2 [some (.ref (LG B)), some (.int (nI j)), l2] [] (GW LG gr B M F ex hd C G z) Q := by
  obtain ⟨h71, hk5, hr⟩ := hs
  intro m
  induction m with
  | zero =>
    intro j hj hI F l2 n2
    have : j = k := by omega
    subst this
    have H' := H F
    rw [hI] at H'
    simp only [s_64_0, s_64_1, s_64_2, s_64_3, s_64_3_n, s_64_4, s_64_7, s_64_10, s_64_13, s_64_13_n, s_64_14, s_64_14_n, s_64_15, s_64_18, s_64_21, s_64_22, s_64_23, s_64_26, s_64_26_n, s_64_27, s_64_27_n, s_64_28, s_64_28_n, s_64_31, s_64_31_n, s_64_32, s_64_32_n, s_64_33, s_64_33_n, s_64_34, s_64_37, s_64_40, s_64_40_n, s_64_41, s_64_44, s_64_47, s_64_48, s_64_49, s_64_52, s_64_53, s_64_54, s_64_57, s_64_60, s_64_61, ↓reduceIte, eq_self, rts_some, rts_none, nq_int, nq_ref, nq_null, nq_none, okr1_0, okr1_1, okr_b, List.length_nil, List.length_cons, Nat.zero_le, Nat.reduceAdd, Nat.reduceLeDiff, b2i_0, b2i_n0, b2i_1, b2i_n1, ite_not, if_true, if_false, not_true_eq_false, not_false_eq_true, true_and, and_true, false_and, and_false, wg_6 hg, wrg_3_2 hg, h71, Int32.le_refl]
    exact H'
  | succ m ih =>
    intro j hj hI F l2 n2
    have hlt : (nI k ≤ nI j) = False := eq_false (nI_ge (show j < k by omega) (by omega))
    have hx : ix (nI j) 5 = True := ix_nIT (by omega) (by decide)
    have hcl := nI_clamp (show j < 2 ^ 31 by omega)
    obtain ⟨⟨i, hi, ei⟩, -⟩ := hr j (by omega)
    have hi6 := WK_6 hk hi
    have pa := fun (Q : Option Value → HS → Prop) => c_pAt_y (V := V) (Ev := Ev) (d := d + 3) (Q := Q) (B := B) (F := F) (hd := hd) (C := C) (G := G) (z := z) hg hk hi
    rw [s_64_2]
    simp only [s_64_0, s_64_1, s_64_3, s_64_3_n, s_64_4, s_64_7, s_64_10, s_64_13, s_64_13_n, s_64_14, s_64_14_n, s_64_15, s_64_18, s_64_21, s_64_22, s_64_23, s_64_26, s_64_26_n, s_64_27, s_64_27_n, s_64_28, s_64_28_n, s_64_31, s_64_31_n, s_64_32, s_64_32_n, s_64_33, s_64_33_n, s_64_34, s_64_37, s_64_40, s_64_40_n, s_64_41, s_64_44, s_64_47, s_64_48, s_64_49, s_64_52, s_64_53, s_64_54, s_64_57, s_64_60, s_64_61, ↓reduceIte, eq_self, rts_some, rts_none, nq_int, nq_ref, nq_null, nq_none, okr1_0, okr1_1, okr_b, List.length_nil, List.length_cons, Nat.zero_le, Nat.reduceAdd, Nat.reduceLeDiff, b2i_0, b2i_n0, b2i_1, b2i_n1, ite_not, if_true, if_false, not_true_eq_false, not_false_eq_true, true_and, and_true, false_and, and_false, wg_6 hg, wrg_3_2 hg, wrg_3_0 hg, wa_4 hg, h71, hlt, hx, hcl, ei, wcv hg, pa, n2, pg_3 hg hi6 (WK_1 hk hi)]
    refine c_tipOf hg (WK_P hk hi).2.2 (fun F => PO_W hi6 (WK_1 hk hi)) (WK_P hk hi) AG_self hb (fun F' => ?_)
    simp only [isF, ei, nI_clamp (show i < 2 ^ 31 by omega)] at hI
    by_cases ht : tipF M cl i (M (14 + 9 * i + 2)) = M (73 + 2 * j)
    · rw [if_pos ht] at hI
      simp only [s_64_0, s_64_1, s_64_3, s_64_3_n, s_64_4, s_64_7, s_64_10, s_64_13, s_64_13_n, s_64_14, s_64_14_n, s_64_15, s_64_18, s_64_21, s_64_22, s_64_23, s_64_26, s_64_26_n, s_64_27, s_64_27_n, s_64_28, s_64_28_n, s_64_31, s_64_31_n, s_64_32, s_64_32_n, s_64_33, s_64_33_n, s_64_34, s_64_37, s_64_40, s_64_40_n, s_64_41, s_64_44, s_64_47, s_64_48, s_64_49, s_64_52, s_64_53, s_64_54, s_64_57, s_64_60, s_64_61, ↓reduceIte, eq_self, rts_some, rts_none, nq_int, nq_ref, nq_null, nq_none, okr1_0, okr1_1, okr_b, List.length_nil, List.length_cons, Nat.zero_le, Nat.reduceAdd, Nat.reduceLeDiff, b2i_0, b2i_n0, b2i_1, b2i_n1, ite_not, if_true, if_false, not_true_eq_false, not_false_eq_true, true_and, and_true, false_and, and_false, wg_6 hg, wrg_3_1 hg, wa_5 hg, hx, hcl, eq_true ht, nI_1]
      exact ih (j + 1) (by omega) hI F' _ nq_ref
    · rw [if_neg ht] at hI
      have H' := H F'
      rw [hI] at H'
      simp only [s_64_0, s_64_1, s_64_3, s_64_3_n, s_64_4, s_64_7, s_64_10, s_64_13, s_64_13_n, s_64_14, s_64_14_n, s_64_15, s_64_18, s_64_21, s_64_22, s_64_23, s_64_26, s_64_26_n, s_64_27, s_64_27_n, s_64_28, s_64_28_n, s_64_31, s_64_31_n, s_64_32, s_64_32_n, s_64_33, s_64_33_n, s_64_34, s_64_37, s_64_40, s_64_40_n, s_64_41, s_64_44, s_64_47, s_64_48, s_64_49, s_64_52, s_64_53, s_64_54, s_64_57, s_64_60, s_64_61, ↓reduceIte, eq_self, rts_some, rts_none, nq_int, nq_ref, nq_null, nq_none, okr1_0, okr1_1, okr_b, List.length_nil, List.length_cons, Nat.zero_le, Nat.reduceAdd, Nat.reduceLeDiff, b2i_0, b2i_n0, b2i_1, b2i_n1, ite_not, if_true, if_false, not_true_eq_false, not_false_eq_true, true_and, and_true, false_and, and_false, wg_6 hg, wrg_3_1 hg, wa_5 hg, hx, hcl, eq_false ht, nI_1]
      exact H'
theorem c_isSeenSo (hg : ∀ r, gr (LG r) = r) {k c : Nat} (hs : SEok M k c) (hk : WK M ex c) (hb : HB LG C B hd cl) (H : ∀ F', Q (some (.int (bI (isF M cl k 0)))) (GW LG gr B M F' ex hd C G z)) : WP V (cdT Ev) mx (d + 5) 64 [.ref (LG B)] (GW LG gr B M F ex hd C G z) Q := by
  rw [e_64]
  simp only [s_64_0, s_64_1, ↓reduceIte, eq_self, rts_some, rts_none, nq_int, nq_ref, nq_null, nq_none, okr1_0, okr1_1, okr_b, List.length_nil, List.length_cons, Nat.zero_le, Nat.reduceAdd, Nat.reduceLeDiff, b2i_0, b2i_n0, b2i_1, b2i_n1, ite_not, if_true, if_false, not_true_eq_false, not_false_eq_true, true_and, and_true, false_and, and_false]
  exact c_isSeenSo_l hg hs hk hb H k 0 (by omega) rfl F none nq_none
theorem c_beaten_l (hg : ∀ r, gr (LG r) = r) {i t sz : Nat} (hi : i < 6) (he : ex i = true) (hP : P1 M i) (ht : t < 12) (hb : HB LG C B hd cl) (H : ∀ F', Q (some (.int (nI (bnF (uF M cl i sz) t 12)))) (GW LG gr B M F' ex hd C G z)) : ∀ m j, j + m = 12 → ∀ F l7, nl l7 = true → wp V (cdT Ev) mx (d + 4) 67 22 [some (.ref (LG B)), some (.ref (LG (B + 13 + i))), some (.int (nI t)), some (.int (nI sz)), some (.int (uF M cl i sz t)), some (.int (nI (bnF (uF M cl i sz) t j))), some (.int (nI j)), l7] [] (GW LG gr B M F ex hd C G z) Q := by
  intro m
  induction m with
  | zero =>
    intro j hj F l7 n7
    have : j = 12 := by omega
    subst this
    simp only [s_67_0, s_67_0_n, s_67_1, s_67_1_n, s_67_2, s_67_3, s_67_4, s_67_7, s_67_9, s_67_11, s_67_14, s_67_15, s_67_16, s_67_17, s_67_19, s_67_20, s_67_22, s_67_24, s_67_26, s_67_29, s_67_29_n, s_67_30, s_67_30_n, s_67_31, s_67_33, s_67_34, s_67_37, s_67_39, s_67_41, s_67_43, s_67_46, s_67_48, s_67_50, s_67_53, s_67_55, s_67_56, s_67_59, s_67_62, s_67_65, s_67_68, s_67_70, ↓reduceIte, eq_self, rts_some, rts_none, nq_int, nq_ref, nq_null, nq_none, okr1_0, okr1_1, okr_b, List.length_nil, List.length_cons, Nat.zero_le, Nat.reduceAdd, Nat.reduceLeDiff, b2i_0, b2i_n0, b2i_1, b2i_n1, ite_not, if_true, if_false, not_true_eq_false, not_false_eq_true, true_and, and_true, false_and, and_false, show ((12 : Int32) ≤ nI 12) = True from by decide]
    exact H F
  | succ m ih =>
    intro j hj F l7 n7
    have hj2 : j < 12 := by omega
    have hlt : ((12 : Int32) ≤ nI j) = False := eq_false (nI_ge hj2 (by decide))
    obtain ⟨F', e⟩ := c_urgeFor (V := V) (Ev := Ev) (d := d) (F := F) (G := G) (z := z) (sz := nI sz) hg (fun F => PO_W hi he) hP hj2 AG_self hb
    have e' : ∀ Q : Option Value → HS → Prop, WP V (cdT Ev) mx (d + 4) 57 [.ref (LG B), .ref (LG (B + 13 + i)), .int (nI j), .int (nI sz)] (GW LG gr B M F ex hd C G z) Q = Q (some (.int (uF M cl i sz j))) (GW LG gr B M F' ex hd C G z) := e
    have ihj := ih (j + 1) (by omega) F' (some (.int (uF M cl i sz j))) nq_int
    simp only [bnF] at ihj
    rw [s_67_22]
    by_cases h1 : uF M cl i sz j < uF M cl i sz t
    · rw [if_pos (Or.inl h1)] at ihj
      simp only [s_67_0, s_67_0_n, s_67_1, s_67_1_n, s_67_2, s_67_3, s_67_4, s_67_7, s_67_9, s_67_11, s_67_14, s_67_15, s_67_16, s_67_17, s_67_19, s_67_20, s_67_24, s_67_26, s_67_29, s_67_29_n, s_67_30, s_67_30_n, s_67_31, s_67_33, s_67_34, s_67_37, s_67_39, s_67_41, s_67_43, s_67_46, s_67_48, s_67_50, s_67_53, s_67_55, s_67_56, s_67_59, s_67_62, s_67_65, s_67_68, s_67_70, ↓reduceIte, eq_self, rts_some, rts_none, nq_int, nq_ref, nq_null, nq_none, okr1_0, okr1_1, okr_b, List.length_nil, List.length_cons, Nat.zero_le, Nat.reduceAdd, Nat.reduceLeDiff, b2i_0, b2i_n0, b2i_1, b2i_n1, ite_not, if_true, if_false, not_true_eq_false, not_false_eq_true, true_and, and_true, false_and, and_false, hlt, wcv hg, e', h1, nI_1, n7]
      exact ihj
    · by_cases h2 : uF M cl i sz j = uF M cl i sz t
      · by_cases h3 : t < j
        · rw [if_pos (Or.inr ⟨h2, h3⟩)] at ihj
          simp only [s_67_0, s_67_0_n, s_67_1, s_67_1_n, s_67_2, s_67_3, s_67_4, s_67_7, s_67_9, s_67_11, s_67_14, s_67_15, s_67_16, s_67_17, s_67_19, s_67_20, s_67_24, s_67_26, s_67_29, s_67_29_n, s_67_30, s_67_30_n, s_67_31, s_67_33, s_67_34, s_67_37, s_67_39, s_67_41, s_67_43, s_67_46, s_67_48, s_67_50, s_67_53, s_67_55, s_67_56, s_67_59, s_67_62, s_67_65, s_67_68, s_67_70, ↓reduceIte, eq_self, rts_some, rts_none, nq_int, nq_ref, nq_null, nq_none, okr1_0, okr1_1, okr_b, List.length_nil, List.length_cons, Nat.zero_le, Nat.reduceAdd, Nat.reduceLeDiff, b2i_0, b2i_n0, b2i_1, b2i_n1, ite_not, if_true, if_false, not_true_eq_false, not_false_eq_true, true_and, and_true, false_and, and_false, hlt, wcv hg, e', h1, eq_true h2, eq_false (nI_ge h3 (show j < 2 ^ 31 by omega)), nI_1, n7]
          exact ihj
        · rw [if_neg (fun h => h.elim h1 (fun h => h3 h.2)), Nat.add_zero] at ihj
          simp only [s_67_0, s_67_0_n, s_67_1, s_67_1_n, s_67_2, s_67_3, s_67_4, s_67_7, s_67_9, s_67_11, s_67_14, s_67_15, s_67_16, s_67_17, s_67_19, s_67_20, s_67_24, s_67_26, s_67_29, s_67_29_n, s_67_30, s_67_30_n, s_67_31, s_67_33, s_67_34, s_67_37, s_67_39, s_67_41, s_67_43, s_67_46, s_67_48, s_67_50, s_67_53, s_67_55, s_67_56, s_67_59, s_67_62, s_67_65, s_67_68, s_67_70, ↓reduceIte, eq_self, rts_some, rts_none, nq_int, nq_ref, nq_null, nq_none, okr1_0, okr1_1, okr_b, List.length_nil, List.length_cons, Nat.zero_le, Nat.reduceAdd, Nat.reduceLeDiff, b2i_0, b2i_n0, b2i_1, b2i_n1, ite_not, if_true, if_false, not_true_eq_false, not_false_eq_true, true_and, and_true, false_and, and_false, hlt, wcv hg, e', h1, eq_true h2, eq_true (nI_le (Nat.not_lt.mp h3) (show t < 2 ^ 31 by omega)), nI_1, n7]
          exact ihj
      · rw [if_neg (fun h => h.elim h1 (fun h => h2 h.1)), Nat.add_zero] at ihj
        simp only [s_67_0, s_67_0_n, s_67_1, s_67_1_n, s_67_2, s_67_3, s_67_4, s_67_7, s_67_9, s_67_11, s_67_14, s_67_15, s_67_16, s_67_17, s_67_19, s_67_20, s_67_24, s_67_26, s_67_29, s_67_29_n, s_67_30, s_67_30_n, s_67_31, s_67_33, s_67_34, s_67_37, s_67_39, s_67_41, s_67_43, s_67_46, s_67_48, s_67_50, s_67_53, s_67_55, s_67_56, s_67_59, s_67_62, s_67_65, s_67_68, s_67_70, ↓reduceIte, eq_self, rts_some, rts_none, nq_int, nq_ref, nq_null, nq_none, okr1_0, okr1_1, okr_b, List.length_nil, List.length_cons, Nat.zero_le, Nat.reduceAdd, Nat.reduceLeDiff, b2i_0, b2i_n0, b2i_1, b2i_n1, ite_not, if_true, if_false, not_true_eq_false, not_false_eq_true, true_and, and_true, false_and, and_false, hlt, wcv hg, e', h1, h2, nI_1, n7]
        exact ihj
theorem c_beatenBy (hg : ∀ r, gr (LG r) = r) {i t sz : Nat} (hi : i < 6) (he : ex i = true) (hP : P1 M i) (ht : t < 12) (hb : HB LG C B hd cl) (H : ∀ F', Q (some (.int (if 0 < uF M cl i sz t then nI (bnF (uF M cl i sz) t 12) else -1))) (GW LG gr B M F' ex hd C G z)) : WP V (cdT Ev) mx (d + 5) 67 [.ref (LG B), .ref (LG (B + 13 + i)), .int (nI t), .int (nI sz)] (GW LG gr B M F ex hd C G z) Q := by
  obtain ⟨F', e⟩ := c_urgeFor (V := V) (Ev := Ev) (d := d) (F := F) (G := G) (z := z) (sz := nI sz) hg (fun F => PO_W hi he) hP ht AG_self hb
  have e' : ∀ Q : Option Value → HS → Prop, WP V (cdT Ev) mx (d + 4) 57 [.ref (LG B), .ref (LG (B + 13 + i)), .int (nI t), .int (nI sz)] (GW LG gr B M F ex hd C G z) Q = Q (some (.int (uF M cl i sz t))) (GW LG gr B M F' ex hd C G z) := e
  rw [e_67]
  by_cases h0 : 0 < uF M cl i sz t
  · simp only [h0, if_true] at H
    simp only [s_67_0, s_67_0_n, s_67_1, s_67_1_n, s_67_2, s_67_3, s_67_4, s_67_7, s_67_9, s_67_11, s_67_14, s_67_15, s_67_16, s_67_17, s_67_19, s_67_20, s_67_24, s_67_26, s_67_29, s_67_29_n, s_67_30, s_67_30_n, s_67_31, s_67_33, s_67_34, s_67_37, s_67_39, s_67_41, s_67_43, s_67_46, s_67_48, s_67_50, s_67_53, s_67_55, s_67_56, s_67_59, s_67_62, s_67_65, s_67_68, s_67_70, ↓reduceIte, eq_self, rts_some, rts_none, nq_int, nq_ref, nq_null, nq_none, okr1_0, okr1_1, okr_b, List.length_nil, List.length_cons, Nat.zero_le, Nat.reduceAdd, Nat.reduceLeDiff, b2i_0, b2i_n0, b2i_1, b2i_n1, ite_not, if_true, if_false, not_true_eq_false, not_false_eq_true, true_and, and_true, false_and, and_false, wcv hg, e', h0]
    exact c_beaten_l hg hi he hP ht hb H 12 0 rfl F' none nq_none
  · simp only [h0, if_false] at H
    simp only [s_67_0, s_67_0_n, s_67_1, s_67_1_n, s_67_2, s_67_3, s_67_4, s_67_7, s_67_9, s_67_11, s_67_14, s_67_15, s_67_16, s_67_17, s_67_19, s_67_20, s_67_24, s_67_26, s_67_29, s_67_29_n, s_67_30, s_67_30_n, s_67_31, s_67_33, s_67_34, s_67_37, s_67_39, s_67_41, s_67_43, s_67_46, s_67_48, s_67_50, s_67_53, s_67_55, s_67_56, s_67_59, s_67_62, s_67_65, s_67_68, s_67_70, ↓reduceIte, eq_self, rts_some, rts_none, nq_int, nq_ref, nq_null, nq_none, okr1_0, okr1_1, okr_b, List.length_nil, List.length_cons, Nat.zero_le, Nat.reduceAdd, Nat.reduceLeDiff, b2i_0, b2i_n0, b2i_1, b2i_n1, ite_not, if_true, if_false, not_true_eq_false, not_false_eq_true, true_and, and_true, false_and, and_false, wcv hg, e', h0]
    exact H F'
theorem c_withTip_l (hg : ∀ r, gr (LG r) = r) {i t : Nat} (hi : i < 6) (he : ex i = true) (hP : P1 M i) (ht : t < 12) (hb : HB LG C B hd cl) (H : ∀ F', Q (some (.int (nI (swF M cl i t 12)))) (GW LG gr B M F' ex hd C G z)) : ∀ m j, j + m = 12 → ∀ F, wp V (cdT Ev) mx (d + 5) 65 5 [some (.ref (LG B)), some (.ref (LG (B + 13 + i))), some (.int (nI t)), some (.int (nI (swF M cl i t j))), some (.int (nI (j + 1)))] [] (GW LG gr B M F ex hd C G z) Q := by
  intro m
  induction m with
  | zero =>
    intro j hj F
    have : j = 12 := by omega
    subst this
    simp only [s_65_0, s_65_1, s_65_2, s_65_3, s_65_5, s_65_7, s_65_9, s_65_12, s_65_13, s_65_13_n, s_65_14, s_65_14_n, s_65_15, s_65_16, s_65_18, s_65_21, s_65_23, s_65_24, s_65_25, s_65_28, s_65_29, s_65_30, s_65_33, s_65_36, s_65_37, ↓reduceIte, eq_self, rts_some, rts_none, nq_int, nq_ref, nq_null, nq_none, okr1_0, okr1_1, okr_b, List.length_nil, List.length_cons, Nat.zero_le, Nat.reduceAdd, Nat.reduceLeDiff, b2i_0, b2i_n0, b2i_1, b2i_n1, ite_not, if_true, if_false, not_true_eq_false, not_false_eq_true, true_and, and_true, false_and, and_false, show ((12 : Int32) < nI 13) = True from by decide]
    exact H F
  | succ m ih =>
    intro j hj F
    have hlt : ((12 : Int32) < nI (j + 1)) = False := eq_false (nI_nlt (a := 12) (b := j + 1) (by omega) (by decide))
    rw [s_65_5]
    simp only [s_65_0, s_65_1, s_65_2, s_65_3, s_65_7, s_65_9, s_65_12, s_65_13, s_65_13_n, s_65_14, s_65_14_n, s_65_15, s_65_16, s_65_18, s_65_21, s_65_23, s_65_24, s_65_25, s_65_28, s_65_29, s_65_30, s_65_33, s_65_36, s_65_37, ↓reduceIte, eq_self, rts_some, rts_none, nq_int, nq_ref, nq_null, nq_none, okr1_0, okr1_1, okr_b, List.length_nil, List.length_cons, Nat.zero_le, Nat.reduceAdd, Nat.reduceLeDiff, b2i_0, b2i_n0, b2i_1, b2i_n1, ite_not, if_true, if_false, not_true_eq_false, not_false_eq_true, true_and, and_true, false_and, and_false, hlt, wcv hg]
    refine c_beatenBy hg hi he hP ht hb (fun F' => ?_)
    have ihj := ih (j + 1) (by omega) F'
    simp only [swF] at ihj
    have e1 : nI (j + 1) - 1 = nI j := nI_pred j
    by_cases h0 : 0 < uF M cl i (j + 1) t
    · simp only [h0, if_true] at ihj ⊢
      simp only [s_65_0, s_65_1, s_65_2, s_65_3, s_65_7, s_65_9, s_65_12, s_65_13, s_65_13_n, s_65_14, s_65_14_n, s_65_15, s_65_16, s_65_18, s_65_21, s_65_23, s_65_24, s_65_25, s_65_28, s_65_29, s_65_30, s_65_33, s_65_36, s_65_37, ↓reduceIte, eq_self, rts_some, rts_none, nq_int, nq_ref, nq_null, nq_none, okr1_0, okr1_1, okr_b, List.length_nil, List.length_cons, Nat.zero_le, Nat.reduceAdd, Nat.reduceLeDiff, b2i_0, b2i_n0, b2i_1, b2i_n1, ite_not, if_true, if_false, not_true_eq_false, not_false_eq_true, true_and, and_true, false_and, and_false, e1, c_choices (bnF_le 12) (show j ≤ 12 by omega), nI_add, nI_1]
      exact ihj
    · simp only [h0, if_false, Nat.add_zero] at ihj ⊢
      simp only [s_65_0, s_65_1, s_65_2, s_65_3, s_65_7, s_65_9, s_65_12, s_65_13, s_65_13_n, s_65_14, s_65_14_n, s_65_15, s_65_16, s_65_18, s_65_21, s_65_23, s_65_24, s_65_25, s_65_28, s_65_29, s_65_30, s_65_33, s_65_36, s_65_37, ↓reduceIte, eq_self, rts_some, rts_none, nq_int, nq_ref, nq_null, nq_none, okr1_0, okr1_1, okr_b, List.length_nil, List.length_cons, Nat.zero_le, Nat.reduceAdd, Nat.reduceLeDiff, b2i_0, b2i_n0, b2i_1, b2i_n1, ite_not, if_true, if_false, not_true_eq_false, not_false_eq_true, true_and, and_true, false_and, and_false, e1, c_choices_m (show j ≤ 12 by omega), Int32.add_zero, nI_1]
      exact ihj
theorem c_withTip (hg : ∀ r, gr (LG r) = r) {i t : Nat} (hi : i < 6) (he : ex i = true) (hP : P1 M i) (ht : t < 12) (hb : HB LG C B hd cl) (H : ∀ F', Q (some (.int (nI (swF M cl i t 12)))) (GW LG gr B M F' ex hd C G z)) : WP V (cdT Ev) mx (d + 6) 65 [.ref (LG B), .ref (LG (B + 13 + i)), .int (nI t)] (GW LG gr B M F ex hd C G z) Q := by
  rw [e_65]
  simp only [s_65_0, s_65_1, s_65_2, s_65_3, ↓reduceIte, eq_self, rts_some, rts_none, nq_int, nq_ref, nq_null, nq_none, okr1_0, okr1_1, okr_b, List.length_nil, List.length_cons, Nat.zero_le, Nat.reduceAdd, Nat.reduceLeDiff, b2i_0, b2i_n0, b2i_1, b2i_n1, ite_not, if_true, if_false, not_true_eq_false, not_false_eq_true, true_and, and_true, false_and, and_false]
  exact c_withTip_l hg hi he hP ht hb H 12 0 rfl F
theorem c_noTip_i (hg : ∀ r, gr (LG r) = r) {i sz : Nat} {ss : Int32} (hi : i < 6) (he : ex i = true) (hP : P1 M i) (hb : HB LG C B hd cl) (H : ∀ F', wp V (cdT Ev) mx (d + 4) 66 43 [some (.ref (LG B)), some (.ref (LG (B + 13 + i))), some (.int ss), some (.int (nI sz)), some (.int (nI (unF (uF M cl i sz) 12))), some (.int (nI 12))] [] (GW LG gr B M F' ex hd C G z) Q) : ∀ m j, j + m = 12 → ∀ F, wp V (cdT Ev) mx (d + 4) 66 16 [some (.ref (LG B)), some (.ref (LG (B + 13 + i))), some (.int ss), some (.int (nI sz)), some (.int (nI (unF (uF M cl i sz) j))), some (.int (nI j))] [] (GW LG gr B M F ex hd C G z) Q := by
  intro m
  induction m with
  | zero =>
    intro j hj F
    have : j = 12 := by omega
    subst this
    rw [s_66_16]
    simp only [s_66_18, s_66_20, ↓reduceIte, eq_self, rts_some, rts_none, nq_int, nq_ref, nq_null, nq_none, okr1_0, okr1_1, okr_b, List.length_nil, List.length_cons, Nat.zero_le, Nat.reduceAdd, Nat.reduceLeDiff, b2i_0, b2i_n0, b2i_1, b2i_n1, ite_not, if_true, if_false, not_true_eq_false, not_false_eq_true, true_and, and_true, false_and, and_false, show ((12 : Int32) ≤ nI 12) = True from by decide]
    exact H F
  | succ m ih =>
    intro j hj F
    have hj2 : j < 12 := by omega
    have hlt : ((12 : Int32) ≤ nI j) = False := eq_false (nI_ge hj2 (by decide))
    obtain ⟨F', e⟩ := c_urgeFor (V := V) (Ev := Ev) (d := d) (F := F) (G := G) (z := z) (sz := nI sz) hg (fun F => PO_W hi he) hP hj2 AG_self hb
    have e' : ∀ Q : Option Value → HS → Prop, WP V (cdT Ev) mx (d + 4) 57 [.ref (LG B), .ref (LG (B + 13 + i)), .int (nI j), .int (nI sz)] (GW LG gr B M F ex hd C G z) Q = Q (some (.int (uF M cl i sz j))) (GW LG gr B M F' ex hd C G z) := e
    have ihj := ih (j + 1) (by omega) F'
    simp only [unF] at ihj
    rw [s_66_16]
    by_cases h0 : 0 < uF M cl i sz j
    · simp only [h0, if_true, Nat.add_zero] at ihj
      simp only [s_66_0, s_66_1, s_66_2, s_66_3, s_66_4, s_66_5, s_66_7, s_66_10, s_66_11, s_66_13, s_66_14, s_66_18, s_66_20, s_66_23, s_66_23_n, s_66_24, s_66_24_n, s_66_25, s_66_27, s_66_28, s_66_31, s_66_34, s_66_37, s_66_40, s_66_44, s_66_46, s_66_47, s_66_50, s_66_51, s_66_52, s_66_55, s_66_58, s_66_59, ↓reduceIte, eq_self, rts_some, rts_none, nq_int, nq_ref, nq_null, nq_none, okr1_0, okr1_1, okr_b, List.length_nil, List.length_cons, Nat.zero_le, Nat.reduceAdd, Nat.reduceLeDiff, b2i_0, b2i_n0, b2i_1, b2i_n1, ite_not, if_true, if_false, not_true_eq_false, not_false_eq_true, true_and, and_true, false_and, and_false, hlt, wcv hg, e', h0, nI_1]
      exact ihj
    · simp only [h0, if_false] at ihj
      simp only [s_66_0, s_66_1, s_66_2, s_66_3, s_66_4, s_66_5, s_66_7, s_66_10, s_66_11, s_66_13, s_66_14, s_66_18, s_66_20, s_66_23, s_66_23_n, s_66_24, s_66_24_n, s_66_25, s_66_27, s_66_28, s_66_31, s_66_34, s_66_37, s_66_40, s_66_44, s_66_46, s_66_47, s_66_50, s_66_51, s_66_52, s_66_55, s_66_58, s_66_59, ↓reduceIte, eq_self, rts_some, rts_none, nq_int, nq_ref, nq_null, nq_none, okr1_0, okr1_1, okr_b, List.length_nil, List.length_cons, Nat.zero_le, Nat.reduceAdd, Nat.reduceLeDiff, b2i_0, b2i_n0, b2i_1, b2i_n1, ite_not, if_true, if_false, not_true_eq_false, not_false_eq_true, true_and, and_true, false_and, and_false, hlt, wcv hg, e', h0, nI_1]
      exact ihj
theorem c_noTip_l (hg : ∀ r, gr (LG r) = r) {i : Nat} (hi : i < 6) (he : ex i = true) (hP : P1 M i) (hb : HB LG C B hd cl) (H : ∀ F', Q (some (.int (nI (sxF M cl i 13)))) (GW LG gr B M F' ex hd C G z)) : ∀ m j, j + m = 13 → ∀ F l4 l5, nl l4 = true → nl l5 = true → wp V (cdT Ev) mx (d + 4) 66 4 [some (.ref (LG B)), some (.ref (LG (B + 13 + i))), some (.int (nI (sxF M cl i j))), some (.int (nI j)), l4, l5] [] (GW LG gr B M F ex hd C G z) Q := by
  intro m
  induction m with
  | zero =>
    intro j hj F l4 l5 n4 n5
    have : j = 13 := by omega
    subst this
    rw [s_66_4]
    simp only [s_66_5, s_66_7, s_66_58, s_66_59, ↓reduceIte, eq_self, rts_some, rts_none, nq_int, nq_ref, nq_null, nq_none, okr1_0, okr1_1, okr_b, List.length_nil, List.length_cons, Nat.zero_le, Nat.reduceAdd, Nat.reduceLeDiff, b2i_0, b2i_n0, b2i_1, b2i_n1, ite_not, if_true, if_false, not_true_eq_false, not_false_eq_true, true_and, and_true, false_and, and_false, show ((12 : Int32) < nI 13) = True from by decide]
    exact H F
  | succ m ih =>
    intro j hj F l4 l5 n4 n5
    have hlt : ((12 : Int32) < nI j) = False := eq_false (nI_nlt (a := 12) (b := j) (by omega) (by decide))
    rw [s_66_4]
    simp only [s_66_5, s_66_7, s_66_10, s_66_11, s_66_13, s_66_14, ↓reduceIte, eq_self, rts_some, rts_none, nq_int, nq_ref, nq_null, nq_none, okr1_0, okr1_1, okr_b, List.length_nil, List.length_cons, Nat.zero_le, Nat.reduceAdd, Nat.reduceLeDiff, b2i_0, b2i_n0, b2i_1, b2i_n1, ite_not, if_true, if_false, not_true_eq_false, not_false_eq_true, true_and, and_true, false_and, and_false, hlt, n4]
    refine c_noTip_i hg hi he hP hb (fun F' => ?_) 12 0 rfl F
    have ihj := ih (j + 1) (by omega) F' (some (.int (nI (unF (uF M cl i j) 12)))) (some (.int (nI 12))) nq_int nq_int
    simp only [sxF] at ihj
    simp only [s_66_0, s_66_1, s_66_2, s_66_3, s_66_5, s_66_7, s_66_10, s_66_11, s_66_13, s_66_14, s_66_18, s_66_20, s_66_23, s_66_23_n, s_66_24, s_66_24_n, s_66_25, s_66_27, s_66_28, s_66_31, s_66_34, s_66_37, s_66_40, s_66_43, s_66_44, s_66_46, s_66_47, s_66_50, s_66_51, s_66_52, s_66_55, s_66_58, s_66_59, ↓reduceIte, eq_self, rts_some, rts_none, nq_int, nq_ref, nq_null, nq_none, okr1_0, okr1_1, okr_b, List.length_nil, List.length_cons, Nat.zero_le, Nat.reduceAdd, Nat.reduceLeDiff, b2i_0, b2i_n0, b2i_1, b2i_n1, ite_not, if_true, if_false, not_true_eq_false, not_false_eq_true, true_and, and_true, false_and, and_false, c_choices (unF_le 12) (show j ≤ 12 by omega), nI_add, nI_1]
    exact ihj
theorem c_noTip (hg : ∀ r, gr (LG r) = r) {i : Nat} (hi : i < 6) (he : ex i = true) (hP : P1 M i) (hb : HB LG C B hd cl) (H : ∀ F', Q (some (.int (nI (sxF M cl i 13)))) (GW LG gr B M F' ex hd C G z)) : WP V (cdT Ev) mx (d + 5) 66 [.ref (LG B), .ref (LG (B + 13 + i))] (GW LG gr B M F ex hd C G z) Q := by
  rw [e_66]
  simp only [s_66_0, s_66_1, s_66_2, s_66_3, ↓reduceIte, eq_self, rts_some, rts_none, nq_int, nq_ref, nq_null, nq_none, okr1_0, okr1_1, okr_b, List.length_nil, List.length_cons, Nat.zero_le, Nat.reduceAdd, Nat.reduceLeDiff, b2i_0, b2i_n0, b2i_1, b2i_n1, ite_not, if_true, if_false, not_true_eq_false, not_false_eq_true, true_and, and_true, false_and, and_false]
  exact c_noTip_l hg hi he hP hb H 13 0 rfl F none none nq_none nq_none
end
