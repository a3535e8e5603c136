/-! The reference: state calls. -/
theorem vu {α : Type} {f : Nat → α} {k j : Nat} {v : α} : va_up f k v j = if j = k then v else f j := rfl
theorem uu {f : Nat → Int32} {k j : Nat} {v : Int32} : upd f k v j = if j = k then v else f j := rfl
theorem va_uu {α : Type} {f : Nat → α} {k : Nat} {v w : α} : va_up (va_up f k v) k w = va_up f k w := bx_uu f k v w
theorem va_us {α : Type} {f : Nat → α} {k : Nat} : va_up f k (f k) = f := by
  funext j
  unfold va_up
  split
  · rename_i h
    rw [h]
  · rfl
theorem nI_cl {i : Int32} (h : 0 ≤ i) : nI i.toNatClampNeg = i := by
  obtain ⟨j, hj, rfl⟩ := nI_of (Int32.not_lt.mpr h)
  rw [nI_clamp hj]
theorem one_k {i : Int32} {c : Nat} (hc : c ≤ 6) (h : 0 ≤ i ∧ i ≤ nI c - 1) : i.toNatClampNeg < c := by
  obtain ⟨j, hj, rfl⟩ := nI_of (Int32.not_lt.mpr h.1)
  rw [nI_clamp hj]
  have h2 := Int32.le_iff_toInt_le.mp h.2
  rw [nI_toInt hj] at h2
  rcases Nat.eq_zero_or_pos c with rfl | hp
  · rw [show (nI 0 - 1).toInt = -1 by decide] at h2
    omega
  · obtain ⟨c, rfl⟩ : ∃ k, c = k + 1 := ⟨c - 1, by omega⟩
    rw [nI_pred, nI_toInt (by omega)] at h2
    omega
theorem k_one {c k : Nat} (hc : c ≤ 6) (hk : k < c) : 0 ≤ nI k ∧ nI k ≤ nI c - 1 := by
  refine ⟨nI_pos' (by omega), ?_⟩
  obtain ⟨c, rfl⟩ : ∃ k, c = k + 1 := ⟨c - 1, by omega⟩
  rw [nI_pred]
  exact nI_le (by omega) (by omega)
section
variable {V : Nat → Option AE} {Ev : Nat → Value} {d : Nat} {h : HS} {Q : Option Value → HS → Prop}
variable {b : Nat} {sc : Nat → Int32} {ar : Nat → Nat → Int32} {lg : Nat → Nat → Int64} {G : Nat → Option AE} {z : Nat × Nat}
theorem n_number {i : Int32} {w : Nat} (h0 : 0 ≤ i) (hk : i.toNatClampNeg < 6) (hw : w < 9) : WP V (cdT Ev) mx (d + 1) 132 [.ref b, .int i, .int (nI w)] (MH b sc ar lg G z) Q = Q (some (.int (ar 1 (14 + 9 * i.toNatClampNeg + w)))) (MH b sc ar lg G z) := by
  have := m_number (V := V) (Ev := Ev) (d := d) (Q := Q) (b := b) (sc := sc) (ar := ar) (lg := lg) (G := G) (z := z) hk hw
  rw [nI_cl h0] at this
  exact this
theorem n_change {i : Int32} {w : Nat} {x : Int32} (h0 : 0 ≤ i) (hk : i.toNatClampNeg < 6) (hw : w < 9) : WP V (cdT Ev) mx (d + 2) 133 [.ref b, .int i, .int (nI w), .int x] (MH b sc ar lg G z) Q = Q (some (.int (ar 1 (14 + 9 * i.toNatClampNeg + w)))) (MH b sc (va_up ar 1 (upd (ar 1) (14 + 9 * i.toNatClampNeg + w) x)) lg G z) := by
  have := m_change (V := V) (Ev := Ev) (d := d) (Q := Q) (b := b) (sc := sc) (ar := ar) (lg := lg) (G := G) (z := z) (x := x) hk hw
  rw [nI_cl h0] at this
  exact this
theorem n_number_0 {i : Int32} (h0 : 0 ≤ i) (hk : i.toNatClampNeg < 6) : WP V (cdT Ev) mx (d + 1) 132 [.ref b, .int i, .int 0] (MH b sc ar lg G z) Q = Q (some (.int (ar 1 (14 + 9 * i.toNatClampNeg + 0)))) (MH b sc ar lg G z) := n_number (w := 0) h0 hk (by decide)
theorem n_change_0 {i x : Int32} (h0 : 0 ≤ i) (hk : i.toNatClampNeg < 6) : WP V (cdT Ev) mx (d + 2) 133 [.ref b, .int i, .int 0, .int x] (MH b sc ar lg G z) Q = Q (some (.int (ar 1 (14 + 9 * i.toNatClampNeg + 0)))) (MH b sc (va_up ar 1 (upd (ar 1) (14 + 9 * i.toNatClampNeg + 0) x)) lg G z) := n_change (w := 0) h0 hk (by decide)
theorem n_number_1 {i : Int32} (h0 : 0 ≤ i) (hk : i.toNatClampNeg < 6) : WP V (cdT Ev) mx (d + 1) 132 [.ref b, .int i, .int 1] (MH b sc ar lg G z) Q = Q (some (.int (ar 1 (14 + 9 * i.toNatClampNeg + 1)))) (MH b sc ar lg G z) := n_number (w := 1) h0 hk (by decide)
theorem n_change_1 {i x : Int32} (h0 : 0 ≤ i) (hk : i.toNatClampNeg < 6) : WP V (cdT Ev) mx (d + 2) 133 [.ref b, .int i, .int 1, .int x] (MH b sc ar lg G z) Q = Q (some (.int (ar 1 (14 + 9 * i.toNatClampNeg + 1)))) (MH b sc (va_up ar 1 (upd (ar 1) (14 + 9 * i.toNatClampNeg + 1) x)) lg G z) := n_change (w := 1) h0 hk (by decide)
theorem n_number_2 {i : Int32} (h0 : 0 ≤ i) (hk : i.toNatClampNeg < 6) : WP V (cdT Ev) mx (d + 1) 132 [.ref b, .int i, .int 2] (MH b sc ar lg G z) Q = Q (some (.int (ar 1 (14 + 9 * i.toNatClampNeg + 2)))) (MH b sc ar lg G z) := n_number (w := 2) h0 hk (by decide)
theorem n_change_2 {i x : Int32} (h0 : 0 ≤ i) (hk : i.toNatClampNeg < 6) : WP V (cdT Ev) mx (d + 2) 133 [.ref b, .int i, .int 2, .int x] (MH b sc ar lg G z) Q = Q (some (.int (ar 1 (14 + 9 * i.toNatClampNeg + 2)))) (MH b sc (va_up ar 1 (upd (ar 1) (14 + 9 * i.toNatClampNeg + 2) x)) lg G z) := n_change (w := 2) h0 hk (by decide)
theorem n_number_3 {i : Int32} (h0 : 0 ≤ i) (hk : i.toNatClampNeg < 6) : WP V (cdT Ev) mx (d + 1) 132 [.ref b, .int i, .int 3] (MH b sc ar lg G z) Q = Q (some (.int (ar 1 (14 + 9 * i.toNatClampNeg + 3)))) (MH b sc ar lg G z) := n_number (w := 3) h0 hk (by decide)
theorem n_change_3 {i x : Int32} (h0 : 0 ≤ i) (hk : i.toNatClampNeg < 6) : WP V (cdT Ev) mx (d + 2) 133 [.ref b, .int i, .int 3, .int x] (MH b sc ar lg G z) Q = Q (some (.int (ar 1 (14 + 9 * i.toNatClampNeg + 3)))) (MH b sc (va_up ar 1 (upd (ar 1) (14 + 9 * i.toNatClampNeg + 3) x)) lg G z) := n_change (w := 3) h0 hk (by decide)
theorem n_number_4 {i : Int32} (h0 : 0 ≤ i) (hk : i.toNatClampNeg < 6) : WP V (cdT Ev) mx (d + 1) 132 [.ref b, .int i, .int 4] (MH b sc ar lg G z) Q = Q (some (.int (ar 1 (14 + 9 * i.toNatClampNeg + 4)))) (MH b sc ar lg G z) := n_number (w := 4) h0 hk (by decide)
theorem n_change_4 {i x : Int32} (h0 : 0 ≤ i) (hk : i.toNatClampNeg < 6) : WP V (cdT Ev) mx (d + 2) 133 [.ref b, .int i, .int 4, .int x] (MH b sc ar lg G z) Q = Q (some (.int (ar 1 (14 + 9 * i.toNatClampNeg + 4)))) (MH b sc (va_up ar 1 (upd (ar 1) (14 + 9 * i.toNatClampNeg + 4) x)) lg G z) := n_change (w := 4) h0 hk (by decide)
theorem n_number_5 {i : Int32} (h0 : 0 ≤ i) (hk : i.toNatClampNeg < 6) : WP V (cdT Ev) mx (d + 1) 132 [.ref b, .int i, .int 5] (MH b sc ar lg G z) Q = Q (some (.int (ar 1 (14 + 9 * i.toNatClampNeg + 5)))) (MH b sc ar lg G z) := n_number (w := 5) h0 hk (by decide)
theorem n_change_5 {i x : Int32} (h0 : 0 ≤ i) (hk : i.toNatClampNeg < 6) : WP V (cdT Ev) mx (d + 2) 133 [.ref b, .int i, .int 5, .int x] (MH b sc ar lg G z) Q = Q (some (.int (ar 1 (14 + 9 * i.toNatClampNeg + 5)))) (MH b sc (va_up ar 1 (upd (ar 1) (14 + 9 * i.toNatClampNeg + 5) x)) lg G z) := n_change (w := 5) h0 hk (by decide)
theorem n_number_6 {i : Int32} (h0 : 0 ≤ i) (hk : i.toNatClampNeg < 6) : WP V (cdT Ev) mx (d + 1) 132 [.ref b, .int i, .int 6] (MH b sc ar lg G z) Q = Q (some (.int (ar 1 (14 + 9 * i.toNatClampNeg + 6)))) (MH b sc ar lg G z) := n_number (w := 6) h0 hk (by decide)
theorem n_change_6 {i x : Int32} (h0 : 0 ≤ i) (hk : i.toNatClampNeg < 6) : WP V (cdT Ev) mx (d + 2) 133 [.ref b, .int i, .int 6, .int x] (MH b sc ar lg G z) Q = Q (some (.int (ar 1 (14 + 9 * i.toNatClampNeg + 6)))) (MH b sc (va_up ar 1 (upd (ar 1) (14 + 9 * i.toNatClampNeg + 6) x)) lg G z) := n_change (w := 6) h0 hk (by decide)
theorem n_number_7 {i : Int32} (h0 : 0 ≤ i) (hk : i.toNatClampNeg < 6) : WP V (cdT Ev) mx (d + 1) 132 [.ref b, .int i, .int 7] (MH b sc ar lg G z) Q = Q (some (.int (ar 1 (14 + 9 * i.toNatClampNeg + 7)))) (MH b sc ar lg G z) := n_number (w := 7) h0 hk (by decide)
theorem n_change_7 {i x : Int32} (h0 : 0 ≤ i) (hk : i.toNatClampNeg < 6) : WP V (cdT Ev) mx (d + 2) 133 [.ref b, .int i, .int 7, .int x] (MH b sc ar lg G z) Q = Q (some (.int (ar 1 (14 + 9 * i.toNatClampNeg + 7)))) (MH b sc (va_up ar 1 (upd (ar 1) (14 + 9 * i.toNatClampNeg + 7) x)) lg G z) := n_change (w := 7) h0 hk (by decide)
theorem n_number_8 {i : Int32} (h0 : 0 ≤ i) (hk : i.toNatClampNeg < 6) : WP V (cdT Ev) mx (d + 1) 132 [.ref b, .int i, .int 8] (MH b sc ar lg G z) Q = Q (some (.int (ar 1 (14 + 9 * i.toNatClampNeg + 8)))) (MH b sc ar lg G z) := n_number (w := 8) h0 hk (by decide)
theorem n_change_8 {i x : Int32} (h0 : 0 ≤ i) (hk : i.toNatClampNeg < 6) : WP V (cdT Ev) mx (d + 2) 133 [.ref b, .int i, .int 8, .int x] (MH b sc ar lg G z) Q = Q (some (.int (ar 1 (14 + 9 * i.toNatClampNeg + 8)))) (MH b sc (va_up ar 1 (upd (ar 1) (14 + 9 * i.toNatClampNeg + 8) x)) lg G z) := n_change (w := 8) h0 hk (by decide)
/-- moves 120 ints -/
def cpN (n : Nat) (f g : Nat → Int32) : Nat → Int32 := fun k => if k < n then f k else g k
theorem cpN_s {n : Nat} {f g : Nat → Int32} : upd (cpN n f g) n (f n) = cpN (n + 1) f g := by
  funext k
  simp only [upd, cpN]
  by_cases h1 : k = n
  · subst h1
    simp
  · by_cases h2 : k < n
    · simp [h1, h2, Nat.lt_succ_of_lt h2]
    · simp [h1, h2, show ¬ k < n + 1 by omega]
theorem cpN_0 {f g : Nat → Int32} : cpN 0 f g = g := by
  funext k
  simp [cpN]
theorem m_move_l {s t : Nat} (hst : s ≠ t) {V : Nat → Option AE} (h1 : ∀ (ar : Nat → Nat → Int32) (i : Int32) (K : Int32 → Prop), ai 2 i V (MH b sc ar lg G z) (b + s) K = (ix i 120 ∧ K (ar s i.toNatClampNeg))) (h2 : ∀ (ar : Nat → Nat → Int32) (i x : Int32) (K : HS → Prop), si 2 i x (MH b sc ar lg G z) (b + t) K = (ix i 120 ∧ K (MH b sc (va_up ar t (upd (ar t) i.toNatClampNeg x)) lg G z))) : ∀ m j, j + m = 120 → wp V (cdT Ev) mx d 125 2 [some (.ref (b + s)), some (.ref (b + t)), some (.int (nI j))] [] (MH b sc (va_up ar t (cpN j (ar s) (ar t))) lg G z) Q = Q none (MH b sc (va_up ar t (cpN 120 (ar s) (ar t))) lg G z) := by
  intro m
  induction m with
  | zero =>
    intro j hj
    obtain rfl : j = 120 := by omega
    rw [s_125_2]
    simp only [s_125_0, s_125_1, s_125_3, s_125_5, s_125_8, s_125_8_n, s_125_9, s_125_10, s_125_10_n, s_125_11, s_125_12, s_125_13, s_125_14, s_125_17, s_125_20, ↓reduceIte, eq_self, rts_some, rts_none, nq_int, nq_ref, nq_null, nq_none, okr1_0, okr1_1, okr_b, List.length_nil, List.length_cons, Nat.zero_le, Nat.reduceAdd, Nat.reduceLeDiff, b2i_0, b2i_n0, b2i_1, b2i_n1, ite_not, if_true, if_false, not_true_eq_false, not_false_eq_true, true_and, and_true, false_and, and_false]
    rw [if_pos (by decide)]
  | succ m ih =>
    intro j hj
    have hlt : ¬ (120 : Int32) ≤ nI j := nI_ge (a := j) (b := 120) (by omega) (by decide)
    have hi : ix (nI j) 120 = True := ix_nIT (by omega) (by decide)
    rw [s_125_2]
    simp only [s_125_0, s_125_1, s_125_3, s_125_5, s_125_8, s_125_8_n, s_125_9, s_125_10, s_125_10_n, s_125_11, s_125_12, s_125_13, s_125_14, s_125_17, s_125_20, ↓reduceIte, eq_self, rts_some, rts_none, nq_int, nq_ref, nq_null, nq_none, okr1_0, okr1_1, okr_b, List.length_nil, List.length_cons, Nat.zero_le, Nat.reduceAdd, Nat.reduceLeDiff, b2i_0, b2i_n0, b2i_1, b2i_n1, ite_not, if_true, if_false, not_true_eq_false, not_false_eq_true, true_and, and_true, false_and, and_false, h1, h2, hlt, hi, nI_clamp (show j < 2 ^ 31 by omega), vu, hst, va_uu, cpN_s, nI_1]
    exact ih (j + 1) (by omega)
end
