/-! Cells made in a row; feed, bridge: the class. -/
def hns : HS → List (AE × Nat) → HS
  | h, [] => h
  | h, x :: l => hns (hnew h x.1 x.2) l
theorem hn21 {h : HS} {e : AE} {n : Nat} : (hnew h e n).2.1 = h.2.1 + 1 := rfl
theorem hns_app : ∀ (l l2 : List (AE × Nat)) (h : HS), hns h (l ++ l2) = hns (hns h l) l2 := by
  intro l
  induction l with
  | nil =>
    intro l2 h
    rfl
  | cons x l ih =>
    intro l2 h
    exact ih l2 _
theorem hns_lt : ∀ (l : List (AE × Nat)) (h : HS) (a : Nat), a < h.2.1 → (hns h l).1 a = h.1 a := by
  intro l
  induction l with
  | nil =>
    intro h a _
    rfl
  | cons x l ih =>
    intro h a ha
    refine (ih (hnew h x.1 x.2) a (Nat.lt_succ_of_lt ha)).trans ?_
    exact if_neg (by omega)
theorem hns_ge : ∀ (l : List (AE × Nat)) (h : HS) (a : Nat), h.2.1 + l.length ≤ a → (hns h l).1 a = h.1 a := by
  intro l
  induction l with
  | nil =>
    intro h a _
    rfl
  | cons x l ih =>
    intro h a ha
    simp only [List.length_cons] at ha
    refine (ih (hnew h x.1 x.2) a (show h.2.1 + 1 + l.length ≤ a by omega)).trans ?_
    exact if_neg (by omega)
theorem hns_at : ∀ (l : List (AE × Nat)) (h : HS) (k : Nat) (x : AE × Nat), l[k]? = some x → (hns h l).1 (h.2.1 + k) = some x.1 := by
  intro l
  induction l with
  | nil =>
    intro h k x hk
    simp at hk
  | cons y l ih =>
    intro h k x hk
    match k, hk with
    | 0, hk =>
      simp at hk
      subst hk
      refine (hns_lt l (hnew h y.1 y.2) _ (Nat.lt_succ_self _)).trans ?_
      exact if_pos rfl
    | k + 1, hk =>
      simp at hk
      have := ih (hnew h y.1 y.2) k x hk
      rw [show h.2.1 + (k + 1) = (hnew h y.1 y.2).2.1 + k from by show h.2.1 + (k + 1) = h.2.1 + 1 + k; omega]
      exact this
def slN : List (AE × Nat) → Nat
  | [] => 0
  | x :: l => x.2 + slN l
theorem hns_z : ∀ (l : List (AE × Nat)) (h : HS), (hns h l).2 = (h.2.1 + l.length, h.2.2 + slN l) := by
  intro l
  induction l with
  | nil =>
    intro h
    rfl
  | cons x l ih =>
    intro h
    refine (ih (hnew h x.1 x.2)).trans ?_
    show (h.2.1 + 1 + l.length, h.2.2 + x.2 + slN l) = _
    simp only [List.length_cons, slN]
    exact Prod.ext (by show h.2.1 + 1 + l.length = h.2.1 + (l.length + 1); omega) (by show h.2.2 + x.2 + slN l = h.2.2 + (x.2 + slN l); omega)
theorem hput_hns : ∀ (l : List (AE × Nat)) (h : HS) (a : Nat) (e : AE), a < h.2.1 → hput (hns h l) a e = hns (hput h a e) l := by
  intro l
  induction l with
  | nil =>
    intro h a e _
    rfl
  | cons x l ih =>
    intro h a e ha
    refine (ih (hnew h x.1 x.2) a e (Nat.lt_succ_of_lt ha)).trans ?_
    have : hput (hnew h x.1 x.2) a e = hnew (hput h a e) x.1 x.2 := by
      refine Prod.ext (funext fun q => ?_) rfl
      show va_up (va_up h.1 h.2.1 (some x.1)) a (some e) q = va_up (va_up h.1 a (some e)) h.2.1 (some x.1) q
      unfold va_up
      by_cases h1 : q = a
      · rw [if_pos h1, if_neg (by omega), if_pos h1]
      · rw [if_neg h1]
        by_cases h2 : q = h.2.1
        · rw [if_pos h2, if_pos h2]
        · rw [if_neg h2, if_neg h2, if_neg h1]
    rw [this]
    rfl
theorem pf_hns {h : HS} {cs : List Nat} {k t ci n : Nat} {v : Value} {vs : List Value} {l : List (AE × Nat)} {K : HS → Prop} (hc : ci ∈ cs) (hk : k < vs.length) (hv : okv t v = true) : pf cs k t v (hns (hnew h (.inr (ci, vs)) n) l) h.2.1 K = K (hns (hnew h (.inr (ci, vs.set k v)) n) l) := by
  have h1 : (hns (hnew h (.inr (ci, vs)) n) l).1 h.2.1 = some (.inr (ci, vs)) := (hns_lt l _ _ (Nat.lt_succ_self _)).trans (if_pos rfl)
  simp only [pf, h1]
  rw [if_pos ⟨hc, hk, hv⟩, hput_hns l _ _ _ (Nat.lt_succ_self _), nw_put]
/-- a new bridge's cells, at a -/
def brL (a : Nat) : List (AE × Nat) := [(.inr (0, [.ref (a + 1), .int 0, .int 0, .ref (a + 2), .int 0, .ref (a + 3), .ref (a + 4), .int 0, .int 0]), 9), (.inl (0, 101, .inl (fun _ => 0)), 101), (.inl (2, 100, .inl (fun _ => 0)), 100), (.inl (2, 10, .inl (fun _ => 0)), 10), (.inl (2, 10, .inl (fun _ => 0)), 10)]
section
variable {V : Nat → Option AE} {Ev : Nat → Value} {d : Nat} {Q : Option Value → HS → Prop} {h : HS}
theorem c_brInit : WP V (cdT Ev) mx (d + 1) 1 [.ref h.2.1] (hnew h (.inr (0, [.null, .int 0, .int 0, .null, .int 0, .null, .null, .int 0, .int 0])) 9) Q = Q none (hns h (brL h.2.1)) := by
  have a1 : (hnew h (.inr (0, [.null, .int 0, .int 0, .null, .int 0, .null, .null, .int 0, .int 0])) 9).2.1 = h.2.1 + 1 := rfl
  have k101 : (¬ ((101 : Int32) < 0 ∨ (1000 : Nat) < 101)) = True := by decide
  have k100 : (¬ ((100 : Int32) < 0 ∨ (1000 : Nat) < 100)) = True := by decide
  have k10 : (¬ ((10 : Int32) < 0 ∨ (1000 : Nat) < 10)) = True := by decide
  have c101 : (101 : Int32).toNatClampNeg = 101 := by decide
  have c100 : (100 : Int32).toNatClampNeg = 100 := by decide
  have c10 : (10 : Int32).toNatClampNeg = 10 := by decide
  have p0 : ∀ (x0 x3 x5 x6 : Value) (b : Nat) (f : AE) (K : HS → Prop), pf [0] 0 2 (.ref b) (hnew (hnew h (.inr (0, [x0, .int 0, .int 0, x3, .int 0, x5, x6, .int 0, .int 0])) 9) f 101) h.2.1 K = K (hnew (hnew h (.inr (0, [.ref b, .int 0, .int 0, x3, .int 0, x5, x6, .int 0, .int 0])) 9) f 101) := fun x0 x3 x5 x6 b f K => pf_hns (l := [(f, 101)]) (by decide) (by simp) rfl
  have p3 : ∀ (x0 x3 x5 x6 : Value) (b : Nat) (f g : AE) (K : HS → Prop), pf [0] 3 2 (.ref b) (hnew (hnew (hnew h (.inr (0, [x0, .int 0, .int 0, x3, .int 0, x5, x6, .int 0, .int 0])) 9) f 101) g 100) h.2.1 K = K (hnew (hnew (hnew h (.inr (0, [x0, .int 0, .int 0, .ref b, .int 0, x5, x6, .int 0, .int 0])) 9) f 101) g 100) := fun x0 x3 x5 x6 b f g K => pf_hns (l := [(f, 101), (g, 100)]) (by decide) (by simp) rfl
  have p5 : ∀ (x0 x3 x5 x6 : Value) (b : Nat) (f g i : AE) (K : HS → Prop), pf [0] 5 2 (.ref b) (hnew (hnew (hnew (hnew h (.inr (0, [x0, .int 0, .int 0, x3, .int 0, x5, x6, .int 0, .int 0])) 9) f 101) g 100) i 10) h.2.1 K = K (hnew (hnew (hnew (hnew h (.inr (0, [x0, .int 0, .int 0, x3, .int 0, .ref b, x6, .int 0, .int 0])) 9) f 101) g 100) i 10) := fun x0 x3 x5 x6 b f g i K => pf_hns (l := [(f, 101), (g, 100), (i, 10)]) (by decide) (by simp) rfl
  have p6 : ∀ (x0 x3 x5 x6 : Value) (b : Nat) (f g i j : AE) (K : HS → Prop), pf [0] 6 2 (.ref b) (hnew (hnew (hnew (hnew (hnew h (.inr (0, [x0, .int 0, .int 0, x3, .int 0, x5, x6, .int 0, .int 0])) 9) f 101) g 100) i 10) j 10) h.2.1 K = K (hnew (hnew (hnew (hnew (hnew h (.inr (0, [x0, .int 0, .int 0, x3, .int 0, x5, .ref b, .int 0, .int 0])) 9) f 101) g 100) i 10) j 10) := fun x0 x3 x5 x6 b f g i j K => pf_hns (l := [(f, 101), (g, 100), (i, 10), (j, 10)]) (by decide) (by simp) rfl
  rw [e_1]
  simp only [s_1_0, s_1_1, s_1_4, s_1_5, s_1_7, s_1_9, s_1_12, s_1_13, s_1_15, s_1_17, s_1_20, s_1_21, s_1_23, s_1_25, s_1_28, s_1_29, s_1_31, s_1_33, s_1_36, ↓reduceIte, eq_self, rts_some, rts_none, nq_int, nq_ref, nq_null, nq_none, okr1_0, okr1_1, okr_b, List.length_nil, List.length_cons, Nat.zero_le, Nat.reduceAdd, Nat.reduceLeDiff, b2i_0, b2i_n0, b2i_1, b2i_n1, ite_not, if_true, if_false, not_true_eq_false, not_false_eq_true, true_and, and_true, false_and, and_false, k101, k100, k10, c101, c100, c10, hn21, p0, p3, p5, p6]
  rfl
end
