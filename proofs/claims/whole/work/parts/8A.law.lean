/-! The law from its first instruction. -/
def PureLaw : Prop := ∀ (V : Nat → Option AE) (Ev : Nat → Value) (b L : Nat) (xs : Nat → Int32) (sz0 : Nat), LC V Ev sz0 b L xs → wp V (cdT Ev) mx 800 0 0 [some (.ref b), none, none, none] [] (fun _ => none, sz0, 0) (fun r h' => r = some (.int 1) ∧ h'.2.1 ≤ 20000 + sz0 ∧ h'.2.2 ≤ 200000)
set_option maxHeartbeats 4000000 in
theorem sl_le {S : Nat} : slN (sL S) ≤ 7000 := by
  simp only [sL, maL, mdL, woL, roL, brL, trL, nil6, List.cons_append, List.nil_append, slN, Nat.reduceAdd, Nat.add_zero]
  exact Nat.le_of_ble_eq_true rfl
set_option maxHeartbeats 8000000 in
theorem law_pure : PureLaw := by
  intro V Ev sb L xs S lc
  have E : ∀ (d : Nat) (Q : Option Value → HS → Prop), wp V (cdT Ev) mx (d + 40) 0 18 [some (.ref sb), some (.ref S), some (.ref (S + 56)), some (.int (nI 0))] [] (hns (fun _ => none, S, 0) (sL S)) Q → wp V (cdT Ev) mx (d + 40) 0 0 [some (.ref sb), none, none, none] [] (fun _ => none, S, 0) Q := by
    intro d Q H
    have n1 : (hns ((fun _ => none, S, 0) : HS) (maL S)).2.1 = S + 56 := by rw [hns_n]; rfl
    simp only [s_0_0, s_0_3, s_0_4, ↓reduceIte, eq_self, rts_some, rts_none, nq_int, nq_ref, nq_null, nq_none, okr1_0, okr1_1, okr_b, List.length_nil, List.length_cons, Nat.zero_le, Nat.reduceAdd, Nat.reduceLeDiff, b2i_0, b2i_n0, b2i_1, b2i_n1, ite_not, if_true, if_false, not_true_eq_false, not_false_eq_true, true_and, and_true, false_and, and_false]
    rw [c_maInit (d := d + 36) (h := ((fun _ => none, S, 0) : HS))]
    simp only [s_0_7, s_0_8, s_0_11, s_0_12, ↓reduceIte, eq_self, rts_some, rts_none, nq_int, nq_ref, nq_null, nq_none, okr1_0, okr1_1, okr_b, List.length_nil, List.length_cons, Nat.zero_le, Nat.reduceAdd, Nat.reduceLeDiff, b2i_0, b2i_n0, b2i_1, b2i_n1, ite_not, if_true, if_false, not_true_eq_false, not_false_eq_true, true_and, and_true, false_and, and_false]
    rw [m_init (d := d + 38)]
    simp only [s_0_15, s_0_16, s_0_17, ↓reduceIte, eq_self, rts_some, rts_none, nq_int, nq_ref, nq_null, nq_none, okr1_0, okr1_1, okr_b, List.length_nil, List.length_cons, Nat.zero_le, Nat.reduceAdd, Nat.reduceLeDiff, b2i_0, b2i_n0, b2i_1, b2i_n1, ite_not, if_true, if_false, not_true_eq_false, not_false_eq_true, true_and, and_true, false_and, and_false]
    rw [n1, ← hns_app]
    exact H
  refine E 760 _ ?_
  refine law_l (x0 := S) (b := S + 56) (BIG := S + 1000000) (S := S) lc 512 0 (S + 76) (slN (sL S)) _ (by have := lc.2.2.1; omega) (by omega) (by omega) (INV0 (by omega)) ?_
  intro h2 hI
  obtain ⟨LG, gr, C, G, z, M, F, ex, hd, nb, n, sc, ar, lg, e, ⟨-, -, e1, e2⟩, -⟩ := hI
  have q := sl_le (S := S)
  subst e
  refine ⟨rfl, ?_, ?_⟩
  · show z.1 ≤ _
    omega
  · show z.2 ≤ _
    omega
