/-! Feed, bridge: the class. -/
def LGb (LG : Nat → Nat) (r m a : Nat) : Nat → Nat := fun q => if r ≤ q ∧ q < r + m then a + (q - r) else LG q
def grb (gr : Nat → Nat) (r m a : Nat) : Nat → Nat := fun q => if a ≤ q ∧ q < a + m then r + (q - a) else gr q
section
variable {LG gr : Nat → Nat} {C C' G : Nat → Option AE} {z : Nat × Nat} {BIG : Nat}
theorem LGb_o {r m a q : Nat} (h : q < r ∨ r + m ≤ q) : LGb LG r m a q = LG q := if_neg (by omega)
theorem LGb_i {r m a j : Nat} (h : j < m) : LGb LG r m a (r + j) = a + j := by
  unfold LGb
  rw [if_pos (by omega), Nat.add_sub_cancel_left]
/-- cells made in a row take fresh roles -/
theorem blk {l : List (AE × Nat)} {r : Nat} (hL : LV LG gr C z BIG) (hz : z.1 + l.length ≤ BIG) (hC : ∀ q e, C' q = some e → (r ≤ q ∧ q < r + l.length ∧ ∃ x, l[q - r]? = some x ∧ x.1 = e) ∨ ((q < r ∨ r + l.length ≤ q) ∧ C q = some e)) : ∃ G', hns (GH LG gr C G z) l = GH (LGb LG r l.length z.1) (grb gr r l.length z.1) C' G' (z.1 + l.length, z.2 + slN l) ∧ LV (LGb LG r l.length z.1) (grb gr r l.length z.1) C' (z.1 + l.length, z.2 + slN l) BIG ∧ (∀ S, GN S LG G z → GN S (LGb LG r l.length z.1) G' (z.1 + l.length, z.2 + slN l)) := by
  obtain ⟨hg, hF, hA⟩ := hL
  have key : ∀ q e, C' q = some e → (hns (GH LG gr C G z) l).1 (LGb LG r l.length z.1 q) = some e ∧ LGb LG r l.length z.1 q < z.1 + l.length := by
    intro q e he
    rcases hC q e he with ⟨h1, h2, x, hx, ex⟩ | ⟨h1, h2⟩
    · have : LGb LG r l.length z.1 q = z.1 + (q - r) := if_pos ⟨h1, h2⟩
      rw [this]
      refine ⟨?_, by omega⟩
      rw [← ex]
      exact hns_at l (GH LG gr C G z) (q - r) x hx
    · rw [LGb_o h1]
      have hlt := hA q e h2
      refine ⟨?_, by omega⟩
      rw [hns_lt l (GH LG gr C G z) _ hlt]
      exact GH_at hg h2
  refine ⟨(hns (GH LG gr C G z) l).1, ?_, ⟨fun q => ?_, fun q => ?_, fun q e he => (key q e he).2⟩, fun S hS => ⟨fun q => ?_, fun a ha => ?_, ?_⟩⟩
  · have := GH_of (LG := LGb LG r l.length z.1) (gr := grb gr r l.length z.1) (h := hns (GH LG gr C G z) l) (fun q e he => (key q e he).1)
    rw [hns_z l (GH LG gr C G z)] at this
    exact this
  · have hFq := hF q
    unfold LGb grb
    by_cases h1 : r ≤ q ∧ q < r + l.length
    · rw [if_pos h1, if_pos (by omega)]
      omega
    · rw [if_neg h1, if_neg (by omega)]
      exact hg q
  · have hFq := hF q
    unfold LGb
    show _ < z.1 + l.length ∨ _
    by_cases h1 : r ≤ q ∧ q < r + l.length
    · rw [if_pos h1]
      exact Or.inl (by omega)
    · rw [if_neg h1]
      omega
  · have h1 := hS.1 q
    have h2 := hS.2.2
    unfold LGb
    split <;> omega
  · have h1 := hS.1 (gr a)
    have h3 := hS.2.2
    refine (hns_lt l (GH LG gr C G z) a (show a < z.1 by omega)).trans ?_
    refine (if_neg (show LG (gr a) ≠ a by omega)).trans ?_
    exact hS.2.1 a ha
  · have h3 := hS.2.2
    show S ≤ z.1 + l.length
    omega
end
section
variable {LG gr : Nat → Nat} {M F : Nat → Int32} {ex : Nat → Bool} {hd : Option Nat} {D G : Nat → Option AE} {z : Nat × Nat}
variable {r n a cs k : Nat} {fr : Int32} {T cd wt en : Nat → Int32}
theorem WC_BC {B : Nat} (h : B + 25 ≤ r) : WC LG B M F ex hd (BC LG r n a cs k fr T cd wt en D) = BC LG r n a cs k fr T cd wt en (WC LG B M F ex hd D) := by
  funext q
  by_cases h1 : q < B ∨ B + 25 ≤ q
  · rw [WC_out h1]
    by_cases h2 : q < r ∨ r + 5 ≤ q
    · rw [BC_out h2, BC_out h2, WC_out h1]
    · obtain ⟨j, hj, rfl⟩ : ∃ j, j < 5 ∧ q = r + j := ⟨q - r, by omega, by omega⟩
      rw [BC_k j hj, BC_k j hj]
  · obtain ⟨j, hj, rfl⟩ : ∃ j, j < 25 ∧ q = B + j := ⟨q - B, by omega, by omega⟩
    rw [WC_k j hj, BC_out (by omega), WC_k j hj]
theorem BC_LG {LG' : Nat → Nat} (h : ∀ j, j < 5 → LG' (r + j) = LG (r + j)) : BC LG' r n a cs k fr T cd wt en D = BC LG r n a cs k fr T cd wt en D := by
  funext q
  by_cases h2 : q < r ∨ r + 5 ≤ q
  · rw [BC_out h2, BC_out h2]
  · obtain ⟨j, hj, rfl⟩ : ∃ j, j < 5 ∧ q = r + j := ⟨q - r, by omega, by omega⟩
    rw [BC_k j hj, BC_k j hj]
    match j, hj with
    | 0, _ => simp only [bcl, h 1 (by decide), h 2 (by decide), h 3 (by decide), h 4 (by decide)]
    | 1, _ => rfl
    | 2, _ => rfl
    | 3, _ => rfl
    | 4, _ => rfl
    | j + 5, h => exact absurd h (by omega)
theorem DM_BC {kf : Int32} {nb : Nat} (hr : 0 < r) (h : DM LG D kf nb) : DM LG (BC LG r n a cs k fr T cd wt en D) kf nb := (BC_out (Or.inl hr)).trans h
/-- which roles a bridge's cells have does not hang on what they hold -/
theorem LV_BC {n' a' cs' k' : Nat} {fr' : Int32} {T' cd' wt' en' : Nat → Int32} {BIG : Nat} (h : LV LG gr (BC LG r n a cs k fr T cd wt en D) z BIG) : LV LG gr (BC LG r n' a' cs' k' fr' T' cd' wt' en' D) z BIG := by
  refine ⟨h.1, h.2.1, fun q e he => ?_⟩
  by_cases h2 : q < r ∨ r + 5 ≤ q
  · rw [BC_out h2] at he
    exact h.2.2 q e ((BC_out h2).trans he)
  · obtain ⟨j, hj, rfl⟩ : ∃ j, j < 5 ∧ q = r + j := ⟨q - r, by omega, by omega⟩
    match j, hj with
    | 0, _ => exact h.2.2 _ _ (BC_k 0 (by decide))
    | 1, _ => exact h.2.2 _ _ (BC_k 1 (by decide))
    | 2, _ => exact h.2.2 _ _ (BC_k 2 (by decide))
    | 3, _ => exact h.2.2 _ _ (BC_k 3 (by decide))
    | 4, _ => exact h.2.2 _ _ (BC_k 4 (by decide))
    | j + 5, h => exact absurd h (by omega)
variable {V : Nat → Option AE} {Ev : Nat → Value} {d nb : Nat} {kf : Int32} {Q : Option Value → HS → Prop}
theorem c_feed (hg : ∀ r, gr (LG r) = r) (hm : DM LG D kf nb) (hn : n ≤ 100) {s : Int32} : WP V (cdT Ev) mx (d + 1) 76 [.ref (LG 0), .int s] (GH LG gr (BC LG (300 + 5 * nb) n a cs k fr T cd wt en D) G z) Q = if 0 ≤ s ∧ s ≤ 127 then (if n = 100 then Q (some (.int (-4))) (GH LG gr (BC LG (300 + 5 * nb) n a cs k fr T cd wt en D) G z) else Q (some (.int (nI (n + 1)))) (GH LG gr (BC LG (300 + 5 * nb) (n + 1) a cs k fr (upd T n s) cd wt en D) G z)) else Q (some (.int (-2))) (GH LG gr (BC LG (300 + 5 * nb) n a cs k fr T cd wt en D) G z) := by
  have hm1 : ∀ n T, DM LG (BC LG (300 + 5 * nb) n a cs k fr T cd wt en D) kf nb := fun n T => DM_BC (by omega) hm
  rw [e_76]
  by_cases s0 : s < 0
  · rw [if_neg (fun h => absurd s0 (Int32.not_lt.mpr h.1))]
    simp only [s_76_0, s_76_1, s_76_4, s_76_5, s_76_7, s_76_10, s_76_12, s_76_13, s_76_13_n, s_76_14, s_76_17, s_76_20, s_76_22, s_76_25, s_76_27, s_76_28, s_76_28_n, s_76_29, s_76_32, s_76_35, s_76_35_n, s_76_36, s_76_39, s_76_42, s_76_43, s_76_44, s_76_45, s_76_45_n, s_76_46, s_76_49, s_76_49_i, s_76_50, s_76_53, s_76_54, s_76_55, s_76_58, s_76_58_n, s_76_59, s_76_62, s_76_65, ↓reduceIte, eq_self, rts_some, rts_none, nq_int, nq_ref, nq_null, nq_none, okr1_0, okr1_1, okr_b, List.length_nil, List.length_cons, Nat.zero_le, Nat.reduceAdd, Nat.reduceLeDiff, b2i_0, b2i_n0, b2i_1, b2i_n1, ite_not, if_true, if_false, not_true_eq_false, not_false_eq_true, true_and, and_true, false_and, and_false, s0]
  · by_cases s1 : s ≤ 127
    · rw [if_pos ⟨Int32.not_lt.mp s0, s1⟩]
      by_cases h100 : n = 100
      · rw [if_pos h100]
        subst h100
        simp only [s_76_0, s_76_1, s_76_4, s_76_5, s_76_7, s_76_10, s_76_12, s_76_13, s_76_13_n, s_76_14, s_76_17, s_76_20, s_76_22, s_76_25, s_76_27, s_76_28, s_76_28_n, s_76_29, s_76_32, s_76_35, s_76_35_n, s_76_36, s_76_39, s_76_42, s_76_43, s_76_44, s_76_45, s_76_45_n, s_76_46, s_76_49, s_76_49_i, s_76_50, s_76_53, s_76_54, s_76_55, s_76_58, s_76_58_n, s_76_59, s_76_62, s_76_65, ↓reduceIte, eq_self, rts_some, rts_none, nq_int, nq_ref, nq_null, nq_none, okr1_0, okr1_1, okr_b, List.length_nil, List.length_cons, Nat.zero_le, Nat.reduceAdd, Nat.reduceLeDiff, b2i_0, b2i_n0, b2i_1, b2i_n1, ite_not, if_true, if_false, not_true_eq_false, not_false_eq_true, true_and, and_true, false_and, and_false, s0, s1, dg_4 hg (hm1 _ _), bg_1 hg, show (nI 100 < 100) = False from by decide]
      · rw [if_neg h100]
        obtain ⟨q, hq, rfl⟩ : ∃ q, q ≤ 127 ∧ s = nI q := nI_of2 (M := 127) (n := 127) (by decide) s0 s1
        have hl : (nI n < 100) = True := eq_true (nI_lt (a := n) (b := 100) (by omega) (by decide))
        simp only [s_76_0, s_76_1, s_76_4, s_76_5, s_76_7, s_76_10, s_76_12, s_76_13, s_76_13_n, s_76_14, s_76_17, s_76_20, s_76_22, s_76_25, s_76_27, s_76_28, s_76_28_n, s_76_29, s_76_32, s_76_35, s_76_35_n, s_76_36, s_76_39, s_76_42, s_76_43, s_76_44, s_76_45, s_76_45_n, s_76_46, s_76_49, s_76_49_i, s_76_50, s_76_53, s_76_54, s_76_55, s_76_58, s_76_58_n, s_76_59, s_76_62, s_76_65, ↓reduceIte, eq_self, rts_some, rts_none, nq_int, nq_ref, nq_null, nq_none, okr1_0, okr1_1, okr_b, List.length_nil, List.length_cons, Nat.zero_le, Nat.reduceAdd, Nat.reduceLeDiff, b2i_0, b2i_n0, b2i_1, b2i_n1, ite_not, if_true, if_false, not_true_eq_false, not_false_eq_true, true_and, and_true, false_and, and_false, s0, s1, dg_4 hg (hm1 _ _), bg_1 hg, bg_0 hg, hl, ch_8 q (by omega), ch_nar q (by omega), bs_1 hg, ix_nIT (show n < 101 by omega) (show 101 < 2 ^ 31 by decide), nI_clamp (show n < 2 ^ 31 by omega), nI_1, bp_1 hg]
    · rw [if_neg (fun h => s1 h.2)]
      simp only [s_76_0, s_76_1, s_76_4, s_76_5, s_76_7, s_76_10, s_76_12, s_76_13, s_76_13_n, s_76_14, s_76_17, s_76_20, s_76_22, s_76_25, s_76_27, s_76_28, s_76_28_n, s_76_29, s_76_32, s_76_35, s_76_35_n, s_76_36, s_76_39, s_76_42, s_76_43, s_76_44, s_76_45, s_76_45_n, s_76_46, s_76_49, s_76_49_i, s_76_50, s_76_53, s_76_54, s_76_55, s_76_58, s_76_58_n, s_76_59, s_76_62, s_76_65, ↓reduceIte, eq_self, rts_some, rts_none, nq_int, nq_ref, nq_null, nq_none, okr1_0, okr1_1, okr_b, List.length_nil, List.length_cons, Nat.zero_le, Nat.reduceAdd, Nat.reduceLeDiff, b2i_0, b2i_n0, b2i_1, b2i_n1, ite_not, if_true, if_false, not_true_eq_false, not_false_eq_true, true_and, and_true, false_and, and_false, s0, s1]
end
