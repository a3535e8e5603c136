/-! Act, trace, taken, count: the class. -/
section
variable {LG gr : Nat → Nat} {C G : Nat → Option AE} {z : Nat × Nat} {M F : Nat → Int32} {ex : Nat → Bool} {hd : Option Nat} {t : Tr}
/-- a cell beside a world -/
theorem WC_up {B r : Nat} {e : AE} (h : r < B ∨ B + 25 ≤ r) : va_up (WC LG B M F ex hd C) r (some e) = WC LG B M F ex hd (va_up C r (some e)) := by
  funext q
  simp only [va_up]
  by_cases h1 : q = r
  · subst h1
    rw [if_pos rfl, WC_out h]
    exact (if_pos rfl).symm
  · rw [if_neg h1]
    by_cases h2 : q < B ∨ B + 25 ≤ q
    · rw [WC_out h2, WC_out h2]
      exact (if_neg h1).symm
    · obtain ⟨k, hk, rfl⟩ : ∃ k, k < 25 ∧ q = B + k := ⟨q - B, by omega, by omega⟩
      rw [WC_k k hk, WC_k k hk]
theorem WC_TRC {B : Nat} (hB : 3 ≤ B) : WC LG B M F ex hd (TRC LG t C) = TRC LG t (WC LG B M F ex hd C) := by
  unfold TRC
  rw [WC_up (by omega), WC_up (by omega)]
theorem TRC_id {bod : Nat → Int32} {n : Nat} (h1 : C 1 = some (.inr (9, [.ref (LG 2), .int (nI n)]))) (h2 : C 2 = some (.inl (2, 20, .inl bod))) : TRC LG (bod, n) C = C := by
  funext r
  unfold TRC va_up
  by_cases e2 : r = 2
  · rw [if_pos e2, e2, h2]
  · rw [if_neg e2]
    by_cases e1 : r = 1
    · rw [if_pos e1, e1, h1]
    · rw [if_neg e1]
theorem DM_TRC {kf : Int32} {nb : Nat} (h : DM LG C kf nb) : DM LG (TRC LG t C) kf nb := h
end
section
variable {V : Nat → Option AE} {Ev : Nat → Value} {d : Nat} {Q : Option Value → HS → Prop}
variable {LG gr : Nat → Nat} {M F : Nat → Int32} {ex : Nat → Bool} {hd : Option Nat} {C G : Nat → Option AE} {z : Nat × Nat} {cl : List Cls} {kf : Int32} {nb c : Nat}
theorem c_act25 (hg : ∀ r, gr (LG r) = r) (hm : DM LG C kf nb) (hk : WK M ex c) {bod : Nat → Int32} {i j : Nat} {x : Int32} (hi : i < c) (hj : j < 3) : wp V (cdT Ev) mx (d + 12) 93 25 [some (.ref (LG 0)), some (.int (nI i)), some (.int (nI j)), some (.int x), some (.ref (LG (100 + 13 + i)))] [] (GW LG gr 100 M F ex hd (TRC LG (bod, 0) C) G z) Q = Q (some (.int (acR M bod (nI i) (nI j) x).1)) (GW LG gr 100 M F ex hd (TRC LG (acR M bod (nI i) (nI j) x).2 C) G z) := by
  have h6 := WK_6 hk hi
  have he := WK_1 hk hi
  obtain ⟨⟨K, hK, eK⟩, -⟩ := WK_P hk hi
  have hp : PO LG (WC LG 100 M F ex hd C) 100 M i := PO_W h6 he
  have g6 : ∀ (T : Tr) (K : Value → Prop), gf [11] 6 (GH LG gr (TRC LG T (WC LG 100 M F ex hd C)) G z) (LG 0) K = K (.ref (LG 1)) := fun T K => dg_6 hg (DM_TRC (DM_W (by decide) hm))
  have eR : acR M bod (nI i) (nI j) x = (acF K (M (14 + 9 * i + 1)) i 8 K j x (bod, 0)).getD (0, bod, 0) := by
    have ha : 0 ≤ nI j ∧ nI j ≤ 2 := ⟨nI_pos' (by omega), nI_le (a := j) (b := 2) (by omega) (by decide)⟩
    unfold acR
    rw [if_pos ⟨oneQ_x hk.1 hi rfl, ha⟩, nI_clamp (show i < 2 ^ 31 by omega), nI_clamp (show j < 2 ^ 31 by omega), eK, nI_clamp (show K < 2 ^ 31 by omega)]
  rw [eR]
  simp only [GW, WC_TRC (LG := LG) (C := C) (M := M) (F := F) (ex := ex) (hd := hd) (B := 100) (show 3 ≤ 100 by decide)]
  match K, j, hK, hj with
  | 0, 0, _, _ =>
    have hs : ∀ T : Nat → Prop, swp T 85 (nI 0) [(0, 52), (1, 63), (2, 74)] = T 52 := fun T => rfl
    have hcv : ∀ (T : Tr) (K : Nat → Prop), cv [(1, 20), (2, 20), (3, 27), (4, 27), (5, 32), (6, 27), (8, 45)] (GH LG gr (TRC LG T (WC LG 100 M F ex hd C)) G z) (LG (100 + 13 + i)) K = K 27 := fun T K => r_cv hg (TRC_PO hp).1 (by rw [eK]; rfl)
    have hc := fun (Q : Option Value → HS → Prop) => ca_0_27 (V := V) (Ev := Ev) (d := d + 10) (Q := Q) (G := G) (z := z) (x := x) (t := (bod, 0)) hg hp eK (show 0 + 1 < 2 ^ 20 by decide)
    simp only [s_93_0, s_93_0_n, s_93_1, s_93_4, s_93_5, s_93_8, s_93_8_n, s_93_9, s_93_12, s_93_13, s_93_16, s_93_16_n, s_93_18, s_93_18_n, s_93_20, s_93_20_n, s_93_23, s_93_24, s_93_25, s_93_26, s_93_52, s_93_52_n, s_93_54, s_93_54_n, s_93_55, s_93_58, s_93_59, s_93_62, s_93_63, s_93_63_n, s_93_65, s_93_65_n, s_93_66, s_93_69, s_93_70, s_93_73, s_93_74, s_93_74_n, s_93_76, s_93_76_n, s_93_77, s_93_80, s_93_81, s_93_84, s_93_85, s_93_86, ↓reduceIte, eq_self, rts_some, rts_none, nq_int, nq_ref, nq_null, nq_none, okr1_0, okr1_1, okr_b, List.length_nil, List.length_cons, Nat.zero_le, Nat.reduceAdd, Nat.reduceLeDiff, b2i_0, b2i_n0, b2i_1, b2i_n1, ite_not, if_true, if_false, not_true_eq_false, not_false_eq_true, true_and, and_true, false_and, and_false, hs, g6, hcv, hc]
    rfl
  | 0, 1, _, _ =>
    have hs : ∀ T : Nat → Prop, swp T 85 (nI 1) [(0, 52), (1, 63), (2, 74)] = T 63 := fun T => rfl
    have hcv : ∀ (T : Tr) (K : Nat → Prop), cv [(1, 28), (2, 28), (3, 28), (4, 28), (5, 33), (6, 36), (8, 44)] (GH LG gr (TRC LG T (WC LG 100 M F ex hd C)) G z) (LG (100 + 13 + i)) K = K 28 := fun T K => r_cv hg (TRC_PO hp).1 (by rw [eK]; rfl)
    have hc := fun (Q : Option Value → HS → Prop) => ca_0_28 (V := V) (Ev := Ev) (d := d + 9) (Q := Q) (G := G) (z := z) (x := x) (t := (bod, 0)) hg hp eK (show 0 + 2 < 2 ^ 20 by decide)
    simp only [s_93_0, s_93_0_n, s_93_1, s_93_4, s_93_5, s_93_8, s_93_8_n, s_93_9, s_93_12, s_93_13, s_93_16, s_93_16_n, s_93_18, s_93_18_n, s_93_20, s_93_20_n, s_93_23, s_93_24, s_93_25, s_93_26, s_93_52, s_93_52_n, s_93_54, s_93_54_n, s_93_55, s_93_58, s_93_59, s_93_62, s_93_63, s_93_63_n, s_93_65, s_93_65_n, s_93_66, s_93_69, s_93_70, s_93_73, s_93_74, s_93_74_n, s_93_76, s_93_76_n, s_93_77, s_93_80, s_93_81, s_93_84, s_93_85, s_93_86, ↓reduceIte, eq_self, rts_some, rts_none, nq_int, nq_ref, nq_null, nq_none, okr1_0, okr1_1, okr_b, List.length_nil, List.length_cons, Nat.zero_le, Nat.reduceAdd, Nat.reduceLeDiff, b2i_0, b2i_n0, b2i_1, b2i_n1, ite_not, if_true, if_false, not_true_eq_false, not_false_eq_true, true_and, and_true, false_and, and_false, hs, g6, hcv, hc]
    rfl
  | 0, 2, _, _ =>
    have hs : ∀ T : Nat → Prop, swp T 85 (nI 2) [(0, 52), (1, 63), (2, 74)] = T 74 := fun T => rfl
    have hcv : ∀ (T : Tr) (K : Nat → Prop), cv [(1, 17), (2, 29), (3, 23), (4, 29), (5, 29), (6, 29), (8, 23)] (GH LG gr (TRC LG T (WC LG 100 M F ex hd C)) G z) (LG (100 + 13 + i)) K = K 29 := fun T K => r_cv hg (TRC_PO hp).1 (by rw [eK]; rfl)
    have hc := fun (Q : Option Value → HS → Prop) => ca_0_29 (V := V) (Ev := Ev) (d := d + 8) (Q := Q) (G := G) (z := z) (x := x) (t := (bod, 0)) hg hp eK (show 0 + 3 < 2 ^ 20 by decide)
    simp only [s_93_0, s_93_0_n, s_93_1, s_93_4, s_93_5, s_93_8, s_93_8_n, s_93_9, s_93_12, s_93_13, s_93_16, s_93_16_n, s_93_18, s_93_18_n, s_93_20, s_93_20_n, s_93_23, s_93_24, s_93_25, s_93_26, s_93_52, s_93_52_n, s_93_54, s_93_54_n, s_93_55, s_93_58, s_93_59, s_93_62, s_93_63, s_93_63_n, s_93_65, s_93_65_n, s_93_66, s_93_69, s_93_70, s_93_73, s_93_74, s_93_74_n, s_93_76, s_93_76_n, s_93_77, s_93_80, s_93_81, s_93_84, s_93_85, s_93_86, ↓reduceIte, eq_self, rts_some, rts_none, nq_int, nq_ref, nq_null, nq_none, okr1_0, okr1_1, okr_b, List.length_nil, List.length_cons, Nat.zero_le, Nat.reduceAdd, Nat.reduceLeDiff, b2i_0, b2i_n0, b2i_1, b2i_n1, ite_not, if_true, if_false, not_true_eq_false, not_false_eq_true, true_and, and_true, false_and, and_false, hs, g6, hcv, hc]
    rfl
  | 1, 0, _, _ =>
    have hs : ∀ T : Nat → Prop, swp T 85 (nI 0) [(0, 52), (1, 63), (2, 74)] = T 52 := fun T => rfl
    have hcv : ∀ (T : Tr) (K : Nat → Prop), cv [(1, 20), (2, 20), (3, 27), (4, 27), (5, 32), (6, 27), (8, 45)] (GH LG gr (TRC LG T (WC LG 100 M F ex hd C)) G z) (LG (100 + 13 + i)) K = K 27 := fun T K => r_cv hg (TRC_PO hp).1 (by rw [eK]; rfl)
    have hc := fun (Q : Option Value → HS → Prop) => ca_1_27 (V := V) (Ev := Ev) (d := d + 10) (Q := Q) (G := G) (z := z) (x := x) (t := (bod, 0)) hg hp eK (show 0 + 1 < 2 ^ 20 by decide)
    simp only [s_93_0, s_93_0_n, s_93_1, s_93_4, s_93_5, s_93_8, s_93_8_n, s_93_9, s_93_12, s_93_13, s_93_16, s_93_16_n, s_93_18, s_93_18_n, s_93_20, s_93_20_n, s_93_23, s_93_24, s_93_25, s_93_26, s_93_52, s_93_52_n, s_93_54, s_93_54_n, s_93_55, s_93_58, s_93_59, s_93_62, s_93_63, s_93_63_n, s_93_65, s_93_65_n, s_93_66, s_93_69, s_93_70, s_93_73, s_93_74, s_93_74_n, s_93_76, s_93_76_n, s_93_77, s_93_80, s_93_81, s_93_84, s_93_85, s_93_86, ↓reduceIte, eq_self, rts_some, rts_none, nq_int, nq_ref, nq_null, nq_none, okr1_0, okr1_1, okr_b, List.length_nil, List.length_cons, Nat.zero_le, Nat.reduceAdd, Nat.reduceLeDiff, b2i_0, b2i_n0, b2i_1, b2i_n1, ite_not, if_true, if_false, not_true_eq_false, not_false_eq_true, true_and, and_true, false_and, and_false, hs, g6, hcv, hc]
    rfl
  | 1, 1, _, _ =>
    have hs : ∀ T : Nat → Prop, swp T 85 (nI 1) [(0, 52), (1, 63), (2, 74)] = T 63 := fun T => rfl
    have hcv : ∀ (T : Tr) (K : Nat → Prop), cv [(1, 28), (2, 28), (3, 28), (4, 28), (5, 33), (6, 36), (8, 44)] (GH LG gr (TRC LG T (WC LG 100 M F ex hd C)) G z) (LG (100 + 13 + i)) K = K 36 := fun T K => r_cv hg (TRC_PO hp).1 (by rw [eK]; rfl)
    have hc := fun (Q : Option Value → HS → Prop) => ca_1_36 (V := V) (Ev := Ev) (d := d + 8) (Q := Q) (G := G) (z := z) (x := x) (t := (bod, 0)) hg hp eK (show 0 + 3 < 2 ^ 20 by decide)
    simp only [s_93_0, s_93_0_n, s_93_1, s_93_4, s_93_5, s_93_8, s_93_8_n, s_93_9, s_93_12, s_93_13, s_93_16, s_93_16_n, s_93_18, s_93_18_n, s_93_20, s_93_20_n, s_93_23, s_93_24, s_93_25, s_93_26, s_93_52, s_93_52_n, s_93_54, s_93_54_n, s_93_55, s_93_58, s_93_59, s_93_62, s_93_63, s_93_63_n, s_93_65, s_93_65_n, s_93_66, s_93_69, s_93_70, s_93_73, s_93_74, s_93_74_n, s_93_76, s_93_76_n, s_93_77, s_93_80, s_93_81, s_93_84, s_93_85, s_93_86, ↓reduceIte, eq_self, rts_some, rts_none, nq_int, nq_ref, nq_null, nq_none, okr1_0, okr1_1, okr_b, List.length_nil, List.length_cons, Nat.zero_le, Nat.reduceAdd, Nat.reduceLeDiff, b2i_0, b2i_n0, b2i_1, b2i_n1, ite_not, if_true, if_false, not_true_eq_false, not_false_eq_true, true_and, and_true, false_and, and_false, hs, g6, hcv, hc]
    rfl
  | 1, 2, _, _ =>
    have hs : ∀ T : Nat → Prop, swp T 85 (nI 2) [(0, 52), (1, 63), (2, 74)] = T 74 := fun T => rfl
    have hcv : ∀ (T : Tr) (K : Nat → Prop), cv [(1, 17), (2, 29), (3, 23), (4, 29), (5, 29), (6, 29), (8, 23)] (GH LG gr (TRC LG T (WC LG 100 M F ex hd C)) G z) (LG (100 + 13 + i)) K = K 29 := fun T K => r_cv hg (TRC_PO hp).1 (by rw [eK]; rfl)
    have hc := fun (Q : Option Value → HS → Prop) => ca_1_29 (V := V) (Ev := Ev) (d := d + 7) (Q := Q) (G := G) (z := z) (x := x) (t := (bod, 0)) hg hp eK (show 0 + 4 < 2 ^ 20 by decide)
    simp only [s_93_0, s_93_0_n, s_93_1, s_93_4, s_93_5, s_93_8, s_93_8_n, s_93_9, s_93_12, s_93_13, s_93_16, s_93_16_n, s_93_18, s_93_18_n, s_93_20, s_93_20_n, s_93_23, s_93_24, s_93_25, s_93_26, s_93_52, s_93_52_n, s_93_54, s_93_54_n, s_93_55, s_93_58, s_93_59, s_93_62, s_93_63, s_93_63_n, s_93_65, s_93_65_n, s_93_66, s_93_69, s_93_70, s_93_73, s_93_74, s_93_74_n, s_93_76, s_93_76_n, s_93_77, s_93_80, s_93_81, s_93_84, s_93_85, s_93_86, ↓reduceIte, eq_self, rts_some, rts_none, nq_int, nq_ref, nq_null, nq_none, okr1_0, okr1_1, okr_b, List.length_nil, List.length_cons, Nat.zero_le, Nat.reduceAdd, Nat.reduceLeDiff, b2i_0, b2i_n0, b2i_1, b2i_n1, ite_not, if_true, if_false, not_true_eq_false, not_false_eq_true, true_and, and_true, false_and, and_false, hs, g6, hcv, hc]
    rfl
  | 2, 0, _, _ =>
    have hs : ∀ T : Nat → Prop, swp T 85 (nI 0) [(0, 52), (1, 63), (2, 74)] = T 52 := fun T => rfl
    have hcv : ∀ (T : Tr) (K : Nat → Prop), cv [(1, 20), (2, 20), (3, 27), (4, 27), (5, 32), (6, 27), (8, 45)] (GH LG gr (TRC LG T (WC LG 100 M F ex hd C)) G z) (LG (100 + 13 + i)) K = K 20 := fun T K => r_cv hg (TRC_PO hp).1 (by rw [eK]; rfl)
    have hc := fun (Q : Option Value → HS → Prop) => ca_2_20 (V := V) (Ev := Ev) (d := d + 9) (Q := Q) (G := G) (z := z) (x := x) (t := (bod, 0)) hg hp eK (show 0 + 2 < 2 ^ 20 by decide)
    simp only [s_93_0, s_93_0_n, s_93_1, s_93_4, s_93_5, s_93_8, s_93_8_n, s_93_9, s_93_12, s_93_13, s_93_16, s_93_16_n, s_93_18, s_93_18_n, s_93_20, s_93_20_n, s_93_23, s_93_24, s_93_25, s_93_26, s_93_52, s_93_52_n, s_93_54, s_93_54_n, s_93_55, s_93_58, s_93_59, s_93_62, s_93_63, s_93_63_n, s_93_65, s_93_65_n, s_93_66, s_93_69, s_93_70, s_93_73, s_93_74, s_93_74_n, s_93_76, s_93_76_n, s_93_77, s_93_80, s_93_81, s_93_84, s_93_85, s_93_86, ↓reduceIte, eq_self, rts_some, rts_none, nq_int, nq_ref, nq_null, nq_none, okr1_0, okr1_1, okr_b, List.length_nil, List.length_cons, Nat.zero_le, Nat.reduceAdd, Nat.reduceLeDiff, b2i_0, b2i_n0, b2i_1, b2i_n1, ite_not, if_true, if_false, not_true_eq_false, not_false_eq_true, true_and, and_true, false_and, and_false, hs, g6, hcv, hc]
    rfl
  | 2, 1, _, _ =>
    have hs : ∀ T : Nat → Prop, swp T 85 (nI 1) [(0, 52), (1, 63), (2, 74)] = T 63 := fun T => rfl
    have hcv : ∀ (T : Tr) (K : Nat → Prop), cv [(1, 28), (2, 28), (3, 28), (4, 28), (5, 33), (6, 36), (8, 44)] (GH LG gr (TRC LG T (WC LG 100 M F ex hd C)) G z) (LG (100 + 13 + i)) K = K 28 := fun T K => r_cv hg (TRC_PO hp).1 (by rw [eK]; rfl)
    have hc := fun (Q : Option Value → HS → Prop) => ca_2_28 (V := V) (Ev := Ev) (d := d + 8) (Q := Q) (G := G) (z := z) (x := x) (t := (bod, 0)) hg hp eK (show 0 + 3 < 2 ^ 20 by decide)
    simp only [s_93_0, s_93_0_n, s_93_1, s_93_4, s_93_5, s_93_8, s_93_8_n, s_93_9, s_93_12, s_93_13, s_93_16, s_93_16_n, s_93_18, s_93_18_n, s_93_20, s_93_20_n, s_93_23, s_93_24, s_93_25, s_93_26, s_93_52, s_93_52_n, s_93_54, s_93_54_n, s_93_55, s_93_58, s_93_59, s_93_62, s_93_63, s_93_63_n, s_93_65, s_93_65_n, s_93_66, s_93_69, s_93_70, s_93_73, s_93_74, s_93_74_n, s_93_76, s_93_76_n, s_93_77, s_93_80, s_93_81, s_93_84, s_93_85, s_93_86, ↓reduceIte, eq_self, rts_some, rts_none, nq_int, nq_ref, nq_null, nq_none, okr1_0, okr1_1, okr_b, List.length_nil, List.length_cons, Nat.zero_le, Nat.reduceAdd, Nat.reduceLeDiff, b2i_0, b2i_n0, b2i_1, b2i_n1, ite_not, if_true, if_false, not_true_eq_false, not_false_eq_true, true_and, and_true, false_and, and_false, hs, g6, hcv, hc]
    rfl
  | 2, 2, _, _ =>
    have hs : ∀ T : Nat → Prop, swp T 85 (nI 2) [(0, 52), (1, 63), (2, 74)] = T 74 := fun T => rfl
    have hcv : ∀ (T : Tr) (K : Nat → Prop), cv [(1, 17), (2, 29), (3, 23), (4, 29), (5, 29), (6, 29), (8, 23)] (GH LG gr (TRC LG T (WC LG 100 M F ex hd C)) G z) (LG (100 + 13 + i)) K = K 29 := fun T K => r_cv hg (TRC_PO hp).1 (by rw [eK]; rfl)
    have hc := fun (Q : Option Value → HS → Prop) => ca_2_29 (V := V) (Ev := Ev) (d := d + 7) (Q := Q) (G := G) (z := z) (x := x) (t := (bod, 0)) hg hp eK (show 0 + 4 < 2 ^ 20 by decide)
    simp only [s_93_0, s_93_0_n, s_93_1, s_93_4, s_93_5, s_93_8, s_93_8_n, s_93_9, s_93_12, s_93_13, s_93_16, s_93_16_n, s_93_18, s_93_18_n, s_93_20, s_93_20_n, s_93_23, s_93_24, s_93_25, s_93_26, s_93_52, s_93_52_n, s_93_54, s_93_54_n, s_93_55, s_93_58, s_93_59, s_93_62, s_93_63, s_93_63_n, s_93_65, s_93_65_n, s_93_66, s_93_69, s_93_70, s_93_73, s_93_74, s_93_74_n, s_93_76, s_93_76_n, s_93_77, s_93_80, s_93_81, s_93_84, s_93_85, s_93_86, ↓reduceIte, eq_self, rts_some, rts_none, nq_int, nq_ref, nq_null, nq_none, okr1_0, okr1_1, okr_b, List.length_nil, List.length_cons, Nat.zero_le, Nat.reduceAdd, Nat.reduceLeDiff, b2i_0, b2i_n0, b2i_1, b2i_n1, ite_not, if_true, if_false, not_true_eq_false, not_false_eq_true, true_and, and_true, false_and, and_false, hs, g6, hcv, hc]
    rfl
  | 3, 0, _, _ =>
    have hs : ∀ T : Nat → Prop, swp T 85 (nI 0) [(0, 52), (1, 63), (2, 74)] = T 52 := fun T => rfl
    have hcv : ∀ (T : Tr) (K : Nat → Prop), cv [(1, 20), (2, 20), (3, 27), (4, 27), (5, 32), (6, 27), (8, 45)] (GH LG gr (TRC LG T (WC LG 100 M F ex hd C)) G z) (LG (100 + 13 + i)) K = K 27 := fun T K => r_cv hg (TRC_PO hp).1 (by rw [eK]; rfl)
    have hc := fun (Q : Option Value → HS → Prop) => ca_3_27 (V := V) (Ev := Ev) (d := d + 10) (Q := Q) (G := G) (z := z) (x := x) (t := (bod, 0)) hg hp eK (show 0 + 1 < 2 ^ 20 by decide)
    simp only [s_93_0, s_93_0_n, s_93_1, s_93_4, s_93_5, s_93_8, s_93_8_n, s_93_9, s_93_12, s_93_13, s_93_16, s_93_16_n, s_93_18, s_93_18_n, s_93_20, s_93_20_n, s_93_23, s_93_24, s_93_25, s_93_26, s_93_52, s_93_52_n, s_93_54, s_93_54_n, s_93_55, s_93_58, s_93_59, s_93_62, s_93_63, s_93_63_n, s_93_65, s_93_65_n, s_93_66, s_93_69, s_93_70, s_93_73, s_93_74, s_93_74_n, s_93_76, s_93_76_n, s_93_77, s_93_80, s_93_81, s_93_84, s_93_85, s_93_86, ↓reduceIte, eq_self, rts_some, rts_none, nq_int, nq_ref, nq_null, nq_none, okr1_0, okr1_1, okr_b, List.length_nil, List.length_cons, Nat.zero_le, Nat.reduceAdd, Nat.reduceLeDiff, b2i_0, b2i_n0, b2i_1, b2i_n1, ite_not, if_true, if_false, not_true_eq_false, not_false_eq_true, true_and, and_true, false_and, and_false, hs, g6, hcv, hc]
    rfl
  | 3, 1, _, _ =>
    have hs : ∀ T : Nat → Prop, swp T 85 (nI 1) [(0, 52), (1, 63), (2, 74)] = T 63 := fun T => rfl
    have hcv : ∀ (T : Tr) (K : Nat → Prop), cv [(1, 28), (2, 28), (3, 28), (4, 28), (5, 33), (6, 36), (8, 44)] (GH LG gr (TRC LG T (WC LG 100 M F ex hd C)) G z) (LG (100 + 13 + i)) K = K 28 := fun T K => r_cv hg (TRC_PO hp).1 (by rw [eK]; rfl)
    have hc := fun (Q : Option Value → HS → Prop) => ca_3_28 (V := V) (Ev := Ev) (d := d + 9) (Q := Q) (G := G) (z := z) (x := x) (t := (bod, 0)) hg hp eK (show 0 + 2 < 2 ^ 20 by decide)
    simp only [s_93_0, s_93_0_n, s_93_1, s_93_4, s_93_5, s_93_8, s_93_8_n, s_93_9, s_93_12, s_93_13, s_93_16, s_93_16_n, s_93_18, s_93_18_n, s_93_20, s_93_20_n, s_93_23, s_93_24, s_93_25, s_93_26, s_93_52, s_93_52_n, s_93_54, s_93_54_n, s_93_55, s_93_58, s_93_59, s_93_62, s_93_63, s_93_63_n, s_93_65, s_93_65_n, s_93_66, s_93_69, s_93_70, s_93_73, s_93_74, s_93_74_n, s_93_76, s_93_76_n, s_93_77, s_93_80, s_93_81, s_93_84, s_93_85, s_93_86, ↓reduceIte, eq_self, rts_some, rts_none, nq_int, nq_ref, nq_null, nq_none, okr1_0, okr1_1, okr_b, List.length_nil, List.length_cons, Nat.zero_le, Nat.reduceAdd, Nat.reduceLeDiff, b2i_0, b2i_n0, b2i_1, b2i_n1, ite_not, if_true, if_false, not_true_eq_false, not_false_eq_true, true_and, and_true, false_and, and_false, hs, g6, hcv, hc]
    rfl
  | 3, 2, _, _ =>
    have hs : ∀ T : Nat → Prop, swp T 85 (nI 2) [(0, 52), (1, 63), (2, 74)] = T 74 := fun T => rfl
    have hcv : ∀ (T : Tr) (K : Nat → Prop), cv [(1, 17), (2, 29), (3, 23), (4, 29), (5, 29), (6, 29), (8, 23)] (GH LG gr (TRC LG T (WC LG 100 M F ex hd C)) G z) (LG (100 + 13 + i)) K = K 23 := fun T K => r_cv hg (TRC_PO hp).1 (by rw [eK]; rfl)
    have hc := fun (Q : Option Value → HS → Prop) => ca_3_23 (V := V) (Ev := Ev) (d := d + 7) (Q := Q) (G := G) (z := z) (x := x) (t := (bod, 0)) hg hp eK (show 0 + 6 < 2 ^ 20 by decide)
    simp only [s_93_0, s_93_0_n, s_93_1, s_93_4, s_93_5, s_93_8, s_93_8_n, s_93_9, s_93_12, s_93_13, s_93_16, s_93_16_n, s_93_18, s_93_18_n, s_93_20, s_93_20_n, s_93_23, s_93_24, s_93_25, s_93_26, s_93_52, s_93_52_n, s_93_54, s_93_54_n, s_93_55, s_93_58, s_93_59, s_93_62, s_93_63, s_93_63_n, s_93_65, s_93_65_n, s_93_66, s_93_69, s_93_70, s_93_73, s_93_74, s_93_74_n, s_93_76, s_93_76_n, s_93_77, s_93_80, s_93_81, s_93_84, s_93_85, s_93_86, ↓reduceIte, eq_self, rts_some, rts_none, nq_int, nq_ref, nq_null, nq_none, okr1_0, okr1_1, okr_b, List.length_nil, List.length_cons, Nat.zero_le, Nat.reduceAdd, Nat.reduceLeDiff, b2i_0, b2i_n0, b2i_1, b2i_n1, ite_not, if_true, if_false, not_true_eq_false, not_false_eq_true, true_and, and_true, false_and, and_false, hs, g6, hcv, hc]
    rfl
  | 4, 0, _, _ =>
    have hs : ∀ T : Nat → Prop, swp T 85 (nI 0) [(0, 52), (1, 63), (2, 74)] = T 52 := fun T => rfl
    have hcv : ∀ (T : Tr) (K : Nat → Prop), cv [(1, 20), (2, 20), (3, 27), (4, 27), (5, 32), (6, 27), (8, 45)] (GH LG gr (TRC LG T (WC LG 100 M F ex hd C)) G z) (LG (100 + 13 + i)) K = K 32 := fun T K => r_cv hg (TRC_PO hp).1 (by rw [eK]; rfl)
    have hc := fun (Q : Option Value → HS → Prop) => ca_4_32 (V := V) (Ev := Ev) (d := d + 9) (Q := Q) (G := G) (z := z) (x := x) (t := (bod, 0)) hg hp eK (show 0 + 2 < 2 ^ 20 by decide)
    simp only [s_93_0, s_93_0_n, s_93_1, s_93_4, s_93_5, s_93_8, s_93_8_n, s_93_9, s_93_12, s_93_13, s_93_16, s_93_16_n, s_93_18, s_93_18_n, s_93_20, s_93_20_n, s_93_23, s_93_24, s_93_25, s_93_26, s_93_52, s_93_52_n, s_93_54, s_93_54_n, s_93_55, s_93_58, s_93_59, s_93_62, s_93_63, s_93_63_n, s_93_65, s_93_65_n, s_93_66, s_93_69, s_93_70, s_93_73, s_93_74, s_93_74_n, s_93_76, s_93_76_n, s_93_77, s_93_80, s_93_81, s_93_84, s_93_85, s_93_86, ↓reduceIte, eq_self, rts_some, rts_none, nq_int, nq_ref, nq_null, nq_none, okr1_0, okr1_1, okr_b, List.length_nil, List.length_cons, Nat.zero_le, Nat.reduceAdd, Nat.reduceLeDiff, b2i_0, b2i_n0, b2i_1, b2i_n1, ite_not, if_true, if_false, not_true_eq_false, not_false_eq_true, true_and, and_true, false_and, and_false, hs, g6, hcv, hc]
    rfl
  | 4, 1, _, _ =>
    have hs : ∀ T : Nat → Prop, swp T 85 (nI 1) [(0, 52), (1, 63), (2, 74)] = T 63 := fun T => rfl
    have hcv : ∀ (T : Tr) (K : Nat → Prop), cv [(1, 28), (2, 28), (3, 28), (4, 28), (5, 33), (6, 36), (8, 44)] (GH LG gr (TRC LG T (WC LG 100 M F ex hd C)) G z) (LG (100 + 13 + i)) K = K 33 := fun T K => r_cv hg (TRC_PO hp).1 (by rw [eK]; rfl)
    have hc := fun (Q : Option Value → HS → Prop) => ca_4_33 (V := V) (Ev := Ev) (d := d + 6) (Q := Q) (G := G) (z := z) (x := x) (t := (bod, 0)) hg hp eK (show 0 + 5 < 2 ^ 20 by decide)
    simp only [s_93_0, s_93_0_n, s_93_1, s_93_4, s_93_5, s_93_8, s_93_8_n, s_93_9, s_93_12, s_93_13, s_93_16, s_93_16_n, s_93_18, s_93_18_n, s_93_20, s_93_20_n, s_93_23, s_93_24, s_93_25, s_93_26, s_93_52, s_93_52_n, s_93_54, s_93_54_n, s_93_55, s_93_58, s_93_59, s_93_62, s_93_63, s_93_63_n, s_93_65, s_93_65_n, s_93_66, s_93_69, s_93_70, s_93_73, s_93_74, s_93_74_n, s_93_76, s_93_76_n, s_93_77, s_93_80, s_93_81, s_93_84, s_93_85, s_93_86, ↓reduceIte, eq_self, rts_some, rts_none, nq_int, nq_ref, nq_null, nq_none, okr1_0, okr1_1, okr_b, List.length_nil, List.length_cons, Nat.zero_le, Nat.reduceAdd, Nat.reduceLeDiff, b2i_0, b2i_n0, b2i_1, b2i_n1, ite_not, if_true, if_false, not_true_eq_false, not_false_eq_true, true_and, and_true, false_and, and_false, hs, g6, hcv, hc]
    rfl
  | 4, 2, _, _ =>
    have hs : ∀ T : Nat → Prop, swp T 85 (nI 2) [(0, 52), (1, 63), (2, 74)] = T 74 := fun T => rfl
    have hcv : ∀ (T : Tr) (K : Nat → Prop), cv [(1, 17), (2, 29), (3, 23), (4, 29), (5, 29), (6, 29), (8, 23)] (GH LG gr (TRC LG T (WC LG 100 M F ex hd C)) G z) (LG (100 + 13 + i)) K = K 29 := fun T K => r_cv hg (TRC_PO hp).1 (by rw [eK]; rfl)
    have hc := fun (Q : Option Value → HS → Prop) => ca_4_29 (V := V) (Ev := Ev) (d := d + 5) (Q := Q) (G := G) (z := z) (x := x) (t := (bod, 0)) hg hp eK (show 0 + 6 < 2 ^ 20 by decide)
    simp only [s_93_0, s_93_0_n, s_93_1, s_93_4, s_93_5, s_93_8, s_93_8_n, s_93_9, s_93_12, s_93_13, s_93_16, s_93_16_n, s_93_18, s_93_18_n, s_93_20, s_93_20_n, s_93_23, s_93_24, s_93_25, s_93_26, s_93_52, s_93_52_n, s_93_54, s_93_54_n, s_93_55, s_93_58, s_93_59, s_93_62, s_93_63, s_93_63_n, s_93_65, s_93_65_n, s_93_66, s_93_69, s_93_70, s_93_73, s_93_74, s_93_74_n, s_93_76, s_93_76_n, s_93_77, s_93_80, s_93_81, s_93_84, s_93_85, s_93_86, ↓reduceIte, eq_self, rts_some, rts_none, nq_int, nq_ref, nq_null, nq_none, okr1_0, okr1_1, okr_b, List.length_nil, List.length_cons, Nat.zero_le, Nat.reduceAdd, Nat.reduceLeDiff, b2i_0, b2i_n0, b2i_1, b2i_n1, ite_not, if_true, if_false, not_true_eq_false, not_false_eq_true, true_and, and_true, false_and, and_false, hs, g6, hcv, hc]
    rfl
  | 5, 0, _, _ =>
    have hs : ∀ T : Nat → Prop, swp T 85 (nI 0) [(0, 52), (1, 63), (2, 74)] = T 52 := fun T => rfl
    have hcv : ∀ (T : Tr) (K : Nat → Prop), cv [(1, 20), (2, 20), (3, 27), (4, 27), (5, 32), (6, 27), (8, 45)] (GH LG gr (TRC LG T (WC LG 100 M F ex hd C)) G z) (LG (100 + 13 + i)) K = K 20 := fun T K => r_cv hg (TRC_PO hp).1 (by rw [eK]; rfl)
    have hc := fun (Q : Option Value → HS → Prop) => ca_5_20 (V := V) (Ev := Ev) (d := d + 9) (Q := Q) (G := G) (z := z) (x := x) (t := (bod, 0)) hg hp eK (show 0 + 2 < 2 ^ 20 by decide)
    simp only [s_93_0, s_93_0_n, s_93_1, s_93_4, s_93_5, s_93_8, s_93_8_n, s_93_9, s_93_12, s_93_13, s_93_16, s_93_16_n, s_93_18, s_93_18_n, s_93_20, s_93_20_n, s_93_23, s_93_24, s_93_25, s_93_26, s_93_52, s_93_52_n, s_93_54, s_93_54_n, s_93_55, s_93_58, s_93_59, s_93_62, s_93_63, s_93_63_n, s_93_65, s_93_65_n, s_93_66, s_93_69, s_93_70, s_93_73, s_93_74, s_93_74_n, s_93_76, s_93_76_n, s_93_77, s_93_80, s_93_81, s_93_84, s_93_85, s_93_86, ↓reduceIte, eq_self, rts_some, rts_none, nq_int, nq_ref, nq_null, nq_none, okr1_0, okr1_1, okr_b, List.length_nil, List.length_cons, Nat.zero_le, Nat.reduceAdd, Nat.reduceLeDiff, b2i_0, b2i_n0, b2i_1, b2i_n1, ite_not, if_true, if_false, not_true_eq_false, not_false_eq_true, true_and, and_true, false_and, and_false, hs, g6, hcv, hc]
    rfl
  | 5, 1, _, _ =>
    have hs : ∀ T : Nat → Prop, swp T 85 (nI 1) [(0, 52), (1, 63), (2, 74)] = T 63 := fun T => rfl
    have hcv : ∀ (T : Tr) (K : Nat → Prop), cv [(1, 28), (2, 28), (3, 28), (4, 28), (5, 33), (6, 36), (8, 44)] (GH LG gr (TRC LG T (WC LG 100 M F ex hd C)) G z) (LG (100 + 13 + i)) K = K 28 := fun T K => r_cv hg (TRC_PO hp).1 (by rw [eK]; rfl)
    have hc := fun (Q : Option Value → HS → Prop) => ca_5_28 (V := V) (Ev := Ev) (d := d + 8) (Q := Q) (G := G) (z := z) (x := x) (t := (bod, 0)) hg hp eK (show 0 + 3 < 2 ^ 20 by decide)
    simp only [s_93_0, s_93_0_n, s_93_1, s_93_4, s_93_5, s_93_8, s_93_8_n, s_93_9, s_93_12, s_93_13, s_93_16, s_93_16_n, s_93_18, s_93_18_n, s_93_20, s_93_20_n, s_93_23, s_93_24, s_93_25, s_93_26, s_93_52, s_93_52_n, s_93_54, s_93_54_n, s_93_55, s_93_58, s_93_59, s_93_62, s_93_63, s_93_63_n, s_93_65, s_93_65_n, s_93_66, s_93_69, s_93_70, s_93_73, s_93_74, s_93_74_n, s_93_76, s_93_76_n, s_93_77, s_93_80, s_93_81, s_93_84, s_93_85, s_93_86, ↓reduceIte, eq_self, rts_some, rts_none, nq_int, nq_ref, nq_null, nq_none, okr1_0, okr1_1, okr_b, List.length_nil, List.length_cons, Nat.zero_le, Nat.reduceAdd, Nat.reduceLeDiff, b2i_0, b2i_n0, b2i_1, b2i_n1, ite_not, if_true, if_false, not_true_eq_false, not_false_eq_true, true_and, and_true, false_and, and_false, hs, g6, hcv, hc]
    rfl
  | 5, 2, _, _ =>
    have hs : ∀ T : Nat → Prop, swp T 85 (nI 2) [(0, 52), (1, 63), (2, 74)] = T 74 := fun T => rfl
    have hcv : ∀ (T : Tr) (K : Nat → Prop), cv [(1, 17), (2, 29), (3, 23), (4, 29), (5, 29), (6, 29), (8, 23)] (GH LG gr (TRC LG T (WC LG 100 M F ex hd C)) G z) (LG (100 + 13 + i)) K = K 17 := fun T K => r_cv hg (TRC_PO hp).1 (by rw [eK]; rfl)
    have hc := fun (Q : Option Value → HS → Prop) => ca_5_17 (V := V) (Ev := Ev) (d := d + 6) (Q := Q) (G := G) (z := z) (x := x) (t := (bod, 0)) hg hp eK (show 0 + 5 < 2 ^ 20 by decide)
    simp only [s_93_0, s_93_0_n, s_93_1, s_93_4, s_93_5, s_93_8, s_93_8_n, s_93_9, s_93_12, s_93_13, s_93_16, s_93_16_n, s_93_18, s_93_18_n, s_93_20, s_93_20_n, s_93_23, s_93_24, s_93_25, s_93_26, s_93_52, s_93_52_n, s_93_54, s_93_54_n, s_93_55, s_93_58, s_93_59, s_93_62, s_93_63, s_93_63_n, s_93_65, s_93_65_n, s_93_66, s_93_69, s_93_70, s_93_73, s_93_74, s_93_74_n, s_93_76, s_93_76_n, s_93_77, s_93_80, s_93_81, s_93_84, s_93_85, s_93_86, ↓reduceIte, eq_self, rts_some, rts_none, nq_int, nq_ref, nq_null, nq_none, okr1_0, okr1_1, okr_b, List.length_nil, List.length_cons, Nat.zero_le, Nat.reduceAdd, Nat.reduceLeDiff, b2i_0, b2i_n0, b2i_1, b2i_n1, ite_not, if_true, if_false, not_true_eq_false, not_false_eq_true, true_and, and_true, false_and, and_false, hs, g6, hcv, hc]
    rfl
  | 6, 0, _, _ =>
    have hs : ∀ T : Nat → Prop, swp T 85 (nI 0) [(0, 52), (1, 63), (2, 74)] = T 52 := fun T => rfl
    have hcv : ∀ (T : Tr) (K : Nat → Prop), cv [(1, 20), (2, 20), (3, 27), (4, 27), (5, 32), (6, 27), (8, 45)] (GH LG gr (TRC LG T (WC LG 100 M F ex hd C)) G z) (LG (100 + 13 + i)) K = K 45 := fun T K => r_cv hg (TRC_PO hp).1 (by rw [eK]; rfl)
    have hc := fun (Q : Option Value → HS → Prop) => ca_6_45 (V := V) (Ev := Ev) (d := d + 9) (Q := Q) (G := G) (z := z) (x := x) (t := (bod, 0)) hg hp eK (show 0 + 2 < 2 ^ 20 by decide)
    simp only [s_93_0, s_93_0_n, s_93_1, s_93_4, s_93_5, s_93_8, s_93_8_n, s_93_9, s_93_12, s_93_13, s_93_16, s_93_16_n, s_93_18, s_93_18_n, s_93_20, s_93_20_n, s_93_23, s_93_24, s_93_25, s_93_26, s_93_52, s_93_52_n, s_93_54, s_93_54_n, s_93_55, s_93_58, s_93_59, s_93_62, s_93_63, s_93_63_n, s_93_65, s_93_65_n, s_93_66, s_93_69, s_93_70, s_93_73, s_93_74, s_93_74_n, s_93_76, s_93_76_n, s_93_77, s_93_80, s_93_81, s_93_84, s_93_85, s_93_86, ↓reduceIte, eq_self, rts_some, rts_none, nq_int, nq_ref, nq_null, nq_none, okr1_0, okr1_1, okr_b, List.length_nil, List.length_cons, Nat.zero_le, Nat.reduceAdd, Nat.reduceLeDiff, b2i_0, b2i_n0, b2i_1, b2i_n1, ite_not, if_true, if_false, not_true_eq_false, not_false_eq_true, true_and, and_true, false_and, and_false, hs, g6, hcv, hc]
    rfl
  | 6, 1, _, _ =>
    have hs : ∀ T : Nat → Prop, swp T 85 (nI 1) [(0, 52), (1, 63), (2, 74)] = T 63 := fun T => rfl
    have hcv : ∀ (T : Tr) (K : Nat → Prop), cv [(1, 28), (2, 28), (3, 28), (4, 28), (5, 33), (6, 36), (8, 44)] (GH LG gr (TRC LG T (WC LG 100 M F ex hd C)) G z) (LG (100 + 13 + i)) K = K 44 := fun T K => r_cv hg (TRC_PO hp).1 (by rw [eK]; rfl)
    have hc := fun (Q : Option Value → HS → Prop) => ca_6_44 (V := V) (Ev := Ev) (d := d + 7) (Q := Q) (G := G) (z := z) (x := x) (t := (bod, 0)) hg hp eK (show 0 + 5 < 2 ^ 20 by decide)
    simp only [s_93_0, s_93_0_n, s_93_1, s_93_4, s_93_5, s_93_8, s_93_8_n, s_93_9, s_93_12, s_93_13, s_93_16, s_93_16_n, s_93_18, s_93_18_n, s_93_20, s_93_20_n, s_93_23, s_93_24, s_93_25, s_93_26, s_93_52, s_93_52_n, s_93_54, s_93_54_n, s_93_55, s_93_58, s_93_59, s_93_62, s_93_63, s_93_63_n, s_93_65, s_93_65_n, s_93_66, s_93_69, s_93_70, s_93_73, s_93_74, s_93_74_n, s_93_76, s_93_76_n, s_93_77, s_93_80, s_93_81, s_93_84, s_93_85, s_93_86, ↓reduceIte, eq_self, rts_some, rts_none, nq_int, nq_ref, nq_null, nq_none, okr1_0, okr1_1, okr_b, List.length_nil, List.length_cons, Nat.zero_le, Nat.reduceAdd, Nat.reduceLeDiff, b2i_0, b2i_n0, b2i_1, b2i_n1, ite_not, if_true, if_false, not_true_eq_false, not_false_eq_true, true_and, and_true, false_and, and_false, hs, g6, hcv, hc]
    rfl
  | 6, 2, _, _ =>
    have hs : ∀ T : Nat → Prop, swp T 85 (nI 2) [(0, 52), (1, 63), (2, 74)] = T 74 := fun T => rfl
    have hcv : ∀ (T : Tr) (K : Nat → Prop), cv [(1, 17), (2, 29), (3, 23), (4, 29), (5, 29), (6, 29), (8, 23)] (GH LG gr (TRC LG T (WC LG 100 M F ex hd C)) G z) (LG (100 + 13 + i)) K = K 23 := fun T K => r_cv hg (TRC_PO hp).1 (by rw [eK]; rfl)
    have hc := fun (Q : Option Value → HS → Prop) => ca_6_23 (V := V) (Ev := Ev) (d := d + 5) (Q := Q) (G := G) (z := z) (x := x) (t := (bod, 0)) hg hp eK (show 0 + 12 < 2 ^ 20 by decide)
    simp only [s_93_0, s_93_0_n, s_93_1, s_93_4, s_93_5, s_93_8, s_93_8_n, s_93_9, s_93_12, s_93_13, s_93_16, s_93_16_n, s_93_18, s_93_18_n, s_93_20, s_93_20_n, s_93_23, s_93_24, s_93_25, s_93_26, s_93_52, s_93_52_n, s_93_54, s_93_54_n, s_93_55, s_93_58, s_93_59, s_93_62, s_93_63, s_93_63_n, s_93_65, s_93_65_n, s_93_66, s_93_69, s_93_70, s_93_73, s_93_74, s_93_74_n, s_93_76, s_93_76_n, s_93_77, s_93_80, s_93_81, s_93_84, s_93_85, s_93_86, ↓reduceIte, eq_self, rts_some, rts_none, nq_int, nq_ref, nq_null, nq_none, okr1_0, okr1_1, okr_b, List.length_nil, List.length_cons, Nat.zero_le, Nat.reduceAdd, Nat.reduceLeDiff, b2i_0, b2i_n0, b2i_1, b2i_n1, ite_not, if_true, if_false, not_true_eq_false, not_false_eq_true, true_and, and_true, false_and, and_false, hs, g6, hcv, hc]
    rfl
theorem c_act (hg : ∀ r, gr (LG r) = r) (hm : DM LG C kf nb) (hk : WK M ex c) {bod : Nat → Int32} {n : Nat} (h1 : C 1 = some (.inr (9, [.ref (LG 2), .int (nI n)]))) (h2 : C 2 = some (.inl (2, 20, .inl bod))) {p a x : Int32} : WP V (cdT Ev) mx (d + 13) 93 [.ref (LG 0), .int p, .int a, .int x] (GW LG gr 100 M F ex hd C G z) Q = Q (some (.int (acR M bod p a x).1)) (GW LG gr 100 M F ex hd (TRC LG (acR M bod p a x).2 C) G z) := by
  have hc := hk.1
  have ei : C = TRC LG (bod, n) C := (TRC_id h1 h2).symm
  have hm0 : DM LG (WC LG 100 M F ex hd C) kf nb := DM_W (by decide) hm
  have p1 : ∀ (K : HS → Prop), pf [9] 1 0 (.int 0) (GW LG gr 100 M F ex hd C G z) (LG 1) K = K (GW LG gr 100 M F ex hd (TRC LG (bod, 0) C) G z) := by
    intro K
    have hC1 : WC LG 100 M F ex hd C 1 = some (.inr (9, [.ref (LG 2), .int (nI n)])) := (WC_out (by decide)).trans h1
    rw [r_pf hg hC1 (by decide) (by simp) rfl]
    refine congrArg (fun c => K (GH LG gr c G z)) ?_
    rw [WC_up (by decide)]
    refine congrArg (WC LG 100 M F ex hd) ?_
    have := TRC_u1 (LG := LG) (t := (bod, n)) (C := C) (x := 0)
    rw [← ei] at this
    exact this
  have hm1 : ∀ T, DM LG (WC LG 100 M F ex hd (TRC LG T C)) kf nb := fun T => DM_W (by decide) (DM_TRC hm)
  rw [e_93]
  by_cases ho : oneQ M p
  · obtain ⟨i, hi, rfl⟩ := oneQ_k hc ho
    have h6 := WK_6 hk hi
    have pa := fun (Q : Option Value → HS → Prop) => c_pAt_y (V := V) (Ev := Ev) (d := d + 11) (Q := Q) (B := 100) (F := F) (hd := hd) (C := TRC LG (bod, 0) C) (G := G) (z := z) hg hk hi
    simp only [s_93_0, s_93_1, s_93_4, s_93_5, s_93_8, s_93_9, s_93_12, s_93_13, s_93_16, s_93_18, s_93_20, ↓reduceIte, eq_self, rts_some, rts_none, nq_int, nq_ref, nq_null, nq_none, okr1_0, okr1_1, okr_b, List.length_nil, List.length_cons, Nat.zero_le, Nat.reduceAdd, Nat.reduceLeDiff, b2i_0, b2i_n0, b2i_1, b2i_n1, ite_not, if_true, if_false, not_true_eq_false, not_false_eq_true, true_and, and_true, false_and, and_false, dg_6 hg hm0, p1, dg_0 hg (hm1 _), wcv hg, pa]
    by_cases ha : 0 ≤ a ∧ a ≤ 2
    · obtain ⟨j, hj, rfl⟩ : ∃ j, j ≤ 2 ∧ a = nI j := nI_of2 (M := 2) (n := 2) (by decide) (Int32.not_lt.mpr ha.1) ha.2
      exact c_act25 hg hm hk hi (by omega)
    · have w012 : ¬ a = 0 ∧ ¬ a = 1 ∧ ¬ a = 2 := by
        refine ⟨fun h => ha ?_, fun h => ha ?_, fun h => ha ?_⟩ <;> subst h <;> decide
      have eR : acR M bod (nI i) a x = (0, bod, 0) := by
        unfold acR
        rw [if_neg (fun h => ha h.2)]
      rw [eR]
      simp only [s_93_25, s_93_26, s_93_85, s_93_86, ↓reduceIte, eq_self, rts_some, rts_none, nq_int, nq_ref, nq_null, nq_none, okr1_0, okr1_1, okr_b, List.length_nil, List.length_cons, Nat.zero_le, Nat.reduceAdd, Nat.reduceLeDiff, b2i_0, b2i_n0, b2i_1, b2i_n1, ite_not, if_true, if_false, not_true_eq_false, not_false_eq_true, true_and, and_true, false_and, and_false, swp, w012.1, w012.2.1, w012.2.2]
  · have pn := fun (Q : Option Value → HS → Prop) => c_pAt_n (V := V) (Ev := Ev) (d := d + 11) (Q := Q) (LG := LG) (gr := gr) (B := 100) (F := F) (ex := ex) (hd := hd) (C := TRC LG (bod, 0) C) (G := G) (z := z) hg hc ho
    have eR : acR M bod p a x = (0, bod, 0) := by
      unfold acR
      rw [if_neg (fun h => ho h.1)]
    rw [eR]
    simp only [s_93_0, s_93_1, s_93_4, s_93_5, s_93_8, s_93_9, s_93_12, s_93_13, s_93_16_n, s_93_18_n, s_93_20_n, s_93_23, s_93_24, ↓reduceIte, eq_self, rts_some, rts_none, nq_int, nq_ref, nq_null, nq_none, okr1_0, okr1_1, okr_b, List.length_nil, List.length_cons, Nat.zero_le, Nat.reduceAdd, Nat.reduceLeDiff, b2i_0, b2i_n0, b2i_1, b2i_n1, ite_not, if_true, if_false, not_true_eq_false, not_false_eq_true, true_and, and_true, false_and, and_false, dg_6 hg hm0, p1, dg_0 hg (hm1 _), wcv hg, pn]
theorem c_trace (hg : ∀ r, gr (LG r) = r) (hm : DM LG C kf nb) {bod : Nat → Int32} {n : Nat} (hn : n < 2 ^ 20) (h1 : C 1 = some (.inr (9, [.ref (LG 2), .int (nI n)]))) (h2 : C 2 = some (.inl (2, 20, .inl bod))) {p : Int32} : WP V (cdT Ev) mx (d + 1) 94 [.ref (LG 0), .int p] (GH LG gr C G z) Q = Q (some (.int (trR (nI n) bod p))) (GH LG gr C G z) := by
  have g1 : ∀ (K : Value → Prop), gf [9] 1 (GH LG gr C G z) (LG 1) K = K (.int (nI n)) := fun K => r_gf hg h1 (by decide) rfl
  have g0 : ∀ (K : Value → Prop), gf [9] 0 (GH LG gr C G z) (LG 1) K = K (.ref (LG 2)) := fun K => r_gf hg h1 (by decide) rfl
  have l2 : ∀ (K : Int32 → Prop), ln V (GH LG gr C G z) (LG 2) K = K 20 := fun K => r_ln hg h2 (by decide) rfl
  have a2 : ∀ (i : Int32) (K : Int32 → Prop), ai 2 i V (GH LG gr C G z) (LG 2) K = (ix i 20 ∧ K (bod i.toNatClampNeg)) := fun i K => r_ai hg h2
  rw [e_94]
  unfold trR
  by_cases p0 : p < 0
  · rw [if_neg (fun h => absurd p0 (Int32.not_lt.mpr h.1))]
    simp only [s_94_0, s_94_1, s_94_4, s_94_5, s_94_5_n, s_94_6, s_94_9, s_94_12, s_94_15, s_94_16, s_94_16_n, s_94_17, s_94_20, s_94_23, s_94_24, s_94_27, s_94_28, s_94_29, s_94_29_n, s_94_30, s_94_33, s_94_36, s_94_37, s_94_38, ↓reduceIte, eq_self, rts_some, rts_none, nq_int, nq_ref, nq_null, nq_none, okr1_0, okr1_1, okr_b, List.length_nil, List.length_cons, Nat.zero_le, Nat.reduceAdd, Nat.reduceLeDiff, b2i_0, b2i_n0, b2i_1, b2i_n1, ite_not, if_true, if_false, not_true_eq_false, not_false_eq_true, true_and, and_true, false_and, and_false, p0]
  · obtain ⟨j, hj, rfl⟩ := nI_of p0
    have e20 : (nI n < 20) = (n < 20) := propext (by rw [show (20 : Int32) = nI 20 from rfl]; exact nI_ltI (by omega) (by decide))
    have em : (if nI n < 20 then nI n else 20) = nI (min n 20) := by
      by_cases h : n < 20
      · rw [if_pos (by rw [e20]; exact h), Nat.min_eq_left (by omega)]
      · rw [if_neg (by rw [e20]; exact h), Nat.min_eq_right (by omega)]
        rfl
    have eq : (0 ≤ nI j ∧ nI j ≤ nI (min n 20) - 1) = (j < min n 20) := by
      refine propext ⟨fun h => ?_, fun h => ?_⟩
      · have h2 := h.2
        rw [Int32.le_iff_toInt_le, show (1 : Int32) = nI 1 from rfl, pk_sub_toInt (by omega) (by decide), nI_toInt hj] at h2
        omega
      · refine ⟨nI_pos' hj, ?_⟩
        rw [show (1 : Int32) = nI 1 from rfl, pk_sub (by omega)]
        exact nI_le (by omega) (by omega)
    rw [em]
    by_cases hlt : j < min n 20
    · rw [if_pos (eq.mpr hlt)]
      have k1 : (nI n ≤ nI j) = False := eq_false (nI_ge (by omega) (by omega))
      have k2 : (nI j < 20) = True := eq_true (nI_lt (a := j) (b := 20) (by omega) (by decide))
      simp only [s_94_0, s_94_1, s_94_4, s_94_5, s_94_5_n, s_94_6, s_94_9, s_94_12, s_94_15, s_94_16, s_94_16_n, s_94_17, s_94_20, s_94_23, s_94_24, s_94_27, s_94_28, s_94_29, s_94_29_n, s_94_30, s_94_33, s_94_36, s_94_37, s_94_38, ↓reduceIte, eq_self, rts_some, rts_none, nq_int, nq_ref, nq_null, nq_none, okr1_0, okr1_1, okr_b, List.length_nil, List.length_cons, Nat.zero_le, Nat.reduceAdd, Nat.reduceLeDiff, b2i_0, b2i_n0, b2i_1, b2i_n1, ite_not, if_true, if_false, not_true_eq_false, not_false_eq_true, true_and, and_true, false_and, and_false, p0, dg_6 hg hm, g1, g0, l2, a2, k1, k2, ix_nIT (show j < 20 by omega) (show 20 < 2 ^ 31 by decide)]
    · rw [if_neg (fun h => hlt (eq.mp h))]
      by_cases h3 : n ≤ j
      · have k1 : (nI n ≤ nI j) = True := eq_true (nI_le h3 hj)
        simp only [s_94_0, s_94_1, s_94_4, s_94_5, s_94_5_n, s_94_6, s_94_9, s_94_12, s_94_15, s_94_16, s_94_16_n, s_94_17, s_94_20, s_94_23, s_94_24, s_94_27, s_94_28, s_94_29, s_94_29_n, s_94_30, s_94_33, s_94_36, s_94_37, s_94_38, ↓reduceIte, eq_self, rts_some, rts_none, nq_int, nq_ref, nq_null, nq_none, okr1_0, okr1_1, okr_b, List.length_nil, List.length_cons, Nat.zero_le, Nat.reduceAdd, Nat.reduceLeDiff, b2i_0, b2i_n0, b2i_1, b2i_n1, ite_not, if_true, if_false, not_true_eq_false, not_false_eq_true, true_and, and_true, false_and, and_false, p0, dg_6 hg hm, g1, g0, l2, a2, k1]
      · have k1 : (nI n ≤ nI j) = False := eq_false (nI_ge (by omega) (by omega))
        have k2 : (nI j < 20) = False := eq_false (nI_nlt (a := j) (b := 20) (by omega) (by omega))
        simp only [s_94_0, s_94_1, s_94_4, s_94_5, s_94_5_n, s_94_6, s_94_9, s_94_12, s_94_15, s_94_16, s_94_16_n, s_94_17, s_94_20, s_94_23, s_94_24, s_94_27, s_94_28, s_94_29, s_94_29_n, s_94_30, s_94_33, s_94_36, s_94_37, s_94_38, ↓reduceIte, eq_self, rts_some, rts_none, nq_int, nq_ref, nq_null, nq_none, okr1_0, okr1_1, okr_b, List.length_nil, List.length_cons, Nat.zero_le, Nat.reduceAdd, Nat.reduceLeDiff, b2i_0, b2i_n0, b2i_1, b2i_n1, ite_not, if_true, if_false, not_true_eq_false, not_false_eq_true, true_and, and_true, false_and, and_false, p0, dg_6 hg hm, g1, g0, l2, a2, k1, k2]
theorem c_count (hg : ∀ r, gr (LG r) = r) (hm : DM LG C kf nb) {bod : Nat → Int32} {n : Nat} {len : Int32} {vs : List Value} (h1 : C 1 = some (.inr (9, [.ref (LG 2), .int (nI n)]))) (h3 : C (300 + 5 * nb) = some (.inr (0, vs))) (h4 : vs[1]? = some (.int len)) {sc : Nat → Int32} (e1 : sc 1 = len) (e2 : sc 2 = nI nb) (e9 : sc 9 = nI n) {w : Int32} : WP V (cdT Ev) mx (d + 1) 96 [.ref (LG 0), .int w] (GW LG gr 100 M F ex hd C G z) Q = Q (some (.int (coR sc M w))) (GW LG gr 100 M F ex hd C G z) := by
  have hm1 : DM LG (WC LG 100 M F ex hd C) kf nb := DM_W (by decide) hm
  have g1 : ∀ (K : Value → Prop), gf [9] 1 (GW LG gr 100 M F ex hd C G z) (LG 1) K = K (.int (nI n)) := fun K => r_gf hg ((WC_out (by decide)).trans h1) (by decide) rfl
  have gn : ∀ (K : Value → Prop), gf [0] 1 (GW LG gr 100 M F ex hd C G z) (LG (300 + 5 * nb)) K = K (.int len) := fun K => r_gf hg ((WC_out (by omega)).trans h3) (by decide) h4
  unfold coR
  rw [e_96]
  simp only [s_96_0, s_96_1, ↓reduceIte, eq_self, rts_some, rts_none, nq_int, nq_ref, nq_null, nq_none, okr1_0, okr1_1, okr_b, List.length_nil, List.length_cons, Nat.zero_le, Nat.reduceAdd, Nat.reduceLeDiff, b2i_0, b2i_n0, b2i_1, b2i_n1, ite_not, if_true, if_false, not_true_eq_false, not_false_eq_true, true_and, and_true, false_and, and_false, swp]
  by_cases w0 : w = 0
  · rw [if_pos w0, if_pos w0]
    simp only [s_96_0, s_96_1, s_96_44, s_96_44_n, s_96_45, s_96_48, s_96_51, s_96_52, s_96_52_n, s_96_53, s_96_56, s_96_57, s_96_57_n, s_96_58, s_96_61, s_96_64, s_96_67, s_96_68, s_96_68_n, s_96_69, s_96_72, s_96_75, s_96_78, s_96_79, s_96_79_n, s_96_80, s_96_83, s_96_86, s_96_89, s_96_90, s_96_90_n, s_96_91, s_96_94, s_96_97, s_96_98, s_96_98_n, s_96_99, s_96_102, s_96_105, s_96_106, s_96_108, ↓reduceIte, eq_self, rts_some, rts_none, nq_int, nq_ref, nq_null, nq_none, okr1_0, okr1_1, okr_b, List.length_nil, List.length_cons, Nat.zero_le, Nat.reduceAdd, Nat.reduceLeDiff, b2i_0, b2i_n0, b2i_1, b2i_n1, ite_not, if_true, if_false, not_true_eq_false, not_false_eq_true, true_and, and_true, false_and, and_false, dg_0 hg hm1, wg_2 hg]
  rw [if_neg w0, if_neg w0]
  by_cases w1 : w = 1
  · rw [if_pos w1, if_pos w1, e2]
    simp only [s_96_0, s_96_1, s_96_44, s_96_44_n, s_96_45, s_96_48, s_96_51, s_96_52, s_96_52_n, s_96_53, s_96_56, s_96_57, s_96_57_n, s_96_58, s_96_61, s_96_64, s_96_67, s_96_68, s_96_68_n, s_96_69, s_96_72, s_96_75, s_96_78, s_96_79, s_96_79_n, s_96_80, s_96_83, s_96_86, s_96_89, s_96_90, s_96_90_n, s_96_91, s_96_94, s_96_97, s_96_98, s_96_98_n, s_96_99, s_96_102, s_96_105, s_96_106, s_96_108, ↓reduceIte, eq_self, rts_some, rts_none, nq_int, nq_ref, nq_null, nq_none, okr1_0, okr1_1, okr_b, List.length_nil, List.length_cons, Nat.zero_le, Nat.reduceAdd, Nat.reduceLeDiff, b2i_0, b2i_n0, b2i_1, b2i_n1, ite_not, if_true, if_false, not_true_eq_false, not_false_eq_true, true_and, and_true, false_and, and_false, dg_5 hg hm1]
  rw [if_neg w1, if_neg w1]
  by_cases w2 : w = 2
  · rw [if_pos w2, if_pos w2]
    simp only [s_96_0, s_96_1, s_96_44, s_96_44_n, s_96_45, s_96_48, s_96_51, s_96_52, s_96_52_n, s_96_53, s_96_56, s_96_57, s_96_57_n, s_96_58, s_96_61, s_96_64, s_96_67, s_96_68, s_96_68_n, s_96_69, s_96_72, s_96_75, s_96_78, s_96_79, s_96_79_n, s_96_80, s_96_83, s_96_86, s_96_89, s_96_90, s_96_90_n, s_96_91, s_96_94, s_96_97, s_96_98, s_96_98_n, s_96_99, s_96_102, s_96_105, s_96_106, s_96_108, ↓reduceIte, eq_self, rts_some, rts_none, nq_int, nq_ref, nq_null, nq_none, okr1_0, okr1_1, okr_b, List.length_nil, List.length_cons, Nat.zero_le, Nat.reduceAdd, Nat.reduceLeDiff, b2i_0, b2i_n0, b2i_1, b2i_n1, ite_not, if_true, if_false, not_true_eq_false, not_false_eq_true, true_and, and_true, false_and, and_false, dg_0 hg hm1, wg_6 hg, wrg_3_2 hg]
  rw [if_neg w2, if_neg w2]
  by_cases w3 : w = 3
  · rw [if_pos w3, if_pos w3]
    simp only [s_96_0, s_96_1, s_96_44, s_96_44_n, s_96_45, s_96_48, s_96_51, s_96_52, s_96_52_n, s_96_53, s_96_56, s_96_57, s_96_57_n, s_96_58, s_96_61, s_96_64, s_96_67, s_96_68, s_96_68_n, s_96_69, s_96_72, s_96_75, s_96_78, s_96_79, s_96_79_n, s_96_80, s_96_83, s_96_86, s_96_89, s_96_90, s_96_90_n, s_96_91, s_96_94, s_96_97, s_96_98, s_96_98_n, s_96_99, s_96_102, s_96_105, s_96_106, s_96_108, ↓reduceIte, eq_self, rts_some, rts_none, nq_int, nq_ref, nq_null, nq_none, okr1_0, okr1_1, okr_b, List.length_nil, List.length_cons, Nat.zero_le, Nat.reduceAdd, Nat.reduceLeDiff, b2i_0, b2i_n0, b2i_1, b2i_n1, ite_not, if_true, if_false, not_true_eq_false, not_false_eq_true, true_and, and_true, false_and, and_false, dg_0 hg hm1, wg_7 hg, wrg_6_2 hg]
  rw [if_neg w3, if_neg w3]
  by_cases w4 : w = 4
  · rw [if_pos w4, if_pos w4]
    simp only [s_96_0, s_96_1, s_96_44, s_96_44_n, s_96_45, s_96_48, s_96_51, s_96_52, s_96_52_n, s_96_53, s_96_56, s_96_57, s_96_57_n, s_96_58, s_96_61, s_96_64, s_96_67, s_96_68, s_96_68_n, s_96_69, s_96_72, s_96_75, s_96_78, s_96_79, s_96_79_n, s_96_80, s_96_83, s_96_86, s_96_89, s_96_90, s_96_90_n, s_96_91, s_96_94, s_96_97, s_96_98, s_96_98_n, s_96_99, s_96_102, s_96_105, s_96_106, s_96_108, ↓reduceIte, eq_self, rts_some, rts_none, nq_int, nq_ref, nq_null, nq_none, okr1_0, okr1_1, okr_b, List.length_nil, List.length_cons, Nat.zero_le, Nat.reduceAdd, Nat.reduceLeDiff, b2i_0, b2i_n0, b2i_1, b2i_n1, ite_not, if_true, if_false, not_true_eq_false, not_false_eq_true, true_and, and_true, false_and, and_false, dg_0 hg hm1, wg_8 hg, wrg_9_2 hg]
  rw [if_neg w4, if_neg w4]
  by_cases w5 : w = 5
  · rw [if_pos w5, if_pos w5, e1]
    simp only [s_96_0, s_96_1, s_96_44, s_96_44_n, s_96_45, s_96_48, s_96_51, s_96_52, s_96_52_n, s_96_53, s_96_56, s_96_57, s_96_57_n, s_96_58, s_96_61, s_96_64, s_96_67, s_96_68, s_96_68_n, s_96_69, s_96_72, s_96_75, s_96_78, s_96_79, s_96_79_n, s_96_80, s_96_83, s_96_86, s_96_89, s_96_90, s_96_90_n, s_96_91, s_96_94, s_96_97, s_96_98, s_96_98_n, s_96_99, s_96_102, s_96_105, s_96_106, s_96_108, ↓reduceIte, eq_self, rts_some, rts_none, nq_int, nq_ref, nq_null, nq_none, okr1_0, okr1_1, okr_b, List.length_nil, List.length_cons, Nat.zero_le, Nat.reduceAdd, Nat.reduceLeDiff, b2i_0, b2i_n0, b2i_1, b2i_n1, ite_not, if_true, if_false, not_true_eq_false, not_false_eq_true, true_and, and_true, false_and, and_false, dg_4 hg hm1, gn]
  rw [if_neg w5, if_neg w5]
  by_cases w6 : w = 6
  · rw [if_pos w6, if_pos w6, e9]
    simp only [s_96_0, s_96_1, s_96_44, s_96_44_n, s_96_45, s_96_48, s_96_51, s_96_52, s_96_52_n, s_96_53, s_96_56, s_96_57, s_96_57_n, s_96_58, s_96_61, s_96_64, s_96_67, s_96_68, s_96_68_n, s_96_69, s_96_72, s_96_75, s_96_78, s_96_79, s_96_79_n, s_96_80, s_96_83, s_96_86, s_96_89, s_96_90, s_96_90_n, s_96_91, s_96_94, s_96_97, s_96_98, s_96_98_n, s_96_99, s_96_102, s_96_105, s_96_106, s_96_108, ↓reduceIte, eq_self, rts_some, rts_none, nq_int, nq_ref, nq_null, nq_none, okr1_0, okr1_1, okr_b, List.length_nil, List.length_cons, Nat.zero_le, Nat.reduceAdd, Nat.reduceLeDiff, b2i_0, b2i_n0, b2i_1, b2i_n1, ite_not, if_true, if_false, not_true_eq_false, not_false_eq_true, true_and, and_true, false_and, and_false, dg_6 hg hm1, g1]
  rw [if_neg w6, if_neg w6]
  simp only [s_96_0, s_96_1, s_96_44, s_96_44_n, s_96_45, s_96_48, s_96_51, s_96_52, s_96_52_n, s_96_53, s_96_56, s_96_57, s_96_57_n, s_96_58, s_96_61, s_96_64, s_96_67, s_96_68, s_96_68_n, s_96_69, s_96_72, s_96_75, s_96_78, s_96_79, s_96_79_n, s_96_80, s_96_83, s_96_86, s_96_89, s_96_90, s_96_90_n, s_96_91, s_96_94, s_96_97, s_96_98, s_96_98_n, s_96_99, s_96_102, s_96_105, s_96_106, s_96_108, ↓reduceIte, eq_self, rts_some, rts_none, nq_int, nq_ref, nq_null, nq_none, okr1_0, okr1_1, okr_b, List.length_nil, List.length_cons, Nat.zero_le, Nat.reduceAdd, Nat.reduceLeDiff, b2i_0, b2i_n0, b2i_1, b2i_n1, ite_not, if_true, if_false, not_true_eq_false, not_false_eq_true, true_and, and_true, false_and, and_false]
/-- the static row of kinds -/
def STA (V : Nat → Option AE) (Ev : Nat → Value) (h : HS) : Prop := ∃ a, Ev 0 = .ref a ∧ h.1 a = none ∧ V (2 * a) = some (.inl (2, 7, .inl (fun j => [(-1 : Int32), 0, 0, 0, 1, 2, 3].getD j 0)))
theorem c_iu_s {h : HS} {a : Nat} (ha : h.1 a = none) (hV : V (2 * a) = some (.inl (2, 7, .inl (fun j => [(-1 : Int32), 0, 0, 0, 1, 2, 3].getD j 0)))) (hE : Ev 0 = .ref a) {j q : Nat} {kk k : Int32} (hj : j < 7) (hq : q < 7) : wp V (cdT Ev) mx d 108 4 [some (.int kk), some (.int k), some (.int (nI j)), some (.int (nI q))] [] h Q = if nI j = k then Q (some (.int 1)) h else wp V (cdT Ev) mx d 108 4 [some (.int kk), some (.int k), some (.int ([(-1 : Int32), 0, 0, 0, 1, 2, 3].getD j 0)), some (.int (nI (q + 1)))] [] h Q := by
  have l7 : ∀ (K : Int32 → Prop), ln V h a K = K 7 := by
    intro K
    simp only [ln, lk, ha, hV]
    exact propext ⟨fun h => h.2, fun h => ⟨by decide, h⟩⟩
  have a7 : ∀ (i : Int32) (K : Int32 → Prop), ai 2 i V h a K = (ix i 7 ∧ K ([(-1 : Int32), 0, 0, 0, 1, 2, 3].getD i.toNatClampNeg 0)) := by
    intro i K
    simp only [ai, lk, ha, hV, true_and]
  have k1 : ((7 : Int32) ≤ nI q) = False := eq_false (nI_ge (a := q) (b := 7) hq (by decide))
  have k2 : (nI j < (0 : Int32)) = False := eq_false (nI_pos (by omega))
  rw [s_108_4]
  by_cases hk : nI j = k
  · rw [if_pos hk]
    simp only [s_108_0, s_108_1, s_108_2, s_108_3, s_108_5, s_108_8, s_108_9, s_108_12, s_108_13, s_108_16, s_108_17, s_108_18, s_108_21, s_108_22, s_108_23, s_108_26, s_108_27, s_108_28, s_108_29, s_108_32, s_108_35, s_108_36, ↓reduceIte, eq_self, rts_some, rts_none, nq_int, nq_ref, nq_null, nq_none, okr1_0, okr1_1, okr_b, List.length_nil, List.length_cons, Nat.zero_le, Nat.reduceAdd, Nat.reduceLeDiff, b2i_0, b2i_n0, b2i_1, b2i_n1, ite_not, if_true, if_false, not_true_eq_false, not_false_eq_true, true_and, and_true, false_and, and_false, hE, l7, k1, k2, eq_true hk]
  · rw [if_neg hk]
    simp only [s_108_0, s_108_1, s_108_2, s_108_3, s_108_5, s_108_8, s_108_9, s_108_12, s_108_13, s_108_16, s_108_17, s_108_18, s_108_21, s_108_22, s_108_23, s_108_26, s_108_27, s_108_28, s_108_29, s_108_32, s_108_35, s_108_36, ↓reduceIte, eq_self, rts_some, rts_none, nq_int, nq_ref, nq_null, nq_none, okr1_0, okr1_1, okr_b, List.length_nil, List.length_cons, Nat.zero_le, Nat.reduceAdd, Nat.reduceLeDiff, b2i_0, b2i_n0, b2i_1, b2i_n1, ite_not, if_true, if_false, not_true_eq_false, not_false_eq_true, true_and, and_true, false_and, and_false, hE, l7, a7, k1, k2, eq_false hk, ix_nIT hj (show 7 < 2 ^ 31 by decide), nI_clamp (show j < 2 ^ 31 by omega), nI_1]
theorem c_iu_n {h : HS} {a : Nat} (ha : h.1 a = none) (hV : V (2 * a) = some (.inl (2, 7, .inl (fun j => [(-1 : Int32), 0, 0, 0, 1, 2, 3].getD j 0)))) (hE : Ev 0 = .ref a) {q : Nat} {kk k : Int32} (hq : q < 7) : wp V (cdT Ev) mx d 108 4 [some (.int kk), some (.int k), some (.int (-1)), some (.int (nI q))] [] h Q = Q (some (.int 0)) h := by
  have l7 : ∀ (K : Int32 → Prop), ln V h a K = K 7 := by
    intro K
    simp only [ln, lk, ha, hV]
    exact propext ⟨fun h => h.2, fun h => ⟨by decide, h⟩⟩
  have k1 : ((7 : Int32) ≤ nI q) = False := eq_false (nI_ge (a := q) (b := 7) hq (by decide))
  rw [s_108_4]
  simp only [s_108_0, s_108_1, s_108_2, s_108_3, s_108_5, s_108_8, s_108_9, s_108_12, s_108_13, s_108_16, s_108_17, s_108_18, s_108_21, s_108_22, s_108_23, s_108_26, s_108_27, s_108_28, s_108_29, s_108_32, s_108_35, s_108_36, ↓reduceIte, eq_self, rts_some, rts_none, nq_int, nq_ref, nq_null, nq_none, okr1_0, okr1_1, okr_b, List.length_nil, List.length_cons, Nat.zero_le, Nat.reduceAdd, Nat.reduceLeDiff, b2i_0, b2i_n0, b2i_1, b2i_n1, ite_not, if_true, if_false, not_true_eq_false, not_false_eq_true, true_and, and_true, false_and, and_false, hE, l7, k1, show ((-1 : Int32) < 0) = True from by decide]
theorem c_isUnder {h : HS} (hS : STA V Ev h) {K : Nat} (hK : K < 7) {k : Int32} : WP V (cdT Ev) mx (d + 1) 108 [.int (nI K), .int k] h Q = Q (some (.int (bI (ancF K k)))) h := by
  obtain ⟨a, hE, ha, hV⟩ := hS
  rw [e_108]
  simp only [s_108_0, s_108_1, s_108_2, s_108_3, ↓reduceIte, eq_self, rts_some, rts_none, nq_int, nq_ref, nq_null, nq_none, okr1_0, okr1_1, okr_b, List.length_nil, List.length_cons, Nat.zero_le, Nat.reduceAdd, Nat.reduceLeDiff, b2i_0, b2i_n0, b2i_1, b2i_n1, ite_not, if_true, if_false, not_true_eq_false, not_false_eq_true, true_and, and_true, false_and, and_false]
  have st := fun {j q : Nat} {kk : Int32} (hj : j < 7) (hq : q < 7) => c_iu_s (V := V) (Ev := Ev) (d := d) (Q := Q) (h := h) (k := k) (kk := kk) ha hV hE hj hq
  have sn := fun {q : Nat} {kk : Int32} (hq : q < 7) => c_iu_n (V := V) (Ev := Ev) (d := d) (Q := Q) (h := h) (k := k) (kk := kk) ha hV hE hq
  have ite_bI : ∀ (b : Bool) (X Y : Prop), (Q (some (.int 1)) h = X) → (b = false → Y = X) → True := fun _ _ _ _ _ => trivial
  match K, hK with
  | 0, _ =>
    refine (st (j := 0) (q := 0) (by decide) (by decide)).trans ?_
    by_cases h0 : nI 0 = k
    · rw [if_pos h0]
      subst h0
      rfl
    · rw [if_neg h0]
      refine (sn (q := 1) (by decide)).trans ?_
      simp only [ancF, show decide (k = 0) = false from decide_eq_false (fun e => h0 e.symm), Bool.or_false]
      rfl
  | 1, _ =>
    refine (st (j := 1) (q := 0) (by decide) (by decide)).trans ?_
    by_cases h0 : nI 1 = k
    · rw [if_pos h0]
      subst h0
      rfl
    · rw [if_neg h0]
      refine (st (j := 0) (q := 1) (by decide) (by decide)).trans ?_
      by_cases h1 : nI 0 = k
      · rw [if_pos h1]
        subst h1
        rfl
      · rw [if_neg h1]
        refine (sn (q := 2) (by decide)).trans ?_
        simp only [ancF, show decide (k = 1) = false from decide_eq_false (fun e => h0 e.symm), show decide (k = 0) = false from decide_eq_false (fun e => h1 e.symm), Bool.or_false]
        rfl
  | 2, _ =>
    refine (st (j := 2) (q := 0) (by decide) (by decide)).trans ?_
    by_cases h0 : nI 2 = k
    · rw [if_pos h0]
      subst h0
      rfl
    · rw [if_neg h0]
      refine (st (j := 0) (q := 1) (by decide) (by decide)).trans ?_
      by_cases h1 : nI 0 = k
      · rw [if_pos h1]
        subst h1
        rfl
      · rw [if_neg h1]
        refine (sn (q := 2) (by decide)).trans ?_
        simp only [ancF, show decide (k = 2) = false from decide_eq_false (fun e => h0 e.symm), show decide (k = 0) = false from decide_eq_false (fun e => h1 e.symm), Bool.or_false]
        rfl
  | 3, _ =>
    refine (st (j := 3) (q := 0) (by decide) (by decide)).trans ?_
    by_cases h0 : nI 3 = k
    · rw [if_pos h0]
      subst h0
      rfl
    · rw [if_neg h0]
      refine (st (j := 0) (q := 1) (by decide) (by decide)).trans ?_
      by_cases h1 : nI 0 = k
      · rw [if_pos h1]
        subst h1
        rfl
      · rw [if_neg h1]
        refine (sn (q := 2) (by decide)).trans ?_
        simp only [ancF, show decide (k = 3) = false from decide_eq_false (fun e => h0 e.symm), show decide (k = 0) = false from decide_eq_false (fun e => h1 e.symm), Bool.or_false]
        rfl
  | 4, _ =>
    refine (st (j := 4) (q := 0) (by decide) (by decide)).trans ?_
    by_cases h0 : nI 4 = k
    · rw [if_pos h0]
      subst h0
      rfl
    · rw [if_neg h0]
      refine (st (j := 1) (q := 1) (by decide) (by decide)).trans ?_
      by_cases h1 : nI 1 = k
      · rw [if_pos h1]
        subst h1
        rfl
      · rw [if_neg h1]
        refine (st (j := 0) (q := 2) (by decide) (by decide)).trans ?_
        by_cases h2 : nI 0 = k
        · rw [if_pos h2]
          subst h2
          rfl
        · rw [if_neg h2]
          refine (sn (q := 3) (by decide)).trans ?_
          simp only [ancF, show decide (k = 4) = false from decide_eq_false (fun e => h0 e.symm), show decide (k = 1) = false from decide_eq_false (fun e => h1 e.symm), show decide (k = 0) = false from decide_eq_false (fun e => h2 e.symm), Bool.or_false]
          rfl
  | 5, _ =>
    refine (st (j := 5) (q := 0) (by decide) (by decide)).trans ?_
    by_cases h0 : nI 5 = k
    · rw [if_pos h0]
      subst h0
      rfl
    · rw [if_neg h0]
      refine (st (j := 2) (q := 1) (by decide) (by decide)).trans ?_
      by_cases h1 : nI 2 = k
      · rw [if_pos h1]
        subst h1
        rfl
      · rw [if_neg h1]
        refine (st (j := 0) (q := 2) (by decide) (by decide)).trans ?_
        by_cases h2 : nI 0 = k
        · rw [if_pos h2]
          subst h2
          rfl
        · rw [if_neg h2]
          refine (sn (q := 3) (by decide)).trans ?_
          simp only [ancF, show decide (k = 5) = false from decide_eq_false (fun e => h0 e.symm), show decide (k = 2) = false from decide_eq_false (fun e => h1 e.symm), show decide (k = 0) = false from decide_eq_false (fun e => h2 e.symm), Bool.or_false]
          rfl
  | 6, _ =>
    refine (st (j := 6) (q := 0) (by decide) (by decide)).trans ?_
    by_cases h0 : nI 6 = k
    · rw [if_pos h0]
      subst h0
      rfl
    · rw [if_neg h0]
      refine (st (j := 3) (q := 1) (by decide) (by decide)).trans ?_
      by_cases h1 : nI 3 = k
      · rw [if_pos h1]
        subst h1
        rfl
      · rw [if_neg h1]
        refine (st (j := 0) (q := 2) (by decide) (by decide)).trans ?_
        by_cases h2 : nI 0 = k
        · rw [if_pos h2]
          subst h2
          rfl
        · rw [if_neg h2]
          refine (sn (q := 3) (by decide)).trans ?_
          simp only [ancF, show decide (k = 6) = false from decide_eq_false (fun e => h0 e.symm), show decide (k = 3) = false from decide_eq_false (fun e => h1 e.symm), show decide (k = 0) = false from decide_eq_false (fun e => h2 e.symm), Bool.or_false]
          rfl
theorem c_taken (hg : ∀ r, gr (LG r) = r) (hm : DM LG C kf nb) (hk : WK M ex c) (hS : STA V Ev (GW LG gr 100 M F ex hd C G z)) {p k : Int32} : WP V (cdT Ev) mx (d + 2) 95 [.ref (LG 0), .int p, .int k] (GW LG gr 100 M F ex hd C G z) Q = Q (some (.int (tkR M p k))) (GW LG gr 100 M F ex hd C G z) := by
  have hm1 : DM LG (WC LG 100 M F ex hd C) kf nb := DM_W (by decide) hm
  obtain ⟨a, hE, ha, hV⟩ := id hS
  have l7 : ∀ (K : Int32 → Prop), ln V (GW LG gr 100 M F ex hd C G z) a K = K 7 := by
    intro K
    simp only [ln, lk, ha, hV]
    exact propext ⟨fun h => h.2, fun h => ⟨by decide, h⟩⟩
  have e7 : ∀ x : Int32, (x < 7) = (x ≤ 6) := fun x => by
    rw [Int32.lt_iff_toInt_lt, Int32.le_iff_toInt_le]
    exact propext (by rw [show (7 : Int32).toInt = 7 from rfl, show (6 : Int32).toInt = 6 from rfl]; omega)
  have hc := hk.1
  unfold tkR
  rw [e_95]
  by_cases k0 : k < 0
  · rw [if_neg (fun h => absurd k0 (Int32.not_lt.mpr h.1))]
    simp only [s_95_0, s_95_1, s_95_12, s_95_14, ↓reduceIte, eq_self, rts_some, rts_none, nq_int, nq_ref, nq_null, nq_none, okr1_0, okr1_1, okr_b, List.length_nil, List.length_cons, Nat.zero_le, Nat.reduceAdd, Nat.reduceLeDiff, b2i_0, b2i_n0, b2i_1, b2i_n1, ite_not, if_true, if_false, not_true_eq_false, not_false_eq_true, true_and, and_true, false_and, and_false, k0]
  · by_cases k6 : k ≤ 6
    · rw [if_pos ⟨Int32.not_lt.mp k0, k6⟩]
      by_cases ho : oneQ M p
      · rw [if_pos ho]
        obtain ⟨i, hi, rfl⟩ := oneQ_k hc ho
        have h6 := WK_6 hk hi
        have he := WK_1 hk hi
        obtain ⟨⟨K, hK, eK⟩, -⟩ := WK_P hk hi
        have pa := fun (Q : Option Value → HS → Prop) => c_pAt_y (V := V) (Ev := Ev) (d := d) (Q := Q) (B := 100) (F := F) (hd := hd) (C := C) (G := G) (z := z) hg hk hi
        rw [nI_clamp (show i < 2 ^ 31 by omega), eK, nI_clamp (show K < 2 ^ 31 by omega)]
        by_cases hA : ancF K k = true
        · rw [if_pos hA]
          simp only [s_95_0, s_95_1, s_95_4, s_95_5, s_95_8, s_95_9, s_95_12, s_95_14, s_95_15, s_95_15_n, s_95_16, s_95_19, s_95_20, s_95_23, s_95_23_n, s_95_24, s_95_24_n, s_95_25, s_95_25_n, s_95_28, s_95_30, s_95_31, s_95_31_n, s_95_32, s_95_35, s_95_36, s_95_39, s_95_42, s_95_42_n, s_95_43, s_95_46, s_95_49, s_95_51, ↓reduceIte, eq_self, rts_some, rts_none, nq_int, nq_ref, nq_null, nq_none, okr1_0, okr1_1, okr_b, List.length_nil, List.length_cons, Nat.zero_le, Nat.reduceAdd, Nat.reduceLeDiff, b2i_0, b2i_n0, b2i_1, b2i_n1, ite_not, if_true, if_false, not_true_eq_false, not_false_eq_true, true_and, and_true, false_and, and_false, k0, hE, l7, e7, k6, dg_0 hg hm1, wcv hg, pa, pg_0 hg h6 he, eK, c_isUnder hS hK, hA, bI_t, show ((1 : Int32) = 0) = False from by decide]
        · rw [if_neg hA]
          simp only [s_95_0, s_95_1, s_95_4, s_95_5, s_95_8, s_95_9, s_95_12, s_95_14, s_95_15, s_95_15_n, s_95_16, s_95_19, s_95_20, s_95_23, s_95_23_n, s_95_24, s_95_24_n, s_95_25, s_95_25_n, s_95_28, s_95_30, s_95_31, s_95_31_n, s_95_32, s_95_35, s_95_36, s_95_39, s_95_42, s_95_42_n, s_95_43, s_95_46, s_95_49, s_95_51, ↓reduceIte, eq_self, rts_some, rts_none, nq_int, nq_ref, nq_null, nq_none, okr1_0, okr1_1, okr_b, List.length_nil, List.length_cons, Nat.zero_le, Nat.reduceAdd, Nat.reduceLeDiff, b2i_0, b2i_n0, b2i_1, b2i_n1, ite_not, if_true, if_false, not_true_eq_false, not_false_eq_true, true_and, and_true, false_and, and_false, k0, hE, l7, e7, k6, dg_0 hg hm1, wcv hg, pa, pg_0 hg h6 he, eK, c_isUnder hS hK, Bool.eq_false_iff.mpr hA, bI_f]
      · rw [if_neg ho]
        have pn := fun (Q : Option Value → HS → Prop) => c_pAt_n (V := V) (Ev := Ev) (d := d) (Q := Q) (LG := LG) (gr := gr) (B := 100) (F := F) (ex := ex) (hd := hd) (C := C) (G := G) (z := z) hg hc ho
        simp only [s_95_0, s_95_1, s_95_4, s_95_5, s_95_8, s_95_9, s_95_12, s_95_14, s_95_15, s_95_15_n, s_95_16, s_95_19, s_95_20, s_95_23, s_95_23_n, s_95_24, s_95_24_n, s_95_25, s_95_25_n, s_95_28, s_95_30, s_95_31, s_95_31_n, s_95_32, s_95_35, s_95_36, s_95_39, s_95_42, s_95_42_n, s_95_43, s_95_46, s_95_49, s_95_51, ↓reduceIte, eq_self, rts_some, rts_none, nq_int, nq_ref, nq_null, nq_none, okr1_0, okr1_1, okr_b, List.length_nil, List.length_cons, Nat.zero_le, Nat.reduceAdd, Nat.reduceLeDiff, b2i_0, b2i_n0, b2i_1, b2i_n1, ite_not, if_true, if_false, not_true_eq_false, not_false_eq_true, true_and, and_true, false_and, and_false, k0, hE, l7, e7, k6, dg_0 hg hm1, wcv hg, pn]
    · rw [if_neg (fun h => k6 h.2)]
      simp only [s_95_0, s_95_1, s_95_4, s_95_5, s_95_8, s_95_9, s_95_12, s_95_14, ↓reduceIte, eq_self, rts_some, rts_none, nq_int, nq_ref, nq_null, nq_none, okr1_0, okr1_1, okr_b, List.length_nil, List.length_cons, Nat.zero_le, Nat.reduceAdd, Nat.reduceLeDiff, b2i_0, b2i_n0, b2i_1, b2i_n1, ite_not, if_true, if_false, not_true_eq_false, not_false_eq_true, true_and, and_true, false_and, and_false, k0, hE, l7, e7, k6]
end
