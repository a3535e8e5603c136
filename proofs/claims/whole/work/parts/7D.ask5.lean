/-! Odds, can, ends: the class. -/
section
variable {V : Nat → Option AE} {Ev : Nat → Value} {d : Nat} {Q : Option Value → HS → Prop}
variable {LG gr : Nat → Nat} {M F : Nat → Int32} {ex : Nat → Bool} {hd : Option Nat} {D G : Nat → Option AE} {z : Nat × Nat} {cl : List Cls} {kf : Int32} {nb : Nat}
variable {Mt Ft : Nat → Int32} {xt : Nat → Bool} {ht : Option Nat} {BIG c k1 k2 k3 : Nat}
theorem tip_neg {N : Nat → Int32} {i : Nat} {has : Int32} : (tipF N cl i has < 0) = (tipF N cl i has = -1) := by
  rcases tipF_k N cl i has with h | ⟨s, hs, h, -⟩
  · rw [h]
    decide
  · rw [h]
    exact propext ⟨fun q => absurd q (nI_pos (by omega)), fun q => absurd q (nI_neg (by omega) (by decide))⟩
theorem c_odds_l (hg : ∀ r, gr (LG r) = r) {C : Nat → Option AE} (hm : DM LG C kf nb) {i : Nat} {w : Int32} (hi : i < c) (hk : WK M ex c) (hb : HB LG C 100 hd cl) (H : ∀ F', Q (some (.long (frF (odN M cl i 12) 12 w))) (GW LG gr 100 M F' ex hd C G z)) : ∀ m j, j + m = 12 → ∀ F l7, nl l7 = true → wp V (cdT Ev) mx (d + 4) 84 44 [some (.ref (LG 0)), some (.int (nI i)), some (.int w), some (.ref (LG (100 + 13 + i))), some (.int (tipF M cl i (M (14 + 9 * i + 2)))), some (.int (nI (odN M cl i j))), some (.int (nI j)), l7] [] (GW LG gr 100 M F ex hd C G z) Q := by
  have h6 := WK_6 hk hi
  have he := WK_1 hk hi
  have hP := WK_P hk hi
  intro m
  induction m with
  | zero =>
    intro j hj F l7 n7
    have : j = 12 := by omega
    subst this
    rw [s_84_44]
    simp only [s_84_0, s_84_0_n, s_84_1, s_84_4, s_84_5, s_84_8, s_84_8_n, s_84_9, s_84_9_n, s_84_10, s_84_10_n, s_84_13, s_84_14, s_84_17, s_84_20, s_84_23, s_84_24, s_84_24_n, s_84_25, s_84_28, s_84_28_n, s_84_29, s_84_29_n, s_84_30, s_84_33, s_84_36, s_84_38, s_84_39, s_84_41, s_84_42, s_84_46, s_84_48, s_84_51, s_84_51_n, s_84_52, s_84_55, s_84_55_n, s_84_56, s_84_56_n, s_84_57, s_84_60, s_84_61, s_84_63, s_84_64, s_84_65, s_84_68, s_84_70, s_84_72, s_84_75, s_84_77, s_84_79, s_84_82, s_84_85, s_84_88, s_84_91, s_84_93, s_84_95, s_84_96, s_84_99, ↓reduceIte, eq_self, rts_some, rts_none, nq_int, nq_ref, nq_null, nq_none, okr1_0, okr1_1, okr_b, List.length_nil, List.length_cons, Nat.zero_le, Nat.reduceAdd, Nat.reduceLeDiff, b2i_0, b2i_n0, b2i_1, b2i_n1, ite_not, if_true, if_false, not_true_eq_false, not_false_eq_true, true_and, and_true, false_and, and_false, show ((12 : Int32) ≤ nI 12) = True from by decide]
    rw [show (12 : Int32) = nI 12 from rfl, c_low (d := d + 3) (Nat.lt_of_le_of_lt (odN_le M cl i 12) (by decide)) (by decide), if_neg (by decide)]
    simp only [s_84_99, ↓reduceIte, eq_self, rts_some, rts_none, nq_int, nq_ref, nq_null, nq_none, okr1_0, okr1_1, okr_b, List.length_nil, List.length_cons, Nat.zero_le, Nat.reduceAdd, Nat.reduceLeDiff, b2i_0, b2i_n0, b2i_1, b2i_n1, ite_not, if_true, if_false, not_true_eq_false, not_false_eq_true, true_and, and_true, false_and, and_false, okr2_l]
    exact H F
  | succ m ih =>
    intro j hj F l7 n7
    have hj2 : j < 12 := by omega
    have hlt : ((12 : Int32) ≤ nI j) = False := eq_false (nI_ge hj2 (by decide))
    rw [s_84_44]
    simp only [s_84_46, s_84_48, s_84_51, s_84_52, s_84_55, s_84_56, s_84_57, s_84_60, s_84_61, s_84_63, s_84_64, s_84_65, ↓reduceIte, eq_self, rts_some, rts_none, nq_int, nq_ref, nq_null, nq_none, okr1_0, okr1_1, okr_b, List.length_nil, List.length_cons, Nat.zero_le, Nat.reduceAdd, Nat.reduceLeDiff, b2i_0, b2i_n0, b2i_1, b2i_n1, ite_not, if_true, if_false, not_true_eq_false, not_false_eq_true, true_and, and_true, false_and, and_false, hlt, dg_0 hg (DM_W (B := 100) (by decide) hm), pg_3 hg h6 he, wcv hg]
    refine c_tipOf hg (isS_or hP.2.2 (isS_on1 hj2)) (fun F => PO_W h6 he) hP AG_self hb (fun F' => ?_)
    have eo : (1 : Int32) <<< (nI j &&& 31) = on1 j := rfl
    rw [eo]
    have ihj := ih (j + 1) (by omega) F' (some (.int (tipF M cl i (M (14 + 9 * i + 2) ||| on1 j)))) nq_int
    simp only [odN] at ihj
    by_cases h1 : tipF M cl i (M (14 + 9 * i + 2) ||| on1 j) = -1
    · rw [if_pos (Or.inl h1), Nat.add_zero] at ihj
      simp only [s_84_0, s_84_0_n, s_84_1, s_84_4, s_84_5, s_84_8, s_84_8_n, s_84_9, s_84_9_n, s_84_10, s_84_10_n, s_84_13, s_84_14, s_84_17, s_84_20, s_84_23, s_84_24, s_84_24_n, s_84_25, s_84_28, s_84_28_n, s_84_29, s_84_29_n, s_84_30, s_84_33, s_84_36, s_84_38, s_84_39, s_84_41, s_84_42, s_84_46, s_84_48, s_84_51, s_84_51_n, s_84_52, s_84_55, s_84_55_n, s_84_56, s_84_56_n, s_84_57, s_84_60, s_84_61, s_84_63, s_84_64, s_84_65, s_84_68, s_84_70, s_84_72, s_84_75, s_84_77, s_84_79, s_84_82, s_84_85, s_84_88, s_84_91, s_84_93, s_84_95, s_84_96, s_84_99, ↓reduceIte, eq_self, rts_some, rts_none, nq_int, nq_ref, nq_null, nq_none, okr1_0, okr1_1, okr_b, List.length_nil, List.length_cons, Nat.zero_le, Nat.reduceAdd, Nat.reduceLeDiff, b2i_0, b2i_n0, b2i_1, b2i_n1, ite_not, if_true, if_false, not_true_eq_false, not_false_eq_true, true_and, and_true, false_and, and_false, tip_neg, eq_true h1, nI_1]
      exact ihj
    · by_cases h2 : tipF M cl i (M (14 + 9 * i + 2) ||| on1 j) = tipF M cl i (M (14 + 9 * i + 2))
      · rw [if_pos (Or.inr h2), Nat.add_zero] at ihj
        simp only [s_84_0, s_84_0_n, s_84_1, s_84_4, s_84_5, s_84_8, s_84_8_n, s_84_9, s_84_9_n, s_84_10, s_84_10_n, s_84_13, s_84_14, s_84_17, s_84_20, s_84_23, s_84_24, s_84_24_n, s_84_25, s_84_28, s_84_28_n, s_84_29, s_84_29_n, s_84_30, s_84_33, s_84_36, s_84_38, s_84_39, s_84_41, s_84_42, s_84_46, s_84_48, s_84_51, s_84_51_n, s_84_52, s_84_55, s_84_55_n, s_84_56, s_84_56_n, s_84_57, s_84_60, s_84_61, s_84_63, s_84_64, s_84_65, s_84_68, s_84_70, s_84_72, s_84_75, s_84_77, s_84_79, s_84_82, s_84_85, s_84_88, s_84_91, s_84_93, s_84_95, s_84_96, s_84_99, ↓reduceIte, eq_self, rts_some, rts_none, nq_int, nq_ref, nq_null, nq_none, okr1_0, okr1_1, okr_b, List.length_nil, List.length_cons, Nat.zero_le, Nat.reduceAdd, Nat.reduceLeDiff, b2i_0, b2i_n0, b2i_1, b2i_n1, ite_not, if_true, if_false, not_true_eq_false, not_false_eq_true, true_and, and_true, false_and, and_false, tip_neg, eq_false h1, eq_true h2, nI_1]
        exact ihj
      · rw [if_neg (fun h => h.elim h1 h2)] at ihj
        simp only [s_84_0, s_84_0_n, s_84_1, s_84_4, s_84_5, s_84_8, s_84_8_n, s_84_9, s_84_9_n, s_84_10, s_84_10_n, s_84_13, s_84_14, s_84_17, s_84_20, s_84_23, s_84_24, s_84_24_n, s_84_25, s_84_28, s_84_28_n, s_84_29, s_84_29_n, s_84_30, s_84_33, s_84_36, s_84_38, s_84_39, s_84_41, s_84_42, s_84_46, s_84_48, s_84_51, s_84_51_n, s_84_52, s_84_55, s_84_55_n, s_84_56, s_84_56_n, s_84_57, s_84_60, s_84_61, s_84_63, s_84_64, s_84_65, s_84_68, s_84_70, s_84_72, s_84_75, s_84_77, s_84_79, s_84_82, s_84_85, s_84_88, s_84_91, s_84_93, s_84_95, s_84_96, s_84_99, ↓reduceIte, eq_self, rts_some, rts_none, nq_int, nq_ref, nq_null, nq_none, okr1_0, okr1_1, okr_b, List.length_nil, List.length_cons, Nat.zero_le, Nat.reduceAdd, Nat.reduceLeDiff, b2i_0, b2i_n0, b2i_1, b2i_n1, ite_not, if_true, if_false, not_true_eq_false, not_false_eq_true, true_and, and_true, false_and, and_false, tip_neg, eq_false h1, eq_false h2, nI_1]
        exact ihj
theorem c_odds (hA : AK BIG LG gr z M F ex hd Mt Ft xt ht D cl kf nb c k1 k2 k3) {p w : Int32} (H : AQ BIG LG G z M ex hd ht D Q (.long (if oneQ M p ∧ (0 ≤ w ∧ w ≤ 1) then frF (odN M cl p.toNatClampNeg 12) 12 w else -9223372036854775808))) : WP V (cdT Ev) mx (d + 5) 84 [.ref (LG 0), .int p, .int w] (GW LG gr 100 M F ex hd (WC LG 150 Mt Ft xt ht D) G z) Q := by
  have hg := AK_g hA
  have hc := (AK_I hA).1
  have z10 : ((1 : Int32) = 0) = False := by decide
  rw [e_84]
  by_cases ho : oneQ M p
  · obtain ⟨i, hi, rfl⟩ := oneQ_k hc ho
    have hk := AK_W hA
    have h6 := WK_6 hk hi
    have he := WK_1 hk hi
    have hP := WK_P hk hi
    have pa := fun (Q : Option Value → HS → Prop) => c_pAt_y (V := V) (Ev := Ev) (d := d + 3) (Q := Q) (B := 100) (F := F) (hd := hd) (C := WC LG 150 Mt Ft xt ht D) (G := G) (z := z) hg (AK_W hA) hi
    by_cases hp : 0 ≤ w ∧ w ≤ 1
    · rw [if_pos ⟨ho, hp⟩, nI_clamp (by omega)] at H
      simp only [s_84_0, s_84_1, s_84_4, s_84_5, s_84_8, s_84_9, s_84_10, s_84_13, s_84_14, s_84_17, s_84_24, s_84_25, s_84_28, s_84_29, s_84_30, s_84_33, ↓reduceIte, eq_self, rts_some, rts_none, nq_int, nq_ref, nq_null, nq_none, okr1_0, okr1_1, okr_b, List.length_nil, List.length_cons, Nat.zero_le, Nat.reduceAdd, Nat.reduceLeDiff, b2i_0, b2i_n0, b2i_1, b2i_n1, ite_not, if_true, if_false, not_true_eq_false, not_false_eq_true, true_and, and_true, false_and, and_false, dg_0 hg (AK_m2 hA), wcv hg, pa, c_isPart, b2i_t hp, z10, pg_3 hg h6 he]
      refine c_tipOf hg hP.2.2 (fun F => PO_W h6 he) hP AG_self (AK_h1 hA) (fun F' => ?_)
      simp only [s_84_36, s_84_38, s_84_39, s_84_41, s_84_42, ↓reduceIte, eq_self, rts_some, rts_none, nq_int, nq_ref, nq_null, nq_none, okr1_0, okr1_1, okr_b, List.length_nil, List.length_cons, Nat.zero_le, Nat.reduceAdd, Nat.reduceLeDiff, b2i_0, b2i_n0, b2i_1, b2i_n1, ite_not, if_true, if_false, not_true_eq_false, not_false_eq_true, true_and, and_true, false_and, and_false]
      exact c_odds_l hg (AK_m1 hA) hi hk (AK_h1 hA) (AQ_now hA H) 12 0 rfl F' none nq_none
    · rw [if_neg (fun h => hp h.2)] at H
      simp only [s_84_0, s_84_1, s_84_4, s_84_5, s_84_8, s_84_9, s_84_10, s_84_13, s_84_14, s_84_17, s_84_20, s_84_23, ↓reduceIte, eq_self, rts_some, rts_none, nq_int, nq_ref, nq_null, nq_none, okr1_0, okr1_1, okr_b, List.length_nil, List.length_cons, Nat.zero_le, Nat.reduceAdd, Nat.reduceLeDiff, b2i_0, b2i_n0, b2i_1, b2i_n1, ite_not, if_true, if_false, not_true_eq_false, not_false_eq_true, true_and, and_true, false_and, and_false, dg_0 hg (AK_m2 hA), wcv hg, pa, c_isPart, b2i_f hp, okr2_l]
      exact AQ_now hA H F
  · rw [if_neg (fun h => ho h.1)] at H
    have pn := fun (Q : Option Value → HS → Prop) => c_pAt_n (V := V) (Ev := Ev) (d := d + 3) (Q := Q) (LG := LG) (gr := gr) (B := 100) (F := F) (ex := ex) (hd := hd) (C := WC LG 150 Mt Ft xt ht D) (G := G) (z := z) hg hc ho
    simp only [s_84_0, s_84_1, s_84_4, s_84_5, s_84_8_n, s_84_9_n, s_84_10_n, s_84_20, s_84_23, ↓reduceIte, eq_self, rts_some, rts_none, nq_int, nq_ref, nq_null, nq_none, okr1_0, okr1_1, okr_b, List.length_nil, List.length_cons, Nat.zero_le, Nat.reduceAdd, Nat.reduceLeDiff, b2i_0, b2i_n0, b2i_1, b2i_n1, ite_not, if_true, if_false, not_true_eq_false, not_false_eq_true, true_and, and_true, false_and, and_false, dg_0 hg (AK_m2 hA), wcv hg, pn, okr2_l]
    exact AQ_now hA H F
theorem SL_cs {M' : Nat → Int32} {i : Nat} (hi : i < c) (sl : SL M' M c k1 k2 k3) : csF M' cl i k1 = csF M cl i k1 := by
  unfold csF
  rw [SL_so sl k1 0 _ (by omega), tipF_ag (SL_AG sl hi), SL_p sl hi 2 (by decide)]
theorem c_can_l (hg : ∀ r, gr (LG r) = r) {C : Nat → Option AE} (hm : DM LG C kf nb) {i : Nat} {w : Int32} {M' : Nat → Int32} {l3 : Option Value} (hi : i < c) (hk : WK M' xt c) (hse : SEok M' k1 c) (sl : SL M' M c k1 k2 k3) (hb : HB LG C 150 ht cl) (H : ∀ y Ft', Q (some (.int (if w = 0 then (dnF (fun v => csF (upd M (14 + 9 * i + 1) (nI v)) cl i k1) 9 10).1 else (dnF (fun v => csF (upd M (14 + 9 * i + 1) (nI v)) cl i k1) 9 10).2))) (GW LG gr 150 (upd M' (14 + 9 * i + 1) y) Ft' xt ht C G z)) : ∀ m j, j + m = 10 → ∀ y Ft, wp V (cdT Ev) mx (d + 5) 83 46 [some (.ref (LG 0)), some (.int (nI i)), some (.int w), l3, some (.int (dnF (fun v => csF (upd M (14 + 9 * i + 1) (nI v)) cl i k1) 9 j).1), some (.int (dnF (fun v => csF (upd M (14 + 9 * i + 1) (nI v)) cl i k1) 9 j).2), some (.int (nI m + (-1)))] [] (GW LG gr 150 (upd M' (14 + 9 * i + 1) y) Ft xt ht C G z) Q := by
  have c2 := hk.1.2
  intro m
  induction m with
  | zero =>
    intro j hj y Ft
    have : j = 10 := by omega
    subst this
    have H' := H y Ft
    rw [s_83_46]
    by_cases hw : w = 0
    · rw [if_pos hw] at H'
      simp only [s_83_0, s_83_0_n, s_83_1, s_83_4, s_83_5, s_83_8, s_83_8_n, s_83_9, s_83_9_n, s_83_10, s_83_10_n, s_83_13, s_83_14, s_83_17, s_83_18, s_83_19, s_83_22, s_83_23, s_83_24, s_83_25, s_83_27, s_83_29, s_83_31, s_83_31_n, s_83_32, s_83_35, s_83_35_n, s_83_36, s_83_39, s_83_42, s_83_44, s_83_48, s_83_51, s_83_51_n, s_83_52, s_83_53, s_83_55, s_83_58, s_83_61, s_83_64, s_83_66, s_83_68, s_83_71, s_83_74, s_83_75, s_83_78, s_83_80, s_83_83, s_83_85, ↓reduceIte, eq_self, rts_some, rts_none, nq_int, nq_ref, nq_null, nq_none, okr1_0, okr1_1, okr_b, List.length_nil, List.length_cons, Nat.zero_le, Nat.reduceAdd, Nat.reduceLeDiff, b2i_0, b2i_n0, b2i_1, b2i_n1, ite_not, if_true, if_false, not_true_eq_false, not_false_eq_true, true_and, and_true, false_and, and_false, show (nI 0 + (-1) < (0 : Int32)) = True from by decide, hw]
      exact H'
    · rw [if_neg hw] at H'
      simp only [s_83_0, s_83_0_n, s_83_1, s_83_4, s_83_5, s_83_8, s_83_8_n, s_83_9, s_83_9_n, s_83_10, s_83_10_n, s_83_13, s_83_14, s_83_17, s_83_18, s_83_19, s_83_22, s_83_23, s_83_24, s_83_25, s_83_27, s_83_29, s_83_31, s_83_31_n, s_83_32, s_83_35, s_83_35_n, s_83_36, s_83_39, s_83_42, s_83_44, s_83_48, s_83_51, s_83_51_n, s_83_52, s_83_53, s_83_55, s_83_58, s_83_61, s_83_64, s_83_66, s_83_68, s_83_71, s_83_74, s_83_75, s_83_78, s_83_80, s_83_83, s_83_85, ↓reduceIte, eq_self, rts_some, rts_none, nq_int, nq_ref, nq_null, nq_none, okr1_0, okr1_1, okr_b, List.length_nil, List.length_cons, Nat.zero_le, Nat.reduceAdd, Nat.reduceLeDiff, b2i_0, b2i_n0, b2i_1, b2i_n1, ite_not, if_true, if_false, not_true_eq_false, not_false_eq_true, true_and, and_true, false_and, and_false, show (nI 0 + (-1) < (0 : Int32)) = True from by decide, hw]
      exact H'
  | succ m ih =>
    intro j hj y Ft
    have e9 : 9 - j = m := by omega
    have hlt : (nI m < (0 : Int32)) = False := eq_false (nI_pos (by omega))
    have uu : ∀ x, upd (upd M' (14 + 9 * i + 1) y) (14 + 9 * i + 1) x = upd M' (14 + 9 * i + 1) x := fun x => upd_uu
    have wk2 : WK (upd M' (14 + 9 * i + 1) y) xt c := ⟨⟨(pk_un (by omega)).trans hk.1.1, hk.1.2⟩, fun q hq => ⟨WK_1 hk hq, by
      obtain ⟨⟨K, hK, eK⟩, hb2, hs⟩ := WK_P hk hq
      refine ⟨⟨K, hK, ?_⟩, ?_, ?_⟩
      · rw [pk_un (by omega), eK]
      · rw [pk_un (by omega)]
        exact hb2
      · rw [pk_un (by omega)]
        exact hs⟩⟩
    have se2 : SEok (upd M' (14 + 9 * i + 1) y) k1 c := by
      obtain ⟨a, b, r⟩ := hse
      refine ⟨(pk_un (by omega)).trans a, b, fun q hq => ?_⟩
      rw [pk_un (by omega), pk_un (by omega)]
      exact r q hq
    rw [s_83_46, nI_m1]
    simp only [s_83_48, s_83_51, s_83_52, s_83_53, s_83_55, ↓reduceIte, eq_self, rts_some, rts_none, nq_int, nq_ref, nq_null, nq_none, okr1_0, okr1_1, okr_b, List.length_nil, List.length_cons, Nat.zero_le, Nat.reduceAdd, Nat.reduceLeDiff, b2i_0, b2i_n0, b2i_1, b2i_n1, ite_not, if_true, if_false, not_true_eq_false, not_false_eq_true, true_and, and_true, false_and, and_false, hlt, dcv hg (DM_W (B := 150) (by decide) hm)]
    refine c_isSoV (d := d) hg hm hi wk2 se2 hb (fun Ft' => ?_)
    rw [uu, SL_cs hi (SL_upd sl)]
    have ihj := ih (j + 1) (by omega) (nI m) Ft'
    simp only [dnF, e9] at ihj
    by_cases hc : csF (upd M (14 + 9 * i + 1) (nI m)) cl i k1 = true
    · rw [if_pos hc] at ihj
      simp only [s_83_58, s_83_61, s_83_64, s_83_66, s_83_68, s_83_71, ↓reduceIte, eq_self, rts_some, rts_none, nq_int, nq_ref, nq_null, nq_none, okr1_0, okr1_1, okr_b, List.length_nil, List.length_cons, Nat.zero_le, Nat.reduceAdd, Nat.reduceLeDiff, b2i_0, b2i_n0, b2i_1, b2i_n1, ite_not, if_true, if_false, not_true_eq_false, not_false_eq_true, true_and, and_true, false_and, and_false, hc, bI_t, show ((1 : Int32) = 0) = False from by decide]
      exact ihj
    · rw [if_neg hc] at ihj
      simp only [s_83_58, s_83_61, s_83_64, s_83_66, s_83_68, s_83_71, ↓reduceIte, eq_self, rts_some, rts_none, nq_int, nq_ref, nq_null, nq_none, okr1_0, okr1_1, okr_b, List.length_nil, List.length_cons, Nat.zero_le, Nat.reduceAdd, Nat.reduceLeDiff, b2i_0, b2i_n0, b2i_1, b2i_n1, ite_not, if_true, if_false, not_true_eq_false, not_false_eq_true, true_and, and_true, false_and, and_false, Bool.eq_false_iff.mpr hc, bI_f]
      exact ihj
theorem c_can (hA : AK BIG LG gr z M F ex hd Mt Ft xt ht D cl kf nb c k1 k2 k3) {p w : Int32} (H : AQ BIG LG G z M ex hd ht D Q (.int (if oneQ M p ∧ (0 ≤ w ∧ w ≤ 1) then (if w = 0 then (dnF (fun v => csF (upd M (14 + 9 * p.toNatClampNeg + 1) (nI v)) cl p.toNatClampNeg k1) 9 10).1 else (dnF (fun v => csF (upd M (14 + 9 * p.toNatClampNeg + 1) (nI v)) cl p.toNatClampNeg k1) 9 10).2) else -1))) : WP V (cdT Ev) mx (d + 7) 83 [.ref (LG 0), .int p, .int w] (GW LG gr 100 M F ex hd (WC LG 150 Mt Ft xt ht D) G z) Q := by
  have hg := AK_g hA
  have hc := (AK_I hA).1
  rw [e_83]
  by_cases ho : oneQ M p
  · obtain ⟨i, hi, rfl⟩ := oneQ_k hc ho
    have c2 := hc.2
    have pa := fun (Q : Option Value → HS → Prop) => c_pAt_y (V := V) (Ev := Ev) (d := d + 5) (Q := Q) (B := 100) (F := F) (hd := hd) (C := WC LG 150 Mt Ft xt ht D) (G := G) (z := z) hg (AK_W hA) hi
    by_cases hp : 0 ≤ w ∧ w ≤ 1
    · rw [if_pos ⟨ho, hp⟩, nI_clamp (by omega)] at H
      simp only [s_83_0, s_83_1, s_83_4, s_83_5, s_83_8, s_83_9, s_83_10, s_83_13, s_83_14, s_83_17, s_83_18, s_83_19, s_83_24, s_83_25, s_83_27, s_83_29, s_83_31, s_83_32, s_83_35, s_83_36, s_83_39, ↓reduceIte, eq_self, rts_some, rts_none, nq_int, nq_ref, nq_null, nq_none, okr1_0, okr1_1, okr_b, List.length_nil, List.length_cons, Nat.zero_le, Nat.reduceAdd, Nat.reduceLeDiff, b2i_0, b2i_n0, b2i_1, b2i_n1, ite_not, if_true, if_false, not_true_eq_false, not_false_eq_true, true_and, and_true, false_and, and_false, dg_0 hg (AK_m2 hA), dg_1 hg (AK_m2 hA), wcv hg, pa, eq_false (Int32.not_lt.mpr hp.1), hp.2, tcv hg]
      refine c_tl' hA (fun LG' gr' G' z' M' hk hw' sl wi => ?_)
      have hg' := hk.2.1.1
      have hm' : DM LG' (WC LG' 100 M F ex hd D) kf nb := DM_W (by decide) (KP_DM hk (AK_m hA))
      have hb' : HB LG' (WC LG' 100 M F ex hd D) 150 hd cl := HB_t (AK_b hA) (KP_HB hk (AK_b hA) (AK_h hA))
      rw [← KP_x hk 0 (by omega)]
      simp only [s_83_42, s_83_44, ↓reduceIte, eq_self, rts_some, rts_none, nq_int, nq_ref, nq_null, nq_none, okr1_0, okr1_1, okr_b, List.length_nil, List.length_cons, Nat.zero_le, Nat.reduceAdd, Nat.reduceLeDiff, b2i_0, b2i_n0, b2i_1, b2i_n1, ite_not, if_true, if_false, not_true_eq_false, not_false_eq_true, true_and, and_true, false_and, and_false]
      have lp := c_can_l (V := V) (Ev := Ev) (d := d + 1) (Q := Q) (G := G') (z := z') (l3 := some (.ref (LG (100 + 13 + i)))) hg' hm' hi hw' (WI_SE wi) sl hb' (fun y Ft' => AQ_t H (KP_F (fun j hj _ => pk_un (by omega)) hk) (Or.inl rfl)) 10 0 rfl (M' (14 + 9 * i + 1)) Ft
      rw [upd_us] at lp
      exact lp
    · rw [if_neg (fun h => hp h.2)] at H
      by_cases h0 : w < 0
      · simp only [s_83_0, s_83_1, s_83_4, s_83_5, s_83_8, s_83_9, s_83_10, s_83_13, s_83_14, s_83_22, s_83_23, ↓reduceIte, eq_self, rts_some, rts_none, nq_int, nq_ref, nq_null, nq_none, okr1_0, okr1_1, okr_b, List.length_nil, List.length_cons, Nat.zero_le, Nat.reduceAdd, Nat.reduceLeDiff, b2i_0, b2i_n0, b2i_1, b2i_n1, ite_not, if_true, if_false, not_true_eq_false, not_false_eq_true, true_and, and_true, false_and, and_false, dg_0 hg (AK_m2 hA), wcv hg, pa, h0]
        exact AQ_now hA H F
      · have h1 : ¬ w ≤ 1 := fun h => hp ⟨Int32.not_lt.mp h0, h⟩
        simp only [s_83_0, s_83_1, s_83_4, s_83_5, s_83_8, s_83_9, s_83_10, s_83_13, s_83_14, s_83_17, s_83_18, s_83_19, s_83_22, s_83_23, ↓reduceIte, eq_self, rts_some, rts_none, nq_int, nq_ref, nq_null, nq_none, okr1_0, okr1_1, okr_b, List.length_nil, List.length_cons, Nat.zero_le, Nat.reduceAdd, Nat.reduceLeDiff, b2i_0, b2i_n0, b2i_1, b2i_n1, ite_not, if_true, if_false, not_true_eq_false, not_false_eq_true, true_and, and_true, false_and, and_false, dg_0 hg (AK_m2 hA), wcv hg, pa, h0, h1]
        exact AQ_now hA H F
  · rw [if_neg (fun h => ho h.1)] at H
    have pn := fun (Q : Option Value → HS → Prop) => c_pAt_n (V := V) (Ev := Ev) (d := d + 5) (Q := Q) (LG := LG) (gr := gr) (B := 100) (F := F) (ex := ex) (hd := hd) (C := WC LG 150 Mt Ft xt ht D) (G := G) (z := z) hg hc ho
    simp only [s_83_0, s_83_1, s_83_4, s_83_5, s_83_8_n, s_83_9_n, s_83_10_n, s_83_22, s_83_23, ↓reduceIte, eq_self, rts_some, rts_none, nq_int, nq_ref, nq_null, nq_none, okr1_0, okr1_1, okr_b, List.length_nil, List.length_cons, Nat.zero_le, Nat.reduceAdd, Nat.reduceLeDiff, b2i_0, b2i_n0, b2i_1, b2i_n1, ite_not, if_true, if_false, not_true_eq_false, not_false_eq_true, true_and, and_true, false_and, and_false, dg_0 hg (AK_m2 hA), wcv hg, pn]
    exact AQ_now hA H F
end
