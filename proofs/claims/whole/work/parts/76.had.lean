/-! Had, least, decoy: the class. -/
theorem soF_k {M : Nat → Int32} {p : Int32} {k c : Nat} (hs : SEok M k c) : ∀ f r t, r + f = k → (t = -2 ∨ t = -1 ∨ ∃ s, s < 12 ∧ t = nI s) → (soF M p f r t = -2 ∨ soF M p f r t = -3 ∨ soF M p f r t = -1 ∨ ∃ s, s < 12 ∧ soF M p f r t = nI s) := by
  intro f
  induction f with
  | zero =>
    intro r t _ ht
    rcases ht with h | h | h
    · exact Or.inl h
    · exact Or.inr (Or.inr (Or.inl h))
    · exact Or.inr (Or.inr (Or.inr h))
  | succ f ih =>
    intro r t hr ht
    simp only [soF]
    have h2 := (hs.2.2 r (by omega)).2
    split
    · split
      · exact Or.inr (Or.inl rfl)
      · exact ih _ _ (by omega) (Or.inr h2)
    · exact ih _ _ (by omega) ht
def hsF (M : Nat → Int32) (cl : List Cls) (i k : Nat) : Int32 := if soF M (nI i) k 0 (-2) = -2 then 4096 else if soF M (nI i) k 0 (-2) = -3 then 0 else if 0 ≤ soF M (nI i) k 0 (-2) then nI (swF M cl i (soF M (nI i) k 0 (-2)).toNatClampNeg 12) else nI (sxF M cl i 13)
def lhF (M : Nat → Int32) (cl : List Cls) (i k : Nat) : Int32 := if hsF M cl i k = 0 then -5 else if 0 ≤ soF M (nI i) k 0 (-2) then (1 : Int32) <<< (soF M (nI i) k 0 (-2) &&& 31) else 0
def dyL (M : Nat → Int32) (cl : List Cls) (i : Nat) (has t : Int32) : Nat → Nat → Int32
  | 0, _ => -5
  | f + 1, s => if bt has s = 0 ∧ (0 ≤ tipF M cl i (has ||| on1 s) ∧ ¬ tipF M cl i (has ||| on1 s) = t) then on1 s else dyL M cl i has t f (s + 1)
def dyF (M : Nat → Int32) (cl : List Cls) (i : Nat) (has t : Int32) : Int32 := if 0 ≤ tipF M cl i has ∧ ¬ tipF M cl i has = t then 0 else dyL M cl i has t 12 0
section
variable {V : Nat → Option AE} {Ev : Nat → Value} {d : Nat} {Q : Option Value → HS → Prop}
variable {LG gr : Nat → Nat} {M F : Nat → Int32} {ex : Nat → Bool} {hd : Option Nat} {C G : Nat → Option AE} {z : Nat × Nat} {cl : List Cls} {kf : Int32} {nb : Nat}
theorem c_hadSets (hg : ∀ r, gr (LG r) = r) (hm : DM LG C kf nb) {c k i : Nat} (hk : WK M ex c) (hs : SEok M k c) (hi : i < c) (hb : HB LG C 100 hd cl) (H : ∀ F', Q (some (.int (hsF M cl i k))) (GW LG gr 100 M F' ex hd C G z)) : WP V (cdT Ev) mx (d + 7) 114 [.ref (LG 0), .ref (LG (100 + 13 + i))] (GW LG gr 100 M F ex hd C G z) Q := by
  have h6 := WK_6 hk hi
  have he := WK_1 hk hi
  have hP := WK_P hk hi
  rw [e_114]
  have so := soF_k (p := nI i) hs k 0 (-2) (by omega) (Or.inl rfl)
  have z1 : ((-1 : Int32) = -2) = False := by decide
  have z2 : ((-1 : Int32) = -3) = False := by decide
  have z3 : ((0 : Int32) ≤ -1) = False := by decide
  have z4 : ((-3 : Int32) = -2) = False := by decide
  unfold hsF at H
  have sO := fun (Q : Option Value → HS → Prop) => c_seenOf (V := V) (Ev := Ev) (d := d + 5) (Q := Q) (LG := LG) (gr := gr) (B := 100) (F := F) (ex := ex) (hd := hd) (C := C) (G := G) (z := z) hg hs.2.1 hs.1 (p := nI i)
  simp only [s_114_0, s_114_1, s_114_4, s_114_5, s_114_8, s_114_11, s_114_12, s_114_13, s_114_15, ↓reduceIte, eq_self, rts_some, rts_none, nq_int, nq_ref, nq_null, nq_none, okr1_0, okr1_1, okr_b, List.length_nil, List.length_cons, Nat.zero_le, Nat.reduceAdd, Nat.reduceLeDiff, b2i_0, b2i_n0, b2i_1, b2i_n1, ite_not, if_true, if_false, not_true_eq_false, not_false_eq_true, true_and, and_true, false_and, and_false, dg_0 hg (DM_W (B := 100) (by decide) hm), pg_1 hg h6 he, wcv hg, sO]
  generalize soF M (nI i) k 0 (-2) = t at so H
  rcases so with e | e | e | ⟨s, hs12, e⟩
  · subst e
    rw [if_pos rfl]
    simp only [s_114_18, s_114_21, ↓reduceIte, eq_self, rts_some, rts_none, nq_int, nq_ref, nq_null, nq_none, okr1_0, okr1_1, okr_b, List.length_nil, List.length_cons, Nat.zero_le, Nat.reduceAdd, Nat.reduceLeDiff, b2i_0, b2i_n0, b2i_1, b2i_n1, ite_not, if_true, if_false, not_true_eq_false, not_false_eq_true, true_and, and_true, false_and, and_false]
    exact H F
  · subst e
    rw [if_neg (by decide)]
    simp only [z4, if_false, if_true] at H
    simp only [s_114_0, s_114_0_n, s_114_1, s_114_4, s_114_4_n, s_114_5, s_114_8, s_114_11, s_114_12, s_114_13, s_114_15, s_114_18, s_114_21, s_114_22, s_114_23, s_114_25, s_114_28, s_114_29, s_114_30, s_114_31, s_114_34, s_114_34_n, s_114_35, s_114_38, s_114_38_n, s_114_39, s_114_42, s_114_45, s_114_45_n, s_114_46, s_114_49, s_114_49_n, s_114_50, s_114_51, s_114_54, ↓reduceIte, eq_self, rts_some, rts_none, nq_int, nq_ref, nq_null, nq_none, okr1_0, okr1_1, okr_b, List.length_nil, List.length_cons, Nat.zero_le, Nat.reduceAdd, Nat.reduceLeDiff, b2i_0, b2i_n0, b2i_1, b2i_n1, ite_not, if_true, if_false, not_true_eq_false, not_false_eq_true, true_and, and_true, false_and, and_false]
    exact H F
  · subst e
    rw [if_neg (by decide)]
    simp only [z1, z2, z3, if_false] at H
    simp only [s_114_0, s_114_0_n, s_114_1, s_114_4, s_114_4_n, s_114_5, s_114_8, s_114_11, s_114_12, s_114_13, s_114_15, s_114_18, s_114_21, s_114_22, s_114_23, s_114_25, s_114_28, s_114_29, s_114_30, s_114_31, s_114_34, s_114_34_n, s_114_35, s_114_38, s_114_38_n, s_114_39, s_114_42, s_114_45, s_114_45_n, s_114_46, s_114_49, s_114_49_n, s_114_50, s_114_51, s_114_54, ↓reduceIte, eq_self, rts_some, rts_none, nq_int, nq_ref, nq_null, nq_none, okr1_0, okr1_1, okr_b, List.length_nil, List.length_cons, Nat.zero_le, Nat.reduceAdd, Nat.reduceLeDiff, b2i_0, b2i_n0, b2i_1, b2i_n1, ite_not, if_true, if_false, not_true_eq_false, not_false_eq_true, true_and, and_true, false_and, and_false, z2, z3, dg_0 hg (DM_W (B := 100) (by decide) hm), wcv hg]
    refine c_noTip (d := d + 1) hg h6 he hP hb (fun F' => ?_)
    simp only [s_114_0, s_114_0_n, s_114_1, s_114_4, s_114_4_n, s_114_5, s_114_8, s_114_11, s_114_12, s_114_13, s_114_15, s_114_18, s_114_21, s_114_22, s_114_23, s_114_25, s_114_28, s_114_29, s_114_30, s_114_31, s_114_34, s_114_34_n, s_114_35, s_114_38, s_114_38_n, s_114_39, s_114_42, s_114_45, s_114_45_n, s_114_46, s_114_49, s_114_49_n, s_114_50, s_114_51, s_114_54, ↓reduceIte, eq_self, rts_some, rts_none, nq_int, nq_ref, nq_null, nq_none, okr1_0, okr1_1, okr_b, List.length_nil, List.length_cons, Nat.zero_le, Nat.reduceAdd, Nat.reduceLeDiff, b2i_0, b2i_n0, b2i_1, b2i_n1, ite_not, if_true, if_false, not_true_eq_false, not_false_eq_true, true_and, and_true, false_and, and_false]
    exact H F'
  · subst e
    have y1 : (nI s = -2) = False := eq_false (nI_neg (by omega) (by decide))
    have y2 : (nI s = -3) = False := eq_false (nI_neg (by omega) (by decide))
    have y3 : ((0 : Int32) ≤ nI s) = True := eq_true (nI_pos' (by omega))
    simp only [y1, y2, y3, if_false, if_true, nI_clamp (show s < 2 ^ 31 by omega)] at H
    simp only [s_114_0, s_114_0_n, s_114_1, s_114_4, s_114_4_n, s_114_5, s_114_8, s_114_11, s_114_12, s_114_13, s_114_15, s_114_18, s_114_21, s_114_22, s_114_23, s_114_25, s_114_28, s_114_29, s_114_30, s_114_31, s_114_34, s_114_34_n, s_114_35, s_114_38, s_114_38_n, s_114_39, s_114_42, s_114_45, s_114_45_n, s_114_46, s_114_49, s_114_49_n, s_114_50, s_114_51, s_114_54, ↓reduceIte, eq_self, rts_some, rts_none, nq_int, nq_ref, nq_null, nq_none, okr1_0, okr1_1, okr_b, List.length_nil, List.length_cons, Nat.zero_le, Nat.reduceAdd, Nat.reduceLeDiff, b2i_0, b2i_n0, b2i_1, b2i_n1, ite_not, if_true, if_false, not_true_eq_false, not_false_eq_true, true_and, and_true, false_and, and_false, y1, y2, y3, dg_0 hg (DM_W (B := 100) (by decide) hm), wcv hg]
    refine c_withTip hg h6 he hP hs12 hb (fun F' => ?_)
    simp only [s_114_0, s_114_0_n, s_114_1, s_114_4, s_114_4_n, s_114_5, s_114_8, s_114_11, s_114_12, s_114_13, s_114_15, s_114_18, s_114_21, s_114_22, s_114_23, s_114_25, s_114_28, s_114_29, s_114_30, s_114_31, s_114_34, s_114_34_n, s_114_35, s_114_38, s_114_38_n, s_114_39, s_114_42, s_114_45, s_114_45_n, s_114_46, s_114_49, s_114_49_n, s_114_50, s_114_51, s_114_54, ↓reduceIte, eq_self, rts_some, rts_none, nq_int, nq_ref, nq_null, nq_none, okr1_0, okr1_1, okr_b, List.length_nil, List.length_cons, Nat.zero_le, Nat.reduceAdd, Nat.reduceLeDiff, b2i_0, b2i_n0, b2i_1, b2i_n1, ite_not, if_true, if_false, not_true_eq_false, not_false_eq_true, true_and, and_true, false_and, and_false]
    exact H F'
theorem c_leastHad (hg : ∀ r, gr (LG r) = r) (hm : DM LG C kf nb) {c k i : Nat} (hk : WK M ex c) (hs : SEok M k c) (hi : i < c) (H : Q (some (.int (if 0 ≤ soF M (nI i) k 0 (-2) then (1 : Int32) <<< (soF M (nI i) k 0 (-2) &&& 31) else 0))) (GW LG gr 100 M F ex hd C G z)) : WP V (cdT Ev) mx (d + 8) 115 [.ref (LG 0), .ref (LG (100 + 13 + i))] (GW LG gr 100 M F ex hd C G z) Q := by
  have h6 := WK_6 hk hi
  have he := WK_1 hk hi
  rw [e_115]
  have sO := fun (Q : Option Value → HS → Prop) => c_seenOf (V := V) (Ev := Ev) (d := d + 6) (Q := Q) (LG := LG) (gr := gr) (B := 100) (F := F) (ex := ex) (hd := hd) (C := C) (G := G) (z := z) hg hs.2.1 hs.1 (p := nI i)
  simp only [s_115_0, s_115_0_n, s_115_1, s_115_4, s_115_4_n, s_115_5, s_115_8, s_115_11, s_115_12, s_115_13, s_115_16, s_115_17, s_115_20, s_115_21, s_115_22, s_115_23, ↓reduceIte, eq_self, rts_some, rts_none, nq_int, nq_ref, nq_null, nq_none, okr1_0, okr1_1, okr_b, List.length_nil, List.length_cons, Nat.zero_le, Nat.reduceAdd, Nat.reduceLeDiff, b2i_0, b2i_n0, b2i_1, b2i_n1, ite_not, if_true, if_false, not_true_eq_false, not_false_eq_true, true_and, and_true, false_and, and_false, dg_0 hg (DM_W (B := 100) (by decide) hm), pg_1 hg h6 he, wcv hg, sO]
  by_cases h1 : 0 ≤ soF M (nI i) k 0 (-2)
  · rw [if_pos h1] at H ⊢
    exact H
  · rw [if_neg h1] at H ⊢
    exact H
theorem c_decoy_l (hg : ∀ r, gr (LG r) = r) (hm : DM LG C kf nb) {c i : Nat} {t v : Int32} (hk : WK M ex c) (hi : i < c) (hb : HB LG C 100 hd cl) (H : ∀ F', Q (some (.int v)) (GW LG gr 100 M F' ex hd C G z)) : ∀ m j, j + m = 12 → v = dyL M cl i (M (14 + 9 * i + 2)) t m j → ∀ F, wp V (cdT Ev) mx (d + 4) 116 23 [some (.ref (LG 0)), some (.ref (LG (100 + 13 + i))), some (.int t), some (.int (nI j))] [] (GW LG gr 100 M F ex hd C G z) Q := by
  have h6 := WK_6 hk hi
  have he := WK_1 hk hi
  have hP := WK_P hk hi
  intro m
  induction m with
  | zero =>
    intro j hj hv F
    have : j = 12 := by omega
    subst this
    have hv' : v = -5 := hv
    subst hv'
    rw [s_116_23]
    simp only [s_116_0, s_116_0_n, s_116_1, s_116_4, s_116_4_n, s_116_5, s_116_5_n, s_116_6, s_116_9, s_116_12, s_116_13, s_116_16, s_116_19, s_116_20, s_116_21, s_116_22, s_116_24, s_116_26, s_116_29, s_116_29_n, s_116_30, s_116_33, s_116_34, s_116_35, s_116_36, s_116_37, s_116_40, s_116_40_n, s_116_41, s_116_44, s_116_44_n, s_116_45, s_116_45_n, s_116_46, s_116_49, s_116_50, s_116_51, s_116_52, s_116_53, s_116_56, s_116_57, s_116_60, s_116_63, s_116_64, s_116_65, s_116_66, s_116_67, s_116_70, s_116_73, s_116_75, ↓reduceIte, eq_self, rts_some, rts_none, nq_int, nq_ref, nq_null, nq_none, okr1_0, okr1_1, okr_b, List.length_nil, List.length_cons, Nat.zero_le, Nat.reduceAdd, Nat.reduceLeDiff, b2i_0, b2i_n0, b2i_1, b2i_n1, ite_not, if_true, if_false, not_true_eq_false, not_false_eq_true, true_and, and_true, false_and, and_false, show ((12 : Int32) ≤ nI 12) = True from by decide]
    exact H F
  | succ m ih =>
    intro j hj hv F
    have hj2 : j < 12 := by omega
    have hlt : ((12 : Int32) ≤ nI j) = False := eq_false (nI_ge hj2 (by decide))
    have h01 := bt_01 hP.2.2 (show j < 32 by omega)
    simp only [dyL] at hv
    rw [s_116_23]
    by_cases hbt : bt (M (14 + 9 * i + 2)) j = 0
    · have hb1 : (M (14 + 9 * i + 2) >>> (nI j &&& 31) &&& 1 = 0) = True := eq_true hbt
      simp only [s_116_0, s_116_0_n, s_116_1, s_116_4, s_116_4_n, s_116_5, s_116_5_n, s_116_6, s_116_9, s_116_12, s_116_13, s_116_16, s_116_19, s_116_20, s_116_21, s_116_22, s_116_24, s_116_26, s_116_29, s_116_29_n, s_116_30, s_116_33, s_116_34, s_116_35, s_116_36, s_116_37, s_116_40, s_116_40_n, s_116_41, s_116_44, s_116_44_n, s_116_45, s_116_45_n, s_116_46, s_116_49, s_116_50, s_116_51, s_116_52, s_116_53, s_116_56, s_116_57, s_116_60, s_116_63, s_116_64, s_116_65, s_116_66, s_116_67, s_116_70, s_116_73, s_116_75, ↓reduceIte, eq_self, rts_some, rts_none, nq_int, nq_ref, nq_null, nq_none, okr1_0, okr1_1, okr_b, List.length_nil, List.length_cons, Nat.zero_le, Nat.reduceAdd, Nat.reduceLeDiff, b2i_0, b2i_n0, b2i_1, b2i_n1, ite_not, if_true, if_false, not_true_eq_false, not_false_eq_true, true_and, and_true, false_and, and_false, hlt, hb1, pg_3 hg h6 he, dg_0 hg (DM_W (B := 100) (by decide) hm), wcv hg]
      refine c_tipOf hg (isS_or hP.2.2 (isS_on1 hj2)) (fun F => PO_W h6 he) hP AG_self hb (fun F' => ?_)
      have eo : (1 : Int32) <<< (nI j &&& 31) = on1 j := rfl
      rw [eo]
      by_cases ht : 0 ≤ tipF M cl i (M (14 + 9 * i + 2) ||| on1 j) ∧ ¬ tipF M cl i (M (14 + 9 * i + 2) ||| on1 j) = t
      · rw [if_pos ⟨hbt, ht⟩] at hv
        subst hv
        simp only [s_116_0, s_116_0_n, s_116_1, s_116_4, s_116_4_n, s_116_5, s_116_5_n, s_116_6, s_116_9, s_116_12, s_116_13, s_116_16, s_116_19, s_116_20, s_116_21, s_116_22, s_116_24, s_116_26, s_116_29, s_116_29_n, s_116_30, s_116_33, s_116_34, s_116_35, s_116_36, s_116_37, s_116_40, s_116_40_n, s_116_41, s_116_44, s_116_44_n, s_116_45, s_116_45_n, s_116_46, s_116_49, s_116_50, s_116_51, s_116_52, s_116_53, s_116_56, s_116_57, s_116_60, s_116_63, s_116_64, s_116_65, s_116_66, s_116_67, s_116_70, s_116_73, s_116_75, ↓reduceIte, eq_self, rts_some, rts_none, nq_int, nq_ref, nq_null, nq_none, okr1_0, okr1_1, okr_b, List.length_nil, List.length_cons, Nat.zero_le, Nat.reduceAdd, Nat.reduceLeDiff, b2i_0, b2i_n0, b2i_1, b2i_n1, ite_not, if_true, if_false, not_true_eq_false, not_false_eq_true, true_and, and_true, false_and, and_false, c_isOther, b2i_t ht, show ((1 : Int32) = 0) = False from by decide]
        exact H F'
      · rw [if_neg (fun h => ht h.2)] at hv
        simp only [s_116_0, s_116_0_n, s_116_1, s_116_4, s_116_4_n, s_116_5, s_116_5_n, s_116_6, s_116_9, s_116_12, s_116_13, s_116_16, s_116_19, s_116_20, s_116_21, s_116_22, s_116_24, s_116_26, s_116_29, s_116_29_n, s_116_30, s_116_33, s_116_34, s_116_35, s_116_36, s_116_37, s_116_40, s_116_40_n, s_116_41, s_116_44, s_116_44_n, s_116_45, s_116_45_n, s_116_46, s_116_49, s_116_50, s_116_51, s_116_52, s_116_53, s_116_56, s_116_57, s_116_60, s_116_63, s_116_64, s_116_65, s_116_66, s_116_67, s_116_70, s_116_73, s_116_75, ↓reduceIte, eq_self, rts_some, rts_none, nq_int, nq_ref, nq_null, nq_none, okr1_0, okr1_1, okr_b, List.length_nil, List.length_cons, Nat.zero_le, Nat.reduceAdd, Nat.reduceLeDiff, b2i_0, b2i_n0, b2i_1, b2i_n1, ite_not, if_true, if_false, not_true_eq_false, not_false_eq_true, true_and, and_true, false_and, and_false, c_isOther, b2i_f ht, nI_1]
        exact ih (j + 1) (by omega) hv F'
    · have hb1 : (M (14 + 9 * i + 2) >>> (nI j &&& 31) &&& 1 = 0) = False := eq_false hbt
      rw [if_neg (fun h => hbt h.1)] at hv
      simp only [s_116_0, s_116_0_n, s_116_1, s_116_4, s_116_4_n, s_116_5, s_116_5_n, s_116_6, s_116_9, s_116_12, s_116_13, s_116_16, s_116_19, s_116_20, s_116_21, s_116_22, s_116_24, s_116_26, s_116_29, s_116_29_n, s_116_30, s_116_33, s_116_34, s_116_35, s_116_36, s_116_37, s_116_40, s_116_40_n, s_116_41, s_116_44, s_116_44_n, s_116_45, s_116_45_n, s_116_46, s_116_49, s_116_50, s_116_51, s_116_52, s_116_53, s_116_56, s_116_57, s_116_60, s_116_63, s_116_64, s_116_65, s_116_66, s_116_67, s_116_70, s_116_73, s_116_75, ↓reduceIte, eq_self, rts_some, rts_none, nq_int, nq_ref, nq_null, nq_none, okr1_0, okr1_1, okr_b, List.length_nil, List.length_cons, Nat.zero_le, Nat.reduceAdd, Nat.reduceLeDiff, b2i_0, b2i_n0, b2i_1, b2i_n1, ite_not, if_true, if_false, not_true_eq_false, not_false_eq_true, true_and, and_true, false_and, and_false, hlt, hb1, pg_3 hg h6 he, nI_1]
      exact ih (j + 1) (by omega) hv F
theorem c_decoyOf (hg : ∀ r, gr (LG r) = r) (hm : DM LG C kf nb) {c i : Nat} {t : Int32} (hk : WK M ex c) (hi : i < c) (hb : HB LG C 100 hd cl) (H : ∀ F', Q (some (.int (dyF M cl i (M (14 + 9 * i + 2)) t))) (GW LG gr 100 M F' ex hd C G z)) : WP V (cdT Ev) mx (d + 5) 116 [.ref (LG 0), .ref (LG (100 + 13 + i)), .int t] (GW LG gr 100 M F ex hd C G z) Q := by
  have h6 := WK_6 hk hi
  have he := WK_1 hk hi
  have hP := WK_P hk hi
  rw [e_116]
  simp only [s_116_0, s_116_1, s_116_4, s_116_5, s_116_6, s_116_9, ↓reduceIte, eq_self, rts_some, rts_none, nq_int, nq_ref, nq_null, nq_none, okr1_0, okr1_1, okr_b, List.length_nil, List.length_cons, Nat.zero_le, Nat.reduceAdd, Nat.reduceLeDiff, b2i_0, b2i_n0, b2i_1, b2i_n1, ite_not, if_true, if_false, not_true_eq_false, not_false_eq_true, true_and, and_true, false_and, and_false, pg_3 hg h6 he, dg_0 hg (DM_W (B := 100) (by decide) hm), wcv hg]
  refine c_tipOf hg hP.2.2 (fun F => PO_W h6 he) hP AG_self hb (fun F' => ?_)
  unfold dyF at H
  by_cases ht : 0 ≤ tipF M cl i (M (14 + 9 * i + 2)) ∧ ¬ tipF M cl i (M (14 + 9 * i + 2)) = t
  · simp only [if_pos ht] at H
    simp only [s_116_0, s_116_0_n, s_116_1, s_116_4, s_116_4_n, s_116_5, s_116_5_n, s_116_6, s_116_9, s_116_12, s_116_13, s_116_16, s_116_19, s_116_20, s_116_21, s_116_22, s_116_24, s_116_26, s_116_29, s_116_29_n, s_116_30, s_116_33, s_116_34, s_116_35, s_116_36, s_116_37, s_116_40, s_116_40_n, s_116_41, s_116_44, s_116_44_n, s_116_45, s_116_45_n, s_116_46, s_116_49, s_116_50, s_116_51, s_116_52, s_116_53, s_116_56, s_116_57, s_116_60, s_116_63, s_116_64, s_116_65, s_116_66, s_116_67, s_116_70, s_116_73, s_116_75, ↓reduceIte, eq_self, rts_some, rts_none, nq_int, nq_ref, nq_null, nq_none, okr1_0, okr1_1, okr_b, List.length_nil, List.length_cons, Nat.zero_le, Nat.reduceAdd, Nat.reduceLeDiff, b2i_0, b2i_n0, b2i_1, b2i_n1, ite_not, if_true, if_false, not_true_eq_false, not_false_eq_true, true_and, and_true, false_and, and_false, c_isOther, b2i_t ht, show ((1 : Int32) = 0) = False from by decide]
    exact H F'
  · simp only [if_neg ht] at H
    simp only [s_116_0, s_116_0_n, s_116_1, s_116_4, s_116_4_n, s_116_5, s_116_5_n, s_116_6, s_116_9, s_116_12, s_116_13, s_116_16, s_116_19, s_116_20, s_116_21, s_116_22, s_116_24, s_116_26, s_116_29, s_116_29_n, s_116_30, s_116_33, s_116_34, s_116_35, s_116_36, s_116_37, s_116_40, s_116_40_n, s_116_41, s_116_44, s_116_44_n, s_116_45, s_116_45_n, s_116_46, s_116_49, s_116_50, s_116_51, s_116_52, s_116_53, s_116_56, s_116_57, s_116_60, s_116_63, s_116_64, s_116_65, s_116_66, s_116_67, s_116_70, s_116_73, s_116_75, ↓reduceIte, eq_self, rts_some, rts_none, nq_int, nq_ref, nq_null, nq_none, okr1_0, okr1_1, okr_b, List.length_nil, List.length_cons, Nat.zero_le, Nat.reduceAdd, Nat.reduceLeDiff, b2i_0, b2i_n0, b2i_1, b2i_n1, ite_not, if_true, if_false, not_true_eq_false, not_false_eq_true, true_and, and_true, false_and, and_false, c_isOther, b2i_f ht]
    exact c_decoy_l hg hm hk hi hb H 12 0 rfl rfl F'
end
