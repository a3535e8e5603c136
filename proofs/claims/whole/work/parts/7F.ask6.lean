/-! Urge, decoy, of, told, looked: the class. -/
def dcC (M : Nat → Int32) (cl : List Cls) (p s : Int32) : Int32 := if oneQ M p ∧ senQ s then (if bt (M (14 + 9 * p.toNatClampNeg + 2)) s.toNatClampNeg = 1 then dyF M cl p.toNatClampNeg (M (14 + 9 * p.toNatClampNeg + 2)) s else -5) else -1
def ofC (M : Nat → Int32) (cl : List Cls) (k : Nat) (p w : Int32) : Int32 := if oneQ M p then
    (if w = 5 then (if tipF M cl p.toNatClampNeg (M (14 + 9 * p.toNatClampNeg + 2)) = -1 then -5 else tipF M cl p.toNatClampNeg (M (14 + 9 * p.toNatClampNeg + 2)))
    else if w = 6 then dearF M cl p.toNatClampNeg
    else if w = 7 then hsF M cl p.toNatClampNeg k
    else if w = 8 then lhF M cl p.toNatClampNeg k
    else if 0 ≤ w ∧ w ≤ 4 then M (14 + 9 * p.toNatClampNeg + w.toNatClampNeg) else -1) else -1
def toC (M : Nat → Int32) (cl : List Cls) (k : Nat) (w : Int32) : Int32 :=
  if w = 0 then M 69 else if w = 1 then freeC 0 cl else if w = 2 then M 12 else if w = 3 then M 13 else if w = 4 then beF M (M 68).toNatClampNeg
  else if senQ (w - 10) then M (w - 10).toNatClampNeg else if senQ (w - 30) then comF M cl (w - 30).toNatClampNeg 61 0 else if senQ (w - 50) then wzF M cl (w - 50).toNatClampNeg k 21 else -1
theorem sub_r {w a b e : Int32} {n : Nat} (ha : a = nI n) (hb : b = nI (n + 12)) (hn : n < 1000) : senQ (w - a) = (¬ w < a ∧ ¬ b ≤ w) := by
  have ta : a.toInt = n := by rw [ha]; exact nI_toInt (by omega)
  have tb : b.toInt = n + 12 := by rw [hb, nI_toInt (by omega)]; rfl
  unfold senQ
  rw [Int32.le_iff_toInt_le, Int32.le_iff_toInt_le, Int32.lt_iff_toInt_lt, Int32.le_iff_toInt_le, Int32.toInt_sub, ta, tb]
  have h1 := Int32.le_toInt w
  have h2 := Int32.toInt_lt w
  rw [show (0 : Int32).toInt = 0 from rfl, show (11 : Int32).toInt = 11 from rfl]
  refine propext ?_
  unfold Int.bmod
  simp only
  constructor
  · intro h
    omega
  · intro h
    omega
section
variable {V : Nat → Option AE} {Ev : Nat → Value} {d : Nat} {Q : Option Value → HS → Prop}
variable {LG gr : Nat → Nat} {M F : Nat → Int32} {ex : Nat → Bool} {hd : Option Nat} {D G : Nat → Option AE} {z : Nat × Nat} {cl : List Cls} {kf : Int32} {nb : Nat}
variable {Mt Ft : Nat → Int32} {xt : Nat → Bool} {ht : Option Nat} {BIG c k1 k2 k3 : Nat}
theorem c_urge (hA : AK BIG LG gr z M F ex hd Mt Ft xt ht D cl kf nb c k1 k2 k3) {p s : Int32} (H : AQ BIG LG G z M ex hd ht D Q (.int (urR M cl p s))) : WP V (cdT Ev) mx (d + 5) 71 [.ref (LG 0), .int p, .int s] (GW LG gr 100 M F ex hd (WC LG 150 Mt Ft xt ht D) G z) Q := by
  have hg := AK_g hA
  have hc := (AK_I hA).1
  have z10 : ((1 : Int32) = 0) = False := by decide
  unfold urR at H
  rw [e_71]
  by_cases ho : oneQ M p
  · obtain ⟨i, hi, rfl⟩ := oneQ_k hc ho
    have hk := AK_W hA
    have h6 := WK_6 hk hi
    have he := WK_1 hk hi
    have hP := WK_P hk hi
    have pa := fun (Q : Option Value → HS → Prop) => c_pAt_y (V := V) (Ev := Ev) (d := d + 3) (Q := Q) (B := 100) (F := F) (hd := hd) (C := WC LG 150 Mt Ft xt ht D) (G := G) (z := z) hg (AK_W hA) hi
    by_cases hs : senQ s
    · rw [if_pos ⟨ho, hs⟩] at H
      obtain ⟨j, hj, rfl⟩ := senQ_k hs
      rw [nI_clamp (by omega), nI_clamp (by omega)] at H
      obtain ⟨F', e⟩ := c_urgeFor (V := V) (Ev := Ev) (d := d) (F := F) (G := G) (z := z) (sz := mn (M (14 + 9 * i + 2))) hg (fun F => PO_W h6 he) hP hj AG_self (AK_h1 hA (Mt' := Mt) (Ft' := Ft) (xt' := xt) (ht' := ht))
      simp only [s_71_0, s_71_0_n, s_71_1, s_71_4, s_71_5, s_71_8, s_71_8_n, s_71_9, s_71_9_n, s_71_10, s_71_10_n, s_71_13, s_71_14, s_71_17, s_71_20, s_71_23, s_71_24, s_71_24_n, s_71_25, s_71_28, s_71_28_n, s_71_29, s_71_30, s_71_30_n, s_71_31, s_71_34, s_71_37, s_71_40, ↓reduceIte, eq_self, rts_some, rts_none, nq_int, nq_ref, nq_null, nq_none, okr1_0, okr1_1, okr_b, List.length_nil, List.length_cons, Nat.zero_le, Nat.reduceAdd, Nat.reduceLeDiff, b2i_0, b2i_n0, b2i_1, b2i_n1, ite_not, if_true, if_false, not_true_eq_false, not_false_eq_true, true_and, and_true, false_and, and_false, dg_0 hg (AK_m2 hA), wcv hg, pa, c_isSen, b2i_t hs, z10, pg_3 hg h6 he, c_bitCount hP.2.2, e]
      exact AQ_now hA H F'
    · rw [if_neg (fun h => hs h.2)] at H
      simp only [s_71_0, s_71_0_n, s_71_1, s_71_4, s_71_5, s_71_8, s_71_8_n, s_71_9, s_71_9_n, s_71_10, s_71_10_n, s_71_13, s_71_14, s_71_17, s_71_20, s_71_23, s_71_24, s_71_24_n, s_71_25, s_71_28, s_71_28_n, s_71_29, s_71_30, s_71_30_n, s_71_31, s_71_34, s_71_37, s_71_40, ↓reduceIte, eq_self, rts_some, rts_none, nq_int, nq_ref, nq_null, nq_none, okr1_0, okr1_1, okr_b, List.length_nil, List.length_cons, Nat.zero_le, Nat.reduceAdd, Nat.reduceLeDiff, b2i_0, b2i_n0, b2i_1, b2i_n1, ite_not, if_true, if_false, not_true_eq_false, not_false_eq_true, true_and, and_true, false_and, and_false, dg_0 hg (AK_m2 hA), wcv hg, pa, c_isSen, b2i_f hs]
      exact AQ_now hA H F
  · rw [if_neg (fun h => ho h.1)] at H
    have pn := fun (Q : Option Value → HS → Prop) => c_pAt_n (V := V) (Ev := Ev) (d := d + 3) (Q := Q) (LG := LG) (gr := gr) (B := 100) (F := F) (ex := ex) (hd := hd) (C := WC LG 150 Mt Ft xt ht D) (G := G) (z := z) hg hc ho
    simp only [s_71_0, s_71_0_n, s_71_1, s_71_4, s_71_5, s_71_8, s_71_8_n, s_71_9, s_71_9_n, s_71_10, s_71_10_n, s_71_13, s_71_14, s_71_17, s_71_20, s_71_23, s_71_24, s_71_24_n, s_71_25, s_71_28, s_71_28_n, s_71_29, s_71_30, s_71_30_n, s_71_31, s_71_34, s_71_37, s_71_40, ↓reduceIte, eq_self, rts_some, rts_none, nq_int, nq_ref, nq_null, nq_none, okr1_0, okr1_1, okr_b, List.length_nil, List.length_cons, Nat.zero_le, Nat.reduceAdd, Nat.reduceLeDiff, b2i_0, b2i_n0, b2i_1, b2i_n1, ite_not, if_true, if_false, not_true_eq_false, not_false_eq_true, true_and, and_true, false_and, and_false, dg_0 hg (AK_m2 hA), wcv hg, pn]
    exact AQ_now hA H F
theorem c_decoy (hA : AK BIG LG gr z M F ex hd Mt Ft xt ht D cl kf nb c k1 k2 k3) {p s : Int32} (H : AQ BIG LG G z M ex hd ht D Q (.int (dcC M cl p s))) : WP V (cdT Ev) mx (d + 6) 81 [.ref (LG 0), .int p, .int s] (GW LG gr 100 M F ex hd (WC LG 150 Mt Ft xt ht D) G z) Q := by
  have hg := AK_g hA
  have hc := (AK_I hA).1
  have z10 : ((1 : Int32) = 0) = False := by decide
  unfold dcC at H
  rw [e_81]
  by_cases ho : oneQ M p
  · obtain ⟨i, hi, rfl⟩ := oneQ_k hc ho
    have hk := AK_W hA
    have h6 := WK_6 hk hi
    have he := WK_1 hk hi
    have hP := WK_P hk hi
    have pa := fun (Q : Option Value → HS → Prop) => c_pAt_y (V := V) (Ev := Ev) (d := d + 4) (Q := Q) (B := 100) (F := F) (hd := hd) (C := WC LG 150 Mt Ft xt ht D) (G := G) (z := z) hg (AK_W hA) hi
    by_cases hs : senQ s
    · rw [if_pos ⟨ho, hs⟩] at H
      obtain ⟨j, hj, rfl⟩ := senQ_k hs
      rw [nI_clamp (by omega), nI_clamp (by omega)] at H
      have h01 := bt_01 hP.2.2 (show j < 32 by omega)
      by_cases hbt : bt (M (14 + 9 * i + 2)) j = 1
      · have hb1 : (M (14 + 9 * i + 2) >>> (nI j &&& 31) &&& 1 = 0) = False := eq_false (fun h => by
          rw [show M (14 + 9 * i + 2) >>> (nI j &&& 31) &&& 1 = bt (M (14 + 9 * i + 2)) j from rfl, hbt] at h
          exact absurd h (by decide))
        rw [if_pos hbt] at H
        simp only [s_81_0, s_81_1, s_81_4, s_81_5, s_81_8, s_81_9, s_81_10, s_81_13, s_81_14, s_81_17, s_81_22, s_81_23, s_81_26, s_81_27, s_81_28, s_81_29, s_81_30, s_81_36, s_81_37, s_81_38, s_81_39, ↓reduceIte, eq_self, rts_some, rts_none, nq_int, nq_ref, nq_null, nq_none, okr1_0, okr1_1, okr_b, List.length_nil, List.length_cons, Nat.zero_le, Nat.reduceAdd, Nat.reduceLeDiff, b2i_0, b2i_n0, b2i_1, b2i_n1, ite_not, if_true, if_false, not_true_eq_false, not_false_eq_true, true_and, and_true, false_and, and_false, dg_0 hg (AK_m2 hA), wcv hg, pa, c_isSen, b2i_t hs, z10, pg_3 hg h6 he, hb1, dcv hg (AK_m2 hA)]
        refine c_decoyOf hg (AK_m1 hA) hk hi (AK_h1 hA) (fun F' => ?_)
        simp only [s_81_42, ↓reduceIte, eq_self, rts_some, rts_none, nq_int, nq_ref, nq_null, nq_none, okr1_0, okr1_1, okr_b, List.length_nil, List.length_cons, Nat.zero_le, Nat.reduceAdd, Nat.reduceLeDiff, b2i_0, b2i_n0, b2i_1, b2i_n1, ite_not, if_true, if_false, not_true_eq_false, not_false_eq_true, true_and, and_true, false_and, and_false]
        exact AQ_now hA H F'
      · have hb0 : bt (M (14 + 9 * i + 2)) j = 0 := h01.resolve_right hbt
        have hb1 : (M (14 + 9 * i + 2) >>> (nI j &&& 31) &&& 1 = 0) = True := eq_true hb0
        rw [if_neg hbt] at H
        simp only [s_81_0, s_81_1, s_81_4, s_81_5, s_81_8, s_81_9, s_81_10, s_81_13, s_81_14, s_81_17, s_81_22, s_81_23, s_81_26, s_81_27, s_81_28, s_81_29, s_81_30, s_81_33, s_81_35, ↓reduceIte, eq_self, rts_some, rts_none, nq_int, nq_ref, nq_null, nq_none, okr1_0, okr1_1, okr_b, List.length_nil, List.length_cons, Nat.zero_le, Nat.reduceAdd, Nat.reduceLeDiff, b2i_0, b2i_n0, b2i_1, b2i_n1, ite_not, if_true, if_false, not_true_eq_false, not_false_eq_true, true_and, and_true, false_and, and_false, dg_0 hg (AK_m2 hA), wcv hg, pa, c_isSen, b2i_t hs, z10, pg_3 hg h6 he, hb1]
        exact AQ_now hA H F
    · rw [if_neg (fun h => hs h.2)] at H
      simp only [s_81_0, s_81_1, s_81_4, s_81_5, s_81_8, s_81_9, s_81_10, s_81_13, s_81_14, s_81_17, s_81_20, s_81_21, ↓reduceIte, eq_self, rts_some, rts_none, nq_int, nq_ref, nq_null, nq_none, okr1_0, okr1_1, okr_b, List.length_nil, List.length_cons, Nat.zero_le, Nat.reduceAdd, Nat.reduceLeDiff, b2i_0, b2i_n0, b2i_1, b2i_n1, ite_not, if_true, if_false, not_true_eq_false, not_false_eq_true, true_and, and_true, false_and, and_false, dg_0 hg (AK_m2 hA), wcv hg, pa, c_isSen, b2i_f hs]
      exact AQ_now hA H F
  · rw [if_neg (fun h => ho h.1)] at H
    have pn := fun (Q : Option Value → HS → Prop) => c_pAt_n (V := V) (Ev := Ev) (d := d + 4) (Q := Q) (LG := LG) (gr := gr) (B := 100) (F := F) (ex := ex) (hd := hd) (C := WC LG 150 Mt Ft xt ht D) (G := G) (z := z) hg hc ho
    simp only [s_81_0, s_81_1, s_81_4, s_81_5, s_81_8_n, s_81_9_n, s_81_10_n, s_81_20, s_81_21, ↓reduceIte, eq_self, rts_some, rts_none, nq_int, nq_ref, nq_null, nq_none, okr1_0, okr1_1, okr_b, List.length_nil, List.length_cons, Nat.zero_le, Nat.reduceAdd, Nat.reduceLeDiff, b2i_0, b2i_n0, b2i_1, b2i_n1, ite_not, if_true, if_false, not_true_eq_false, not_false_eq_true, true_and, and_true, false_and, and_false, dg_0 hg (AK_m2 hA), wcv hg, pn]
    exact AQ_now hA H F
theorem c_of (hA : AK BIG LG gr z M F ex hd Mt Ft xt ht D cl kf nb c k1 k2 k3) {p w : Int32} (H : AQ BIG LG G z M ex hd ht D Q (.int (ofC M cl k1 p w))) : WP V (cdT Ev) mx (d + 9) 70 [.ref (LG 0), .int p, .int w] (GW LG gr 100 M F ex hd (WC LG 150 Mt Ft xt ht D) G z) Q := by
  have hg := AK_g hA
  have hc := (AK_I hA).1
  have z10 : ((1 : Int32) = 0) = False := by decide
  unfold ofC at H
  rw [e_70]
  by_cases ho : oneQ M p
  · rw [if_pos ho] at H
    obtain ⟨i, hi, rfl⟩ := oneQ_k hc ho
    have hk := AK_W hA
    have h6 := WK_6 hk hi
    have he := WK_1 hk hi
    have hP := WK_P hk hi
    rw [nI_clamp (by omega)] at H
    have pa := fun (Q : Option Value → HS → Prop) => c_pAt_y (V := V) (Ev := Ev) (d := d + 7) (Q := Q) (B := 100) (F := F) (hd := hd) (C := WC LG 150 Mt Ft xt ht D) (G := G) (z := z) hg (AK_W hA) hi
    simp only [s_70_0, s_70_1, s_70_4, s_70_5, s_70_8, s_70_9, s_70_10, s_70_15, s_70_16, ↓reduceIte, eq_self, rts_some, rts_none, nq_int, nq_ref, nq_null, nq_none, okr1_0, okr1_1, okr_b, List.length_nil, List.length_cons, Nat.zero_le, Nat.reduceAdd, Nat.reduceLeDiff, b2i_0, b2i_n0, b2i_1, b2i_n1, ite_not, if_true, if_false, not_true_eq_false, not_false_eq_true, true_and, and_true, false_and, and_false, dg_0 hg (AK_m2 hA), wcv hg, pa, swp]
    by_cases w0 : w = 0
    · subst w0
      rw [if_pos rfl]
      simp only [s_70_68, s_70_69, s_70_72, ↓reduceIte, eq_self, rts_some, rts_none, nq_int, nq_ref, nq_null, nq_none, okr1_0, okr1_1, okr_b, List.length_nil, List.length_cons, Nat.zero_le, Nat.reduceAdd, Nat.reduceLeDiff, b2i_0, b2i_n0, b2i_1, b2i_n1, ite_not, if_true, if_false, not_true_eq_false, not_false_eq_true, true_and, and_true, false_and, and_false, pg_0 hg h6 he]
      exact AQ_now hA H F
    rw [if_neg w0]
    by_cases w1 : w = 1
    · subst w1
      rw [if_pos rfl]
      simp only [s_70_73, s_70_74, s_70_77, ↓reduceIte, eq_self, rts_some, rts_none, nq_int, nq_ref, nq_null, nq_none, okr1_0, okr1_1, okr_b, List.length_nil, List.length_cons, Nat.zero_le, Nat.reduceAdd, Nat.reduceLeDiff, b2i_0, b2i_n0, b2i_1, b2i_n1, ite_not, if_true, if_false, not_true_eq_false, not_false_eq_true, true_and, and_true, false_and, and_false, pg_2 hg h6 he]
      exact AQ_now hA H F
    rw [if_neg w1]
    by_cases w2 : w = 2
    · subst w2
      rw [if_pos rfl]
      simp only [s_70_78, s_70_79, s_70_82, ↓reduceIte, eq_self, rts_some, rts_none, nq_int, nq_ref, nq_null, nq_none, okr1_0, okr1_1, okr_b, List.length_nil, List.length_cons, Nat.zero_le, Nat.reduceAdd, Nat.reduceLeDiff, b2i_0, b2i_n0, b2i_1, b2i_n1, ite_not, if_true, if_false, not_true_eq_false, not_false_eq_true, true_and, and_true, false_and, and_false, pg_3 hg h6 he]
      exact AQ_now hA H F
    rw [if_neg w2]
    by_cases w3 : w = 3
    · subst w3
      rw [if_pos rfl]
      have H' := AQ_now hA H F
      have e3 : (3 : Int32).toNatClampNeg = 3 := by decide
      rw [if_neg (by decide), if_neg (by decide), if_neg (by decide), if_neg (by decide), if_pos (by decide), e3] at H'
      rcases hP.2.1 with hb0 | hb1
      · rw [hb0] at H'
        simp only [s_70_83, s_70_84, s_70_87, s_70_90, s_70_91, s_70_94, s_70_95, ↓reduceIte, eq_self, rts_some, rts_none, nq_int, nq_ref, nq_null, nq_none, okr1_0, okr1_1, okr_b, List.length_nil, List.length_cons, Nat.zero_le, Nat.reduceAdd, Nat.reduceLeDiff, b2i_0, b2i_n0, b2i_1, b2i_n1, ite_not, if_true, if_false, not_true_eq_false, not_false_eq_true, true_and, and_true, false_and, and_false, pg_4 hg h6 he, hb0]
        exact H'
      · rw [hb1] at H'
        simp only [s_70_83, s_70_84, s_70_87, s_70_90, s_70_91, s_70_94, s_70_95, ↓reduceIte, eq_self, rts_some, rts_none, nq_int, nq_ref, nq_null, nq_none, okr1_0, okr1_1, okr_b, List.length_nil, List.length_cons, Nat.zero_le, Nat.reduceAdd, Nat.reduceLeDiff, b2i_0, b2i_n0, b2i_1, b2i_n1, ite_not, if_true, if_false, not_true_eq_false, not_false_eq_true, true_and, and_true, false_and, and_false, pg_4 hg h6 he, hb1, z10]
        exact H'
    rw [if_neg w3]
    by_cases w4 : w = 4
    · subst w4
      rw [if_pos rfl]
      simp only [s_70_96, s_70_97, s_70_100, ↓reduceIte, eq_self, rts_some, rts_none, nq_int, nq_ref, nq_null, nq_none, okr1_0, okr1_1, okr_b, List.length_nil, List.length_cons, Nat.zero_le, Nat.reduceAdd, Nat.reduceLeDiff, b2i_0, b2i_n0, b2i_1, b2i_n1, ite_not, if_true, if_false, not_true_eq_false, not_false_eq_true, true_and, and_true, false_and, and_false, pg_5 hg h6 he]
      exact AQ_now hA H F
    rw [if_neg w4]
    by_cases w5 : w = 5
    · subst w5
      rw [if_pos rfl] at H ⊢
      simp only [s_70_101, s_70_102, s_70_105, s_70_106, s_70_107, s_70_110, ↓reduceIte, eq_self, rts_some, rts_none, nq_int, nq_ref, nq_null, nq_none, okr1_0, okr1_1, okr_b, List.length_nil, List.length_cons, Nat.zero_le, Nat.reduceAdd, Nat.reduceLeDiff, b2i_0, b2i_n0, b2i_1, b2i_n1, ite_not, if_true, if_false, not_true_eq_false, not_false_eq_true, true_and, and_true, false_and, and_false, dg_0 hg (AK_m2 hA), pg_3 hg h6 he, wcv hg]
      refine c_tipOf (d := d + 4) hg hP.2.2 (fun F => PO_W h6 he) hP AG_self (AK_h1 hA) (fun F' => ?_)
      have H' := AQ_now hA H F'
      simp only [s_70_113, s_70_116, ↓reduceIte, eq_self, rts_some, rts_none, nq_int, nq_ref, nq_null, nq_none, okr1_0, okr1_1, okr_b, List.length_nil, List.length_cons, Nat.zero_le, Nat.reduceAdd, Nat.reduceLeDiff, b2i_0, b2i_n0, b2i_1, b2i_n1, ite_not, if_true, if_false, not_true_eq_false, not_false_eq_true, true_and, and_true, false_and, and_false, c_orNot]
      rcases tipF_k M cl i (M (14 + 9 * i + 2)) with hT | ⟨t, ht12, hT, -⟩
      · rw [hT, if_pos rfl] at H'
        rw [hT, if_neg (by decide)]
        exact H'
      · rw [hT, if_neg (nI_neg (by omega) (by decide))] at H'
        rw [hT, if_pos (nI_pos' (by omega))]
        exact H'
    rw [if_neg w5] at H ⊢
    by_cases w6 : w = 6
    · subst w6
      rw [if_pos rfl] at H ⊢
      simp only [s_70_117, s_70_118, s_70_119, ↓reduceIte, eq_self, rts_some, rts_none, nq_int, nq_ref, nq_null, nq_none, okr1_0, okr1_1, okr_b, List.length_nil, List.length_cons, Nat.zero_le, Nat.reduceAdd, Nat.reduceLeDiff, b2i_0, b2i_n0, b2i_1, b2i_n1, ite_not, if_true, if_false, not_true_eq_false, not_false_eq_true, true_and, and_true, false_and, and_false, dcv hg (AK_m2 hA)]
      refine c_dearOf (d := d + 1) hA hi ?_
      intro LG' gr' G' z' F' Mt' Ft' xt' ht' hk' hb'
      simp only [s_70_122, ↓reduceIte, eq_self, rts_some, rts_none, nq_int, nq_ref, nq_null, nq_none, okr1_0, okr1_1, okr_b, List.length_nil, List.length_cons, Nat.zero_le, Nat.reduceAdd, Nat.reduceLeDiff, b2i_0, b2i_n0, b2i_1, b2i_n1, ite_not, if_true, if_false, not_true_eq_false, not_false_eq_true, true_and, and_true, false_and, and_false]
      exact H LG' gr' G' z' F' Mt' Ft' xt' ht' hk' hb'
    rw [if_neg w6] at H ⊢
    by_cases w7 : w = 7
    · subst w7
      rw [if_pos rfl] at H ⊢
      simp only [s_70_123, s_70_124, s_70_125, ↓reduceIte, eq_self, rts_some, rts_none, nq_int, nq_ref, nq_null, nq_none, okr1_0, okr1_1, okr_b, List.length_nil, List.length_cons, Nat.zero_le, Nat.reduceAdd, Nat.reduceLeDiff, b2i_0, b2i_n0, b2i_1, b2i_n1, ite_not, if_true, if_false, not_true_eq_false, not_false_eq_true, true_and, and_true, false_and, and_false, dcv hg (AK_m2 hA)]
      refine c_hadSets (d := d + 1) hg (AK_m1 hA) hk (WI_SE (AK_I hA)) hi (AK_h1 hA) (fun F' => ?_)
      simp only [s_70_128, ↓reduceIte, eq_self, rts_some, rts_none, nq_int, nq_ref, nq_null, nq_none, okr1_0, okr1_1, okr_b, List.length_nil, List.length_cons, Nat.zero_le, Nat.reduceAdd, Nat.reduceLeDiff, b2i_0, b2i_n0, b2i_1, b2i_n1, ite_not, if_true, if_false, not_true_eq_false, not_false_eq_true, true_and, and_true, false_and, and_false]
      exact AQ_now hA H F'
    rw [if_neg w7] at H ⊢
    by_cases w8 : w = 8
    · subst w8
      rw [if_pos rfl] at H ⊢
      simp only [s_70_129, s_70_130, s_70_131, ↓reduceIte, eq_self, rts_some, rts_none, nq_int, nq_ref, nq_null, nq_none, okr1_0, okr1_1, okr_b, List.length_nil, List.length_cons, Nat.zero_le, Nat.reduceAdd, Nat.reduceLeDiff, b2i_0, b2i_n0, b2i_1, b2i_n1, ite_not, if_true, if_false, not_true_eq_false, not_false_eq_true, true_and, and_true, false_and, and_false, dcv hg (AK_m2 hA)]
      refine c_hadSets (d := d + 1) hg (AK_m1 hA) hk (WI_SE (AK_I hA)) hi (AK_h1 hA) (fun F' => ?_)
      have H' := AQ_now hA H F'
      unfold lhF at H'
      by_cases h0 : hsF M cl i k1 = 0
      · rw [if_pos h0] at H'
        simp only [s_70_134, s_70_137, s_70_139, s_70_147, ↓reduceIte, eq_self, rts_some, rts_none, nq_int, nq_ref, nq_null, nq_none, okr1_0, okr1_1, okr_b, List.length_nil, List.length_cons, Nat.zero_le, Nat.reduceAdd, Nat.reduceLeDiff, b2i_0, b2i_n0, b2i_1, b2i_n1, ite_not, if_true, if_false, not_true_eq_false, not_false_eq_true, true_and, and_true, false_and, and_false, h0]
        exact H'
      · rw [if_neg h0] at H'
        simp only [s_70_134, s_70_142, s_70_143, s_70_144, ↓reduceIte, eq_self, rts_some, rts_none, nq_int, nq_ref, nq_null, nq_none, okr1_0, okr1_1, okr_b, List.length_nil, List.length_cons, Nat.zero_le, Nat.reduceAdd, Nat.reduceLeDiff, b2i_0, b2i_n0, b2i_1, b2i_n1, ite_not, if_true, if_false, not_true_eq_false, not_false_eq_true, true_and, and_true, false_and, and_false, h0, dcv hg (AK_m2 hA)]
        refine c_leastHad hg (AK_m1 hA) hk (WI_SE (AK_I hA)) hi ?_
        simp only [s_70_147, ↓reduceIte, eq_self, rts_some, rts_none, nq_int, nq_ref, nq_null, nq_none, okr1_0, okr1_1, okr_b, List.length_nil, List.length_cons, Nat.zero_le, Nat.reduceAdd, Nat.reduceLeDiff, b2i_0, b2i_n0, b2i_1, b2i_n1, ite_not, if_true, if_false, not_true_eq_false, not_false_eq_true, true_and, and_true, false_and, and_false]
        exact H'
    rw [if_neg w8] at H ⊢
    have hn : ¬ (0 ≤ w ∧ w ≤ 4) := by
      intro h
      obtain ⟨j, hj, rfl⟩ : ∃ j, j ≤ 4 ∧ w = nI j := nI_of2 (M := 4) (n := 4) (by decide) (Int32.not_lt.mpr h.1) h.2
      rcases (by omega : j = 0 ∨ j = 1 ∨ j = 2 ∨ j = 3 ∨ j = 4) with e | e | e | e | e
      · subst e; exact w0 rfl
      · subst e; exact w1 rfl
      · subst e; exact w2 rfl
      · subst e; exact w3 rfl
      · subst e; exact w4 rfl
    rw [if_neg hn] at H
    simp only [s_70_148, s_70_149, ↓reduceIte, eq_self, rts_some, rts_none, nq_int, nq_ref, nq_null, nq_none, okr1_0, okr1_1, okr_b, List.length_nil, List.length_cons, Nat.zero_le, Nat.reduceAdd, Nat.reduceLeDiff, b2i_0, b2i_n0, b2i_1, b2i_n1, ite_not, if_true, if_false, not_true_eq_false, not_false_eq_true, true_and, and_true, false_and, and_false]
    exact AQ_now hA H F
  · rw [if_neg ho] at H
    have pn := fun (Q : Option Value → HS → Prop) => c_pAt_n (V := V) (Ev := Ev) (d := d + 7) (Q := Q) (LG := LG) (gr := gr) (B := 100) (F := F) (ex := ex) (hd := hd) (C := WC LG 150 Mt Ft xt ht D) (G := G) (z := z) hg hc ho
    simp only [s_70_0, s_70_1, s_70_4, s_70_5, s_70_8_n, s_70_9_n, s_70_10_n, s_70_13, s_70_14, ↓reduceIte, eq_self, rts_some, rts_none, nq_int, nq_ref, nq_null, nq_none, okr1_0, okr1_1, okr_b, List.length_nil, List.length_cons, Nat.zero_le, Nat.reduceAdd, Nat.reduceLeDiff, b2i_0, b2i_n0, b2i_1, b2i_n1, ite_not, if_true, if_false, not_true_eq_false, not_false_eq_true, true_and, and_true, false_and, and_false, dg_0 hg (AK_m2 hA), wcv hg, pn]
    exact AQ_now hA H F
theorem c_told (hA : AK BIG LG gr z M F ex hd Mt Ft xt ht D cl kf nb c k1 k2 k3) {w : Int32} (H : AQ BIG LG G z M ex hd ht D Q (.int (toC M cl k1 w))) : WP V (cdT Ev) mx (d + 8) 78 [.ref (LG 0), .int w] (GW LG gr 100 M F ex hd (WC LG 150 Mt Ft xt ht D) G z) Q := by
  have hg := AK_g hA
  have hc := (AK_I hA).1
  have hk := AK_W hA
  unfold toC at H
  rw [e_78]
  simp only [s_78_0, s_78_1, ↓reduceIte, eq_self, rts_some, rts_none, nq_int, nq_ref, nq_null, nq_none, okr1_0, okr1_1, okr_b, List.length_nil, List.length_cons, Nat.zero_le, Nat.reduceAdd, Nat.reduceLeDiff, b2i_0, b2i_n0, b2i_1, b2i_n1, ite_not, if_true, if_false, not_true_eq_false, not_false_eq_true, true_and, and_true, false_and, and_false, swp]
  by_cases w0 : w = 0
  · subst w0
    rw [if_pos rfl] at H ⊢
    simp only [s_78_36, s_78_37, s_78_40, s_78_43, ↓reduceIte, eq_self, rts_some, rts_none, nq_int, nq_ref, nq_null, nq_none, okr1_0, okr1_1, okr_b, List.length_nil, List.length_cons, Nat.zero_le, Nat.reduceAdd, Nat.reduceLeDiff, b2i_0, b2i_n0, b2i_1, b2i_n1, ite_not, if_true, if_false, not_true_eq_false, not_false_eq_true, true_and, and_true, false_and, and_false, dg_0 hg (AK_m2 hA), wg_5 hg]
    exact AQ_now hA H F
  rw [if_neg w0] at H ⊢
  by_cases w1 : w = 1
  · subst w1
    rw [if_pos rfl] at H ⊢
    simp only [s_78_44, s_78_45, s_78_48, s_78_51, ↓reduceIte, eq_self, rts_some, rts_none, nq_int, nq_ref, nq_null, nq_none, okr1_0, okr1_1, okr_b, List.length_nil, List.length_cons, Nat.zero_le, Nat.reduceAdd, Nat.reduceLeDiff, b2i_0, b2i_n0, b2i_1, b2i_n1, ite_not, if_true, if_false, not_true_eq_false, not_false_eq_true, true_and, and_true, false_and, and_false, dg_0 hg (AK_m2 hA), wcv hg, c_freeNow hg (AK_h1 hA)]
    exact AQ_now hA H F
  rw [if_neg w1] at H ⊢
  by_cases w2 : w = 2
  · subst w2
    rw [if_pos rfl] at H ⊢
    simp only [s_78_52, s_78_53, s_78_56, s_78_59, ↓reduceIte, eq_self, rts_some, rts_none, nq_int, nq_ref, nq_null, nq_none, okr1_0, okr1_1, okr_b, List.length_nil, List.length_cons, Nat.zero_le, Nat.reduceAdd, Nat.reduceLeDiff, b2i_0, b2i_n0, b2i_1, b2i_n1, ite_not, if_true, if_false, not_true_eq_false, not_false_eq_true, true_and, and_true, false_and, and_false, dg_0 hg (AK_m2 hA), wg_3 hg]
    exact AQ_now hA H F
  rw [if_neg w2] at H ⊢
  by_cases w3 : w = 3
  · subst w3
    rw [if_pos rfl] at H ⊢
    simp only [s_78_60, s_78_61, s_78_64, s_78_67, ↓reduceIte, eq_self, rts_some, rts_none, nq_int, nq_ref, nq_null, nq_none, okr1_0, okr1_1, okr_b, List.length_nil, List.length_cons, Nat.zero_le, Nat.reduceAdd, Nat.reduceLeDiff, b2i_0, b2i_n0, b2i_1, b2i_n1, ite_not, if_true, if_false, not_true_eq_false, not_false_eq_true, true_and, and_true, false_and, and_false, dg_0 hg (AK_m2 hA), wg_4 hg]
    exact AQ_now hA H F
  rw [if_neg w3] at H ⊢
  by_cases w4 : w = 4
  · subst w4
    rw [if_pos rfl, hc.1, nI_clamp (by have := hc.2; omega)] at H
    rw [if_pos rfl]
    simp only [s_78_68, s_78_69, s_78_72, s_78_75, ↓reduceIte, eq_self, rts_some, rts_none, nq_int, nq_ref, nq_null, nq_none, okr1_0, okr1_1, okr_b, List.length_nil, List.length_cons, Nat.zero_le, Nat.reduceAdd, Nat.reduceLeDiff, b2i_0, b2i_n0, b2i_1, b2i_n1, ite_not, if_true, if_false, not_true_eq_false, not_false_eq_true, true_and, and_true, false_and, and_false, dg_0 hg (AK_m2 hA), wcv hg, c_beyond hg hk]
    exact AQ_now hA H F
  rw [if_neg w4] at H ⊢
  have q1 : senQ (w - 10) = (¬ w < 10 ∧ ¬ 22 ≤ w) := sub_r (e := 0) (n := 10) rfl rfl (by decide)
  have q3 : senQ (w - 30) = (¬ w < 30 ∧ ¬ 42 ≤ w) := sub_r (e := 0) (n := 30) rfl rfl (by decide)
  have q5 : senQ (w - 50) = (¬ w < 50 ∧ ¬ 62 ≤ w) := sub_r (e := 0) (n := 50) rfl rfl (by decide)
  have st1 : ¬ senQ (w - 10) → wp V (cdT Ev) mx (d + 7) 78 76 [some (.ref (LG 0)), some (.int w)] [] (GW LG gr 100 M F ex hd (WC LG 150 Mt Ft xt ht D) G z) Q = wp V (cdT Ev) mx (d + 7) 78 101 [some (.ref (LG 0)), some (.int w)] [] (GW LG gr 100 M F ex hd (WC LG 150 Mt Ft xt ht D) G z) Q := by
    intro h
    rw [q1] at h
    by_cases a1 : w < 10
    · simp only [s_78_76, s_78_77, s_78_79, ↓reduceIte, eq_self, rts_some, rts_none, nq_int, nq_ref, nq_null, nq_none, okr1_0, okr1_1, okr_b, List.length_nil, List.length_cons, Nat.zero_le, Nat.reduceAdd, Nat.reduceLeDiff, b2i_0, b2i_n0, b2i_1, b2i_n1, ite_not, if_true, if_false, not_true_eq_false, not_false_eq_true, true_and, and_true, false_and, and_false, a1]
    · have a2 : (22 : Int32) ≤ w := Classical.byContradiction (fun a2 => h ⟨a1, a2⟩)
      simp only [s_78_76, s_78_77, s_78_79, s_78_82, s_78_83, s_78_85, ↓reduceIte, eq_self, rts_some, rts_none, nq_int, nq_ref, nq_null, nq_none, okr1_0, okr1_1, okr_b, List.length_nil, List.length_cons, Nat.zero_le, Nat.reduceAdd, Nat.reduceLeDiff, b2i_0, b2i_n0, b2i_1, b2i_n1, ite_not, if_true, if_false, not_true_eq_false, not_false_eq_true, true_and, and_true, false_and, and_false, a1, a2]
  have st3 : ¬ senQ (w - 30) → wp V (cdT Ev) mx (d + 7) 78 101 [some (.ref (LG 0)), some (.int w)] [] (GW LG gr 100 M F ex hd (WC LG 150 Mt Ft xt ht D) G z) Q = wp V (cdT Ev) mx (d + 7) 78 122 [some (.ref (LG 0)), some (.int w)] [] (GW LG gr 100 M F ex hd (WC LG 150 Mt Ft xt ht D) G z) Q := by
    intro h
    rw [q3] at h
    by_cases a1 : w < 30
    · simp only [s_78_101, s_78_102, s_78_104, ↓reduceIte, eq_self, rts_some, rts_none, nq_int, nq_ref, nq_null, nq_none, okr1_0, okr1_1, okr_b, List.length_nil, List.length_cons, Nat.zero_le, Nat.reduceAdd, Nat.reduceLeDiff, b2i_0, b2i_n0, b2i_1, b2i_n1, ite_not, if_true, if_false, not_true_eq_false, not_false_eq_true, true_and, and_true, false_and, and_false, a1]
    · have a2 : (42 : Int32) ≤ w := Classical.byContradiction (fun a2 => h ⟨a1, a2⟩)
      simp only [s_78_101, s_78_102, s_78_104, s_78_107, s_78_108, s_78_110, ↓reduceIte, eq_self, rts_some, rts_none, nq_int, nq_ref, nq_null, nq_none, okr1_0, okr1_1, okr_b, List.length_nil, List.length_cons, Nat.zero_le, Nat.reduceAdd, Nat.reduceLeDiff, b2i_0, b2i_n0, b2i_1, b2i_n1, ite_not, if_true, if_false, not_true_eq_false, not_false_eq_true, true_and, and_true, false_and, and_false, a1, a2]
  have st5 : ¬ senQ (w - 50) → wp V (cdT Ev) mx (d + 7) 78 122 [some (.ref (LG 0)), some (.int w)] [] (GW LG gr 100 M F ex hd (WC LG 150 Mt Ft xt ht D) G z) Q = wp V (cdT Ev) mx (d + 7) 78 143 [some (.ref (LG 0)), some (.int w)] [] (GW LG gr 100 M F ex hd (WC LG 150 Mt Ft xt ht D) G z) Q := by
    intro h
    rw [q5] at h
    by_cases a1 : w < 50
    · simp only [s_78_122, s_78_123, s_78_125, ↓reduceIte, eq_self, rts_some, rts_none, nq_int, nq_ref, nq_null, nq_none, okr1_0, okr1_1, okr_b, List.length_nil, List.length_cons, Nat.zero_le, Nat.reduceAdd, Nat.reduceLeDiff, b2i_0, b2i_n0, b2i_1, b2i_n1, ite_not, if_true, if_false, not_true_eq_false, not_false_eq_true, true_and, and_true, false_and, and_false, a1]
    · have a2 : (62 : Int32) ≤ w := Classical.byContradiction (fun a2 => h ⟨a1, a2⟩)
      simp only [s_78_122, s_78_123, s_78_125, s_78_128, s_78_129, s_78_131, ↓reduceIte, eq_self, rts_some, rts_none, nq_int, nq_ref, nq_null, nq_none, okr1_0, okr1_1, okr_b, List.length_nil, List.length_cons, Nat.zero_le, Nat.reduceAdd, Nat.reduceLeDiff, b2i_0, b2i_n0, b2i_1, b2i_n1, ite_not, if_true, if_false, not_true_eq_false, not_false_eq_true, true_and, and_true, false_and, and_false, a1, a2]
  by_cases h1 : senQ (w - 10)
  · rw [if_pos h1] at H
    have h1' := h1
    rw [q1] at h1'
    obtain ⟨j, hj, ej⟩ := senQ_k h1
    rw [ej, nI_clamp (by omega)] at H
    simp only [s_78_76, s_78_77, s_78_79, s_78_82, s_78_83, s_78_85, s_78_88, s_78_89, s_78_92, s_78_95, s_78_96, s_78_98, s_78_99, s_78_100, ↓reduceIte, eq_self, rts_some, rts_none, nq_int, nq_ref, nq_null, nq_none, okr1_0, okr1_1, okr_b, List.length_nil, List.length_cons, Nat.zero_le, Nat.reduceAdd, Nat.reduceLeDiff, b2i_0, b2i_n0, b2i_1, b2i_n1, ite_not, if_true, if_false, not_true_eq_false, not_false_eq_true, true_and, and_true, false_and, and_false, h1'.1, h1'.2, dg_0 hg (AK_m2 hA), wg_0 hg, wa_1 hg, ej, ix_nIT hj (show 12 < 2 ^ 31 by decide), nI_clamp (show j < 2 ^ 31 by omega)]
    exact AQ_now hA H F
  · rw [if_neg h1] at H
    rw [st1 h1]
    by_cases h3 : senQ (w - 30)
    · rw [if_pos h3] at H
      have h3' := h3
      rw [q3] at h3'
      obtain ⟨j, hj, ej⟩ := senQ_k h3
      rw [ej, nI_clamp (by omega)] at H
      simp only [s_78_101, s_78_102, s_78_104, s_78_107, s_78_108, s_78_110, s_78_113, s_78_114, s_78_115, s_78_117, s_78_118, ↓reduceIte, eq_self, rts_some, rts_none, nq_int, nq_ref, nq_null, nq_none, okr1_0, okr1_1, okr_b, List.length_nil, List.length_cons, Nat.zero_le, Nat.reduceAdd, Nat.reduceLeDiff, b2i_0, b2i_n0, b2i_1, b2i_n1, ite_not, if_true, if_false, not_true_eq_false, not_false_eq_true, true_and, and_true, false_and, and_false, h3'.1, h3'.2, dcv hg (AK_m2 hA), ej]
      refine c_comesOf (d := d) hA hj ?_
      intro LG' gr' G' z' F' Mt' Ft' xt' ht' hk' hb'
      simp only [s_78_121, ↓reduceIte, eq_self, rts_some, rts_none, nq_int, nq_ref, nq_null, nq_none, okr1_0, okr1_1, okr_b, List.length_nil, List.length_cons, Nat.zero_le, Nat.reduceAdd, Nat.reduceLeDiff, b2i_0, b2i_n0, b2i_1, b2i_n1, ite_not, if_true, if_false, not_true_eq_false, not_false_eq_true, true_and, and_true, false_and, and_false]
      exact H LG' gr' G' z' F' Mt' Ft' xt' ht' hk' hb'
    · rw [if_neg h3] at H
      rw [st3 h3]
      by_cases h5 : senQ (w - 50)
      · rw [if_pos h5] at H
        have h5' := h5
        rw [q5] at h5'
        obtain ⟨j, hj, ej⟩ := senQ_k h5
        rw [ej, nI_clamp (by omega)] at H
        simp only [s_78_122, s_78_123, s_78_125, s_78_128, s_78_129, s_78_131, s_78_134, s_78_135, s_78_136, s_78_138, s_78_139, ↓reduceIte, eq_self, rts_some, rts_none, nq_int, nq_ref, nq_null, nq_none, okr1_0, okr1_1, okr_b, List.length_nil, List.length_cons, Nat.zero_le, Nat.reduceAdd, Nat.reduceLeDiff, b2i_0, b2i_n0, b2i_1, b2i_n1, ite_not, if_true, if_false, not_true_eq_false, not_false_eq_true, true_and, and_true, false_and, and_false, h5'.1, h5'.2, dcv hg (AK_m2 hA), ej]
        refine c_worthsOf (d := d) hA hj ?_
        intro LG' gr' G' z' F' Mt' Ft' xt' ht' hk' hb'
        simp only [s_78_142, ↓reduceIte, eq_self, rts_some, rts_none, nq_int, nq_ref, nq_null, nq_none, okr1_0, okr1_1, okr_b, List.length_nil, List.length_cons, Nat.zero_le, Nat.reduceAdd, Nat.reduceLeDiff, b2i_0, b2i_n0, b2i_1, b2i_n1, ite_not, if_true, if_false, not_true_eq_false, not_false_eq_true, true_and, and_true, false_and, and_false]
        exact H LG' gr' G' z' F' Mt' Ft' xt' ht' hk' hb'
      · rw [if_neg h5] at H
        rw [st5 h5]
        simp only [s_78_143, s_78_144, ↓reduceIte, eq_self, rts_some, rts_none, nq_int, nq_ref, nq_null, nq_none, okr1_0, okr1_1, okr_b, List.length_nil, List.length_cons, Nat.zero_le, Nat.reduceAdd, Nat.reduceLeDiff, b2i_0, b2i_n0, b2i_1, b2i_n1, ite_not, if_true, if_false, not_true_eq_false, not_false_eq_true, true_and, and_true, false_and, and_false]
        exact AQ_now hA H F
theorem c_looked_l (hg : ∀ r, gr (LG r) = r) {C : Nat → Option AE} (hm : DM LG C kf nb) (hB : BKok M k3) : ∀ m j, j + m = k3 → wp V (cdT Ev) mx d 89 2 [some (.ref (LG 0)), some (.int (nI j))] [] (GW LG gr 100 M F ex hd C G z) Q = Q (some (.int (loF M m j))) (GW LG gr 100 M F ex hd C G z) := by
  obtain ⟨b1, b2, b3⟩ := hB
  have hm1 := DM_W (M := M) (F := F) (ex := ex) (hd := hd) (B := 100) (by decide) hm
  intro m
  induction m with
  | zero =>
    intro j hj
    have : j = k3 := by omega
    subst this
    rw [s_89_2]
    simp only [s_89_0, s_89_1, s_89_3, s_89_3_n, s_89_4, s_89_7, s_89_10, s_89_13, s_89_16, s_89_16_n, s_89_17, s_89_20, s_89_23, s_89_23_n, s_89_24, s_89_27, s_89_30, s_89_33, s_89_34, s_89_35, s_89_36, s_89_36_n, s_89_37, s_89_40, s_89_43, s_89_46, s_89_47, s_89_48, s_89_51, s_89_52, s_89_53, s_89_56, s_89_59, s_89_61, ↓reduceIte, eq_self, rts_some, rts_none, nq_int, nq_ref, nq_null, nq_none, okr1_0, okr1_1, okr_b, List.length_nil, List.length_cons, Nat.zero_le, Nat.reduceAdd, Nat.reduceLeDiff, b2i_0, b2i_n0, b2i_1, b2i_n1, ite_not, if_true, if_false, not_true_eq_false, not_false_eq_true, true_and, and_true, false_and, and_false, dg_0 hg hm1, wg_8 hg, wrg_9_2 hg, b1, Int32.le_refl, loF]
  | succ m ih =>
    intro j hj
    have hlt : (nI k3 ≤ nI j) = False := eq_false (nI_ge (show j < k3 by omega) (by omega))
    have hx := ix_nIT (show j < 8 by omega) (show 8 < 2 ^ 31 by decide)
    have hcl := nI_clamp (show j < 2 ^ 31 by omega)
    obtain ⟨s, hs, es⟩ := b3 j (by omega)
    rw [s_89_2]
    simp only [loF]
    rw [es, nI_clamp (show s < 2 ^ 31 by omega)]
    by_cases he : M s = M (105 + 2 * j)
    · rw [if_pos he]
      simp only [s_89_0, s_89_1, s_89_3, s_89_3_n, s_89_4, s_89_7, s_89_10, s_89_13, s_89_16, s_89_16_n, s_89_17, s_89_20, s_89_23, s_89_23_n, s_89_24, s_89_27, s_89_30, s_89_33, s_89_34, s_89_35, s_89_36, s_89_36_n, s_89_37, s_89_40, s_89_43, s_89_46, s_89_47, s_89_48, s_89_51, s_89_52, s_89_53, s_89_56, s_89_59, s_89_61, ↓reduceIte, eq_self, rts_some, rts_none, nq_int, nq_ref, nq_null, nq_none, okr1_0, okr1_1, okr_b, List.length_nil, List.length_cons, Nat.zero_le, Nat.reduceAdd, Nat.reduceLeDiff, b2i_0, b2i_n0, b2i_1, b2i_n1, ite_not, if_true, if_false, not_true_eq_false, not_false_eq_true, true_and, and_true, false_and, and_false, dg_0 hg hm1, wg_8 hg, wg_0 hg, wrg_9_2 hg, wrg_9_0 hg, wrg_9_1 hg, wa_10 hg, wa_11 hg, wa_1 hg, b1, hlt, hx, hcl, es, ix_nIT hs (show 12 < 2 ^ 31 by decide), nI_clamp (show s < 2 ^ 31 by omega), he, nI_1]
      exact ih (j + 1) (by omega)
    · rw [if_neg he]
      simp only [s_89_0, s_89_1, s_89_3, s_89_3_n, s_89_4, s_89_7, s_89_10, s_89_13, s_89_16, s_89_16_n, s_89_17, s_89_20, s_89_23, s_89_23_n, s_89_24, s_89_27, s_89_30, s_89_33, s_89_34, s_89_35, s_89_36, s_89_36_n, s_89_37, s_89_40, s_89_43, s_89_46, s_89_47, s_89_48, s_89_51, s_89_52, s_89_53, s_89_56, s_89_59, s_89_61, ↓reduceIte, eq_self, rts_some, rts_none, nq_int, nq_ref, nq_null, nq_none, okr1_0, okr1_1, okr_b, List.length_nil, List.length_cons, Nat.zero_le, Nat.reduceAdd, Nat.reduceLeDiff, b2i_0, b2i_n0, b2i_1, b2i_n1, ite_not, if_true, if_false, not_true_eq_false, not_false_eq_true, true_and, and_true, false_and, and_false, dg_0 hg hm1, wg_8 hg, wg_0 hg, wrg_9_2 hg, wrg_9_0 hg, wrg_9_1 hg, wa_10 hg, wa_11 hg, wa_1 hg, b1, hlt, hx, hcl, es, ix_nIT hs (show 12 < 2 ^ 31 by decide), nI_clamp (show s < 2 ^ 31 by omega), he, nI_1]
theorem c_looked (hA : AK BIG LG gr z M F ex hd Mt Ft xt ht D cl kf nb c k1 k2 k3) (H : AQ BIG LG G z M ex hd ht D Q (.int (loR M))) : WP V (cdT Ev) mx (d + 1) 89 [.ref (LG 0)] (GW LG gr 100 M F ex hd (WC LG 150 Mt Ft xt ht D) G z) Q := by
  have hB := WI_BK (AK_I hA)
  rw [e_89]
  simp only [s_89_0, s_89_1, ↓reduceIte, eq_self, rts_some, rts_none, nq_int, nq_ref, nq_null, nq_none, okr1_0, okr1_1, okr_b, List.length_nil, List.length_cons, Nat.zero_le, Nat.reduceAdd, Nat.reduceLeDiff, b2i_0, b2i_n0, b2i_1, b2i_n1, ite_not, if_true, if_false, not_true_eq_false, not_false_eq_true, true_and, and_true, false_and, and_false]
  have lp := c_looked_l (V := V) (Ev := Ev) (d := d) (Q := Q) (F := F) (ex := ex) (hd := hd) (G := G) (z := z) (AK_g hA) (AK_m1 hA (Mt' := Mt) (Ft' := Ft) (xt' := xt) (ht' := ht)) hB k3 0 (by omega)
  refine lp.mpr ?_
  unfold loR at H
  rw [hB.1, nI_clamp (by have := hB.2.1; omega)] at H
  exact AQ_now hA H F
end
