/-! Dear, worths, can, ends: the class. -/
def wzF (M : Nat → Int32) (cl : List Cls) (s k : Nat) : Nat → Int32
  | 0 => 0
  | v + 1 => if isF (upd M s (nI v)) cl k 0 = true then wzF M cl s k v ||| ((1 : Int32) <<< (nI v &&& 31)) else wzF M cl s k v
def csF (M : Nat → Int32) (cl : List Cls) (i k : Nat) : Bool := decide (soF M (nI i) k 0 (-2) = -2) || decide (soF M (nI i) k 0 (-2) = tipF M cl i (M (14 + 9 * i + 2)))
section
variable {V : Nat → Option AE} {Ev : Nat → Value} {d : Nat} {Q : Option Value → HS → Prop}
variable {LG gr : Nat → Nat} {M F : Nat → Int32} {ex : Nat → Bool} {hd : Option Nat} {D G : Nat → Option AE} {z : Nat × Nat} {cl : List Cls} {kf : Int32} {nb : Nat}
variable {Mt Ft : Nat → Int32} {xt : Nat → Bool} {ht : Option Nat} {BIG c k1 k2 k3 : Nat} {v : Value}
theorem xa_1' (hg : ∀ r, gr (LG r) = r) {i : Int32} {K : Int32 → Prop} : ai 2 i V (GW LG gr 150 Mt Ft xt ht (WC LG 100 M F ex hd D) G z) (LG 101) K = (ix i 12 ∧ K (M i.toNatClampNeg)) := xa_1 (B2 := 100) hg (by decide) OW_W
theorem xg_0' (hg : ∀ r, gr (LG r) = r) {K : Value → Prop} : gf [10] 0 (GW LG gr 150 Mt Ft xt ht (WC LG 100 M F ex hd D) G z) (LG 100) K = K (.ref (LG 101)) := xg_0 (B2 := 100) hg (by decide) OW_W
/-- a number of worths put into the trial world -/
theorem upd_12 {M' : Nat → Int32} {t : Nat} {x y : Int32} : upd (upd M' t y) t x = upd M' t x := upd_uu
theorem c_dear_l (hg : ∀ r, gr (LG r) = r) (hm : DM LG (WC LG 100 M F ex hd D) kf nb) {i t : Nat} {M' : Nat → Int32} (hi : i < c) (hk : WK M ex c) (sl : SL M' M c k1 k2 k3) (hb : HB LG (WC LG 100 M F ex hd D) 150 ht cl) (ht12 : t < 12) {v : Int32} (H : ∀ y Ft', Q (some (.int v)) (GW LG gr 150 (upd M' t y) Ft' xt ht (WC LG 100 M F ex hd D) G z)) : ∀ n, n ≤ 20 → v = drL M cl i t n → ∀ y Ft, wp V (cdT Ev) mx (d + 4) 113 34 [some (.ref (LG 0)), some (.ref (LG (100 + 13 + i))), some (.int (nI t)), some (.int (nI n))] [] (GW LG gr 150 (upd M' t y) Ft xt ht (WC LG 100 M F ex hd D) G z) Q := by
  have h6 := WK_6 hk hi
  have he := WK_1 hk hi
  have hP := WK_P hk hi
  have hx := ix_nIT ht12 (show 12 < 2 ^ 31 by decide)
  have hcl := nI_clamp (show t < 2 ^ 31 by omega)
  have po : ∀ (M2 F2 : Nat → Int32), PO LG (WC LG 150 M2 F2 xt ht (WC LG 100 M F ex hd D)) 100 M i := fun M2 F2 => PO_out (by decide) h6 (PO_W h6 he)
  have o3 : ∀ (M2 F2 : Nat → Int32) (K : Value → Prop), gf [1, 2, 3, 4, 5, 6, 8] 3 (GW LG gr 150 M2 F2 xt ht (WC LG 100 M F ex hd D) G z) (LG (100 + 13 + i)) K = K (.int (M (14 + 9 * i + 2))) := fun M2 F2 K => og_3 hg (po M2 F2)
  intro n
  induction n with
  | zero =>
    intro _ hv y Ft
    have hv' : v = 0 := hv
    subst hv'
    rw [s_113_34]
    simp only [s_113_0, s_113_0_n, s_113_1, s_113_4, s_113_4_n, s_113_5, s_113_5_n, s_113_6, s_113_9, s_113_12, s_113_13, s_113_14, s_113_17, s_113_19, s_113_20, s_113_20_n, s_113_21, s_113_24, s_113_24_n, s_113_25, s_113_28, s_113_31, s_113_33, s_113_35, s_113_38, s_113_38_n, s_113_39, s_113_42, s_113_45, s_113_46, s_113_46_n, s_113_47, s_113_50, s_113_53, s_113_54, s_113_55, s_113_56, s_113_57, s_113_58, s_113_61, s_113_62, s_113_62_n, s_113_63, s_113_66, s_113_66_n, s_113_67, s_113_67_n, s_113_68, s_113_71, s_113_74, s_113_75, s_113_78, s_113_79, s_113_80, s_113_83, s_113_86, s_113_87, ↓reduceIte, eq_self, rts_some, rts_none, nq_int, nq_ref, nq_null, nq_none, okr1_0, okr1_1, okr_b, List.length_nil, List.length_cons, Nat.zero_le, Nat.reduceAdd, Nat.reduceLeDiff, b2i_0, b2i_n0, b2i_1, b2i_n1, ite_not, if_true, if_false, not_true_eq_false, not_false_eq_true, true_and, and_true, false_and, and_false, show (nI 0 ≤ (0 : Int32)) = True from by decide]
    exact H y Ft
  | succ n ih =>
    intro hn hv y Ft
    have hlt : (nI (n + 1) ≤ (0 : Int32)) = False := eq_false (nI_nle (by omega) (by omega))
    have em : (if M t - nI (n + 1) < 0 then 0 else M t - nI (n + 1)) = (if 0 < M t - nI (n + 1) then M t - nI (n + 1) else 0) := by
      generalize M t - nI (n + 1) = w
      by_cases h1 : w < 0
      · rw [if_pos h1, if_neg (Int32.lt_asymm h1)]
      · rw [if_neg h1]
        by_cases h2 : 0 < w
        · rw [if_pos h2]
        · rw [if_neg h2]
          exact Int32.le_antisymm (Int32.not_lt.mp h2) (Int32.not_lt.mp h1)
    simp only [drL] at hv
    rw [s_113_34]
    simp only [s_113_0, s_113_0_n, s_113_1, s_113_4, s_113_4_n, s_113_5, s_113_5_n, s_113_6, s_113_9, s_113_12, s_113_13, s_113_14, s_113_17, s_113_19, s_113_20, s_113_20_n, s_113_21, s_113_24, s_113_24_n, s_113_25, s_113_28, s_113_31, s_113_33, s_113_35, s_113_38, s_113_38_n, s_113_39, s_113_42, s_113_45, s_113_46, s_113_46_n, s_113_47, s_113_50, s_113_53, s_113_54, s_113_55, s_113_56, s_113_57, s_113_58, s_113_61, s_113_62, s_113_62_n, s_113_63, s_113_66, s_113_66_n, s_113_67, s_113_67_n, s_113_68, s_113_71, s_113_74, s_113_75, s_113_78, s_113_79, s_113_80, s_113_83, s_113_86, s_113_87, ↓reduceIte, eq_self, rts_some, rts_none, nq_int, nq_ref, nq_null, nq_none, okr1_0, okr1_1, okr_b, List.length_nil, List.length_cons, Nat.zero_le, Nat.reduceAdd, Nat.reduceLeDiff, b2i_0, b2i_n0, b2i_1, b2i_n1, ite_not, if_true, if_false, not_true_eq_false, not_false_eq_true, true_and, and_true, false_and, and_false, hlt, dg_1 hg (DM_W (B := 150) (by decide) hm), dg_0 hg (DM_W (B := 150) (by decide) hm), wg_0 hg, xg_0' hg, xa_1' hg, ws_1 hg, hx, hcl, j_max, em, upd_12, o3, wcv hg]
    refine c_tipOf (W := upd M t (if 0 < M t - nI (n + 1) then M t - nI (n + 1) else 0)) hg hP.2.2 (fun F => po _ F) hP ⟨fun w hw => pk_un (by omega), fun s hs => ?_, ?_⟩ hb (fun F' => ?_)
    · simp only [upd]
      split
      · rfl
      · exact (SL_s sl (by omega)).symm
    · rw [pk_un (by omega), pk_un (by omega)]
      exact (SL_69 sl).symm
    · by_cases hT : tipF (upd M t (if 0 < M t - nI (n + 1) then M t - nI (n + 1) else 0)) cl i (M (14 + 9 * i + 2)) = nI t
      · rw [if_pos hT] at hv
        subst hv
        simp only [s_113_0, s_113_0_n, s_113_1, s_113_4, s_113_4_n, s_113_5, s_113_5_n, s_113_6, s_113_9, s_113_12, s_113_13, s_113_14, s_113_17, s_113_19, s_113_20, s_113_20_n, s_113_21, s_113_24, s_113_24_n, s_113_25, s_113_28, s_113_31, s_113_33, s_113_35, s_113_38, s_113_38_n, s_113_39, s_113_42, s_113_45, s_113_46, s_113_46_n, s_113_47, s_113_50, s_113_53, s_113_54, s_113_55, s_113_56, s_113_57, s_113_58, s_113_61, s_113_62, s_113_62_n, s_113_63, s_113_66, s_113_66_n, s_113_67, s_113_67_n, s_113_68, s_113_71, s_113_74, s_113_75, s_113_78, s_113_79, s_113_80, s_113_83, s_113_86, s_113_87, ↓reduceIte, eq_self, rts_some, rts_none, nq_int, nq_ref, nq_null, nq_none, okr1_0, okr1_1, okr_b, List.length_nil, List.length_cons, Nat.zero_le, Nat.reduceAdd, Nat.reduceLeDiff, b2i_0, b2i_n0, b2i_1, b2i_n1, ite_not, if_true, if_false, not_true_eq_false, not_false_eq_true, true_and, and_true, false_and, and_false, hT]
        exact H _ F'
      · rw [if_neg hT] at hv
        simp only [s_113_0, s_113_0_n, s_113_1, s_113_4, s_113_4_n, s_113_5, s_113_5_n, s_113_6, s_113_9, s_113_12, s_113_13, s_113_14, s_113_17, s_113_19, s_113_20, s_113_20_n, s_113_21, s_113_24, s_113_24_n, s_113_25, s_113_28, s_113_31, s_113_33, s_113_35, s_113_38, s_113_38_n, s_113_39, s_113_42, s_113_45, s_113_46, s_113_46_n, s_113_47, s_113_50, s_113_53, s_113_54, s_113_55, s_113_56, s_113_57, s_113_58, s_113_61, s_113_62, s_113_62_n, s_113_63, s_113_66, s_113_66_n, s_113_67, s_113_67_n, s_113_68, s_113_71, s_113_74, s_113_75, s_113_78, s_113_79, s_113_80, s_113_83, s_113_86, s_113_87, ↓reduceIte, eq_self, rts_some, rts_none, nq_int, nq_ref, nq_null, nq_none, okr1_0, okr1_1, okr_b, List.length_nil, List.length_cons, Nat.zero_le, Nat.reduceAdd, Nat.reduceLeDiff, b2i_0, b2i_n0, b2i_1, b2i_n1, ite_not, if_true, if_false, not_true_eq_false, not_false_eq_true, true_and, and_true, false_and, and_false, hT, nI_m1]
        exact ih (by omega) hv _ F'
theorem c_dearOf (hA : AK BIG LG gr z M F ex hd Mt Ft xt ht D cl kf nb c k1 k2 k3) {i : Nat} (hi : i < c) (H : AQ BIG LG G z M ex hd ht D Q (.int (dearF M cl i))) : WP V (cdT Ev) mx (d + 7) 113 [.ref (LG 0), .ref (LG (100 + 13 + i))] (GW LG gr 100 M F ex hd (WC LG 150 Mt Ft xt ht D) G z) Q := by
  have hg := AK_g hA
  have hk := AK_W hA
  have h6 := WK_6 hk hi
  have he := WK_1 hk hi
  have hP := WK_P hk hi
  rw [e_113]
  simp only [s_113_0, s_113_1, s_113_4, s_113_5, s_113_6, s_113_9, ↓reduceIte, eq_self, rts_some, rts_none, nq_int, nq_ref, nq_null, nq_none, okr1_0, okr1_1, okr_b, List.length_nil, List.length_cons, Nat.zero_le, Nat.reduceAdd, Nat.reduceLeDiff, b2i_0, b2i_n0, b2i_1, b2i_n1, ite_not, if_true, if_false, not_true_eq_false, not_false_eq_true, true_and, and_true, false_and, and_false, dg_0 hg (AK_m2 hA), pg_3 hg h6 he, wcv hg]
  refine c_tipOf (d := d + 2) hg hP.2.2 (fun F => PO_W h6 he) hP AG_self (AK_h1 hA) (fun F' => ?_)
  unfold dearF at H
  rcases tipF_k M cl i (M (14 + 9 * i + 2)) with hT | ⟨t, ht12, hT, -⟩
  · simp only [hT, if_true] at H
    simp only [s_113_0, s_113_0_n, s_113_1, s_113_4, s_113_4_n, s_113_5, s_113_5_n, s_113_6, s_113_9, s_113_12, s_113_13, s_113_14, s_113_17, s_113_19, s_113_20, s_113_20_n, s_113_21, s_113_24, s_113_24_n, s_113_25, s_113_28, s_113_31, s_113_33, s_113_35, s_113_38, s_113_38_n, s_113_39, s_113_42, s_113_45, s_113_46, s_113_46_n, s_113_47, s_113_50, s_113_53, s_113_54, s_113_55, s_113_56, s_113_57, s_113_58, s_113_61, s_113_62, s_113_62_n, s_113_63, s_113_66, s_113_66_n, s_113_67, s_113_67_n, s_113_68, s_113_71, s_113_74, s_113_75, s_113_78, s_113_79, s_113_80, s_113_83, s_113_86, s_113_87, ↓reduceIte, eq_self, rts_some, rts_none, nq_int, nq_ref, nq_null, nq_none, okr1_0, okr1_1, okr_b, List.length_nil, List.length_cons, Nat.zero_le, Nat.reduceAdd, Nat.reduceLeDiff, b2i_0, b2i_n0, b2i_1, b2i_n1, ite_not, if_true, if_false, not_true_eq_false, not_false_eq_true, true_and, and_true, false_and, and_false, hT, show ((0 : Int32) ≤ -1) = False from by decide]
    exact AQ_now hA H F'
  · have hne : (nI t = -1) = False := eq_false (nI_neg (by omega) (by decide))
    simp only [hT, hne, if_false, nI_clamp (show t < 2 ^ 31 by omega)] at H
    simp only [s_113_12, s_113_13, s_113_14, s_113_20, s_113_21, s_113_24, s_113_25, s_113_28, ↓reduceIte, eq_self, rts_some, rts_none, nq_int, nq_ref, nq_null, nq_none, okr1_0, okr1_1, okr_b, List.length_nil, List.length_cons, Nat.zero_le, Nat.reduceAdd, Nat.reduceLeDiff, b2i_0, b2i_n0, b2i_1, b2i_n1, ite_not, if_true, if_false, not_true_eq_false, not_false_eq_true, true_and, and_true, false_and, and_false, hT, eq_true (nI_pos' (show t < 2 ^ 31 by omega)), dg_0 hg (AK_m2 hA), dg_1 hg (AK_m2 hA)]
    rw [tcv hg]
    have hA' : AK BIG LG gr z M F' ex hd Mt Ft xt ht D cl kf nb c k1 k2 k3 := ⟨LV_dom (fun j hj _ => rfl) hA.1, hA.2⟩
    refine c_tl' hA' (fun LG' gr' G' z' M' hk' hw sl wi => ?_)
    have hg' := hk'.2.1.1
    have hm' : DM LG' (WC LG' 100 M F' ex hd D) kf nb := DM_W (by decide) (KP_DM hk' (AK_m hA))
    have hb' : HB LG' (WC LG' 100 M F' ex hd D) 150 hd cl := HB_t (AK_b hA) (KP_HB hk' (AK_b hA) (AK_h hA))
    rw [← KP_x hk' 0 (by omega), ← KP_x hk' (100 + 13 + i) (by omega)]
    simp only [s_113_31, s_113_33, ↓reduceIte, eq_self, rts_some, rts_none, nq_int, nq_ref, nq_null, nq_none, okr1_0, okr1_1, okr_b, List.length_nil, List.length_cons, Nat.zero_le, Nat.reduceAdd, Nat.reduceLeDiff, b2i_0, b2i_n0, b2i_1, b2i_n1, ite_not, if_true, if_false, not_true_eq_false, not_false_eq_true, true_and, and_true, false_and, and_false]
    have lp := c_dear_l (V := V) (Ev := Ev) (d := d + 2) (Q := Q) (G := G') (z := z') hg' hm' hi hk sl hb' ht12 (fun y Ft' => AQ_t H (KP_F (fun j hj _ => pk_un (by omega)) hk') (Or.inl rfl)) 20 (Nat.le_refl _) rfl (M' t) Ft
    rw [upd_us] at lp
    exact lp
theorem c_worths_l (hg : ∀ r, gr (LG r) = r) {C : Nat → Option AE} (hm : DM LG C kf nb) {s : Nat} {M' : Nat → Int32} (hs : s < 12) (hk : WK M' xt c) (hse : SEok M' k1 c) (sl : SL M' M c k1 k2 k3) (hb : HB LG C 150 ht cl) (H : ∀ y Ft', Q (some (.int (wzF M cl s k1 21))) (GW LG gr 150 (upd M' s y) Ft' xt ht C G z)) : ∀ m j, j + m = 21 → ∀ y Ft, wp V (cdT Ev) mx (d + 5) 119 15 [some (.ref (LG 0)), some (.int (nI s)), some (.int (wzF M cl s k1 j)), some (.int (nI j))] [] (GW LG gr 150 (upd M' s y) Ft xt ht C G z) Q := by
  have hx := ix_nIT hs (show 12 < 2 ^ 31 by decide)
  have hcl := nI_clamp (show s < 2 ^ 31 by omega)
  intro m
  induction m with
  | zero =>
    intro j hj y Ft
    have : j = 21 := by omega
    subst this
    rw [s_119_15]
    simp only [s_119_0, s_119_1, s_119_2, s_119_2_n, s_119_3, s_119_6, s_119_6_n, s_119_7, s_119_10, s_119_13, s_119_14, s_119_16, s_119_18, s_119_21, s_119_21_n, s_119_22, s_119_25, s_119_28, s_119_29, s_119_30, s_119_31, s_119_31_n, s_119_32, s_119_35, s_119_38, s_119_41, s_119_42, s_119_43, s_119_44, s_119_45, s_119_46, s_119_47, s_119_50, s_119_53, s_119_54, ↓reduceIte, eq_self, rts_some, rts_none, nq_int, nq_ref, nq_null, nq_none, okr1_0, okr1_1, okr_b, List.length_nil, List.length_cons, Nat.zero_le, Nat.reduceAdd, Nat.reduceLeDiff, b2i_0, b2i_n0, b2i_1, b2i_n1, ite_not, if_true, if_false, not_true_eq_false, not_false_eq_true, true_and, and_true, false_and, and_false, show ((20 : Int32) < nI 21) = True from by decide]
    exact H y Ft
  | succ m ih =>
    intro j hj y Ft
    have hlt : ((20 : Int32) < nI j) = False := eq_false (nI_nlt (a := 20) (b := j) (by omega) (by decide))
    rw [s_119_15]
    simp only [s_119_0, s_119_1, s_119_2, s_119_2_n, s_119_3, s_119_6, s_119_6_n, s_119_7, s_119_10, s_119_13, s_119_14, s_119_16, s_119_18, s_119_21, s_119_21_n, s_119_22, s_119_25, s_119_28, s_119_29, s_119_30, s_119_31, s_119_31_n, s_119_32, s_119_35, s_119_38, s_119_41, s_119_42, s_119_43, s_119_44, s_119_45, s_119_46, s_119_47, s_119_50, s_119_53, s_119_54, ↓reduceIte, eq_self, rts_some, rts_none, nq_int, nq_ref, nq_null, nq_none, okr1_0, okr1_1, okr_b, List.length_nil, List.length_cons, Nat.zero_le, Nat.reduceAdd, Nat.reduceLeDiff, b2i_0, b2i_n0, b2i_1, b2i_n1, ite_not, if_true, if_false, not_true_eq_false, not_false_eq_true, true_and, and_true, false_and, and_false, hlt, dg_1 hg (DM_W (B := 150) (by decide) hm), wg_0 hg, ws_1 hg, hx, hcl, upd_12, wcv hg]
    have slu : SL (upd M' s (nI j)) (upd M s (nI j)) c k1 k2 k3 := SL_upd sl
    have se2 : SEok (upd M' s (nI j)) k1 c := by
      obtain ⟨a, b, r⟩ := hse
      refine ⟨(pk_un (by omega)).trans a, b, fun q hq => ?_⟩
      rw [pk_un (by omega), pk_un (by omega)]
      exact r q hq
    have wk2 : WK (upd M' s (nI j)) xt c := ⟨⟨(pk_un (by omega)).trans hk.1.1, hk.1.2⟩, fun i hi => ⟨WK_1 hk hi, P1_of (fun w hw => pk_un (by omega)) (WK_P hk hi)⟩⟩
    refine c_isSeenSo hg se2 wk2 hb (fun F' => ?_)
    have se3 : SEok (upd M s (nI j)) k1 c := SL_SE (SL_symm slu) se2
    rw [SL_is se3 slu k1 0 (by omega)]
    have ihj := ih (j + 1) (by omega) (nI j) F'
    simp only [wzF] at ihj
    by_cases hI : isF (upd M s (nI j)) cl k1 0 = true
    · rw [if_pos hI] at ihj
      simp only [s_119_0, s_119_1, s_119_2, s_119_2_n, s_119_3, s_119_6, s_119_6_n, s_119_7, s_119_10, s_119_13, s_119_14, s_119_16, s_119_18, s_119_21, s_119_21_n, s_119_22, s_119_25, s_119_28, s_119_29, s_119_30, s_119_31, s_119_31_n, s_119_32, s_119_35, s_119_38, s_119_41, s_119_42, s_119_43, s_119_44, s_119_45, s_119_46, s_119_47, s_119_50, s_119_53, s_119_54, ↓reduceIte, eq_self, rts_some, rts_none, nq_int, nq_ref, nq_null, nq_none, okr1_0, okr1_1, okr_b, List.length_nil, List.length_cons, Nat.zero_le, Nat.reduceAdd, Nat.reduceLeDiff, b2i_0, b2i_n0, b2i_1, b2i_n1, ite_not, if_true, if_false, not_true_eq_false, not_false_eq_true, true_and, and_true, false_and, and_false, hI, bI_t, show ((1 : Int32) = 0) = False from by decide, nI_1]
      exact ihj
    · rw [if_neg hI] at ihj
      simp only [s_119_0, s_119_1, s_119_2, s_119_2_n, s_119_3, s_119_6, s_119_6_n, s_119_7, s_119_10, s_119_13, s_119_14, s_119_16, s_119_18, s_119_21, s_119_21_n, s_119_22, s_119_25, s_119_28, s_119_29, s_119_30, s_119_31, s_119_31_n, s_119_32, s_119_35, s_119_38, s_119_41, s_119_42, s_119_43, s_119_44, s_119_45, s_119_46, s_119_47, s_119_50, s_119_53, s_119_54, ↓reduceIte, eq_self, rts_some, rts_none, nq_int, nq_ref, nq_null, nq_none, okr1_0, okr1_1, okr_b, List.length_nil, List.length_cons, Nat.zero_le, Nat.reduceAdd, Nat.reduceLeDiff, b2i_0, b2i_n0, b2i_1, b2i_n1, ite_not, if_true, if_false, not_true_eq_false, not_false_eq_true, true_and, and_true, false_and, and_false, Bool.eq_false_iff.mpr hI, bI_f, nI_1]
      exact ihj
theorem c_worthsOf (hA : AK BIG LG gr z M F ex hd Mt Ft xt ht D cl kf nb c k1 k2 k3) {s : Nat} (hs : s < 12) (H : AQ BIG LG G z M ex hd ht D Q (.int (wzF M cl s k1 21))) : WP V (cdT Ev) mx (d + 7) 119 [.ref (LG 0), .int (nI s)] (GW LG gr 100 M F ex hd (WC LG 150 Mt Ft xt ht D) G z) Q := by
  rw [e_119]
  simp only [s_119_0, s_119_1, s_119_2, s_119_3, s_119_6, s_119_7, s_119_10, ↓reduceIte, eq_self, rts_some, rts_none, nq_int, nq_ref, nq_null, nq_none, okr1_0, okr1_1, okr_b, List.length_nil, List.length_cons, Nat.zero_le, Nat.reduceAdd, Nat.reduceLeDiff, b2i_0, b2i_n0, b2i_1, b2i_n1, ite_not, if_true, if_false, not_true_eq_false, not_false_eq_true, true_and, and_true, false_and, and_false, dg_0 (AK_g hA) (AK_m2 hA), dg_1 (AK_g hA) (AK_m2 hA)]
  rw [tcv (AK_g hA)]
  refine c_tl' hA (fun LG' gr' G' z' M' hk hw sl wi => ?_)
  have hg' := hk.2.1.1
  have hm' : DM LG' (WC LG' 100 M F ex hd D) kf nb := DM_W (by decide) (KP_DM hk (AK_m hA))
  have hb' : HB LG' (WC LG' 100 M F ex hd D) 150 hd cl := HB_t (AK_b hA) (KP_HB hk (AK_b hA) (AK_h hA))
  rw [← KP_x hk 0 (by omega)]
  simp only [s_119_13, s_119_14, ↓reduceIte, eq_self, rts_some, rts_none, nq_int, nq_ref, nq_null, nq_none, okr1_0, okr1_1, okr_b, List.length_nil, List.length_cons, Nat.zero_le, Nat.reduceAdd, Nat.reduceLeDiff, b2i_0, b2i_n0, b2i_1, b2i_n1, ite_not, if_true, if_false, not_true_eq_false, not_false_eq_true, true_and, and_true, false_and, and_false]
  have lp := c_worths_l (V := V) (Ev := Ev) (d := d + 1) (Q := Q) (G := G') (z := z') hg' hm' hs hw (WI_SE wi) sl hb' (fun y Ft' => AQ_t H (KP_F (fun j hj _ => pk_un (by omega)) hk) (Or.inl rfl)) 21 0 rfl (M' s) Ft
  rw [upd_us] at lp
  exact lp
theorem c_isSoV (hg : ∀ r, gr (LG r) = r) {C : Nat → Option AE} (hm : DM LG C kf nb) {i : Nat} {x : Int32} (hi : i < c) (hk : WK Mt xt c) (hse : SEok Mt k1 c) (hb : HB LG C 150 ht cl) (H : ∀ Ft', Q (some (.int (bI (csF (upd Mt (14 + 9 * i + 1) x) cl i k1)))) (GW LG gr 150 (upd Mt (14 + 9 * i + 1) x) Ft' xt ht C G z)) : WP V (cdT Ev) mx (d + 5) 120 [.ref (LG 0), .int (nI i), .int x] (GW LG gr 150 Mt Ft xt ht C G z) Q := by
  have h6 := WK_6 hk hi
  have he := WK_1 hk hi
  have c2 := hk.1.2
  have se2 : SEok (upd Mt (14 + 9 * i + 1) x) k1 c := by
    obtain ⟨a, b, r⟩ := hse
    refine ⟨(pk_un (by omega)).trans a, b, fun q hq => ?_⟩
    rw [pk_un (by omega), pk_un (by omega)]
    exact r q hq
  have hP : P1 (upd Mt (14 + 9 * i + 1) x) i := by
    obtain ⟨⟨K, hK, eK⟩, hb, hs⟩ := WK_P hk hi
    refine ⟨⟨K, hK, ?_⟩, ?_, ?_⟩
    · rw [pk_un (by omega), eK]
    · rw [pk_un (by omega)]
      exact hb
    · rw [pk_un (by omega)]
      exact hs
  have sO := fun (Q : Option Value → HS → Prop) => c_seenOf (V := V) (Ev := Ev) (d := d + 3) (Q := Q) (LG := LG) (gr := gr) (B := 150) (F := Ft) (ex := xt) (hd := ht) (C := C) (G := G) (z := z) hg se2.2.1 se2.1 (p := nI i)
  have pa := fun (Q : Option Value → HS → Prop) => c_pAt_y (V := V) (Ev := Ev) (d := d + 3) (Q := Q) (B := 150) (F := Ft) (hd := ht) (C := C) (G := G) (z := z) hg hk hi
  have e2 : upd Mt (14 + 9 * i + 1) x (14 + 9 * i + 2) = Mt (14 + 9 * i + 2) := pk_un (by omega)
  unfold csF at H
  rw [e_120]
  simp only [s_120_0, s_120_1, s_120_4, s_120_5, s_120_8, s_120_9, s_120_10, s_120_15, s_120_16, s_120_17, s_120_20, s_120_21, s_120_24, s_120_25, s_120_28, s_120_30, s_120_32, s_120_34, ↓reduceIte, eq_self, rts_some, rts_none, nq_int, nq_ref, nq_null, nq_none, okr1_0, okr1_1, okr_b, List.length_nil, List.length_cons, Nat.zero_le, Nat.reduceAdd, Nat.reduceLeDiff, b2i_0, b2i_n0, b2i_1, b2i_n1, ite_not, if_true, if_false, not_true_eq_false, not_false_eq_true, true_and, and_true, false_and, and_false, dg_1 hg (DM_W (B := 150) (by decide) hm), wcv hg, pa, pp_2 hg h6 he, sO]
  by_cases h2 : soF (upd Mt (14 + 9 * i + 1) x) (nI i) k1 0 (-2) = -2
  · rw [if_pos h2]
    simp only [h2, decide_true, Bool.true_or] at H
    simp only [s_120_0, s_120_0_n, s_120_1, s_120_4, s_120_5, s_120_8, s_120_8_n, s_120_9, s_120_9_n, s_120_10, s_120_10_n, s_120_13, s_120_14, s_120_15, s_120_15_n, s_120_16, s_120_17, s_120_20, s_120_20_n, s_120_21, s_120_24, s_120_25, s_120_28, s_120_30, s_120_32, s_120_34, s_120_37, s_120_39, s_120_39_n, s_120_40, s_120_43, s_120_43_n, s_120_44, s_120_44_n, s_120_45, s_120_48, s_120_51, s_120_54, s_120_55, s_120_58, s_120_59, ↓reduceIte, eq_self, rts_some, rts_none, nq_int, nq_ref, nq_null, nq_none, okr1_0, okr1_1, okr_b, List.length_nil, List.length_cons, Nat.zero_le, Nat.reduceAdd, Nat.reduceLeDiff, b2i_0, b2i_n0, b2i_1, b2i_n1, ite_not, if_true, if_false, not_true_eq_false, not_false_eq_true, true_and, and_true, false_and, and_false]
    exact H Ft
  · rw [if_neg h2]
    simp only [h2, decide_false, Bool.false_or] at H
    simp only [s_120_37, s_120_39, s_120_40, s_120_43, s_120_44, s_120_45, s_120_48, ↓reduceIte, eq_self, rts_some, rts_none, nq_int, nq_ref, nq_null, nq_none, okr1_0, okr1_1, okr_b, List.length_nil, List.length_cons, Nat.zero_le, Nat.reduceAdd, Nat.reduceLeDiff, b2i_0, b2i_n0, b2i_1, b2i_n1, ite_not, if_true, if_false, not_true_eq_false, not_false_eq_true, true_and, and_true, false_and, and_false, dg_1 hg (DM_W (B := 150) (by decide) hm), wcv hg, pg_3 hg h6 he]
    refine c_tipOf hg hP.2.2 (fun F => PO_W h6 he) hP AG_self hb (fun F' => ?_)
    by_cases h3 : soF (upd Mt (14 + 9 * i + 1) x) (nI i) k1 0 (-2) = tipF (upd Mt (14 + 9 * i + 1) x) cl i (upd Mt (14 + 9 * i + 1) x (14 + 9 * i + 2))
    · have H' := H F'
      simp only [decide_eq_true h3] at H'
      simp only [s_120_0, s_120_0_n, s_120_1, s_120_4, s_120_5, s_120_8, s_120_8_n, s_120_9, s_120_9_n, s_120_10, s_120_10_n, s_120_13, s_120_14, s_120_15, s_120_15_n, s_120_16, s_120_17, s_120_20, s_120_20_n, s_120_21, s_120_24, s_120_25, s_120_28, s_120_30, s_120_32, s_120_34, s_120_37, s_120_39, s_120_39_n, s_120_40, s_120_43, s_120_43_n, s_120_44, s_120_44_n, s_120_45, s_120_48, s_120_51, s_120_54, s_120_55, s_120_58, s_120_59, ↓reduceIte, eq_self, rts_some, rts_none, nq_int, nq_ref, nq_null, nq_none, okr1_0, okr1_1, okr_b, List.length_nil, List.length_cons, Nat.zero_le, Nat.reduceAdd, Nat.reduceLeDiff, b2i_0, b2i_n0, b2i_1, b2i_n1, ite_not, if_true, if_false, not_true_eq_false, not_false_eq_true, true_and, and_true, false_and, and_false, eq_true h3]
      exact H'
    · have H' := H F'
      simp only [decide_eq_false h3] at H'
      simp only [s_120_0, s_120_0_n, s_120_1, s_120_4, s_120_5, s_120_8, s_120_8_n, s_120_9, s_120_9_n, s_120_10, s_120_10_n, s_120_13, s_120_14, s_120_15, s_120_15_n, s_120_16, s_120_17, s_120_20, s_120_20_n, s_120_21, s_120_24, s_120_25, s_120_28, s_120_30, s_120_32, s_120_34, s_120_37, s_120_39, s_120_39_n, s_120_40, s_120_43, s_120_43_n, s_120_44, s_120_44_n, s_120_45, s_120_48, s_120_51, s_120_54, s_120_55, s_120_58, s_120_59, ↓reduceIte, eq_self, rts_some, rts_none, nq_int, nq_ref, nq_null, nq_none, okr1_0, okr1_1, okr_b, List.length_nil, List.length_cons, Nat.zero_le, Nat.reduceAdd, Nat.reduceLeDiff, b2i_0, b2i_n0, b2i_1, b2i_n1, ite_not, if_true, if_false, not_true_eq_false, not_false_eq_true, true_and, and_true, false_and, and_false, eq_false h3]
      exact H'
end
