/-! On, mean, odds, can, ends: the class. -/
theorem daysF_w {N : Nat → Int32} {cl : List Cls} {c s : Nat} (hc : c6 N c) (hs : s < 12) : ∀ n, daysF N cl n s = N s := by
  intro n
  induction n with
  | zero => rfl
  | succ n ih => exact (dayF_out (daysF_c hc n) (fun i hi => by omega) (by omega) (by omega) (by omega)).trans ih
theorem meN_cg {N N' : Nat → Int32} {x : Int32} (h : ∀ s, s < 12 → N s = N' s) : ∀ q, q ≤ 12 → meN N x q = meN N' x q := by
  intro q
  induction q with
  | zero =>
    intro _
    rfl
  | succ q ih =>
    intro hq
    simp only [meN]
    rw [ih (by omega), h q (by omega)]
section
variable {V : Nat → Option AE} {Ev : Nat → Value} {d : Nat} {Q : Option Value → HS → Prop}
variable {LG gr : Nat → Nat} {M F : Nat → Int32} {ex : Nat → Bool} {hd : Option Nat} {D G : Nat → Option AE} {z : Nat × Nat} {cl : List Cls} {kf : Int32} {nb : Nat}
variable {Mt Ft : Nat → Int32} {xt : Nat → Bool} {ht : Option Nat} {BIG c k1 k2 k3 : Nat}
theorem c_on27 (hA : AK BIG LG gr z M F ex hd Mt Ft xt ht D cl kf nb c k1 k2 k3) {n w : Int32} {l3 : Option Value} (hw : (0 ≤ w ∧ w ≤ 2) ∨ oneQ M (w - 10)) (n3 : nl l3 = true) (H : AQ BIG LG G z M ex hd ht D Q (.int (onR M cl n w))) : wp V (cdT Ev) mx (d + 7) 80 27 [some (.ref (LG 0)), some (.int n), some (.int w), l3, none] [] (GW LG gr 100 M F ex hd (WC LG 150 Mt Ft xt ht D) G z) Q := by
  unfold onR at H
  rw [if_pos hw] at H
  by_cases hn : 0 ≤ n ∧ n ≤ 60
  · rw [if_pos hn] at H
    obtain ⟨j, hj, rfl⟩ := dayQ_k hn
    rw [nI_clamp (by omega)] at H
    simp only [s_80_27, s_80_28, s_80_31, ↓reduceIte, eq_self, rts_some, rts_none, nq_int, nq_ref, nq_null, nq_none, okr1_0, okr1_1, okr_b, List.length_nil, List.length_cons, Nat.zero_le, Nat.reduceAdd, Nat.reduceLeDiff, b2i_0, b2i_n0, b2i_1, b2i_n1, ite_not, if_true, if_false, not_true_eq_false, not_false_eq_true, true_and, and_true, false_and, and_false, c_areD, b2i_t hn, show ((1 : Int32) = 0) = False from by decide]
    exact c_on37 hA hj hw n3 H
  · rw [if_neg hn] at H
    simp only [s_80_27, s_80_28, s_80_31, s_80_34, s_80_36, ↓reduceIte, eq_self, rts_some, rts_none, nq_int, nq_ref, nq_null, nq_none, okr1_0, okr1_1, okr_b, List.length_nil, List.length_cons, Nat.zero_le, Nat.reduceAdd, Nat.reduceLeDiff, b2i_0, b2i_n0, b2i_1, b2i_n1, ite_not, if_true, if_false, not_true_eq_false, not_false_eq_true, true_and, and_true, false_and, and_false, c_areD, b2i_f hn]
    exact AQ_now hA H F
theorem c_on (hA : AK BIG LG gr z M F ex hd Mt Ft xt ht D cl kf nb c k1 k2 k3) {n w : Int32} (H : AQ BIG LG G z M ex hd ht D Q (.int (onR M cl n w))) : WP V (cdT Ev) mx (d + 8) 80 [.ref (LG 0), .int n, .int w] (GW LG gr 100 M F ex hd (WC LG 150 Mt Ft xt ht D) G z) Q := by
  have hg := AK_g hA
  have hc := (AK_I hA).1
  rw [e_80]
  by_cases ho : oneQ M (w - 10)
  · obtain ⟨i, hi, ei⟩ := oneQ_k hc ho
    have pa := fun (Q : Option Value → HS → Prop) => c_pAt_y (V := V) (Ev := Ev) (d := d + 6) (Q := Q) (B := 100) (F := F) (hd := hd) (C := WC LG 150 Mt Ft xt ht D) (G := G) (z := z) hg (AK_W hA) hi
    have fin := fun a => c_on27 (V := V) (Ev := Ev) (d := d) (Q := Q) (l3 := some (.ref a)) hA (Or.inr ho) nq_ref H
    simp only [s_80_0, s_80_1, s_80_4, s_80_5, s_80_7, s_80_8, s_80_11, s_80_12, s_80_13, s_80_16, s_80_17, s_80_18, s_80_21, s_80_22, ↓reduceIte, eq_self, rts_some, rts_none, nq_int, nq_ref, nq_null, nq_none, okr1_0, okr1_1, okr_b, List.length_nil, List.length_cons, Nat.zero_le, Nat.reduceAdd, Nat.reduceLeDiff, b2i_0, b2i_n0, b2i_1, b2i_n1, ite_not, if_true, if_false, not_true_eq_false, not_false_eq_true, true_and, and_true, false_and, and_false, dg_0 hg (AK_m2 hA), wcv hg, ei, pa]
    by_cases h0 : w < 0
    · rw [if_pos h0]
      exact fin _
    · rw [if_neg h0]
      by_cases h2 : w ≤ 2
      · rw [if_pos h2]
        exact fin _
      · rw [if_neg h2]
        exact fin _
  · have pn := fun (Q : Option Value → HS → Prop) => c_pAt_n (V := V) (Ev := Ev) (d := d + 6) (Q := Q) (LG := LG) (gr := gr) (B := 100) (F := F) (ex := ex) (hd := hd) (C := WC LG 150 Mt Ft xt ht D) (G := G) (z := z) hg hc ho
    by_cases hw : 0 ≤ w ∧ w ≤ 2
    · have fin := c_on27 (V := V) (Ev := Ev) (d := d) (Q := Q) (l3 := some .null) hA (Or.inl hw) nq_null H
      simp only [s_80_0, s_80_1, s_80_4, s_80_5, s_80_7, s_80_8, s_80_11_n, s_80_12, s_80_13, s_80_16, s_80_17, s_80_18, ↓reduceIte, eq_self, rts_some, rts_none, nq_int, nq_ref, nq_null, nq_none, okr1_0, okr1_1, okr_b, List.length_nil, List.length_cons, Nat.zero_le, Nat.reduceAdd, Nat.reduceLeDiff, b2i_0, b2i_n0, b2i_1, b2i_n1, ite_not, if_true, if_false, not_true_eq_false, not_false_eq_true, true_and, and_true, false_and, and_false, dg_0 hg (AK_m2 hA), wcv hg, pn, eq_false (Int32.not_lt.mpr hw.1), hw.2]
      exact fin
    · unfold onR at H
      rw [if_neg (fun h => h.elim hw ho)] at H
      by_cases h0 : w < 0
      · simp only [s_80_0, s_80_1, s_80_4, s_80_5, s_80_7, s_80_8, s_80_11_n, s_80_12, s_80_13, s_80_16, s_80_17, s_80_18, s_80_21_n, s_80_22_n, s_80_25, s_80_26, ↓reduceIte, eq_self, rts_some, rts_none, nq_int, nq_ref, nq_null, nq_none, okr1_0, okr1_1, okr_b, List.length_nil, List.length_cons, Nat.zero_le, Nat.reduceAdd, Nat.reduceLeDiff, b2i_0, b2i_n0, b2i_1, b2i_n1, ite_not, if_true, if_false, not_true_eq_false, not_false_eq_true, true_and, and_true, false_and, and_false, dg_0 hg (AK_m2 hA), wcv hg, pn, h0]
        exact AQ_now hA H F
      · have h2 : ¬ w ≤ 2 := fun h => hw ⟨Int32.not_lt.mp h0, h⟩
        simp only [s_80_0, s_80_1, s_80_4, s_80_5, s_80_7, s_80_8, s_80_11_n, s_80_12, s_80_13, s_80_16, s_80_17, s_80_18, s_80_21_n, s_80_22_n, s_80_25, s_80_26, ↓reduceIte, eq_self, rts_some, rts_none, nq_int, nq_ref, nq_null, nq_none, okr1_0, okr1_1, okr_b, List.length_nil, List.length_cons, Nat.zero_le, Nat.reduceAdd, Nat.reduceLeDiff, b2i_0, b2i_n0, b2i_1, b2i_n1, ite_not, if_true, if_false, not_true_eq_false, not_false_eq_true, true_and, and_true, false_and, and_false, dg_0 hg (AK_m2 hA), wcv hg, pn, h0, h2]
        exact AQ_now hA H F
theorem c_mean (hA : AK BIG LG gr z M F ex hd Mt Ft xt ht D cl kf nb c k1 k2 k3) {n w : Int32} (H : AQ BIG LG G z M ex hd ht D Q (.long (meR M cl n w))) : WP V (cdT Ev) mx (d + 8) 85 [.ref (LG 0), .int n, .int w] (GW LG gr 100 M F ex hd (WC LG 150 Mt Ft xt ht D) G z) Q := by
  have hg := AK_g hA
  rw [e_85]
  have z10 : ((1 : Int32) = 0) = False := by decide
  by_cases hn : 0 ≤ n ∧ n ≤ 60
  · by_cases hp : 0 ≤ w ∧ w ≤ 1
    · obtain ⟨j, hj, rfl⟩ := dayQ_k hn
      simp only [s_85_0, s_85_1, s_85_4, s_85_7, s_85_8, s_85_11, s_85_18, s_85_19, s_85_22, s_85_23, s_85_26, ↓reduceIte, eq_self, rts_some, rts_none, nq_int, nq_ref, nq_null, nq_none, okr1_0, okr1_1, okr_b, List.length_nil, List.length_cons, Nat.zero_le, Nat.reduceAdd, Nat.reduceLeDiff, b2i_0, b2i_n0, b2i_1, b2i_n1, ite_not, if_true, if_false, not_true_eq_false, not_false_eq_true, true_and, and_true, false_and, and_false, c_areD, c_isPart, b2i_t hn, b2i_t hp, z10, dg_0 hg (AK_m2 hA), dg_1 hg (AK_m2 hA), tcv hg]
      refine c_tl' (d := d + 1) hA (fun LG' gr' G' z' M' hk hw' sl wi => ?_)
      have hg' := hk.2.1.1
      have hm' : DM LG' (WC LG' 100 M F ex hd D) kf nb := DM_W (by decide) (KP_DM hk (AK_m hA))
      have hb' : HB LG' (WC LG' 100 M F ex hd D) 150 hd cl := HB_t (AK_b hA) (KP_HB hk (AK_b hA) (AK_h hA))
      rw [← KP_x hk 0 (by omega)]
      simp only [s_85_29, s_85_30, s_85_33, s_85_34, s_85_36, ↓reduceIte, eq_self, rts_some, rts_none, nq_int, nq_ref, nq_null, nq_none, okr1_0, okr1_1, okr_b, List.length_nil, List.length_cons, Nat.zero_le, Nat.reduceAdd, Nat.reduceLeDiff, b2i_0, b2i_n0, b2i_1, b2i_n1, ite_not, if_true, if_false, not_true_eq_false, not_false_eq_true, true_and, and_true, false_and, and_false, dg_1 hg' (DM_W (B := 150) (by decide) hm'), wcv hg']
      rw [show (2147483647 : Int32) = nI 2147483647 from rfl]
      refine c_goDays (K := 9999) hg' hw' (WI_12 wi) (WI_B wi) (by omega) (by decide) hb' (fun F' => ?_)
      have hk2 := KP_F (F2 := F') (h2 := hd) (fun q hq _ => days_kd (cl := cl) hw'.1 j hq) hk
      have sl2 := SL_days (cl := cl) (AK_I hA).1 sl j
      have H' := AQ_t H hk2 (Or.inl rfl)
      unfold meR at H'
      rw [nI_clamp (show j < 2 ^ 31 by omega)] at H'
      have s13 : isS (daysF M cl j 13) := daysF_13 (WI_12 (AK_I hA)) (WI_13 (AK_I hA)) j
      have e13 : daysF M' cl j 13 = daysF M cl j 13 := SL_s sl2 (by decide)
      have wo' : WO (daysF M' cl j) := by
        intro s hs
        rw [daysF_w hw'.1 hs j]
        exact WI_WO wi s hs
      obtain ⟨k, hk4, ek⟩ := isS_of s13
      have e13k : daysF M' cl j 13 = nI k := e13.trans ek
      have eme : meN (daysF M' cl j) (nI k) 12 = meN M (nI k) 12 := meN_cg (fun s hs => (daysF_w hw'.1 hs j).trans (SL_s sl (by omega))) 12 (Nat.le_refl _)
      have lme : meN M (nI k) 12 < 2 ^ 30 := Nat.lt_of_le_of_lt (meN_le (WI_WO (AK_I hA)) _ 12 (Nat.le_refl _)) (by decide)
      have lpc : pcL k 12 < 2 ^ 30 := Nat.lt_of_le_of_lt (pcL_le k 12) (by decide)
      simp only [s_85_39, s_85_40, s_85_43, s_85_46, s_85_47, s_85_50, s_85_53, s_85_56, s_85_57, s_85_60, ↓reduceIte, eq_self, rts_some, rts_none, nq_int, nq_ref, nq_null, nq_none, okr1_0, okr1_1, okr_b, List.length_nil, List.length_cons, Nat.zero_le, Nat.reduceAdd, Nat.reduceLeDiff, b2i_0, b2i_n0, b2i_1, b2i_n1, ite_not, if_true, if_false, not_true_eq_false, not_false_eq_true, true_and, and_true, false_and, and_false, dg_1 hg' (DM_W (B := 150) (by decide) hm'), wcv hg', wg_4 hg', c_heardW hg' wo', e13k, c_bitCount (isS_nI hk4), eme, mn_pc (show k < 2 ^ 31 by omega), c_low lme lpc, okr2_l]
      rw [ek] at H'
      by_cases k0 : k = 0
      · subst k0
        rw [if_neg (fun h => h.2.2 rfl)] at H'
        rw [if_pos (show pcL 0 12 = 0 by decide)]
        exact H'
      · have hpos := pcL_pos (k := k) 12 (by omega) (by omega)
        rw [if_pos ⟨hn, hp, nI_ne0 (by omega) (by omega)⟩, pk_tn (show k < 2 ^ 32 by omega)] at H'
        rw [if_neg (by omega)]
        exact H'
    · unfold meR at H
      rw [if_neg (fun h => hp h.2.1)] at H
      simp only [s_85_0, s_85_1, s_85_4, s_85_7, s_85_8, s_85_11, s_85_14, s_85_17, s_85_18, s_85_18_n, s_85_19, s_85_22, s_85_22_n, s_85_23, s_85_26, s_85_29, s_85_29_n, s_85_30, s_85_33, s_85_34, s_85_36, s_85_39, s_85_39_n, s_85_40, s_85_43, s_85_46, s_85_46_n, s_85_47, s_85_50, s_85_53, s_85_56, s_85_57, s_85_60, ↓reduceIte, eq_self, rts_some, rts_none, nq_int, nq_ref, nq_null, nq_none, okr1_0, okr1_1, okr_b, List.length_nil, List.length_cons, Nat.zero_le, Nat.reduceAdd, Nat.reduceLeDiff, b2i_0, b2i_n0, b2i_1, b2i_n1, ite_not, if_true, if_false, not_true_eq_false, not_false_eq_true, true_and, and_true, false_and, and_false, c_areD, c_isPart, b2i_t hn, b2i_f hp, z10, okr2_l]
      exact AQ_now hA H F
  · unfold meR at H
    rw [if_neg (fun h => hn h.1)] at H
    simp only [s_85_0, s_85_1, s_85_4, s_85_7, s_85_8, s_85_11, s_85_14, s_85_17, s_85_18, s_85_18_n, s_85_19, s_85_22, s_85_22_n, s_85_23, s_85_26, s_85_29, s_85_29_n, s_85_30, s_85_33, s_85_34, s_85_36, s_85_39, s_85_39_n, s_85_40, s_85_43, s_85_46, s_85_46_n, s_85_47, s_85_50, s_85_53, s_85_56, s_85_57, s_85_60, ↓reduceIte, eq_self, rts_some, rts_none, nq_int, nq_ref, nq_null, nq_none, okr1_0, okr1_1, okr_b, List.length_nil, List.length_cons, Nat.zero_le, Nat.reduceAdd, Nat.reduceLeDiff, b2i_0, b2i_n0, b2i_1, b2i_n1, ite_not, if_true, if_false, not_true_eq_false, not_false_eq_true, true_and, and_true, false_and, and_false, c_areD, b2i_f hn, okr2_l]
    exact AQ_now hA H F
end
