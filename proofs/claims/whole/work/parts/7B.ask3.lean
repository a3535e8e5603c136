/-! On, mean, odds, can: the class. -/
theorem daysF_32 {M N : Nat → Int32} : True := trivial
section
variable {V : Nat → Option AE} {Ev : Nat → Value} {d : Nat} {Q : Option Value → HS → Prop}
variable {LG gr : Nat → Nat} {M F : Nat → Int32} {ex : Nat → Bool} {hd : Option Nat} {D G : Nat → Option AE} {z : Nat × Nat} {cl : List Cls} {kf : Int32} {nb : Nat}
variable {Mt Ft : Nat → Int32} {xt : Nat → Bool} {ht : Option Nat} {BIG c k1 k2 k3 : Nat}
theorem oneQ_x {N : Nat → Int32} {p : Int32} (hc : c6 N c) {i : Nat} (hi : i < c) (e : p = nI i) : oneQ N p := by
  unfold oneQ
  rw [e, hc.1]
  exact k_one hc.2 hi
theorem SL_one {M N : Nat → Int32} {p : Int32} (sl : SL M N c k1 k2 k3) : oneQ M p = oneQ N p := by
  unfold oneQ
  rw [SL_68 sl]
theorem c_on37 (hA : AK BIG LG gr z M F ex hd Mt Ft xt ht D cl kf nb c k1 k2 k3) {n : Nat} (hn : n ≤ 60) {w : Int32} {l3 : Option Value} (hw : (0 ≤ w ∧ w ≤ 2) ∨ oneQ M (w - 10)) (n3 : nl l3 = true) (H : AQ BIG LG G z M ex hd ht D Q (.int (onV (daysF M cl n) w))) : wp V (cdT Ev) mx (d + 7) 80 37 [some (.ref (LG 0)), some (.int (nI n)), some (.int w), l3, none] [] (GW LG gr 100 M F ex hd (WC LG 150 Mt Ft xt ht D) G z) Q := by
  have hg := AK_g hA
  simp only [s_80_37, s_80_38, s_80_41, s_80_42, s_80_45, ↓reduceIte, eq_self, rts_some, rts_none, nq_int, nq_ref, nq_null, nq_none, okr1_0, okr1_1, okr_b, List.length_nil, List.length_cons, Nat.zero_le, Nat.reduceAdd, Nat.reduceLeDiff, b2i_0, b2i_n0, b2i_1, b2i_n1, ite_not, if_true, if_false, not_true_eq_false, not_false_eq_true, true_and, and_true, false_and, and_false, dg_0 hg (AK_m2 hA), dg_1 hg (AK_m2 hA), tcv hg]
  refine c_tl' (d := d + 1) hA (fun LG' gr' G' z' M' hk hw' sl wi => ?_)
  have hg' := hk.2.1.1
  have hm' : DM LG' (WC LG' 100 M F ex hd D) kf nb := DM_W (by decide) (KP_DM hk (AK_m hA))
  have hb' : HB LG' (WC LG' 100 M F ex hd D) 150 hd cl := HB_t (AK_b hA) (KP_HB hk (AK_b hA) (AK_h hA))
  rw [← KP_x hk 0 (by omega)]
  simp only [s_80_48, s_80_49, s_80_52, s_80_53, s_80_55, ↓reduceIte, eq_self, rts_some, rts_none, nq_int, nq_ref, nq_null, nq_none, okr1_0, okr1_1, okr_b, List.length_nil, List.length_cons, Nat.zero_le, Nat.reduceAdd, Nat.reduceLeDiff, b2i_0, b2i_n0, b2i_1, b2i_n1, ite_not, if_true, if_false, not_true_eq_false, not_false_eq_true, true_and, and_true, false_and, and_false, dg_1 hg' (DM_W (B := 150) (by decide) hm'), wcv hg']
  rw [show (2147483647 : Int32) = nI 2147483647 from rfl]
  refine c_goDays (K := 9999) hg' hw' (WI_12 wi) (WI_B wi) (by omega) (by decide) hb' (fun F' => ?_)
  have hk2 := KP_F (F2 := F') (h2 := hd) (fun j hj _ => days_kd (cl := cl) hw'.1 n hj) hk
  have sl2 := SL_days (cl := cl) (AK_I hA).1 sl n
  have wk2 := WK_days (cl := cl) hw' n
  have H' := AQ_t H hk2 (Or.inl rfl)
  have hc := (AK_I hA).1
  have hcD := daysF_c (cl := cl) hc n
  generalize daysF M' cl n = A at *
  generalize daysF M cl n = B at *
  unfold onV at H'
  by_cases w0 : w = 0
  · subst w0
    rw [if_pos rfl] at H'
    have hs : ∀ T : Nat → Prop, swp T 108 0 [(0, 84), (1, 92), (2, 100)] = T 84 := fun T => rfl
    simp only [s_80_0, s_80_0_n, s_80_1, s_80_4, s_80_5, s_80_7, s_80_8, s_80_11, s_80_11_n, s_80_12, s_80_13, s_80_16, s_80_17, s_80_18, s_80_21, s_80_21_n, s_80_22, s_80_22_n, s_80_25, s_80_26, s_80_27, s_80_28, s_80_31, s_80_34, s_80_36, s_80_37, s_80_37_n, s_80_38, s_80_41, s_80_41_n, s_80_42, s_80_45, s_80_48, s_80_48_n, s_80_49, s_80_52, s_80_53, s_80_55, s_80_58, s_80_59, s_80_84, s_80_84_n, s_80_85, s_80_88, s_80_91, s_80_92, s_80_92_n, s_80_93, s_80_96, s_80_99, s_80_100, s_80_100_n, s_80_101, s_80_104, s_80_107, s_80_108, s_80_108_n, s_80_109, s_80_112, s_80_113, s_80_115, s_80_116, s_80_119, s_80_119_n, s_80_121, s_80_121_n, s_80_123, s_80_123_n, s_80_126, s_80_127, s_80_130, s_80_130_n, s_80_132, s_80_135, ↓reduceIte, eq_self, rts_some, rts_none, nq_int, nq_ref, nq_null, nq_none, okr1_0, okr1_1, okr_b, List.length_nil, List.length_cons, Nat.zero_le, Nat.reduceAdd, Nat.reduceLeDiff, b2i_0, b2i_n0, b2i_1, b2i_n1, ite_not, if_true, if_false, not_true_eq_false, not_false_eq_true, true_and, and_true, false_and, and_false, hs, dg_1 hg' (DM_W (B := 150) (by decide) hm'), wg_3 hg', SL_s sl2 (show 12 < 14 by decide)]
    exact H'
  · by_cases w1 : w = 1
    · subst w1
      rw [if_neg (by decide), if_pos rfl] at H'
      have hs : ∀ T : Nat → Prop, swp T 108 1 [(0, 84), (1, 92), (2, 100)] = T 92 := fun T => rfl
      simp only [s_80_0, s_80_0_n, s_80_1, s_80_4, s_80_5, s_80_7, s_80_8, s_80_11, s_80_11_n, s_80_12, s_80_13, s_80_16, s_80_17, s_80_18, s_80_21, s_80_21_n, s_80_22, s_80_22_n, s_80_25, s_80_26, s_80_27, s_80_28, s_80_31, s_80_34, s_80_36, s_80_37, s_80_37_n, s_80_38, s_80_41, s_80_41_n, s_80_42, s_80_45, s_80_48, s_80_48_n, s_80_49, s_80_52, s_80_53, s_80_55, s_80_58, s_80_59, s_80_84, s_80_84_n, s_80_85, s_80_88, s_80_91, s_80_92, s_80_92_n, s_80_93, s_80_96, s_80_99, s_80_100, s_80_100_n, s_80_101, s_80_104, s_80_107, s_80_108, s_80_108_n, s_80_109, s_80_112, s_80_113, s_80_115, s_80_116, s_80_119, s_80_119_n, s_80_121, s_80_121_n, s_80_123, s_80_123_n, s_80_126, s_80_127, s_80_130, s_80_130_n, s_80_132, s_80_135, ↓reduceIte, eq_self, rts_some, rts_none, nq_int, nq_ref, nq_null, nq_none, okr1_0, okr1_1, okr_b, List.length_nil, List.length_cons, Nat.zero_le, Nat.reduceAdd, Nat.reduceLeDiff, b2i_0, b2i_n0, b2i_1, b2i_n1, ite_not, if_true, if_false, not_true_eq_false, not_false_eq_true, true_and, and_true, false_and, and_false, hs, dg_1 hg' (DM_W (B := 150) (by decide) hm'), wg_4 hg', SL_s sl2 (show 13 < 14 by decide)]
      exact H'
    · by_cases w2 : w = 2
      · subst w2
        rw [if_neg (by decide), if_neg (by decide), if_pos rfl, hcD.1, nI_clamp (by have := hcD.2; omega)] at H'
        have hs : ∀ T : Nat → Prop, swp T 108 2 [(0, 84), (1, 92), (2, 100)] = T 100 := fun T => rfl
        simp only [s_80_0, s_80_0_n, s_80_1, s_80_4, s_80_5, s_80_7, s_80_8, s_80_11, s_80_11_n, s_80_12, s_80_13, s_80_16, s_80_17, s_80_18, s_80_21, s_80_21_n, s_80_22, s_80_22_n, s_80_25, s_80_26, s_80_27, s_80_28, s_80_31, s_80_34, s_80_36, s_80_37, s_80_37_n, s_80_38, s_80_41, s_80_41_n, s_80_42, s_80_45, s_80_48, s_80_48_n, s_80_49, s_80_52, s_80_53, s_80_55, s_80_58, s_80_59, s_80_84, s_80_84_n, s_80_85, s_80_88, s_80_91, s_80_92, s_80_92_n, s_80_93, s_80_96, s_80_99, s_80_100, s_80_100_n, s_80_101, s_80_104, s_80_107, s_80_108, s_80_108_n, s_80_109, s_80_112, s_80_113, s_80_115, s_80_116, s_80_119, s_80_119_n, s_80_121, s_80_121_n, s_80_123, s_80_123_n, s_80_126, s_80_127, s_80_130, s_80_130_n, s_80_132, s_80_135, ↓reduceIte, eq_self, rts_some, rts_none, nq_int, nq_ref, nq_null, nq_none, okr1_0, okr1_1, okr_b, List.length_nil, List.length_cons, Nat.zero_le, Nat.reduceAdd, Nat.reduceLeDiff, b2i_0, b2i_n0, b2i_1, b2i_n1, ite_not, if_true, if_false, not_true_eq_false, not_false_eq_true, true_and, and_true, false_and, and_false, hs, dg_1 hg' (DM_W (B := 150) (by decide) hm'), wcv hg', c_beyond hg' wk2, SL_be sl2 c (Nat.le_refl _)]
        exact H'
      · rw [if_neg w0, if_neg w1, if_neg w2] at H'
        have ho : oneQ M (w - 10) := hw.resolve_left (fun h => by
          rcases w012 h with h | h | h
          · exact w0 h
          · exact w1 h
          · exact w2 h)
        obtain ⟨i, hi, ei⟩ := oneQ_k hc ho
        have h6 := WK_6 wk2 hi
        have hs : ∀ T : Nat → Prop, swp T 108 w [(0, 84), (1, 92), (2, 100)] = T 108 := by
          intro T
          simp only [swp, w0, w1, w2, if_false]
        rw [ei, nI_clamp (by omega)] at H'
        have pa := fun (Q : Option Value → HS → Prop) => c_pAt_y (V := V) (Ev := Ev) (d := d + 6) (Q := Q) (B := 150) (F := F') (hd := hd) (C := WC LG' 100 M F ex hd D) (G := G') (z := z') hg' wk2 hi
        simp only [s_80_0, s_80_0_n, s_80_1, s_80_4, s_80_5, s_80_7, s_80_8, s_80_11, s_80_11_n, s_80_12, s_80_13, s_80_16, s_80_17, s_80_18, s_80_21, s_80_21_n, s_80_22, s_80_22_n, s_80_25, s_80_26, s_80_27, s_80_28, s_80_31, s_80_34, s_80_36, s_80_37, s_80_37_n, s_80_38, s_80_41, s_80_41_n, s_80_42, s_80_45, s_80_48, s_80_48_n, s_80_49, s_80_52, s_80_53, s_80_55, s_80_58, s_80_59, s_80_84, s_80_84_n, s_80_85, s_80_88, s_80_91, s_80_92, s_80_92_n, s_80_93, s_80_96, s_80_99, s_80_100, s_80_100_n, s_80_101, s_80_104, s_80_107, s_80_108, s_80_108_n, s_80_109, s_80_112, s_80_113, s_80_115, s_80_116, s_80_119, s_80_119_n, s_80_121, s_80_121_n, s_80_123, s_80_123_n, s_80_126, s_80_127, s_80_130, s_80_130_n, s_80_132, s_80_135, ↓reduceIte, eq_self, rts_some, rts_none, nq_int, nq_ref, nq_null, nq_none, okr1_0, okr1_1, okr_b, List.length_nil, List.length_cons, Nat.zero_le, Nat.reduceAdd, Nat.reduceLeDiff, b2i_0, b2i_n0, b2i_1, b2i_n1, ite_not, if_true, if_false, not_true_eq_false, not_false_eq_true, true_and, and_true, false_and, and_false, hs, w0, w1, w2, dg_1 hg' (DM_W (B := 150) (by decide) hm'), wcv hg', ei, pa, pg_3 hg' h6 (WK_1 wk2 hi), SL_p sl2 hi 2 (by decide), n3]
        exact H'
end
