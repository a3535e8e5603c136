/-! Lowest terms, odds, means, on: the class. -/
def cdF (a b : Nat) : Nat → Nat
  | 0 => 1
  | j + 1 => if 1 ≤ j ∧ a % (j + 1) = 0 ∧ b % (j + 1) = 0 then j + 1 else cdF a b j
theorem cdF_1 {a b : Nat} : cdF a b 1 = 1 := by
  simp [cdF]
theorem cdF_gcd {a b : Nat} (hb : 0 < b) : ∀ j, Nat.gcd a b ≤ j → cdF a b j = Nat.gcd a b := by
  have hg : 0 < Nat.gcd a b := Nat.gcd_pos_of_pos_right a hb
  intro j
  induction j with
  | zero =>
    intro h
    omega
  | succ j ih =>
    intro h
    by_cases e : Nat.gcd a b = j + 1
    · simp only [cdF]
      by_cases h1 : 1 ≤ j
      · have x1 : a % (j + 1) = 0 := by
          rw [← e]
          exact Nat.mod_eq_zero_of_dvd (Nat.gcd_dvd_left a b)
        have x2 : b % (j + 1) = 0 := by
          rw [← e]
          exact Nat.mod_eq_zero_of_dvd (Nat.gcd_dvd_right a b)
        rw [if_pos ⟨h1, x1, x2⟩, e]
      · have : j = 0 := by omega
        subst this
        rw [if_neg (by omega), e]
        rfl
    · simp only [cdF]
      rw [if_neg, ih (by omega)]
      intro ⟨h1, h2, h3⟩
      have hd : j + 1 ∣ Nat.gcd a b := Nat.dvd_gcd (Nat.dvd_of_mod_eq_zero h2) (Nat.dvd_of_mod_eq_zero h3)
      have := Nat.le_of_dvd hg hd
      omega
theorem cdF_pos {a b : Nat} : ∀ j, 0 < cdF a b j ∧ cdF a b j ≤ j + 1 := by
  intro j
  induction j with
  | zero => exact ⟨Nat.one_pos, Nat.le_refl _⟩
  | succ j ih =>
    simp only [cdF]
    split <;> omega
section
variable {V : Nat → Option AE} {Ev : Nat → Value} {d : Nat} {Q : Option Value → HS → Prop} {h : HS}
theorem okr2_l {x : Int64} : okr 2 (.long x) = true := id rfl
theorem c_low_l {a b : Nat} {p : Int32} (ha : a < 2 ^ 30) (hb : b < 2 ^ 30) : ∀ m j, j + m = b → 1 ≤ j → wp V (cdT Ev) mx d 110 14 [some (.int (nI a)), some (.int (nI b)), some (.int p), some (.int (nI (cdF a b j))), some (.int (nI (j + 1)))] [] h Q = wp V (cdT Ev) mx d 110 43 [some (.int (nI a)), some (.int (nI b)), some (.int p), some (.int (nI (cdF a b b))), some (.int (nI (b + 1)))] [] h Q := by
  intro m
  induction m with
  | zero =>
    intro j hj _
    have : j = b := by omega
    subst this
    rw [s_110_14]
    simp only [s_110_16, s_110_17, ↓reduceIte, eq_self, rts_some, rts_none, nq_int, nq_ref, nq_null, nq_none, okr1_0, okr1_1, okr_b, List.length_nil, List.length_cons, Nat.zero_le, Nat.reduceAdd, Nat.reduceLeDiff, b2i_0, b2i_n0, b2i_1, b2i_n1, ite_not, if_true, if_false, not_true_eq_false, not_false_eq_true, true_and, and_true, false_and, and_false, eq_true (nI_lt (show j < j + 1 by omega) (show j + 1 < 2 ^ 31 by omega))]
  | succ m ih =>
    intro j hj h1
    have hlt : (nI b < nI (j + 1)) = False := eq_false (nI_nlt (show j + 1 ≤ b by omega) (show b < 2 ^ 31 by omega))
    have hne : (nI (j + 1) = 0) = False := eq_false (nI_ne0 (by omega) (by omega))
    have e1 : nI a - nI a / nI (j + 1) * nI (j + 1) = nI (a % (j + 1)) := pk_rem (by omega) (by omega) (by omega)
    have e2 : nI b - nI b / nI (j + 1) * nI (j + 1) = nI (b % (j + 1)) := pk_rem (by omega) (by omega) (by omega)
    have ma := Nat.mod_lt a (show 0 < j + 1 by omega)
    have mb := Nat.mod_lt b (show 0 < j + 1 by omega)
    have ihj := ih (j + 1) (by omega) (by omega)
    rw [s_110_14]
    by_cases k1 : a % (j + 1) = 0
    · by_cases k2 : b % (j + 1) = 0
      · have ec : cdF a b (j + 1) = j + 1 := if_pos ⟨h1, k1, k2⟩
        rw [ec] at ihj
        simp only [s_110_0, s_110_1, s_110_2, s_110_5, s_110_8, s_110_9, s_110_10, s_110_11, s_110_12, s_110_16, s_110_17, s_110_20, s_110_21, s_110_23, s_110_24, s_110_27, s_110_28, s_110_30, s_110_31, s_110_34, s_110_36, s_110_37, s_110_40, s_110_44, s_110_47, s_110_48, s_110_49, s_110_50, s_110_51, s_110_54, s_110_55, s_110_56, s_110_57, s_110_58, ↓reduceIte, eq_self, rts_some, rts_none, nq_int, nq_ref, nq_null, nq_none, okr1_0, okr1_1, okr_b, List.length_nil, List.length_cons, Nat.zero_le, Nat.reduceAdd, Nat.reduceLeDiff, b2i_0, b2i_n0, b2i_1, b2i_n1, ite_not, if_true, if_false, not_true_eq_false, not_false_eq_true, true_and, and_true, false_and, and_false, hlt, hne, e1, e2, k1, k2, nI_0, nI_1]
        exact ihj
      · have ec : cdF a b (j + 1) = cdF a b j := if_neg (fun h => k2 h.2.2)
        rw [ec] at ihj
        simp only [s_110_0, s_110_1, s_110_2, s_110_5, s_110_8, s_110_9, s_110_10, s_110_11, s_110_12, s_110_16, s_110_17, s_110_20, s_110_21, s_110_23, s_110_24, s_110_27, s_110_28, s_110_30, s_110_31, s_110_34, s_110_36, s_110_37, s_110_40, s_110_44, s_110_47, s_110_48, s_110_49, s_110_50, s_110_51, s_110_54, s_110_55, s_110_56, s_110_57, s_110_58, ↓reduceIte, eq_self, rts_some, rts_none, nq_int, nq_ref, nq_null, nq_none, okr1_0, okr1_1, okr_b, List.length_nil, List.length_cons, Nat.zero_le, Nat.reduceAdd, Nat.reduceLeDiff, b2i_0, b2i_n0, b2i_1, b2i_n1, ite_not, if_true, if_false, not_true_eq_false, not_false_eq_true, true_and, and_true, false_and, and_false, hlt, hne, e1, e2, k1, nI_0, eq_false (nI_ne0 (show 0 < b % (j + 1) by omega) (by omega)), nI_1]
        exact ihj
    · have ec : cdF a b (j + 1) = cdF a b j := if_neg (fun h => k1 h.2.1)
      rw [ec] at ihj
      simp only [s_110_0, s_110_1, s_110_2, s_110_5, s_110_8, s_110_9, s_110_10, s_110_11, s_110_12, s_110_16, s_110_17, s_110_20, s_110_21, s_110_23, s_110_24, s_110_27, s_110_28, s_110_30, s_110_31, s_110_34, s_110_36, s_110_37, s_110_40, s_110_44, s_110_47, s_110_48, s_110_49, s_110_50, s_110_51, s_110_54, s_110_55, s_110_56, s_110_57, s_110_58, ↓reduceIte, eq_self, rts_some, rts_none, nq_int, nq_ref, nq_null, nq_none, okr1_0, okr1_1, okr_b, List.length_nil, List.length_cons, Nat.zero_le, Nat.reduceAdd, Nat.reduceLeDiff, b2i_0, b2i_n0, b2i_1, b2i_n1, ite_not, if_true, if_false, not_true_eq_false, not_false_eq_true, true_and, and_true, false_and, and_false, hlt, hne, e1, e2, eq_false (nI_ne0 (show 0 < a % (j + 1) by omega) (by omega)), nI_1]
      exact ihj
theorem c_low {a b : Nat} {p : Int32} (ha : a < 2 ^ 30) (hb : b < 2 ^ 30) : WP V (cdT Ev) mx (d + 1) 110 [.int (nI a), .int (nI b), .int p] h Q = Q (some (.long (if b = 0 then -9223372036854775808 else frF a b p))) h := by
  rw [e_110]
  by_cases h0 : b = 0
  · subst h0
    rw [if_pos rfl]
    simp only [s_110_0, s_110_1, s_110_2, s_110_5, s_110_8, s_110_9, s_110_10, s_110_11, s_110_12, s_110_14, s_110_16, s_110_17, s_110_20, s_110_21, s_110_23, s_110_24, s_110_27, s_110_28, s_110_30, s_110_31, s_110_34, s_110_36, s_110_37, s_110_40, s_110_43, s_110_44, s_110_47, s_110_48, s_110_49, s_110_50, s_110_51, s_110_54, s_110_55, s_110_56, s_110_57, s_110_58, ↓reduceIte, eq_self, rts_some, rts_none, nq_int, nq_ref, nq_null, nq_none, okr1_0, okr1_1, okr_b, List.length_nil, List.length_cons, Nat.zero_le, Nat.reduceAdd, Nat.reduceLeDiff, b2i_0, b2i_n0, b2i_1, b2i_n1, ite_not, if_true, if_false, not_true_eq_false, not_false_eq_true, true_and, and_true, false_and, and_false, show ((1 : Int32) ≤ nI 0) = False from by decide, okr2_l]
  · rw [if_neg h0]
    have h1 : ((1 : Int32) ≤ nI b) = True := eq_true (nI_le (a := 1) (by omega) (by omega))
    simp only [s_110_0, s_110_1, s_110_2, s_110_9, s_110_10, s_110_11, s_110_12, ↓reduceIte, eq_self, rts_some, rts_none, nq_int, nq_ref, nq_null, nq_none, okr1_0, okr1_1, okr_b, List.length_nil, List.length_cons, Nat.zero_le, Nat.reduceAdd, Nat.reduceLeDiff, b2i_0, b2i_n0, b2i_1, b2i_n1, ite_not, if_true, if_false, not_true_eq_false, not_false_eq_true, true_and, and_true, false_and, and_false, h1]
    have lp := c_low_l (d := d) (V := V) (Ev := Ev) (Q := Q) (h := h) (p := p) ha hb (b - 1) 1 (by omega) (Nat.le_refl _)
    rw [cdF_1] at lp
    refine lp.trans ?_
    have hgb : Nat.gcd a b ≤ b := Nat.le_of_dvd (by omega) (Nat.gcd_dvd_right a b)
    have hgp : 0 < Nat.gcd a b := Nat.gcd_pos_of_pos_right a (by omega)
    rw [cdF_gcd (by omega) b hgb]
    have hne : (nI (Nat.gcd a b) = 0) = False := eq_false (nI_ne0 hgp (by omega))
    have e1 : nI a / nI (Nat.gcd a b) = nI (a / Nat.gcd a b) := pk_div (by omega) hgp (by omega)
    have e2 : nI b / nI (Nat.gcd a b) = nI (b / Nat.gcd a b) := pk_div (by omega) hgp (by omega)
    have l1 : a / Nat.gcd a b < 2 ^ 31 := Nat.lt_of_le_of_lt (Nat.div_le_self _ _) (by omega)
    have l2 : b / Nat.gcd a b < 2 ^ 31 := Nat.lt_of_le_of_lt (Nat.div_le_self _ _) (by omega)
    unfold frF
    by_cases hp : p = 0
    · rw [if_pos hp]
      simp only [s_110_0, s_110_1, s_110_2, s_110_5, s_110_8, s_110_9, s_110_10, s_110_11, s_110_12, s_110_16, s_110_17, s_110_20, s_110_21, s_110_23, s_110_24, s_110_27, s_110_28, s_110_30, s_110_31, s_110_34, s_110_36, s_110_37, s_110_40, s_110_43, s_110_44, s_110_47, s_110_48, s_110_49, s_110_50, s_110_51, s_110_54, s_110_55, s_110_56, s_110_57, s_110_58, ↓reduceIte, eq_self, rts_some, rts_none, nq_int, nq_ref, nq_null, nq_none, okr1_0, okr1_1, okr_b, List.length_nil, List.length_cons, Nat.zero_le, Nat.reduceAdd, Nat.reduceLeDiff, b2i_0, b2i_n0, b2i_1, b2i_n1, ite_not, if_true, if_false, not_true_eq_false, not_false_eq_true, true_and, and_true, false_and, and_false, hp, hne, e1, nI_l l1, okr2_l]
    · rw [if_neg hp]
      simp only [s_110_0, s_110_1, s_110_2, s_110_5, s_110_8, s_110_9, s_110_10, s_110_11, s_110_12, s_110_16, s_110_17, s_110_20, s_110_21, s_110_23, s_110_24, s_110_27, s_110_28, s_110_30, s_110_31, s_110_34, s_110_36, s_110_37, s_110_40, s_110_43, s_110_44, s_110_47, s_110_48, s_110_49, s_110_50, s_110_51, s_110_54, s_110_55, s_110_56, s_110_57, s_110_58, ↓reduceIte, eq_self, rts_some, rts_none, nq_int, nq_ref, nq_null, nq_none, okr1_0, okr1_1, okr_b, List.length_nil, List.length_cons, Nat.zero_le, Nat.reduceAdd, Nat.reduceLeDiff, b2i_0, b2i_n0, b2i_1, b2i_n1, ite_not, if_true, if_false, not_true_eq_false, not_false_eq_true, true_and, and_true, false_and, and_false, hp, hne, e2, nI_l l2, okr2_l]
end
section
variable {V : Nat → Option AE} {Ev : Nat → Value} {d : Nat} {Q : Option Value → HS → Prop}
variable {LG gr : Nat → Nat} {M F : Nat → Int32} {ex : Nat → Bool} {hd : Option Nat} {D G : Nat → Option AE} {z : Nat × Nat} {cl : List Cls} {kf : Int32} {nb : Nat}
variable {Mt Ft : Nat → Int32} {xt : Nat → Bool} {ht : Option Nat} {BIG c k1 k2 k3 : Nat}
/-- the trial world, n days on -/
theorem c_td (hA : AK BIG LG gr z M F ex hd Mt Ft xt ht D cl kf nb c k1 k2 k3) {n : Nat} (hn : n ≤ 60) (H : ∀ LG' gr' G' z' M' Ft', KP BIG LG G z LG' gr' G' z' (WC LG' 150 (daysF M' cl n) Ft' (exQ xt c) hd (WC LG' 100 M F ex hd D)) → WK (daysF M' cl n) (exQ xt c) c → SL (daysF M' cl n) (daysF M cl n) c k1 k2 k3 → Q none (GW LG' gr' 150 (daysF M' cl n) Ft' (exQ xt c) hd (WC LG' 100 M F ex hd D) G' z')) : WP V (cdT Ev) mx (d + 6) 49 [.ref (LG 150), .ref (LG 100)] (GW LG gr 100 M F ex hd (WC LG 150 Mt Ft xt ht D) G z) (fun _ h' => WP V (cdT Ev) mx (d + 7) 59 [.ref (LG 150), .int (nI n), .int 2147483647] h' Q) := by
  refine c_tl' hA (fun LG' gr' G' z' M' hk hw sl wi => ?_)
  have hb' : HB LG' (WC LG' 100 M F ex hd D) 150 hd cl := HB_t (AK_b hA) (KP_HB hk (AK_b hA) (AK_h hA))
  rw [← KP_x hk 150 (by omega), show (2147483647 : Int32) = nI 2147483647 from rfl]
  exact c_goDays (K := 9999) hk.2.1.1 hw (WI_12 wi) (WI_B wi) (by omega) (by decide) hb' (fun F' => H LG' gr' G' z' M' F' (KP_F (fun j hj _ => days_kd hw.1 n hj) hk) (WK_days hw n) (SL_days (AK_I hA).1 sl n))
end
