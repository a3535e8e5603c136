/-! A day of a world: the class. -/
theorem goF_P1 {M : Nat → Int32} {cl : List Cls} {i j : Nat} (h : P1 M i) : P1 (goF M cl j) i := by
  obtain ⟨⟨K, hK, eK⟩, hb, hs⟩ := h
  refine ⟨⟨K, hK, (goF_out (by omega) (by omega) (by omega) (by omega) (by omega)).trans eK⟩, ?_, ?_⟩
  · by_cases e : i = j
    · subst e
      unfold goF
      split
      · rw [pk_un (by omega)]
        exact hb
      · rw [pk_us]
        exact Or.inr rfl
    · rw [goF_out (by omega) (by omega) (by omega) (by omega) (by omega)]
      exact hb
  · by_cases e : i = j
    · subst e
      unfold goF
      split
      · rw [pk_un (by omega)]
        exact hs
      · rw [pk_un (by omega), pk_un (by split <;> omega), pk_us]
        exact isS_and hs
    · rw [goF_out (by omega) (by omega) (by omega) (by omega) (by omega)]
      exact hs
theorem gosF_P1 {M : Nat → Int32} {cl : List Cls} {i : Nat} (h : P1 M i) : ∀ j, P1 (gosF M cl j) i := by
  intro j
  induction j with
  | zero => exact h
  | succ j ih => exact goF_P1 ih
theorem P1_of {M N : Nat → Int32} {i : Nat} (h : ∀ w, w < 9 → M (14 + 9 * i + w) = N (14 + 9 * i + w)) (hP : P1 N i) : P1 M i := by
  unfold P1
  rw [h 0 (by decide), h 2 (by decide), h 3 (by decide)]
  exact hP
theorem dayF_at {N : Nat → Int32} {cl : List Cls} {c k : Nat} (hc : c6 N c) (h12 : k ≠ 12) (h13 : k ≠ 13) (h69 : k ≠ 69) : dayF N cl k = gosF N cl c k := by
  unfold dayF
  rw [hc.1, nI_clamp (by have := hc.2; omega), pk_un h69, evF_out h12 h13]
theorem dayF_69 {N : Nat → Int32} {cl : List Cls} {c : Nat} (hc : c6 N c) : dayF N cl 69 = N 69 + 1 := by
  unfold dayF
  rw [pk_us, evF_out (by decide) (by decide), gosF_out _ (fun i hi => by
    have := hc.2
    rw [hc.1, nI_clamp (by omega)] at hi
    omega) (by decide) (by decide)]
theorem dayF_P1 {M : Nat → Int32} {cl : List Cls} {c i : Nat} (hc : c6 M c) (hi : i < 6) (h : P1 M i) : P1 (dayF M cl) i := P1_of (fun w hw => dayF_at hc (by omega) (by omega) (by omega)) (gosF_P1 h c)
theorem WK_day {M : Nat → Int32} {cl : List Cls} {ex : Nat → Bool} {c : Nat} (h : WK M ex c) : WK (dayF M cl) ex c := ⟨dayF_c h.1, fun i hi => ⟨WK_1 h hi, dayF_P1 h.1 (WK_6 h hi) (WK_P h hi)⟩⟩
theorem WK_days {M : Nat → Int32} {cl : List Cls} {ex : Nat → Bool} {c : Nat} (h : WK M ex c) : ∀ n, WK (daysF M cl n) ex c := by
  intro n
  induction n with
  | zero => exact h
  | succ n ih => exact WK_day ih
theorem gosF_b1 {M : Nat → Int32} {cl : List Cls} {i : Nat} : ∀ j, j ≤ i → gosF M cl j (14 + 9 * i + 4) = M (14 + 9 * i + 4) := fun j hj => gosF_out j (fun q hq => by omega) (by omega) (by omega)
theorem gosF_b2 {M : Nat → Int32} {cl : List Cls} {i : Nat} : ∀ j, gosF M cl j (14 + 9 * i + 4) = M (14 + 9 * i + 4) ∨ gosF M cl j (14 + 9 * i + 4) = M (14 + 9 * i + 4) + 1 := by
  intro j
  induction j with
  | zero => exact Or.inl rfl
  | succ j ih =>
    show goF (gosF M cl j) cl j _ = _ ∨ goF (gosF M cl j) cl j _ = _
    by_cases e : i = j
    · subst e
      have h1 := gosF_b1 (M := M) (cl := cl) (i := i) i (Nat.le_refl _)
      unfold goF
      split
      · rw [pk_us, h1]
        split
        · rw [Int32.add_zero]
          exact Or.inl rfl
        · exact Or.inr rfl
      · rw [pk_un (by omega), pk_un (by split <;> omega), pk_un (by omega), h1]
        exact Or.inl rfl
    · rw [goF_out (by omega) (by omega) (by omega) (by omega) (by omega)]
      exact ih
/-- how often one came back: K at most -/
def Bk (K : Nat) (M : Nat → Int32) (c : Nat) : Prop := ∀ i, i < c → ∃ b, b ≤ K ∧ M (14 + 9 * i + 4) = nI b
theorem Bk_day {K : Nat} {M : Nat → Int32} {cl : List Cls} {c : Nat} (hc : c6 M c) (h : Bk K M c) : Bk (K + 1) (dayF M cl) c := by
  intro i hi
  have := hc.2
  rw [dayF_at hc (by omega) (by omega) (by omega)]
  obtain ⟨b, hb, e⟩ := h i hi
  rcases gosF_b2 (M := M) (cl := cl) (i := i) c with h1 | h1
  · exact ⟨b, by omega, h1.trans e⟩
  · exact ⟨b + 1, by omega, by rw [h1, e, nI_1]⟩
theorem Bk_days {K : Nat} {M : Nat → Int32} {cl : List Cls} {c : Nat} (hc : c6 M c) (h : Bk K M c) : ∀ n, Bk (K + n) (daysF M cl n) c := by
  intro n
  induction n with
  | zero => exact h
  | succ n ih => exact Bk_day (daysF_c hc n) ih
theorem Bk_lt {K : Nat} {M : Nat → Int32} {c m : Nat} (h : Bk K M c) (hK : K < m) (hm : m < 2 ^ 31) : ∀ i, i < c → M (14 + 9 * i + 4) < nI m := by
  intro i hi
  obtain ⟨b, hb, e⟩ := h i hi
  rw [e]
  exact nI_lt (by omega) hm
theorem and_m1 {x : Int32} : x &&& ((0 : Int32) ^^^ (-1)) = x := by
  apply Int32.toBitVec_inj.mp
  simp
theorem or_0 {x : Int32} : x ||| 0 = x := by
  apply Int32.toBitVec_inj.mp
  simp
section
variable {V : Nat → Option AE} {Ev : Nat → Value} {d : Nat} {Q : Option Value → HS → Prop}
variable {LG gr : Nat → Nat} {B : Nat} {M F : Nat → Int32} {ex : Nat → Bool} {hd : Option Nat} {C G : Nat → Option AE} {z : Nat × Nat} {cl : List Cls}
theorem c_goDay_g (hg : ∀ r, gr (LG r) = r) {c : Nat} {mb : Int32} (hk : WK M ex c) (hbk : ∀ i, i < c → M (14 + 9 * i + 4) < mb) (hb : HB LG C B hd cl) (H : ∀ F', wp V (cdT Ev) mx (d + 5) 60 36 [some (.ref (LG B)), some (.int mb), some (.int (nI c))] [] (GW LG gr B (gosF M cl c) F' ex hd C G z) Q) : ∀ m j, j + m = c → ∀ F, wp V (cdT Ev) mx (d + 5) 60 2 [some (.ref (LG B)), some (.int mb), some (.int (nI j))] [] (GW LG gr B (gosF M cl j) F ex hd C G z) Q := by
  have hc := hk.1
  have hc2 := hc.2
  have h68 : ∀ j, j ≤ c → gosF M cl j 68 = nI c := fun j hj => (gosF_out j (fun i hi => by omega) (by decide) (by decide)).trans hc.1
  intro m
  induction m with
  | zero =>
    intro j hj F
    have : j = c := by omega
    subst this
    rw [s_60_2]
    simp only [s_60_3, s_60_4, s_60_7, ↓reduceIte, eq_self, rts_some, rts_none, nq_int, nq_ref, nq_null, nq_none, okr1_0, okr1_1, okr_b, List.length_nil, List.length_cons, Nat.zero_le, Nat.reduceAdd, Nat.reduceLeDiff, b2i_0, b2i_n0, b2i_1, b2i_n1, ite_not, if_true, if_false, not_true_eq_false, not_false_eq_true, true_and, and_true, false_and, and_false, wg_2 hg, h68 j (Nat.le_refl _), Int32.le_refl]
    exact H F
  | succ m ih =>
    intro j hj F
    have hj2 : j < c := by omega
    have hlt : (nI c ≤ nI j) = False := eq_false (nI_ge hj2 (by omega))
    rw [s_60_2]
    simp only [s_60_0, s_60_1, s_60_3, s_60_3_n, s_60_4, s_60_7, s_60_10, s_60_10_n, s_60_11, s_60_14, s_60_15, s_60_16, s_60_16_n, s_60_19, s_60_19_n, s_60_20, s_60_20_n, s_60_21, s_60_24, s_60_25, s_60_26, s_60_27, s_60_30, s_60_33, s_60_37, s_60_40, s_60_41, s_60_42, s_60_45, s_60_45_n, s_60_46, s_60_49, s_60_50, s_60_51, s_60_54, s_60_54_n, s_60_55, s_60_55_n, s_60_56, s_60_59, s_60_59_n, s_60_60, s_60_63, s_60_64, s_60_65, s_60_68, s_60_68_n, s_60_69, s_60_69_i, s_60_70, s_60_73, s_60_74, s_60_75, s_60_78, ↓reduceIte, eq_self, rts_some, rts_none, nq_int, nq_ref, nq_null, nq_none, okr1_0, okr1_1, okr_b, List.length_nil, List.length_cons, Nat.zero_le, Nat.reduceAdd, Nat.reduceLeDiff, b2i_0, b2i_n0, b2i_1, b2i_n1, ite_not, if_true, if_false, not_true_eq_false, not_false_eq_true, true_and, and_true, false_and, and_false, wg_2 hg, h68 j (by omega), hlt, wg_1 hg, wpe hg, ix_nIT (show j < 6 by omega) (show 6 < 2 ^ 31 by decide), nI_clamp (show j < 2 ^ 31 by omega), WK_1 hk hj2, wcv hg]
    refine c_goOne hg (by omega) (WK_1 hk hj2) (gosF_P1 (WK_P hk hj2) j) (by rw [gosF_b1 j (Nat.le_refl _)]; exact hbk j hj2) hb (fun F' => ?_)
    simp only [s_60_0, s_60_1, s_60_3, s_60_3_n, s_60_4, s_60_7, s_60_10, s_60_10_n, s_60_11, s_60_14, s_60_15, s_60_16, s_60_16_n, s_60_19, s_60_19_n, s_60_20, s_60_20_n, s_60_21, s_60_24, s_60_25, s_60_26, s_60_27, s_60_30, s_60_33, s_60_37, s_60_40, s_60_41, s_60_42, s_60_45, s_60_45_n, s_60_46, s_60_49, s_60_50, s_60_51, s_60_54, s_60_54_n, s_60_55, s_60_55_n, s_60_56, s_60_59, s_60_59_n, s_60_60, s_60_63, s_60_64, s_60_65, s_60_68, s_60_68_n, s_60_69, s_60_69_i, s_60_70, s_60_73, s_60_74, s_60_75, s_60_78, ↓reduceIte, eq_self, rts_some, rts_none, nq_int, nq_ref, nq_null, nq_none, okr1_0, okr1_1, okr_b, List.length_nil, List.length_cons, Nat.zero_le, Nat.reduceAdd, Nat.reduceLeDiff, b2i_0, b2i_n0, b2i_1, b2i_n1, ite_not, if_true, if_false, not_true_eq_false, not_false_eq_true, true_and, and_true, false_and, and_false, nI_1]
    exact ih (j + 1) (by omega) F'
theorem c_goDay (hg : ∀ r, gr (LG r) = r) {c : Nat} {mb : Int32} (hk : WK M ex c) (hS : isS (M 12)) (hbk : ∀ i, i < c → M (14 + 9 * i + 4) < mb) (hb : HB LG C B hd cl) (H : ∀ F', Q none (GW LG gr B (dayF M cl) F' ex hd C G z)) : WP V (cdT Ev) mx (d + 6) 60 [.ref (LG B), .int mb] (GW LG gr B M F ex hd C G z) Q := by
  have hc := hk.1
  rw [e_60]
  simp only [s_60_0, s_60_1, ↓reduceIte, eq_self, rts_some, rts_none, nq_int, nq_ref, nq_null, nq_none, okr1_0, okr1_1, okr_b, List.length_nil, List.length_cons, Nat.zero_le, Nat.reduceAdd, Nat.reduceLeDiff, b2i_0, b2i_n0, b2i_1, b2i_n1, ite_not, if_true, if_false, not_true_eq_false, not_false_eq_true, true_and, and_true, false_and, and_false]
  refine c_goDay_g hg hk hbk hb (fun F' => ?_) c 0 (by omega) F
  have ed : dayF M cl = upd (evF (gosF M cl c) (freeC 0 cl)) 69 (evF (gosF M cl c) (freeC 0 cl) 69 + 1) := by
    unfold dayF
    rw [hc.1, nI_clamp (by have := hc.2; omega)]
  have hS2 := gosF_12 (cl := cl) hS c
  have H' := H F'
  rw [ed] at H'
  generalize gosF M cl c = N at *
  have fr := fun (Q : Option Value → HS → Prop) => c_freeNow (V := V) (Ev := Ev) (d := d + 4) (Q := Q) (M := N) (F := F') (ex := ex) (G := G) (z := z) hg hb
  by_cases hf : freeC 0 cl ≤ 0
  · have e : evF N (freeC 0 cl) = N := by
      unfold evF
      rw [if_neg (fun h => absurd h.1 (Int32.not_lt.mpr hf))]
    rw [e] at H'
    simp only [s_60_0, s_60_1, s_60_3, s_60_3_n, s_60_4, s_60_7, s_60_10, s_60_10_n, s_60_11, s_60_14, s_60_15, s_60_16, s_60_16_n, s_60_19, s_60_19_n, s_60_20, s_60_20_n, s_60_21, s_60_24, s_60_25, s_60_26, s_60_27, s_60_30, s_60_33, s_60_36, s_60_36_n, s_60_37, s_60_40, s_60_41, s_60_42, s_60_45, s_60_45_n, s_60_46, s_60_49, s_60_50, s_60_51, s_60_54, s_60_54_n, s_60_55, s_60_55_n, s_60_56, s_60_59, s_60_59_n, s_60_60, s_60_63, s_60_64, s_60_65, s_60_68, s_60_68_n, s_60_69, s_60_69_i, s_60_70, s_60_73, s_60_74, s_60_75, s_60_78, ↓reduceIte, eq_self, rts_some, rts_none, nq_int, nq_ref, nq_null, nq_none, okr1_0, okr1_1, okr_b, List.length_nil, List.length_cons, Nat.zero_le, Nat.reduceAdd, Nat.reduceLeDiff, b2i_0, b2i_n0, b2i_1, b2i_n1, ite_not, if_true, if_false, not_true_eq_false, not_false_eq_true, true_and, and_true, false_and, and_false, wcv hg, fr, hf, wg_5 hg, wp_5 hg]
    exact H'
  · have hf' := Int32.not_le.mp hf
    have hf0 : (freeC 0 cl = 0) = False := eq_false (fun h => by rw [h] at hf'; exact absurd hf' (by decide))
    by_cases hm : N 69 - N 69 / freeC 0 cl * freeC 0 cl = 0
    · by_cases ht : N 12 = 0
      · have e : evF N (freeC 0 cl) = N := by
          unfold evF
          rw [if_neg (fun h => h.2.2 ht)]
        rw [e] at H'
        have e2 : upd (upd N 13 (N 13 ||| (N 12 &&& -N 12))) 12 (N 12 &&& ((N 12 &&& -N 12) ^^^ (-1))) = N := by
          rw [ht, show (0 : Int32) &&& -0 = 0 by decide, or_0, upd_us, and_m1, ← ht, upd_us]
        simp only [s_60_0, s_60_1, s_60_3, s_60_3_n, s_60_4, s_60_7, s_60_10, s_60_10_n, s_60_11, s_60_14, s_60_15, s_60_16, s_60_16_n, s_60_19, s_60_19_n, s_60_20, s_60_20_n, s_60_21, s_60_24, s_60_25, s_60_26, s_60_27, s_60_30, s_60_33, s_60_36, s_60_36_n, s_60_37, s_60_40, s_60_41, s_60_42, s_60_45, s_60_45_n, s_60_46, s_60_49, s_60_50, s_60_51, s_60_54, s_60_54_n, s_60_55, s_60_55_n, s_60_56, s_60_59, s_60_59_n, s_60_60, s_60_63, s_60_64, s_60_65, s_60_68, s_60_68_n, s_60_69, s_60_69_i, s_60_70, s_60_73, s_60_74, s_60_75, s_60_78, ↓reduceIte, eq_self, rts_some, rts_none, nq_int, nq_ref, nq_null, nq_none, okr1_0, okr1_1, okr_b, List.length_nil, List.length_cons, Nat.zero_le, Nat.reduceAdd, Nat.reduceLeDiff, b2i_0, b2i_n0, b2i_1, b2i_n1, ite_not, if_true, if_false, not_true_eq_false, not_false_eq_true, true_and, and_true, false_and, and_false, wcv hg, fr, hf, hf0, hm, wg_5 hg, wg_3 hg, c_letGo hg, e2, wp_5 hg]
        exact H'
      · obtain ⟨k, hk4, hkx⟩ := isS_of hS2
        have hl := lsb_k k hk4
        rw [← hkx] at hl
        rcases hl with h0 | ⟨hl1, hl2, hl3⟩
        · exfalso
          apply ht
          rw [hkx, h0]
          rfl
        · have e : evF N (freeC 0 cl) = upd (upd N 13 (N 13 ||| (N 12 &&& -N 12))) 12 (N 12 &&& ((N 12 &&& -N 12) ^^^ (-1))) := by
            unfold evF heF
            rw [if_pos ⟨hf', hm, ht⟩, if_pos hl2, hl3]
            funext q
            unfold upd
            by_cases h1 : q = 12
            · subst h1
              rfl
            · by_cases h2 : q = 13
              · subst h2
                rfl
              · rw [if_neg h2, if_neg h1, if_neg h1, if_neg h2]
          rw [e] at H'
          simp only [s_60_0, s_60_1, s_60_3, s_60_3_n, s_60_4, s_60_7, s_60_10, s_60_10_n, s_60_11, s_60_14, s_60_15, s_60_16, s_60_16_n, s_60_19, s_60_19_n, s_60_20, s_60_20_n, s_60_21, s_60_24, s_60_25, s_60_26, s_60_27, s_60_30, s_60_33, s_60_36, s_60_36_n, s_60_37, s_60_40, s_60_41, s_60_42, s_60_45, s_60_45_n, s_60_46, s_60_49, s_60_50, s_60_51, s_60_54, s_60_54_n, s_60_55, s_60_55_n, s_60_56, s_60_59, s_60_59_n, s_60_60, s_60_63, s_60_64, s_60_65, s_60_68, s_60_68_n, s_60_69, s_60_69_i, s_60_70, s_60_73, s_60_74, s_60_75, s_60_78, ↓reduceIte, eq_self, rts_some, rts_none, nq_int, nq_ref, nq_null, nq_none, okr1_0, okr1_1, okr_b, List.length_nil, List.length_cons, Nat.zero_le, Nat.reduceAdd, Nat.reduceLeDiff, b2i_0, b2i_n0, b2i_1, b2i_n1, ite_not, if_true, if_false, not_true_eq_false, not_false_eq_true, true_and, and_true, false_and, and_false, wcv hg, fr, hf, hf0, hm, wg_5 hg, wg_3 hg, c_letGo hg, wp_5 hg]
          exact H'
    · have e : evF N (freeC 0 cl) = N := by
        unfold evF
        rw [if_neg (fun h => hm h.2.1)]
      rw [e] at H'
      simp only [s_60_0, s_60_1, s_60_3, s_60_3_n, s_60_4, s_60_7, s_60_10, s_60_10_n, s_60_11, s_60_14, s_60_15, s_60_16, s_60_16_n, s_60_19, s_60_19_n, s_60_20, s_60_20_n, s_60_21, s_60_24, s_60_25, s_60_26, s_60_27, s_60_30, s_60_33, s_60_36, s_60_36_n, s_60_37, s_60_40, s_60_41, s_60_42, s_60_45, s_60_45_n, s_60_46, s_60_49, s_60_50, s_60_51, s_60_54, s_60_54_n, s_60_55, s_60_55_n, s_60_56, s_60_59, s_60_59_n, s_60_60, s_60_63, s_60_64, s_60_65, s_60_68, s_60_68_n, s_60_69, s_60_69_i, s_60_70, s_60_73, s_60_74, s_60_75, s_60_78, ↓reduceIte, eq_self, rts_some, rts_none, nq_int, nq_ref, nq_null, nq_none, okr1_0, okr1_1, okr_b, List.length_nil, List.length_cons, Nat.zero_le, Nat.reduceAdd, Nat.reduceLeDiff, b2i_0, b2i_n0, b2i_1, b2i_n1, ite_not, if_true, if_false, not_true_eq_false, not_false_eq_true, true_and, and_true, false_and, and_false, wcv hg, fr, hf, hf0, hm, wg_5 hg, wp_5 hg]
      exact H'
theorem c_goDays_l (hg : ∀ r, gr (LG r) = r) {c n K mb : Nat} (hk : WK M ex c) (hS : isS (M 12)) (hB : Bk K M c) (hmb : K + n ≤ mb) (hmb2 : mb < 2 ^ 31) (hb : HB LG C B hd cl) (H : ∀ F', Q none (GW LG gr B (daysF M cl n) F' ex hd C G z)) : ∀ m j, j + m = n → ∀ F, wp V (cdT Ev) mx (d + 6) 59 2 [some (.ref (LG B)), some (.int (nI n)), some (.int (nI mb)), some (.int (nI j))] [] (GW LG gr B (daysF M cl j) F ex hd C G z) Q := by
  intro m
  induction m with
  | zero =>
    intro j hj F
    have : j = n := by omega
    subst this
    simp only [s_59_0, s_59_1, s_59_2, s_59_3, s_59_4, s_59_7, s_59_7_n, s_59_8, s_59_9, s_59_12, s_59_15, s_59_18, ↓reduceIte, eq_self, rts_some, rts_none, nq_int, nq_ref, nq_null, nq_none, okr1_0, okr1_1, okr_b, List.length_nil, List.length_cons, Nat.zero_le, Nat.reduceAdd, Nat.reduceLeDiff, b2i_0, b2i_n0, b2i_1, b2i_n1, ite_not, if_true, if_false, not_true_eq_false, not_false_eq_true, true_and, and_true, false_and, and_false, Int32.le_refl]
    exact H F
  | succ m ih =>
    intro j hj F
    have hlt : (nI n ≤ nI j) = False := eq_false (nI_ge (show j < n by omega) (by omega))
    rw [s_59_2]
    simp only [s_59_0, s_59_1, s_59_3, s_59_4, s_59_7, s_59_7_n, s_59_8, s_59_9, s_59_12, s_59_15, s_59_18, ↓reduceIte, eq_self, rts_some, rts_none, nq_int, nq_ref, nq_null, nq_none, okr1_0, okr1_1, okr_b, List.length_nil, List.length_cons, Nat.zero_le, Nat.reduceAdd, Nat.reduceLeDiff, b2i_0, b2i_n0, b2i_1, b2i_n1, ite_not, if_true, if_false, not_true_eq_false, not_false_eq_true, true_and, and_true, false_and, and_false, hlt, wcv hg]
    refine c_goDay hg (WK_days hk j) (daysF_12 hS j) (Bk_lt (Bk_days hk.1 hB j) (by omega) hmb2) hb (fun F' => ?_)
    simp only [s_59_0, s_59_1, s_59_3, s_59_4, s_59_7, s_59_7_n, s_59_8, s_59_9, s_59_12, s_59_15, s_59_18, ↓reduceIte, eq_self, rts_some, rts_none, nq_int, nq_ref, nq_null, nq_none, okr1_0, okr1_1, okr_b, List.length_nil, List.length_cons, Nat.zero_le, Nat.reduceAdd, Nat.reduceLeDiff, b2i_0, b2i_n0, b2i_1, b2i_n1, ite_not, if_true, if_false, not_true_eq_false, not_false_eq_true, true_and, and_true, false_and, and_false, nI_1]
    exact ih (j + 1) (by omega) F'
theorem c_goDays (hg : ∀ r, gr (LG r) = r) {c n K mb : Nat} (hk : WK M ex c) (hS : isS (M 12)) (hB : Bk K M c) (hmb : K + n ≤ mb) (hmb2 : mb < 2 ^ 31) (hb : HB LG C B hd cl) (H : ∀ F', Q none (GW LG gr B (daysF M cl n) F' ex hd C G z)) : WP V (cdT Ev) mx (d + 7) 59 [.ref (LG B), .int (nI n), .int (nI mb)] (GW LG gr B M F ex hd C G z) Q := by
  rw [e_59]
  simp only [s_59_0, s_59_1, ↓reduceIte, eq_self, rts_some, rts_none, nq_int, nq_ref, nq_null, nq_none, okr1_0, okr1_1, okr_b, List.length_nil, List.length_cons, Nat.zero_le, Nat.reduceAdd, Nat.reduceLeDiff, b2i_0, b2i_n0, b2i_1, b2i_n1, ite_not, if_true, if_false, not_true_eq_false, not_false_eq_true, true_and, and_true, false_and, and_false]
  exact c_goDays_l hg hk hS hB hmb hmb2 hb H n 0 (by omega) F
theorem c_beyond_l (hg : ∀ r, gr (LG r) = r) {c : Nat} (hk : WK M ex c) : ∀ m j, j + m = c → wp V (cdT Ev) mx d 53 4 [some (.ref (LG B)), some (.int (beF M j)), some (.int (nI j))] [] (GW LG gr B M F ex hd C G z) Q = Q (some (.int (beF M c))) (GW LG gr B M F ex hd C G z) := by
  have hc := hk.1
  have hc2 := hc.2
  intro m
  induction m with
  | zero =>
    intro j hj
    have : j = c := by omega
    subst this
    simp only [s_53_0, s_53_1, s_53_2, s_53_3, s_53_4, s_53_5, s_53_5_n, s_53_6, s_53_9, s_53_12, s_53_12_n, s_53_13, s_53_16, s_53_17, s_53_18, s_53_18_n, s_53_21, s_53_21_n, s_53_22, s_53_25, s_53_26, s_53_27, s_53_30, s_53_33, s_53_34, s_53_35, s_53_36, s_53_37, s_53_38, s_53_39, s_53_42, s_53_45, s_53_46, ↓reduceIte, eq_self, rts_some, rts_none, nq_int, nq_ref, nq_null, nq_none, okr1_0, okr1_1, okr_b, List.length_nil, List.length_cons, Nat.zero_le, Nat.reduceAdd, Nat.reduceLeDiff, b2i_0, b2i_n0, b2i_1, b2i_n1, ite_not, if_true, if_false, not_true_eq_false, not_false_eq_true, true_and, and_true, false_and, and_false, wg_2 hg, hc.1, Int32.le_refl]
  | succ m ih =>
    intro j hj
    have hj2 : j < c := by omega
    have hlt : (nI c ≤ nI j) = False := eq_false (nI_ge hj2 (by omega))
    rw [s_53_4]
    have ihj := ih (j + 1) (by omega)
    rcases (WK_P hk hj2).2.1 with h0 | h1
    · have e : beF M (j + 1) = beF M j := by
        show beF M j ||| (M (14 + 9 * j + 3) <<< (nI j &&& 31)) = _
        rw [h0, show (0 : Int32) <<< (nI j &&& 31) = 0 by apply Int32.toBitVec_inj.mp; simp, or_0]
      rw [e] at ihj
      simp only [s_53_0, s_53_1, s_53_2, s_53_3, s_53_5, s_53_5_n, s_53_6, s_53_9, s_53_12, s_53_12_n, s_53_13, s_53_16, s_53_17, s_53_18, s_53_18_n, s_53_21, s_53_21_n, s_53_22, s_53_25, s_53_26, s_53_27, s_53_30, s_53_33, s_53_34, s_53_35, s_53_36, s_53_37, s_53_38, s_53_39, s_53_42, s_53_45, s_53_46, ↓reduceIte, eq_self, rts_some, rts_none, nq_int, nq_ref, nq_null, nq_none, okr1_0, okr1_1, okr_b, List.length_nil, List.length_cons, Nat.zero_le, Nat.reduceAdd, Nat.reduceLeDiff, b2i_0, b2i_n0, b2i_1, b2i_n1, ite_not, if_true, if_false, not_true_eq_false, not_false_eq_true, true_and, and_true, false_and, and_false, wg_2 hg, hc.1, hlt, wg_1 hg, wpe hg, ix_nIT (show j < 6 by omega) (show 6 < 2 ^ 31 by decide), nI_clamp (show j < 2 ^ 31 by omega), WK_1 hk hj2, pg_4 hg (show j < 6 by omega) (WK_1 hk hj2), h0, nI_1]
      exact ihj
    · have e : beF M (j + 1) = beF M j ||| ((1 : Int32) <<< (nI j &&& 31)) := by
        show beF M j ||| (M (14 + 9 * j + 3) <<< (nI j &&& 31)) = _
        rw [h1]
      have z10 : ((1 : Int32) = 0) = False := by decide
      rw [e] at ihj
      simp only [s_53_0, s_53_1, s_53_2, s_53_3, s_53_5, s_53_5_n, s_53_6, s_53_9, s_53_12, s_53_12_n, s_53_13, s_53_16, s_53_17, s_53_18, s_53_18_n, s_53_21, s_53_21_n, s_53_22, s_53_25, s_53_26, s_53_27, s_53_30, s_53_33, s_53_34, s_53_35, s_53_36, s_53_37, s_53_38, s_53_39, s_53_42, s_53_45, s_53_46, ↓reduceIte, eq_self, rts_some, rts_none, nq_int, nq_ref, nq_null, nq_none, okr1_0, okr1_1, okr_b, List.length_nil, List.length_cons, Nat.zero_le, Nat.reduceAdd, Nat.reduceLeDiff, b2i_0, b2i_n0, b2i_1, b2i_n1, ite_not, if_true, if_false, not_true_eq_false, not_false_eq_true, true_and, and_true, false_and, and_false, wg_2 hg, hc.1, hlt, wg_1 hg, wpe hg, ix_nIT (show j < 6 by omega) (show 6 < 2 ^ 31 by decide), nI_clamp (show j < 2 ^ 31 by omega), WK_1 hk hj2, pg_4 hg (show j < 6 by omega) (WK_1 hk hj2), h1, z10, nI_1]
      exact ihj
theorem c_beyond (hg : ∀ r, gr (LG r) = r) {c : Nat} (hk : WK M ex c) : WP V (cdT Ev) mx (d + 1) 53 [.ref (LG B)] (GW LG gr B M F ex hd C G z) Q = Q (some (.int (beF M c))) (GW LG gr B M F ex hd C G z) := by
  rw [e_53]
  simp only [s_53_0, s_53_1, s_53_2, s_53_3, ↓reduceIte, eq_self, rts_some, rts_none, nq_int, nq_ref, nq_null, nq_none, okr1_0, okr1_1, okr_b, List.length_nil, List.length_cons, Nat.zero_le, Nat.reduceAdd, Nat.reduceLeDiff, b2i_0, b2i_n0, b2i_1, b2i_n1, ite_not, if_true, if_false, not_true_eq_false, not_false_eq_true, true_and, and_true, false_and, and_false]
  exact c_beyond_l hg hk c 0 (by omega)
theorem c_allBack_l (hg : ∀ r, gr (LG r) = r) {c : Nat} (hk : WK M ex c) : ∀ m j, j + m = c → wp V (cdT Ev) mx d 54 4 [some (.ref (LG B)), some (.int (bkF M j)), some (.int (nI j))] [] (GW LG gr B M F ex hd C G z) Q = Q (some (.int (bkF M c))) (GW LG gr B M F ex hd C G z) := by
  have hc := hk.1
  have hc2 := hc.2
  intro m
  induction m with
  | zero =>
    intro j hj
    have : j = c := by omega
    subst this
    simp only [s_54_0, s_54_1, s_54_2, s_54_3, s_54_4, s_54_5, s_54_5_n, s_54_6, s_54_9, s_54_12, s_54_12_n, s_54_13, s_54_16, s_54_17, s_54_18, s_54_18_n, s_54_21, s_54_22, s_54_22_n, s_54_23, s_54_26, s_54_27, s_54_28, s_54_31, s_54_32, s_54_33, s_54_36, s_54_39, s_54_40, ↓reduceIte, eq_self, rts_some, rts_none, nq_int, nq_ref, nq_null, nq_none, okr1_0, okr1_1, okr_b, List.length_nil, List.length_cons, Nat.zero_le, Nat.reduceAdd, Nat.reduceLeDiff, b2i_0, b2i_n0, b2i_1, b2i_n1, ite_not, if_true, if_false, not_true_eq_false, not_false_eq_true, true_and, and_true, false_and, and_false, wg_2 hg, hc.1, Int32.le_refl]
  | succ m ih =>
    intro j hj
    have hj2 : j < c := by omega
    have hlt : (nI c ≤ nI j) = False := eq_false (nI_ge hj2 (by omega))
    rw [s_54_4]
    have ihj := ih (j + 1) (by omega)
    simp only [s_54_0, s_54_1, s_54_2, s_54_3, s_54_5, s_54_5_n, s_54_6, s_54_9, s_54_12, s_54_12_n, s_54_13, s_54_16, s_54_17, s_54_18, s_54_18_n, s_54_21, s_54_22, s_54_22_n, s_54_23, s_54_26, s_54_27, s_54_28, s_54_31, s_54_32, s_54_33, s_54_36, s_54_39, s_54_40, ↓reduceIte, eq_self, rts_some, rts_none, nq_int, nq_ref, nq_null, nq_none, okr1_0, okr1_1, okr_b, List.length_nil, List.length_cons, Nat.zero_le, Nat.reduceAdd, Nat.reduceLeDiff, b2i_0, b2i_n0, b2i_1, b2i_n1, ite_not, if_true, if_false, not_true_eq_false, not_false_eq_true, true_and, and_true, false_and, and_false, wg_2 hg, hc.1, hlt, wg_1 hg, wpe hg, ix_nIT (show j < 6 by omega) (show 6 < 2 ^ 31 by decide), nI_clamp (show j < 2 ^ 31 by omega), WK_1 hk hj2, pg_5 hg (show j < 6 by omega) (WK_1 hk hj2), nI_1]
    exact ihj
theorem c_allBack (hg : ∀ r, gr (LG r) = r) {c : Nat} (hk : WK M ex c) : WP V (cdT Ev) mx (d + 1) 54 [.ref (LG B)] (GW LG gr B M F ex hd C G z) Q = Q (some (.int (bkF M c))) (GW LG gr B M F ex hd C G z) := by
  rw [e_54]
  simp only [s_54_0, s_54_1, s_54_2, s_54_3, ↓reduceIte, eq_self, rts_some, rts_none, nq_int, nq_ref, nq_null, nq_none, okr1_0, okr1_1, okr_b, List.length_nil, List.length_cons, Nat.zero_le, Nat.reduceAdd, Nat.reduceLeDiff, b2i_0, b2i_n0, b2i_1, b2i_n1, ite_not, if_true, if_false, not_true_eq_false, not_false_eq_true, true_and, and_true, false_and, and_false]
  exact c_allBack_l hg hk c 0 (by omega)
theorem c_heardW_l (hg : ∀ r, gr (LG r) = r) (hW : WO M) : ∀ m j, j + m = 12 → wp V (cdT Ev) mx d 55 4 [some (.ref (LG B)), some (.int (nI (meN M (M 13) j))), some (.int (nI j))] [] (GW LG gr B M F ex hd C G z) Q = Q (some (.int (nI (meN M (M 13) 12)))) (GW LG gr B M F ex hd C G z) := by
  intro m
  induction m with
  | zero =>
    intro j hj
    have : j = 12 := by omega
    subst this
    simp only [s_55_0, s_55_1, s_55_2, s_55_3, s_55_4, s_55_5, s_55_7, s_55_10, s_55_10_n, s_55_11, s_55_14, s_55_15, s_55_16, s_55_17, s_55_18, s_55_19, s_55_22, s_55_23, s_55_23_n, s_55_24, s_55_27, s_55_28, s_55_29, s_55_30, s_55_31, s_55_34, s_55_37, s_55_38, ↓reduceIte, eq_self, rts_some, rts_none, nq_int, nq_ref, nq_null, nq_none, okr1_0, okr1_1, okr_b, List.length_nil, List.length_cons, Nat.zero_le, Nat.reduceAdd, Nat.reduceLeDiff, b2i_0, b2i_n0, b2i_1, b2i_n1, ite_not, if_true, if_false, not_true_eq_false, not_false_eq_true, true_and, and_true, false_and, and_false, show ((12 : Int32) ≤ nI 12) = True from by decide]
  | succ m ih =>
    intro j hj
    have hj2 : j < 12 := by omega
    have hlt : ((12 : Int32) ≤ nI j) = False := eq_false (nI_ge hj2 (by decide))
    rw [s_55_4]
    have ihj := ih (j + 1) (by omega)
    obtain ⟨v, hv, ev⟩ := hW j hj2
    by_cases hb : bt (M 13) j = 1
    · have hb1 : (M 13 >>> (nI j &&& 31) &&& 1 = 1) = True := eq_true hb
      have e : nI (meN M (M 13) (j + 1)) = nI (meN M (M 13) j) + nI v := by
        show nI (meN M (M 13) j + (if bt (M 13) j = 1 then (M j).toNatClampNeg else 0)) = _
        rw [if_pos hb, ev, nI_clamp (by omega), nI_add]
      rw [e] at ihj
      simp only [s_55_0, s_55_1, s_55_2, s_55_3, s_55_5, s_55_7, s_55_10, s_55_10_n, s_55_11, s_55_14, s_55_15, s_55_16, s_55_17, s_55_18, s_55_19, s_55_22, s_55_23, s_55_23_n, s_55_24, s_55_27, s_55_28, s_55_29, s_55_30, s_55_31, s_55_34, s_55_37, s_55_38, ↓reduceIte, eq_self, rts_some, rts_none, nq_int, nq_ref, nq_null, nq_none, okr1_0, okr1_1, okr_b, List.length_nil, List.length_cons, Nat.zero_le, Nat.reduceAdd, Nat.reduceLeDiff, b2i_0, b2i_n0, b2i_1, b2i_n1, ite_not, if_true, if_false, not_true_eq_false, not_false_eq_true, true_and, and_true, false_and, and_false, hlt, wg_4 hg, hb1, wg_0 hg, wa_1 hg, ix_nIT hj2 (show 12 < 2 ^ 31 by decide), nI_clamp (show j < 2 ^ 31 by omega), ev, nI_1]
      exact ihj
    · have hb1 : (M 13 >>> (nI j &&& 31) &&& 1 = 1) = False := eq_false hb
      have e : nI (meN M (M 13) (j + 1)) = nI (meN M (M 13) j) := by
        show nI (meN M (M 13) j + (if bt (M 13) j = 1 then (M j).toNatClampNeg else 0)) = _
        rw [if_neg hb, Nat.add_zero]
      rw [e] at ihj
      simp only [s_55_0, s_55_1, s_55_2, s_55_3, s_55_5, s_55_7, s_55_10, s_55_10_n, s_55_11, s_55_14, s_55_15, s_55_16, s_55_17, s_55_18, s_55_19, s_55_22, s_55_23, s_55_23_n, s_55_24, s_55_27, s_55_28, s_55_29, s_55_30, s_55_31, s_55_34, s_55_37, s_55_38, ↓reduceIte, eq_self, rts_some, rts_none, nq_int, nq_ref, nq_null, nq_none, okr1_0, okr1_1, okr_b, List.length_nil, List.length_cons, Nat.zero_le, Nat.reduceAdd, Nat.reduceLeDiff, b2i_0, b2i_n0, b2i_1, b2i_n1, ite_not, if_true, if_false, not_true_eq_false, not_false_eq_true, true_and, and_true, false_and, and_false, hlt, wg_4 hg, hb1, nI_1]
      exact ihj
theorem c_heardW (hg : ∀ r, gr (LG r) = r) (hW : WO M) : WP V (cdT Ev) mx (d + 1) 55 [.ref (LG B)] (GW LG gr B M F ex hd C G z) Q = Q (some (.int (nI (meN M (M 13) 12)))) (GW LG gr B M F ex hd C G z) := by
  rw [e_55]
  simp only [s_55_0, s_55_1, s_55_2, s_55_3, ↓reduceIte, eq_self, rts_some, rts_none, nq_int, nq_ref, nq_null, nq_none, okr1_0, okr1_1, okr_b, List.length_nil, List.length_cons, Nat.zero_le, Nat.reduceAdd, Nat.reduceLeDiff, b2i_0, b2i_n0, b2i_1, b2i_n1, ite_not, if_true, if_false, not_true_eq_false, not_false_eq_true, true_and, and_true, false_and, and_false]
  exact c_heardW_l hg hW 12 0 rfl
end
