/-! A world becomes like another, whole: the class. -/
def cpQ (M M2 : Nat → Int32) (j : Nat) : Nat → Int32 := fun k => if 14 ≤ k ∧ k < 14 + 9 * j then M2 k else M k
theorem cpQ_s {M M2 : Nat → Int32} {j : Nat} : cpP (cpQ M M2 j) M2 j = cpQ M M2 (j + 1) := by
  funext k
  unfold cpP cpQ
  by_cases h1 : 14 + 9 * j ≤ k ∧ k < 14 + 9 * j + 9
  · rw [if_pos h1, if_pos (by omega)]
  · rw [if_neg h1]
    by_cases h2 : 14 ≤ k ∧ k < 14 + 9 * j
    · rw [if_pos h2, if_pos (by omega)]
    · rw [if_neg h2, if_neg (by omega)]
theorem cpQ_0 {M M2 : Nat → Int32} : cpQ M M2 0 = M := by
  funext k
  unfold cpQ
  rw [if_neg (by omega)]
def exQ (ex : Nat → Bool) (j : Nat) : Nat → Bool := fun q => if q < j then true else ex q
theorem exQ_s {ex : Nat → Bool} {j : Nat} : ex1 (exQ ex j) j = exQ ex (j + 1) := by
  funext q
  unfold ex1 exQ
  by_cases h1 : q = j
  · rw [if_pos h1, if_pos (by omega)]
  · rw [if_neg h1]
    by_cases h2 : q < j
    · rw [if_pos h2, if_pos (by omega)]
    · rw [if_neg h2, if_neg (by omega)]
theorem exQ_0 {ex : Nat → Bool} : exQ ex 0 = ex := by
  funext q
  unfold exQ
  rw [if_neg (by omega)]
/-- the same world, as far as it is alive -/
def SM (M' M : Nat → Int32) (c k1 k2 k3 : Nat) : Prop := (∀ k, k < 14 → M' k = M k) ∧ (∀ i, i < c → ∀ w, w < 9 → M' (14 + 9 * i + w) = M (14 + 9 * i + w)) ∧ M' 68 = M 68 ∧ M' 69 = M 69 ∧ M' 71 = M 71 ∧ M' 82 = M 82 ∧ M' 103 = M 103 ∧ (∀ r, r < k1 → M' (72 + 2 * r) = M (72 + 2 * r) ∧ M' (73 + 2 * r) = M (73 + 2 * r)) ∧ (∀ r, r < k2 → M' (83 + 2 * r) = M (83 + 2 * r) ∧ M' (84 + 2 * r) = M (84 + 2 * r)) ∧ (∀ r, r < k3 → M' (104 + 2 * r) = M (104 + 2 * r) ∧ M' (105 + 2 * r) = M (105 + 2 * r))
section
variable {LG gr : Nat → Nat} {B : Nat} {M F : Nat → Int32} {ex : Nat → Bool} {hd : Option Nat} {C G : Nat → Option AE} {z : Nat × Nat}
theorem wcl_w {M' : Nat → Int32} (h : ∀ k, 12 ≤ k → M' k = M k) {j : Nat} (hj : j ≠ 1) (hj2 : j < 25) : wcl LG B M' F ex hd j = wcl LG B M F ex hd j := by
  match j, hj2 with
  | 0, _ => simp only [wcl, h 68 (by omega), h 12 (by omega), h 13 (by omega), h 69 (by omega)]
  | 1, _ => exact absurd rfl hj
  | 2, _ => rfl
  | 3, _ => simp only [wcl, h 71 (by omega)]
  | 4, _ =>
    simp only [wcl]
    rw [ca_cg (fun r hr => h _ (by omega))]
  | 5, _ =>
    simp only [wcl]
    rw [ca_cg (fun r hr => h _ (by omega))]
  | 6, _ => simp only [wcl, h 82 (by omega)]
  | 7, _ =>
    simp only [wcl]
    rw [ca_cg (fun r hr => h _ (by omega))]
  | 8, _ =>
    simp only [wcl]
    rw [ca_cg (fun r hr => h _ (by omega))]
  | 9, _ => simp only [wcl, h 103 (by omega)]
  | 10, _ =>
    simp only [wcl]
    rw [ca_cg (fun r hr => h _ (by omega))]
  | 11, _ =>
    simp only [wcl]
    rw [ca_cg (fun r hr => h _ (by omega))]
  | 12, _ => rfl
  | j + 13, hj2 => exact wcl_hi (by omega) (fun w hw => h _ (by omega))
end
section
variable {V : Nat → Option AE} {Ev : Nat → Value} {d : Nat} {Q : Option Value → HS → Prop}
variable {B : Nat} {F : Nat → Int32} {hd : Option Nat} {C : Nat → Option AE}
variable {B2 : Nat} {M2 F2 : Nat → Int32} {ex2 : Nat → Bool} {hd2 : Option Nat}
theorem c_like_l {BIG c : Nat} (hD : B2 + 25 ≤ B ∨ B + 25 ≤ B2) (hh : ∀ r, hd = some r → r + 5 ≤ B ∨ B + 25 ≤ r) (hh2 : ∀ r, hd2 = some r → r + 5 ≤ B ∨ B + 25 ≤ r) (hk : WK M2 ex2 c) {M : Nat → Int32} {ex : Nat → Bool} : ∀ m j, j + m = c → ∀ (LG gr : Nat → Nat) (G : Nat → Option AE) (z : Nat × Nat), LV LG gr (WC LG B (cpQ M M2 j) F (exQ ex j) hd C) z BIG → z.1 + 2 * m ≤ BIG → OW LG C B2 M2 F2 ex2 hd2 → (∀ LG' gr' G' z', LGx B LG LG' → LV LG' gr' (WC LG' B (cpQ M M2 c) F (exQ ex c) hd C) z' BIG → (∀ S, GN S LG G z → GN S LG' G' z') → z'.1 ≤ z.1 + 2 * m → z'.2 ≤ z.2 + 11 * m → wp V (cdT Ev) mx (d + 5) 49 42 [some (.ref (LG' B)), some (.ref (LG' B2)), some (.int (nI c))] [] (GW LG' gr' B (cpQ M M2 c) F (exQ ex c) hd C G' z') Q) → wp V (cdT Ev) mx (d + 5) 49 17 [some (.ref (LG B)), some (.ref (LG B2)), some (.int (nI j))] [] (GW LG gr B (cpQ M M2 j) F (exQ ex j) hd C G z) Q := by
  have hc2 := hk.1.2
  intro m
  induction m with
  | zero =>
    intro j hj LG gr G z hL hz hO H
    have : j = c := by omega
    subst this
    have hg := hL.1
    rw [s_49_17]
    simp only [s_49_18, s_49_19, s_49_22, ↓reduceIte, eq_self, rts_some, rts_none, nq_int, nq_ref, nq_null, nq_none, okr1_0, okr1_1, okr_b, List.length_nil, List.length_cons, Nat.zero_le, Nat.reduceAdd, Nat.reduceLeDiff, b2i_0, b2i_n0, b2i_1, b2i_n1, ite_not, if_true, if_false, not_true_eq_false, not_false_eq_true, true_and, and_true, false_and, and_false, xg_2 hg hD hO, hk.1.1, Int32.le_refl]
    exact H LG gr G z LGx_refl hL (fun _ h => h) (by omega) (by omega)
  | succ m ih =>
    intro j hj LG gr G z hL hz hO H
    have hg := hL.1
    have hj2 : j < c := by omega
    have hlt : (nI c ≤ nI j) = False := eq_false (nI_ge hj2 (by omega))
    rw [s_49_17]
    simp only [s_49_0, s_49_0_n, s_49_1, s_49_4, s_49_5, s_49_5_n, s_49_6, s_49_9, s_49_10, s_49_12, s_49_15, s_49_16, s_49_18, s_49_18_n, s_49_19, s_49_22, s_49_25, s_49_25_n, s_49_26, s_49_26_n, s_49_27, s_49_30, s_49_31, s_49_32, s_49_33, s_49_36, s_49_39, s_49_43, s_49_43_n, s_49_44, s_49_47, s_49_50, s_49_50_n, s_49_51, s_49_51_n, s_49_52, s_49_55, s_49_58, s_49_58_n, s_49_59, s_49_59_n, s_49_60, s_49_63, s_49_66, s_49_66_n, s_49_67, s_49_67_n, s_49_68, s_49_71, s_49_74, s_49_74_n, s_49_75, s_49_78, s_49_78_n, s_49_79, s_49_82, s_49_85, s_49_85_n, s_49_86, s_49_89, s_49_89_n, s_49_90, s_49_93, s_49_96, s_49_96_n, s_49_97, s_49_100, s_49_100_n, s_49_101, s_49_104, s_49_107, s_49_107_n, s_49_108, s_49_108_n, s_49_109, s_49_112, s_49_115, ↓reduceIte, eq_self, rts_some, rts_none, nq_int, nq_ref, nq_null, nq_none, okr1_0, okr1_1, okr_b, List.length_nil, List.length_cons, Nat.zero_le, Nat.reduceAdd, Nat.reduceLeDiff, b2i_0, b2i_n0, b2i_1, b2i_n1, ite_not, if_true, if_false, not_true_eq_false, not_false_eq_true, true_and, and_true, false_and, and_false, xg_2 hg hD hO, hk.1.1, hlt, xg_1 hg hD hO, xpe hg hD hO, ix_nIT (show j < 6 by omega) (show 6 < 2 ^ 31 by decide), nI_clamp (show j < 2 ^ 31 by omega), WK_1 hk hj2, wcv hg]
    refine c_copyOne hL (by omega) hD hO hh hh2 (by omega) (WK_1 hk hj2) (WK_P hk hj2) (fun LG' gr' G' z' hx hL' gn z1 z2 => ?_)
    rw [cpQ_s, exQ_s] at hL' ⊢
    simp only [s_49_0, s_49_0_n, s_49_1, s_49_4, s_49_5, s_49_5_n, s_49_6, s_49_9, s_49_10, s_49_12, s_49_15, s_49_16, s_49_18, s_49_18_n, s_49_19, s_49_22, s_49_25, s_49_25_n, s_49_26, s_49_26_n, s_49_27, s_49_30, s_49_31, s_49_32, s_49_33, s_49_36, s_49_39, s_49_43, s_49_43_n, s_49_44, s_49_47, s_49_50, s_49_50_n, s_49_51, s_49_51_n, s_49_52, s_49_55, s_49_58, s_49_58_n, s_49_59, s_49_59_n, s_49_60, s_49_63, s_49_66, s_49_66_n, s_49_67, s_49_67_n, s_49_68, s_49_71, s_49_74, s_49_74_n, s_49_75, s_49_78, s_49_78_n, s_49_79, s_49_82, s_49_85, s_49_85_n, s_49_86, s_49_89, s_49_89_n, s_49_90, s_49_93, s_49_96, s_49_96_n, s_49_97, s_49_100, s_49_100_n, s_49_101, s_49_104, s_49_107, s_49_107_n, s_49_108, s_49_108_n, s_49_109, s_49_112, s_49_115, ↓reduceIte, eq_self, rts_some, rts_none, nq_int, nq_ref, nq_null, nq_none, okr1_0, okr1_1, okr_b, List.length_nil, List.length_cons, Nat.zero_le, Nat.reduceAdd, Nat.reduceLeDiff, b2i_0, b2i_n0, b2i_1, b2i_n1, ite_not, if_true, if_false, not_true_eq_false, not_false_eq_true, true_and, and_true, false_and, and_false, nI_1]
    rw [← hx B (by omega), ← hx B2 (by omega)]
    refine ih (j + 1) (by omega) LG' gr' G' z' hL' (by omega) (OW_x hx hD hh2 hO) (fun LG2 gr2 G2 z2' hx2 hL2 gn2 z3 z4 => ?_)
    exact H LG2 gr2 G2 z2' (LGx_trans hx hx2) hL2 (fun S h => gn2 S (gn S h)) (by omega) (by omega)
theorem c_like {BIG c k1 k2 k3 : Nat} {LG gr : Nat → Nat} {G : Nat → Option AE} {z : Nat × Nat} {M : Nat → Int32} {ex : Nat → Bool} (hL : LV LG gr (WC LG B M F ex hd C) z BIG) (hz : z.1 + 12 ≤ BIG) (hD : B2 + 25 ≤ B ∨ B + 25 ≤ B2) (hO : OW LG C B2 M2 F2 ex2 hd2) (hh : ∀ r, hd = some r → r + 5 ≤ B ∨ B + 25 ≤ r) (hh2 : ∀ r, hd2 = some r → r + 5 ≤ B ∨ B + 25 ≤ r) (hk : WK M2 ex2 c) (h1 : M2 71 = nI k1) (k15 : k1 ≤ 5) (h2 : M2 82 = nI k2) (k210 : k2 ≤ 10) (h3 : M2 103 = nI k3) (k38 : k3 ≤ 8) (H : ∀ LG' gr' G' z' M', LGx B LG LG' → LV LG' gr' (WC LG' B M' F (exQ ex c) hd2 C) z' BIG → (∀ S, GN S LG G z → GN S LG' G' z') → z'.1 ≤ z.1 + 12 → z'.2 ≤ z.2 + 66 → SM M' M2 c k1 k2 k3 → Q none (GW LG' gr' B M' F (exQ ex c) hd2 C G' z')) : WP V (cdT Ev) mx (d + 6) 49 [.ref (LG B), .ref (LG B2)] (GW LG gr B M F ex hd C G z) Q := by
  have hg := hL.1
  have hc2 := hk.1.2
  have ec : va_up (WC LG B M F ex hd C) (B + 1) (some (.inl (2, 12, .inl (va_cpy (ca 0 1 12 M2) (ca 0 1 12 M) 0 0 12)))) = WC LG B (cpN 12 M2 M) F ex hd C := by
    refine WC_set (k := 1) (by decide) ?_ (fun j hj hj25 => wcl_w (fun k hk => if_neg (by omega)) hj hj25)
    simp only [wcl]
    have e2 : ca 0 1 12 (cpN 12 M2 M) = va_cpy (ca 0 1 12 M2) (ca 0 1 12 M) 0 0 12 := by
      funext r
      by_cases hr : r < 12
      · rw [pk_cpy_in (by omega) (by omega), ca_at hr, ca_at (by omega)]
        rw [show 0 + 1 * r = r by omega, show 0 + 1 * (0 + (r - 0)) = r by omega]
        exact if_pos hr
      · rw [pk_cpy_out (by omega)]
        unfold ca
        rw [if_neg hr, if_neg hr]
    rw [e2]
  have hcp : ∀ K : HS → Prop, ci2 (GW LG gr B M F ex hd C G z) (LG (B2 + 1)) (LG (B + 1)) 12 0 0 K = K (GW LG gr B (cpN 12 M2 M) F ex hd C G z) := by
    intro K
    rw [r_ci2 hg (ow_k hD hO (k := 1) (by decide)) (WC_k 1 (by decide))]
    simp only [cl_0, cl_12]
    rw [ec]
    exact propext ⟨fun h => h.2, fun h => ⟨by decide, h⟩⟩
  rw [e_49]
  simp only [s_49_0, s_49_1, s_49_4, s_49_5, s_49_6, s_49_9, s_49_10, s_49_12, s_49_15, s_49_16, ↓reduceIte, eq_self, rts_some, rts_none, nq_int, nq_ref, nq_null, nq_none, okr1_0, okr1_1, okr_b, List.length_nil, List.length_cons, Nat.zero_le, Nat.reduceAdd, Nat.reduceLeDiff, b2i_0, b2i_n0, b2i_1, b2i_n1, ite_not, if_true, if_false, not_true_eq_false, not_false_eq_true, true_and, and_true, false_and, and_false, xg_0 hg hD hO, wg_0 hg, hcp]
  have hL0 : LV LG gr (WC LG B (cpQ (cpN 12 M2 M) M2 0) F (exQ ex 0) hd C) z BIG := by
    rw [cpQ_0, exQ_0]
    exact LV_dom (fun j hj _ => if_neg (by omega)) hL
  have lp := c_like_l (V := V) (Ev := Ev) (d := d) (Q := Q) (F := F) (hd := hd) (M := cpN 12 M2 M) (ex := ex) hD hh hh2 hk c 0 (by omega) LG gr G z hL0 (by omega) hO (fun LG' gr' G' z' hx hL' gn z1 z2 => by
    have hg' := hL'.1
    have hO' := OW_x hx hD hh2 hO
    have hrv : ∀ K : HS → Prop, ∀ (M : Nat → Int32) (ex : Nat → Bool), pf [10] 9 2 (rfv LG' hd2) (GW LG' gr' B M F ex hd C G' z') (LG' B) K = K (GW LG' gr' B M F ex hd2 C G' z') := fun K M ex => wp_9 hg'
    simp only [s_49_0, s_49_0_n, s_49_1, s_49_4, s_49_5, s_49_5_n, s_49_6, s_49_9, s_49_10, s_49_12, s_49_15, s_49_16, s_49_18, s_49_18_n, s_49_19, s_49_22, s_49_25, s_49_25_n, s_49_26, s_49_26_n, s_49_27, s_49_30, s_49_31, s_49_32, s_49_33, s_49_36, s_49_39, s_49_42, s_49_42_n, s_49_43, s_49_43_n, s_49_44, s_49_47, s_49_50, s_49_50_n, s_49_51, s_49_51_n, s_49_52, s_49_55, s_49_58, s_49_58_n, s_49_59, s_49_59_n, s_49_60, s_49_63, s_49_66, s_49_66_n, s_49_67, s_49_67_n, s_49_68, s_49_71, s_49_74, s_49_74_n, s_49_75, s_49_78, s_49_78_n, s_49_79, s_49_82, s_49_85, s_49_85_n, s_49_86, s_49_89, s_49_89_n, s_49_90, s_49_93, s_49_96, s_49_96_n, s_49_97, s_49_100, s_49_100_n, s_49_101, s_49_104, s_49_107, s_49_107_n, s_49_108, s_49_108_n, s_49_109, s_49_112, s_49_115, ↓reduceIte, eq_self, rts_some, rts_none, nq_int, nq_ref, nq_null, nq_none, okr1_0, okr1_1, okr_b, List.length_nil, List.length_cons, Nat.zero_le, Nat.reduceAdd, Nat.reduceLeDiff, b2i_0, b2i_n0, b2i_1, b2i_n1, ite_not, if_true, if_false, not_true_eq_false, not_false_eq_true, true_and, and_true, false_and, and_false, xg_2 hg' hD hO', xg_3 hg' hD hO', xg_4 hg' hD hO', xg_5 hg' hD hO', xg_6 hg' hD hO', xg_7 hg' hD hO', xg_8 hg' hD hO', xg_9 hg' hD hO', wp_2 hg', wp_3 hg', wp_4 hg', wp_5 hg', wg_6 hg', wg_7 hg', wg_8 hg', wrc_3 hg', wrc_6 hg', wrc_9 hg', c_rbl_3 hg' hD hO' k15 h1, c_rbl_6 hg' hD hO' k210 h2, c_rbl_9 hg' hD hO' k38 h3, hrv]
    refine H LG' gr' G' z' _ hx (LV_dom (fun j hj hj2 => ?_) hL') gn (by omega) (by omega) ?_
    · unfold cpR
      rw [if_neg (by omega), if_neg (by omega), if_neg (by omega), if_neg (by omega), if_neg (by omega), if_neg (by omega), pk_un (by omega), pk_un (by omega), pk_un (by omega), pk_un (by omega)]
    · unfold SM cpR
      refine ⟨fun k hk => ?_, fun i hi w hw => ?_, ?_, ?_, ?_, ?_, ?_, fun r hr => ⟨?_, ?_⟩, fun r hr => ⟨?_, ?_⟩, fun r hr => ⟨?_, ?_⟩⟩
      · rw [if_neg (by omega), if_neg (by omega), if_neg (by omega), if_neg (by omega), if_neg (by omega), if_neg (by omega)]
        simp only [upd]
        by_cases e13 : k = 13
        · rw [if_neg (by omega), if_pos e13, e13]
        · by_cases e12 : k = 12
          · rw [if_neg (by omega), if_neg e13, if_pos e12, e12]
          · rw [if_neg (by omega), if_neg e13, if_neg e12, if_neg (by omega)]
            unfold cpQ cpN
            rw [if_neg (by omega), if_pos (by omega)]
      · rw [if_neg (by omega), if_neg (by omega), if_neg (by omega), if_neg (by omega), if_neg (by omega), if_neg (by omega), pk_un (by omega), pk_un (by omega), pk_un (by omega), pk_un (by omega)]
        unfold cpQ
        rw [if_pos (by omega)]
      · rfl
      · rfl
      · rw [if_neg (by omega), if_neg (by omega), if_neg (by omega), if_neg (by omega), if_neg (by omega), if_pos rfl, h1]
      · rw [if_neg (by omega), if_neg (by omega), if_neg (by omega), if_pos rfl, h2]
      · rw [if_neg (by omega), if_pos rfl, h3]
      · rw [if_neg (by omega), if_neg (by omega), if_neg (by omega), if_neg (by omega), if_pos (by omega)]
      · rw [if_neg (by omega), if_neg (by omega), if_neg (by omega), if_neg (by omega), if_pos (by omega)]
      · rw [if_neg (by omega), if_neg (by omega), if_pos (by omega)]
      · rw [if_neg (by omega), if_neg (by omega), if_pos (by omega)]
      · rw [if_pos (by omega)]
      · rw [if_pos (by omega)])
  rw [cpQ_0, exQ_0] at lp
  exact lp
end
