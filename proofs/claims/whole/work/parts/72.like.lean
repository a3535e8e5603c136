/-! A world becomes like another: the class. -/
theorem wcl_LG {LG LG' : Nat → Nat} {B : Nat} {M F : Nat → Int32} {ex : Nat → Bool} {hd : Option Nat} (h : ∀ q, q < 25 → LG' (B + q) = LG (B + q)) (hh : ∀ r, hd = some r → LG' r = LG r) {k : Nat} (hk : k < 25) : wcl LG' B M F ex hd k = wcl LG B M F ex hd k := by
  match k, hk with
  | 0, _ =>
    have hr : rfv LG' hd = rfv LG hd := by
      cases hd with
      | none => rfl
      | some r =>
        show Value.ref _ = Value.ref _
        rw [hh r rfl]
    simp only [wcl, h 1 (by decide), h 2 (by decide), h 3 (by decide), h 6 (by decide), h 9 (by decide), h 12 (by decide), hr]
  | 1, _ => rfl
  | 2, _ =>
    have e : (fun i => if i < 6 ∧ ex i = true then some (LG' (B + 13 + i)) else none) = (fun i => if i < 6 ∧ ex i = true then some (LG (B + 13 + i)) else none) := by
      funext i
      by_cases hi : i < 6 ∧ ex i = true
      · rw [if_pos hi, if_pos hi, show B + 13 + i = B + (13 + i) by omega, h (13 + i) (by omega)]
      · rw [if_neg hi, if_neg hi]
    simp only [wcl, e]
  | 3, _ => simp only [wcl, h 4 (by decide), h 5 (by decide)]
  | 4, _ => rfl
  | 5, _ => rfl
  | 6, _ => simp only [wcl, h 7 (by decide), h 8 (by decide)]
  | 7, _ => rfl
  | 8, _ => rfl
  | 9, _ => simp only [wcl, h 10 (by decide), h 11 (by decide)]
  | 10, _ => rfl
  | 11, _ => rfl
  | 12, _ => rfl
  | j + 13, hk =>
    simp only [wcl]
    by_cases h6 : j < 6
    · rw [if_pos h6, if_pos h6]
      simp only [pfs]
      rw [show B + 19 + j = B + (19 + j) by omega, h (19 + j) (by omega)]
    · rw [if_neg h6, if_neg h6]
/-- roles but for the people of the world at B lie as they did -/
def LGx (B : Nat) (LG LG' : Nat → Nat) : Prop := ∀ r, (r < B + 13 ∨ B + 25 ≤ r) → LG' r = LG r
theorem LGx_refl {B : Nat} {LG : Nat → Nat} : LGx B LG LG := fun _ _ => rfl
theorem LGx_trans {B : Nat} {a b c : Nat → Nat} (h : LGx B a b) (g : LGx B b c) : LGx B a c := fun r hr => (g r hr).trans (h r hr)
theorem LGx_1 {B i K a : Nat} {LG : Nat → Nat} (hi : i < 6) : LGx B LG (LG1 LG B i K a) := fun r hr => LG1_o (by omega) (by omega)
theorem OW_x {B B2 : Nat} {LG LG' : Nat → Nat} {C : Nat → Option AE} {M2 F2 : Nat → Int32} {ex2 : Nat → Bool} {hd2 : Option Nat} (hx : LGx B LG LG') (hD : B2 + 25 ≤ B ∨ B + 25 ≤ B2) (hh2 : ∀ r, hd2 = some r → r + 5 ≤ B ∨ B + 25 ≤ r) (hO : OW LG C B2 M2 F2 ex2 hd2) : OW LG' C B2 M2 F2 ex2 hd2 := fun k hk => (hO k hk).trans (wcl_LG (fun q hq => hx _ (by omega)) (fun r hr => hx _ (by have := hh2 r hr; omega)) hk).symm
def nuM (M : Nat → Int32) (i K : Nat) : Nat → Int32 := fun k => if k = 14 + 9 * i + 0 then nI K else if 14 + 9 * i ≤ k ∧ k < 14 + 9 * i + 9 then 0 else M k
theorem nuM_NU {M : Nat → Int32} {i K : Nat} : NU M (nuM M i K) i K 0 0 := by
  unfold NU nuM
  refine ⟨if_pos rfl, ?_, ?_, ?_, ?_, fun _ w hw => ?_, fun k hk => ?_⟩
  · rw [if_neg (by omega), if_pos (by omega)]
  · rw [if_neg (by omega), if_pos (by omega)]
  · rw [if_neg (by omega), if_pos (by omega)]
  · rw [if_neg (by omega), if_pos (by omega)]
  · rw [if_neg (by omega), if_pos (by omega)]
  · rw [if_neg (by omega), if_neg (by omega)]
theorem cpP_nu {M M2 : Nat → Int32} {i K : Nat} : cpP (nuM M i K) M2 i = cpP M M2 i := by
  funext k
  unfold cpP
  by_cases h : 14 + 9 * i ≤ k ∧ k < 14 + 9 * i + 9
  · rw [if_pos h, if_pos h]
  · rw [if_neg h, if_neg h]
    unfold nuM
    rw [if_neg (by omega), if_neg h]
section
variable {V : Nat → Option AE} {Ev : Nat → Value} {d : Nat} {Q : Option Value → HS → Prop}
variable {LG gr : Nat → Nat} {B : Nat} {M F : Nat → Int32} {ex : Nat → Bool} {hd : Option Nat} {C G : Nat → Option AE} {z : Nat × Nat}
variable {B2 : Nat} {M2 F2 : Nat → Int32} {ex2 : Nat → Bool} {hd2 : Option Nat}
theorem c_pbl (hg : ∀ r, gr (LG r) = r) (hD : B2 + 25 ≤ B ∨ B + 25 ≤ B2) (hO : OW LG C B2 M2 F2 ex2 hd2) {i : Nat} (hi : i < 6) (he : ex i = true) (he2 : ex2 i = true) (hP : P1 M2 i) (h0 : M (14 + 9 * i + 0) = M2 (14 + 9 * i + 0)) : cv [(1, 25), (2, 25), (3, 25), (4, 25), (5, 25), (6, 25), (8, 42)] (GW LG gr B M F ex hd C G z) (LG (B + 13 + i)) (fun y => WP V (cdT Ev) mx (d + 2) y [.ref (LG (B + 13 + i)), .ref (LG (B2 + 13 + i))] (GW LG gr B M F ex hd C G z) Q) = Q none (GW LG gr B (cpP M M2 i) F ex hd C G z) := by
  rw [pcv hg hi he]
  by_cases h6 : M (14 + 9 * i + 0) = 6
  · rw [h6]
    exact c_tbl hg hD hO hi he he2 hP h6 (h0.symm.trans h6)
  · have e : cvk [(1, 25), (2, 25), (3, 25), (4, 25), (5, 25), (6, 25), (8, 42)] (M (14 + 9 * i + 0)) (fun y => WP V (cdT Ev) mx (d + 2) y [.ref (LG (B + 13 + i)), .ref (LG (B2 + 13 + i))] (GW LG gr B M F ex hd C G z) Q) = WP V (cdT Ev) mx (d + 2) 25 [.ref (LG (B + 13 + i)), .ref (LG (B2 + 13 + i))] (GW LG gr B M F ex hd C G z) Q := by
      have ht : tabl [(1, 25), (2, 25), (3, 25), (4, 25), (5, 25), (6, 25), (8, 42)] (kc (M (14 + 9 * i + 0))) = some 25 := by
        unfold kc
        repeat' split
        all_goals first | rfl | contradiction
      simp only [cvk, ht]
    rw [e, c_obl (d := d + 1) hg hD hO hi he he2 hP, GW, GW, bl_n6 hi h0 h6]
theorem c_copy44 (hg : ∀ r, gr (LG r) = r) (hD : B2 + 25 ≤ B ∨ B + 25 ≤ B2) (hO : OW LG C B2 M2 F2 ex2 hd2) {i : Nat} (hi : i < 6) (he : ex i = true) (he2 : ex2 i = true) (hP : P1 M2 i) (h0 : M (14 + 9 * i + 0) = M2 (14 + 9 * i + 0)) : wp V (cdT Ev) mx (d + 2) 50 44 [some (.ref (LG B)), some (.ref (LG (B2 + 13 + i))), some (.int (nI i))] [] (GW LG gr B M F ex hd C G z) Q = Q none (GW LG gr B (cpP M M2 i) F ex hd C G z) := by
  simp only [s_50_0, s_50_0_n, s_50_1, s_50_1_n, s_50_4, s_50_5, s_50_5_n, s_50_6, s_50_9, s_50_10, s_50_11, s_50_11_n, s_50_14, s_50_14_n, s_50_15, s_50_18, s_50_19, s_50_20, s_50_23, s_50_23_n, s_50_24, s_50_27, s_50_30, s_50_30_n, s_50_31, s_50_34, s_50_35, s_50_35_n, s_50_36, s_50_39, s_50_40, s_50_43, s_50_44, s_50_44_n, s_50_45, s_50_48, s_50_49, s_50_50, s_50_50_n, s_50_51, s_50_54, ↓reduceIte, eq_self, rts_some, rts_none, nq_int, nq_ref, nq_null, nq_none, okr1_0, okr1_1, okr_b, List.length_nil, List.length_cons, Nat.zero_le, Nat.reduceAdd, Nat.reduceLeDiff, b2i_0, b2i_n0, b2i_1, b2i_n1, ite_not, if_true, if_false, not_true_eq_false, not_false_eq_true, true_and, and_true, false_and, and_false, wg_1 hg, wpe hg, ix_nIT hi (show 6 < 2 ^ 31 by decide), nI_clamp (show i < 2 ^ 31 by omega), he, c_pbl hg hD hO hi he he2 hP h0]
theorem c_copyOne {BIG i : Nat} (hL : LV LG gr (WC LG B M F ex hd C) z BIG) (hz : z.1 + 2 ≤ BIG) (hD : B2 + 25 ≤ B ∨ B + 25 ≤ B2) (hO : OW LG C B2 M2 F2 ex2 hd2) (hh : ∀ r, hd = some r → r + 5 ≤ B ∨ B + 25 ≤ r) (hh2 : ∀ r, hd2 = some r → r + 5 ≤ B ∨ B + 25 ≤ r) (hi : i < 6) (he2 : ex2 i = true) (hP : P1 M2 i) (H : ∀ LG' gr' G' z', LGx B LG LG' → LV LG' gr' (WC LG' B (cpP M M2 i) F (ex1 ex i) hd C) z' BIG → (∀ S, GN S LG G z → GN S LG' G' z') → z'.1 ≤ z.1 + 2 → z'.2 ≤ z.2 + 11 → Q none (GW LG' gr' B (cpP M M2 i) F (ex1 ex i) hd C G' z')) : WP V (cdT Ev) mx (d + 5) 50 [.ref (LG B), .ref (LG (B2 + 13 + i)), .int (nI i)] (GW LG gr B M F ex hd C G z) Q := by
  have hg := hL.1
  have hx := ix_nIT hi (show 6 < 2 ^ 31 by decide)
  have hcl := nI_clamp (show i < 2 ^ 31 by omega)
  have o0 : ∀ K : Value → Prop, gf [1, 2, 3, 4, 5, 6, 8] 0 (GW LG gr B M F ex hd C G z) (LG (B2 + 13 + i)) K = K (.int (M2 (14 + 9 * i + 0))) := fun K => og_0 hg (xPO hD hO hi he2)
  obtain ⟨⟨K, hK, eK⟩, hPb⟩ := id hP
  -- a new one
  have new : wp V (cdT Ev) mx (d + 4) 50 30 [some (.ref (LG B)), some (.ref (LG (B2 + 13 + i))), some (.int (nI i))] [] (GW LG gr B M F ex hd C G z) Q := by
    obtain ⟨G1, hgn, hst⟩ := st_sa (G := G) hL hz hi hK (nuM_NU (M := M) (i := i) (K := K)) hh
    have hL1 := st_LV hL hz hi hK (nuM_NU (M := M) (i := i) (K := K)) hh
    have hx1 := LGx_1 (B := B) (K := K) (a := z.1) (LG := LG) hi
    have hO1 := OW_x hx1 hD hh2 hO
    have eB : LG B = LG1 LG B i K z.1 B := (hx1 B (by omega)).symm
    have eP : LG (B2 + 13 + i) = LG1 LG B i K z.1 (B2 + 13 + i) := (hx1 _ (by omega)).symm
    have hsz : (GW LG gr B M F ex hd C G z).2.1 = z.1 := rfl
    have m1 := fun (Q : Option Value → HS → Prop) => c_made (V := V) (Ev := Ev) (d := d) (Q := Q) (h := GW LG gr B M F ex hd C G z) (nu := nI i) hK
    simp only [s_50_0, s_50_0_n, s_50_1, s_50_1_n, s_50_4, s_50_5, s_50_5_n, s_50_6, s_50_9, s_50_10, s_50_11, s_50_11_n, s_50_14, s_50_14_n, s_50_15, s_50_18, s_50_19, s_50_20, s_50_23, s_50_23_n, s_50_24, s_50_27, s_50_30, s_50_30_n, s_50_31, s_50_34, s_50_35, s_50_35_n, s_50_36, s_50_39, s_50_40, s_50_43, s_50_45, s_50_48, s_50_49, s_50_50, s_50_50_n, s_50_51, s_50_54, ↓reduceIte, eq_self, rts_some, rts_none, nq_int, nq_ref, nq_null, nq_none, okr1_0, okr1_1, okr_b, List.length_nil, List.length_cons, Nat.zero_le, Nat.reduceAdd, Nat.reduceLeDiff, b2i_0, b2i_n0, b2i_1, b2i_n1, ite_not, if_true, if_false, not_true_eq_false, not_false_eq_true, true_and, and_true, false_and, and_false, wg_1 hg, o0, eK, m1, hsz, hst]
    rw [eB, eP, c_copy44 (d := d + 2) hL1.1 hD hO1 hi (if_pos rfl) he2 hP ((nuM_NU).1.trans eK.symm), cpP_nu]
    refine H _ _ _ _ hx1 (LV_dom (fun j hj hj2 => ?_) hL1) hgn ?_ ?_
    · by_cases e : j = i
      · subst e
        rw [cpP_in (by decide), eK]
        exact (nuM_NU).1.symm
      · rw [cpP_out (by omega)]
        exact ((nuM_NU (M := M) (i := i) (K := K)).2.2.2.2.2.2 _ (by omega)).symm
    · show z.1 + _ ≤ _
      split <;> omega
    · show z.2 + _ ≤ _
      split <;> omega
  rw [e_50]
  by_cases he : ex i = true
  · by_cases h0 : M (14 + 9 * i + 0) = M2 (14 + 9 * i + 0)
    · simp only [s_50_0, s_50_1, s_50_5, s_50_6, s_50_9, s_50_10, s_50_11, s_50_14, s_50_15, s_50_18, s_50_19, s_50_20, s_50_23, s_50_24, s_50_27, ↓reduceIte, eq_self, rts_some, rts_none, nq_int, nq_ref, nq_null, nq_none, okr1_0, okr1_1, okr_b, List.length_nil, List.length_cons, Nat.zero_le, Nat.reduceAdd, Nat.reduceLeDiff, b2i_0, b2i_n0, b2i_1, b2i_n1, ite_not, if_true, if_false, not_true_eq_false, not_false_eq_true, true_and, and_true, false_and, and_false, wg_1 hg, wpe hg, hx, hcl, he, pg_0 hg hi he, o0, h0]
      rw [c_copy44 (d := d + 2) hg hD hO hi he he2 hP h0]
      have ee : ex1 ex i = ex := by
        funext j
        unfold ex1
        by_cases e : j = i
        · rw [if_pos e, e, he]
        · rw [if_neg e]
      have H' := H LG gr G z LGx_refl
      rw [ee] at H'
      refine H' (LV_dom (fun j hj hj2 => ?_) hL) (fun _ h => h) (by omega) (by omega)
      by_cases e : j = i
      · subst e
        rw [cpP_in (by decide), h0]
      · rw [cpP_out (by omega)]
    · simp only [s_50_0, s_50_1, s_50_5, s_50_6, s_50_9, s_50_10, s_50_11, s_50_14, s_50_15, s_50_18, s_50_19, s_50_20, s_50_23, s_50_24, s_50_27, ↓reduceIte, eq_self, rts_some, rts_none, nq_int, nq_ref, nq_null, nq_none, okr1_0, okr1_1, okr_b, List.length_nil, List.length_cons, Nat.zero_le, Nat.reduceAdd, Nat.reduceLeDiff, b2i_0, b2i_n0, b2i_1, b2i_n1, ite_not, if_true, if_false, not_true_eq_false, not_false_eq_true, true_and, and_true, false_and, and_false, wg_1 hg, wpe hg, hx, hcl, he, pg_0 hg hi he, o0, h0]
      exact new
  · simp only [s_50_0, s_50_1, s_50_5, s_50_6, s_50_9, s_50_10, s_50_11, s_50_11_n, ↓reduceIte, eq_self, rts_some, rts_none, nq_int, nq_ref, nq_null, nq_none, okr1_0, okr1_1, okr_b, List.length_nil, List.length_cons, Nat.zero_le, Nat.reduceAdd, Nat.reduceLeDiff, b2i_0, b2i_n0, b2i_1, b2i_n1, ite_not, if_true, if_false, not_true_eq_false, not_false_eq_true, true_and, and_true, false_and, and_false, wg_1 hg, wpe hg, hx, hcl, he, Bool.false_eq_true]
    exact new
end
