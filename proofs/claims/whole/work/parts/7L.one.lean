/-! One, image, undo: the class. -/
theorem zo_in {N : Nat → Int32} {i j : Nat} : ∀ k, 14 + 9 * i ≤ j → j < 14 + 9 * i + k → zoF N i k j = 0 := by
  intro k
  induction k with
  | zero =>
    intro h1 h2
    omega
  | succ k ih =>
    intro h1 h2
    rw [zoF]
    by_cases e : j = 14 + 9 * i + k
    · rw [e, pk_us]
    · rw [pk_un e]
      exact ih h1 (by omega)
def neP (N : Nat → Int32) (i : Nat) (k v s : Int32) : Nat → Int32 := upd (upd (upd (zoF N i 9) (14 + 9 * i + 0) k) (14 + 9 * i + 1) v) (14 + 9 * i + 2) s
theorem neP_NU {M : Nat → Int32} {i K : Nat} {v s : Int32} : NU M (neP M i (nI K) v s) i K v s := by
  unfold NU neP
  refine ⟨?_, ?_, ?_, ?_, ?_, fun _ w hw => ?_, fun k hk => ?_⟩
  · rw [pk_un (by omega), pk_un (by omega), pk_us]
  · rw [pk_un (by omega), pk_us]
  · rw [pk_us]
  · rw [pk_un (by omega), pk_un (by omega), pk_un (by omega), zo_in 9 (by omega) (by omega)]
  · rw [pk_un (by omega), pk_un (by omega), pk_un (by omega), zo_in 9 (by omega) (by omega)]
  · rw [pk_un (by omega), pk_un (by omega), pk_un (by omega), zo_in 9 (by omega) (by omega)]
  · rw [pk_un (by omega), pk_un (by omega), pk_un (by omega), zoF_out 9 (by omega)]
theorem is1_r {a : Nat} : is1 (.ref a) = true := id rfl
section
variable {V : Nat → Option AE} {Ev : Nat → Value} {d : Nat} {Q : Option Value → HS → Prop}
variable {LG gr : Nat → Nat} {M F : Nat → Int32} {ex : Nat → Bool} {hd : Option Nat} {C D G : Nat → Option AE} {z : Nat × Nat} {kf : Int32} {nb c BIG : Nat}
variable {Mt Ft Mk Fk : Nat → Int32} {xt xk : Nat → Bool} {ht hk : Option Nat} {k1 k2 k3 : Nat}
theorem c_one (hL : LV LG gr (WC LG 100 M F ex hd C) z BIG) (hz : z.1 + 2 ≤ BIG) (hm : DM LG C kf nb) (hc : c6 M c) (hb : bR hd) (hS : STA V Ev (GW LG gr 100 M F ex hd C G z)) {k v s : Int32} (H0 : (onF M k v s).2 = M → Q (some (.int (onF M k v s).1)) (GW LG gr 100 M F ex hd C G z)) (H1 : ∀ K, K < 7 → k = nI K → c < 6 → (0 ≤ v ∧ v ≤ 9) → (0 ≤ s ∧ s ≤ 4095) → onF M k v s = (nI c, neF M c k v s) → ∀ LG' gr' G' z', LGx 100 LG LG' → LV LG' gr' (WC LG' 100 (neF M c k v s) F (ex1 ex c) hd C) z' BIG → (∀ S, GN S LG G z → GN S LG' G' z') → z'.1 ≤ z.1 + 2 → z'.2 ≤ z.2 + 11 → Q (some (.int (nI c))) (GW LG' gr' 100 (neF M c k v s) F (ex1 ex c) hd C G' z')) : WP V (cdT Ev) mx (d + 5) 69 [.ref (LG 0), .int k, .int v, .int s] (GW LG gr 100 M F ex hd C G z) Q := by
  have hg := hL.1
  have hm1 : DM LG (WC LG 100 M F ex hd C) kf nb := DM_W (by decide) hm
  obtain ⟨a, hE, ha, hV⟩ := id hS
  have l7 : ∀ (K : Int32 → Prop), ln V (GW LG gr 100 M F ex hd C G z) a K = K 7 := by
    intro K
    simp only [ln, lk, ha, hV]
    exact propext ⟨fun h => h.2, fun h => ⟨by decide, h⟩⟩
  have e7 : ∀ x : Int32, (x < 7) = (x ≤ 6) := fun x => by
    rw [Int32.lt_iff_toInt_lt, Int32.le_iff_toInt_le]
    exact propext (by rw [show (7 : Int32).toInt = 7 from rfl, show (6 : Int32).toInt = 6 from rfl]; omega)
  have z10 : ((1 : Int32) = 0) = False := by decide
  have c2 := hc.2
  rw [e_69]
  by_cases k0 : k < 0
  · have e : onF M k v s = (-1, M) := by
      unfold onF
      rw [if_neg (fun h => absurd k0 (Int32.not_lt.mpr h.1))]
    rw [e] at H0
    simp only [s_69_0, s_69_1, s_69_12, s_69_13, ↓reduceIte, eq_self, rts_some, rts_none, nq_int, nq_ref, nq_null, nq_none, okr1_0, okr1_1, okr_b, List.length_nil, List.length_cons, Nat.zero_le, Nat.reduceAdd, Nat.reduceLeDiff, b2i_0, b2i_n0, b2i_1, b2i_n1, ite_not, if_true, if_false, not_true_eq_false, not_false_eq_true, true_and, and_true, false_and, and_false, k0]
    exact H0 rfl
  by_cases k6 : k ≤ 6
  · obtain ⟨K, hK, rfl⟩ : ∃ K, K ≤ 6 ∧ k = nI K := nI_of2 (M := 6) (n := 6) (by decide) k0 k6
    have kk : 0 ≤ nI K ∧ nI K ≤ 6 := ⟨Int32.not_lt.mp k0, k6⟩
    by_cases v0 : v < 0
    · have e : onF M (nI K) v s = (-2, M) := by
        unfold onF
        rw [if_pos kk, if_neg (fun h => absurd v0 (Int32.not_lt.mpr h.1.1))]
      rw [e] at H0
      simp only [s_69_0, s_69_1, s_69_4, s_69_5, s_69_8, s_69_9, s_69_14, s_69_15, s_69_31, s_69_33, ↓reduceIte, eq_self, rts_some, rts_none, nq_int, nq_ref, nq_null, nq_none, okr1_0, okr1_1, okr_b, List.length_nil, List.length_cons, Nat.zero_le, Nat.reduceAdd, Nat.reduceLeDiff, b2i_0, b2i_n0, b2i_1, b2i_n1, ite_not, if_true, if_false, not_true_eq_false, not_false_eq_true, true_and, and_true, false_and, and_false, k0, hE, l7, e7, k6, v0]
      exact H0 rfl
    by_cases v9 : v ≤ 9
    · have v9' : ((9 : Int32) < v) = False := eq_false (Int32.not_lt.mpr v9)
      by_cases hs : 0 ≤ s ∧ s ≤ 4095
      · have hvv : (0 ≤ v ∧ v ≤ 9) ∧ (0 ≤ s ∧ s ≤ 4095) := ⟨⟨Int32.not_lt.mp v0, v9⟩, hs⟩
        by_cases h6 : c = 6
        · have e68 : M 68 = 6 := by
            rw [hc.1, h6]
            rfl
          have e : onF M (nI K) v s = (-4, M) := by
            unfold onF
            rw [if_pos kk, if_pos hvv, if_pos e68]
          rw [e] at H0
          simp only [s_69_0, s_69_1, s_69_4, s_69_5, s_69_8, s_69_9, s_69_14, s_69_15, s_69_18, s_69_19, s_69_21, s_69_24, s_69_25, s_69_28, s_69_34, s_69_35, s_69_38, s_69_41, s_69_43, s_69_46, s_69_48, ↓reduceIte, eq_self, rts_some, rts_none, nq_int, nq_ref, nq_null, nq_none, okr1_0, okr1_1, okr_b, List.length_nil, List.length_cons, Nat.zero_le, Nat.reduceAdd, Nat.reduceLeDiff, b2i_0, b2i_n0, b2i_1, b2i_n1, ite_not, if_true, if_false, not_true_eq_false, not_false_eq_true, true_and, and_true, false_and, and_false, k0, hE, l7, e7, k6, v0, v9', c_isSet, b2i_t hs, z10, dg_0 hg hm1, wg_2 hg, e68, show ((6 : Int32) < 6) = False from by decide]
          exact H0 rfl
        · have hc6 : c < 6 := by omega
          have e68 : ¬ M 68 = 6 := by
            rw [hc.1]
            exact fun e => h6 ((nI_eq (a := c) (b := 6) (by omega) (by decide)).mp e)
          have eO : onF M (nI K) v s = (nI c, neF M c (nI K) v s) := by
            unfold onF
            rw [if_pos kk, if_pos hvv, if_neg e68, hc.1, nI_clamp (by omega)]
          have h66 : (nI c < 6) = True := eq_true (nI_lt (a := c) (b := 6) hc6 (by decide))
          have hK7 : K < 7 := by omega
          have hN := neP_NU (M := M) (i := c) (K := K) (v := v) (s := s)
          have hh := bR_o hb (show 100 + 25 ≤ 300 by decide)
          obtain ⟨G1, hgn, hst⟩ := st_sa (G := G) hL hz hc6 hK7 hN hh
          have hL1 := st_LV hL hz hc6 hK7 hN hh
          have hx1 := LGx_1 (B := 100) (K := K) (a := z.1) (LG := LG) hc6
          have hsz : (GW LG gr 100 M F ex hd C G z).2.1 = z.1 := rfl
          have m1 := fun (Q : Option Value → HS → Prop) => c_made (V := V) (Ev := Ev) (d := d) (Q := Q) (h := GW LG gr 100 M F ex hd C G z) (nu := nI c) hK7
          have p2 : ∀ (v s x : Int32) (T : HS → Prop), pf [1, 2, 3, 4, 5, 6, 8] 2 0 (.int x) (nwP (GW LG gr 100 M F ex hd C G z) K (nI c) v s) z.1 T = T (nwP (GW LG gr 100 M F ex hd C G z) K (nI c) x s) := fun v s x T => nwP_p2 (h := GW LG gr 100 M F ex hd C G z) hK7
          have p3 : ∀ (v s x : Int32) (T : HS → Prop), pf [1, 2, 3, 4, 5, 6, 8] 3 0 (.int x) (nwP (GW LG gr 100 M F ex hd C G z) K (nI c) v s) z.1 T = T (nwP (GW LG gr 100 M F ex hd C G z) K (nI c) v x) := fun v s x T => nwP_p3 (h := GW LG gr 100 M F ex hd C G z) hK7
          have l0 : LG 0 < z.1 := hL.2.2 0 _ hm1
          have l100 : LG 100 < z.1 := hL.2.2 100 _ WC_0
          have q0 : ∀ (v s : Int32) (T : Value → Prop), gf [11] 0 (nwP (GW LG gr 100 M F ex hd C G z) K (nI c) v s) (LG 0) T = T (.ref (LG 100)) := fun v s T => (nwP_gf (h := GW LG gr 100 M F ex hd C G z) l0).trans (dg_0 hg hm1)
          have q1 : ∀ (v s : Int32) (T : Value → Prop), gf [10] 1 (nwP (GW LG gr 100 M F ex hd C G z) K (nI c) v s) (LG 100) T = T (.ref (LG (100 + 2))) := fun v s T => (nwP_gf (h := GW LG gr 100 M F ex hd C G z) l100).trans (wg_1 hg)
          have q2 : ∀ (v s : Int32) (T : Value → Prop), gf [10] 2 (nwP (GW LG gr 100 M F ex hd C G z) K (nI c) v s) (LG 100) T = T (.int (M 68)) := fun v s T => (nwP_gf (h := GW LG gr 100 M F ex hd C G z) l100).trans (wg_2 hg)
          have hm2 : ∀ M' F' ex', DM (LG1 LG 100 c K z.1) (WC (LG1 LG 100 c K z.1) 100 M' F' ex' hd C) kf nb := fun M' F' ex' => DM_W (by decide) (DM_x (fun r hr => hx1 r (by omega)) hm)
          have e0 : LG 0 = LG1 LG 100 c K z.1 0 := (hx1 0 (by omega)).symm
          have ez : z.1 = LG1 LG 100 c K z.1 (100 + 13 + c) := LG1_p.symm
          simp only [s_69_0, s_69_1, s_69_4, s_69_5, s_69_8, s_69_9, s_69_14, s_69_15, s_69_18, s_69_19, s_69_21, s_69_24, s_69_25, s_69_28, s_69_34, s_69_35, s_69_38, s_69_41, s_69_43, s_69_49, s_69_50, s_69_51, s_69_54, s_69_57, s_69_60, s_69_62, s_69_64, s_69_65, s_69_68, s_69_70, s_69_71, s_69_74, s_69_75, s_69_78, s_69_81, s_69_82, s_69_85, s_69_88, s_69_90, ↓reduceIte, eq_self, rts_some, rts_none, nq_int, nq_ref, nq_null, nq_none, okr1_0, okr1_1, okr_b, List.length_nil, List.length_cons, Nat.zero_le, Nat.reduceAdd, Nat.reduceLeDiff, b2i_0, b2i_n0, b2i_1, b2i_n1, ite_not, if_true, if_false, not_true_eq_false, not_false_eq_true, true_and, and_true, false_and, and_false, k0, hE, l7, e7, k6, v0, v9', c_isSet, b2i_t hs, z10, dg_0 hg hm1, wg_2 hg, hc.1, h66, m1, hsz, p2, p3, q0, q1, q2, hst]
          have hg1 := hL1.1
          generalize eLG : LG1 LG 100 c K z.1 = LG' at *
          rw [e0]
          have n68 : neP M c (nI K) v s 68 = nI c := by
            rw [hN.2.2.2.2.2.2 68 (by omega)]
            exact hc.1
          have eF : upd (neP M c (nI K) v s) 68 (nI (c + 1)) = neF M c (nI K) v s := by
            unfold neF
            rw [hc.1, nI_1]
            rfl
          have pgz : ∀ (M' : Nat → Int32) (T : Value → Prop), gf [1, 2, 3, 4, 5, 6, 8] 1 (GW LG' (gr1 gr 100 c K z.1) 100 M' F (ex1 ex c) hd C G1 (z.1 + (if K = 6 then 2 else 1), z.2 + (if K = 6 then 11 else 6))) z.1 T = T (.int (nI c)) := by
            intro M' T
            have := pg_1 (F := F) (hd := hd) (C := C) (G := G1) (z := (z.1 + (if K = 6 then 2 else 1), z.2 + (if K = 6 then 11 else 6))) (B := 100) (M := M') (ex := ex1 ex c) (K := T) hg1 hc6 (show ex1 ex c c = true from if_pos rfl)
            rw [← ez] at this
            exact this
          simp only [s_69_91, s_69_92, s_69_95, s_69_96, s_69_99, s_69_100, s_69_101, s_69_104, s_69_106, s_69_109, ↓reduceIte, eq_self, rts_some, rts_none, nq_int, nq_ref, nq_null, nq_none, okr1_0, okr1_1, okr_b, List.length_nil, List.length_cons, Nat.zero_le, Nat.reduceAdd, Nat.reduceLeDiff, b2i_0, b2i_n0, b2i_1, b2i_n1, ite_not, if_true, if_false, not_true_eq_false, not_false_eq_true, true_and, and_true, false_and, and_false, is1_r, dg_0 hg1 (hm2 _ _ _), wg_2 hg1, n68, nI_1, wp_2 hg1, eF, pgz]
          refine H1 K hK7 rfl hc6 hvv.1 hvv.2 eO LG' _ G1 _ hx1 (LV_dom (fun j hj _ => ?_) hL1) hgn ?_ ?_
          · rw [← eF, pk_un (by omega)]
          · show z.1 + _ ≤ _
            split <;> omega
          · show z.2 + _ ≤ _
            split <;> omega
      · have e : onF M (nI K) v s = (-2, M) := by
          unfold onF
          rw [if_pos kk, if_neg (fun h => hs h.2)]
        rw [e] at H0
        simp only [s_69_0, s_69_1, s_69_4, s_69_5, s_69_8, s_69_9, s_69_14, s_69_15, s_69_18, s_69_19, s_69_21, s_69_24, s_69_25, s_69_28, s_69_31, s_69_33, ↓reduceIte, eq_self, rts_some, rts_none, nq_int, nq_ref, nq_null, nq_none, okr1_0, okr1_1, okr_b, List.length_nil, List.length_cons, Nat.zero_le, Nat.reduceAdd, Nat.reduceLeDiff, b2i_0, b2i_n0, b2i_1, b2i_n1, ite_not, if_true, if_false, not_true_eq_false, not_false_eq_true, true_and, and_true, false_and, and_false, k0, hE, l7, e7, k6, v0, v9', c_isSet, b2i_f hs]
        exact H0 rfl
    · have v9' : ((9 : Int32) < v) = True := eq_true (Int32.not_le.mp v9)
      have e : onF M (nI K) v s = (-2, M) := by
        unfold onF
        rw [if_pos kk, if_neg (fun h => v9 h.1.2)]
      rw [e] at H0
      simp only [s_69_0, s_69_1, s_69_4, s_69_5, s_69_8, s_69_9, s_69_14, s_69_15, s_69_18, s_69_19, s_69_21, s_69_31, s_69_33, ↓reduceIte, eq_self, rts_some, rts_none, nq_int, nq_ref, nq_null, nq_none, okr1_0, okr1_1, okr_b, List.length_nil, List.length_cons, Nat.zero_le, Nat.reduceAdd, Nat.reduceLeDiff, b2i_0, b2i_n0, b2i_1, b2i_n1, ite_not, if_true, if_false, not_true_eq_false, not_false_eq_true, true_and, and_true, false_and, and_false, k0, hE, l7, e7, k6, v0, v9']
      exact H0 rfl
  · have e : onF M k v s = (-1, M) := by
      unfold onF
      rw [if_neg (fun h => k6 h.2)]
    rw [e] at H0
    simp only [s_69_0, s_69_1, s_69_4, s_69_5, s_69_8, s_69_9, s_69_12, s_69_13, ↓reduceIte, eq_self, rts_some, rts_none, nq_int, nq_ref, nq_null, nq_none, okr1_0, okr1_1, okr_b, List.length_nil, List.length_cons, Nat.zero_le, Nat.reduceAdd, Nat.reduceLeDiff, b2i_0, b2i_n0, b2i_1, b2i_n1, ite_not, if_true, if_false, not_true_eq_false, not_false_eq_true, true_and, and_true, false_and, and_false, k0, hE, l7, e7, k6]
    exact H0 rfl
/-- another world becomes like it, whichever two they are -/
theorem DM_fw {LG : Nat → Nat} (hm : DM LG D kf nb) {M F Mt Ft Mk Fk : Nat → Int32} {ex xt xk : Nat → Bool} {hd ht hk : Option Nat} : DM LG (WC LG 100 M F ex hd (WC LG 150 Mt Ft xt ht (WC LG 200 Mk Fk xk hk D))) kf nb := DM_W (by decide) (DM_W (by decide) (DM_W (by decide) hm))
def mainC (LG : Nat → Nat) (kf : Int32) (nb : Nat) : AE := .inr (11, [.ref (LG 100), .ref (LG 150), .ref (LG 200), .int kf, .ref (LG (300 + 5 * nb)), .int (nI nb), .ref (LG 1), .ref (LG 3), .ref (LG 4), .ref (LG 5)])
theorem LG_fw {LG' : Nat → Nat} {B : Nat} {D' : Nat → Option AE} {Mz Fz : Nat → Int32} {xz : Nat → Bool} {hz : Option Nat} (hb : bR hz) (hx : ∀ r, (B ≤ r ∧ r < B + 25) ∨ 300 ≤ r → LG' r = LG r) : WC LG B Mz Fz xz hz D' = WC LG' B Mz Fz xz hz D' := (WC_LG (fun q hq => hx _ (by omega)) (fun r hr => hx _ (by have := hb r hr; omega))).symm
theorem c_image (hL : LV LG gr (WC LG 100 M F ex hd (WC LG 150 Mt Ft xt ht (WC LG 200 Mk Fk xk hk D))) z BIG) (hz : z.1 + 12 ≤ BIG) (hm : DM LG D kf nb) (hb : bR hd) (hbt : bR ht) (hbk : bR hk) (hw : WK M ex c) (hS : SZ M k1 k2 k3) (H : ∀ LG' gr' G' z' Mk', LGx 200 LG LG' → LV LG' gr' (WC LG' 100 M F ex hd (WC LG' 150 Mt Ft xt ht (WC LG' 200 Mk' Fk (exQ xk c) hd (va_up D 0 (some (mainC LG' 1 nb)))))) z' BIG → (∀ S, GN S LG G z → GN S LG' G' z') → z'.1 ≤ z.1 + 12 → z'.2 ≤ z.2 + 66 → SL Mk' M c k1 k2 k3 → Q (some (.int (M 68))) (GW LG' gr' 100 M F ex hd (WC LG' 150 Mt Ft xt ht (WC LG' 200 Mk' Fk (exQ xk c) hd (va_up D 0 (some (mainC LG' 1 nb))))) G' z')) : WP V (cdT Ev) mx (d + 7) 91 [.ref (LG 0)] (GW LG gr 100 M F ex hd (WC LG 150 Mt Ft xt ht (WC LG 200 Mk Fk xk hk D)) G z) Q := by
  have hg := hL.1
  have e1 : ∀ (LG : Nat → Nat) (M F Mt Ft Mk Fk : Nat → Int32) (ex xt xk : Nat → Bool) (hd ht hk : Option Nat) (D : Nat → Option AE), WC LG 100 M F ex hd (WC LG 150 Mt Ft xt ht (WC LG 200 Mk Fk xk hk D)) = WC LG 200 Mk Fk xk hk (WC LG 100 M F ex hd (WC LG 150 Mt Ft xt ht D)) := by
    intro LG M F Mt Ft Mk Fk ex xt xk hd ht hk D
    rw [WC_sw (B := 150) (B2 := 200) (by decide), WC_sw (B := 100) (B2 := 200) (by decide)]
  have cv2 : ∀ K : Nat → Prop, cv [(10, 49)] (GW LG gr 100 M F ex hd (WC LG 150 Mt Ft xt ht (WC LG 200 Mk Fk xk hk D)) G z) (LG 200) K = K 49 := by
    intro K
    rw [GW, e1]
    exact wcv hg
  rw [e_91]
  simp only [s_91_0, s_91_1, s_91_4, s_91_5, s_91_8, ↓reduceIte, eq_self, rts_some, rts_none, nq_int, nq_ref, nq_null, nq_none, okr1_0, okr1_1, okr_b, List.length_nil, List.length_cons, Nat.zero_le, Nat.reduceAdd, Nat.reduceLeDiff, b2i_0, b2i_n0, b2i_1, b2i_n1, ite_not, if_true, if_false, not_true_eq_false, not_false_eq_true, true_and, and_true, false_and, and_false, dg_2 hg (DM_fw hm), dg_0 hg (DM_fw hm), cv2]
  rw [GW, e1]
  rw [e1] at hL
  obtain ⟨s1, s2, s3, s4, s5, s6⟩ := hS
  refine c_like (BIG := BIG) (B2 := 100) (F2 := F) hL hz (by decide) OW_W (bR_o hbk (by decide)) (bR_o hb (by decide)) hw s1 s2 s3 s4 s5 s6 (fun LG' gr' G' z' Mk' hx hL' gn z1 z2 sm => ?_)
  have w150 : WC LG 150 Mt Ft xt ht D = WC LG' 150 Mt Ft xt ht D := LG_fw hbt (fun r hr => hx r (by omega))
  have w100 : WC LG 100 M F ex hd (WC LG 150 Mt Ft xt ht D) = WC LG' 100 M F ex hd (WC LG' 150 Mt Ft xt ht D) := by
    rw [w150]
    exact LG_fw hb (fun r hr => hx r (by omega))
  rw [w100, ← e1] at hL'
  rw [GW, w100, ← e1]
  have hg' := hL'.1
  have hm' : DM LG' D kf nb := DM_x (fun r hr => hx r (by omega)) hm
  have em : ∀ K : HS → Prop, pf [11] 3 1 (.int 1) (GH LG' gr' (WC LG' 100 M F ex hd (WC LG' 150 Mt Ft xt ht (WC LG' 200 Mk' Fk (exQ xk c) hd D))) G' z') (LG' 0) K = K (GH LG' gr' (WC LG' 100 M F ex hd (WC LG' 150 Mt Ft xt ht (WC LG' 200 Mk' Fk (exQ xk c) hd (va_up D 0 (some (mainC LG' 1 nb)))))) G' z') := by
    intro K
    rw [r_pf hg' (DM_fw hm') (by decide) (by simp) rfl, WC_up (by decide), WC_up (by decide), WC_up (by decide)]
    rfl
  have hm2 : DM LG' (va_up D 0 (some (mainC LG' 1 nb))) 1 nb := if_pos rfl
  rw [← hx 0 (by omega)]
  simp only [s_91_11, s_91_12, s_91_13, s_91_16, s_91_17, s_91_20, s_91_23, ↓reduceIte, eq_self, rts_some, rts_none, nq_int, nq_ref, nq_null, nq_none, okr1_0, okr1_1, okr_b, List.length_nil, List.length_cons, Nat.zero_le, Nat.reduceAdd, Nat.reduceLeDiff, b2i_0, b2i_n0, b2i_1, b2i_n1, ite_not, if_true, if_false, not_true_eq_false, not_false_eq_true, true_and, and_true, false_and, and_false, em, dg_0 hg' (DM_fw hm2), wg_2 hg']
  refine H LG' gr' G' z' Mk' hx ⟨hL'.1, hL'.2.1, fun r e he => ?_⟩ gn z1 z2 (SM_SL sm)
  by_cases h0 : r = 0
  · subst h0
    exact hL'.2.2 0 _ (DM_fw hm')
  · refine hL'.2.2 r e ?_
    have : WC LG' 100 M F ex hd (WC LG' 150 Mt Ft xt ht (WC LG' 200 Mk' Fk (exQ xk c) hd (va_up D 0 (some (mainC LG' 1 nb))))) = va_up (WC LG' 100 M F ex hd (WC LG' 150 Mt Ft xt ht (WC LG' 200 Mk' Fk (exQ xk c) hd D))) 0 (some (mainC LG' 1 nb)) := by
      rw [WC_up (by decide), WC_up (by decide), WC_up (by decide)]
    rw [this] at he
    unfold va_up at he
    rw [if_neg h0] at he
    exact he
theorem c_undo (hL : LV LG gr (WC LG 100 M F ex hd (WC LG 150 Mt Ft xt ht (WC LG 200 Mk Fk xk hk D))) z BIG) (hz : z.1 + 12 ≤ BIG) (hm : DM LG D kf nb) (hb : bR hd) (hbt : bR ht) (hbk : bR hk) (H0 : kf = 0 → Q (some (.int (-3))) (GW LG gr 100 M F ex hd (WC LG 150 Mt Ft xt ht (WC LG 200 Mk Fk xk hk D)) G z)) (H : ¬ kf = 0 → ∃ c k1 k2 k3, WK Mk xk c ∧ SZ Mk k1 k2 k3 ∧ ∀ LG' gr' G' z' M', LGx 100 LG LG' → LV LG' gr' (WC LG' 100 M' F (exQ ex c) hk (WC LG' 150 Mt Ft xt ht (WC LG' 200 Mk Fk xk hk D))) z' BIG → (∀ S, GN S LG G z → GN S LG' G' z') → z'.1 ≤ z.1 + 12 → z'.2 ≤ z.2 + 66 → SL M' Mk c k1 k2 k3 → Q (some (.int (M' 68))) (GW LG' gr' 100 M' F (exQ ex c) hk (WC LG' 150 Mt Ft xt ht (WC LG' 200 Mk Fk xk hk D)) G' z')) : WP V (cdT Ev) mx (d + 7) 92 [.ref (LG 0)] (GW LG gr 100 M F ex hd (WC LG 150 Mt Ft xt ht (WC LG 200 Mk Fk xk hk D)) G z) Q := by
  have hg := hL.1
  rw [e_92]
  by_cases k0 : kf = 0
  · have := H0 k0
    simp only [s_92_0, s_92_1, s_92_4, s_92_7, s_92_9, ↓reduceIte, eq_self, rts_some, rts_none, nq_int, nq_ref, nq_null, nq_none, okr1_0, okr1_1, okr_b, List.length_nil, List.length_cons, Nat.zero_le, Nat.reduceAdd, Nat.reduceLeDiff, b2i_0, b2i_n0, b2i_1, b2i_n1, ite_not, if_true, if_false, not_true_eq_false, not_false_eq_true, true_and, and_true, false_and, and_false, dg_3 hg (DM_fw hm), k0]
    exact this
  · obtain ⟨c, k1, k2, k3, hw, hS, H'⟩ := H k0
    have e1 : WC LG 150 Mt Ft xt ht (WC LG 200 Mk Fk xk hk D) = WC LG 200 Mk Fk xk hk (WC LG 150 Mt Ft xt ht D) := WC_sw (by decide)
    simp only [s_92_0, s_92_1, s_92_4, s_92_10, s_92_11, s_92_14, s_92_15, s_92_18, ↓reduceIte, eq_self, rts_some, rts_none, nq_int, nq_ref, nq_null, nq_none, okr1_0, okr1_1, okr_b, List.length_nil, List.length_cons, Nat.zero_le, Nat.reduceAdd, Nat.reduceLeDiff, b2i_0, b2i_n0, b2i_1, b2i_n1, ite_not, if_true, if_false, not_true_eq_false, not_false_eq_true, true_and, and_true, false_and, and_false, dg_3 hg (DM_fw hm), k0, dg_0 hg (DM_fw hm), dg_2 hg (DM_fw hm), wcv hg]
    obtain ⟨s1, s2, s3, s4, s5, s6⟩ := hS
    have hO : OW LG (WC LG 150 Mt Ft xt ht (WC LG 200 Mk Fk xk hk D)) 200 Mk Fk xk hk := by
      rw [e1]
      exact OW_W
    refine c_like (BIG := BIG) (B2 := 200) (F2 := Fk) hL hz (by decide) hO (bR_o hb (by decide)) (bR_o hbk (by decide)) hw s1 s2 s3 s4 s5 s6 (fun LG' gr' G' z' M' hx hL' gn z1 z2 sm => ?_)
    have w200 : WC LG 200 Mk Fk xk hk D = WC LG' 200 Mk Fk xk hk D := LG_fw hbk (fun r hr => hx r (by omega))
    have w150 : WC LG 150 Mt Ft xt ht (WC LG 200 Mk Fk xk hk D) = WC LG' 150 Mt Ft xt ht (WC LG' 200 Mk Fk xk hk D) := by
      rw [w200]
      exact LG_fw hbt (fun r hr => hx r (by omega))
    rw [w150] at hL' ⊢
    have hg' := hL'.1
    have hm' : DM LG' D kf nb := DM_x (fun r hr => hx r (by omega)) hm
    rw [← hx 0 (by omega)]
    simp only [s_92_21, s_92_22, s_92_25, s_92_28, ↓reduceIte, eq_self, rts_some, rts_none, nq_int, nq_ref, nq_null, nq_none, okr1_0, okr1_1, okr_b, List.length_nil, List.length_cons, Nat.zero_le, Nat.reduceAdd, Nat.reduceLeDiff, b2i_0, b2i_n0, b2i_1, b2i_n1, ite_not, if_true, if_false, not_true_eq_false, not_false_eq_true, true_and, and_true, false_and, and_false, dg_0 hg' (DM_fw hm'), wg_2 hg']
    exact H' LG' gr' G' z' M' hx hL' gn z1 z2 (SM_SL sm)
end
