/-! Rows of a plan: the class. -/
def rwF (A : Nat → Int32) (cl : List Cls) (w n : Int32) : Nat → Int32 := if w = 0 then dayF A cl else if w = 3 then heF A n.toNatClampNeg else upd A (14 + 9 * n.toNatClampNeg + 3) (2 - w)
def rwQ (w n : Int32) (c : Nat) : Prop := w = 0 ∨ ((w = 1 ∨ w = 2) ∧ ∃ i, i < c ∧ n = nI i) ∨ (w = 3 ∧ ∃ s, s < 12 ∧ n = nI s)
theorem on1_and : ∀ k, k < 4096 → ∀ s, s < 12 → on1 s &&& nI k = if bt (nI k) s = 1 then on1 s else 0 := all64 (by decide +kernel)
theorem rwF_WK {A : Nat → Int32} {cl : List Cls} {w n : Int32} {xt : Nat → Bool} {c : Nat} (hq : rwQ w n c) (h : WK A xt c) : WK (rwF A cl w n) xt c := by
  have c2 := h.1.2
  unfold rwF
  rcases hq with e | ⟨e, i, hi, en⟩ | ⟨e, s, hs, en⟩
  · rw [if_pos e]
    exact WK_day h
  · have h0 : ¬ w = 0 := by rcases e with e | e <;> (rw [e]; decide)
    have h3 : ¬ w = 3 := by rcases e with e | e <;> (rw [e]; decide)
    rw [if_neg h0, if_neg h3, en, nI_clamp (by omega)]
    refine ⟨⟨(pk_un (by omega)).trans h.1.1, h.1.2⟩, fun q hq => ⟨WK_1 h hq, ?_⟩⟩
    obtain ⟨⟨K, hK, eK⟩, hb, hs⟩ := WK_P h hq
    refine ⟨⟨K, hK, (pk_un (by omega)).trans eK⟩, ?_, ?_⟩
    · by_cases e2 : q = i
      · subst e2
        rw [pk_us]
        rcases e with e | e <;> rw [e] <;> decide
      · rw [pk_un (by omega)]
        exact hb
    · rw [pk_un (by omega)]
      exact hs
  · rw [if_neg (by rw [e]; decide), if_pos e]
    exact ⟨⟨(heF_out (by decide) (by decide)).trans h.1.1, h.1.2⟩, fun q hq => ⟨WK_1 h hq, P1_of (fun w hw => heF_out (by omega) (by omega)) (WK_P h hq)⟩⟩
theorem rwF_12 {A : Nat → Int32} {cl : List Cls} {w n : Int32} {c : Nat} (hq : rwQ w n c) (h : isS (A 12)) : isS (rwF A cl w n 12) := by
  unfold rwF
  split
  · exact dayF_12 h
  · split
    · unfold heF
      split
      · rw [pk_un (by decide), pk_us]
        exact isS_and h
      · exact h
    · rw [pk_un (by omega)]
      exact h
theorem rwF_Bk {A : Nat → Int32} {cl : List Cls} {w n : Int32} {c K : Nat} (hc : c6 A c) (h : Bk K A c) : Bk (K + 1) (rwF A cl w n) c := by
  have c2 := hc.2
  unfold rwF
  split
  · exact Bk_day hc h
  · intro i hi
    obtain ⟨b, h1, h2⟩ := h i hi
    refine ⟨b, by omega, ?_⟩
    split
    · rw [heF_out (by omega) (by omega)]
      exact h2
    · rw [pk_un (by omega)]
      exact h2
theorem rwF_kd {A : Nat → Int32} {cl : List Cls} {w n : Int32} {c j : Nat} (hc : c6 A c) (hj : j < 6) : rwF A cl w n (14 + 9 * j + 0) = A (14 + 9 * j + 0) := by
  unfold rwF
  split
  · exact dayF_out hc (fun i hi => by omega) (by omega) (by omega) (by omega)
  · split
    · exact heF_out (by omega) (by omega)
    · exact pk_un (by omega)
theorem SL_rw {M N : Nat → Int32} {cl : List Cls} {w n : Int32} {c k1 k2 k3 : Nat} (hc : c6 N c) (h : SL M N c k1 k2 k3) : SL (rwF M cl w n) (rwF N cl w n) c k1 k2 k3 := by
  unfold rwF
  split
  · exact SL_day hc h
  · split
    · exact SL_he h
    · exact SL_upd h
theorem enF_s {N : Nat → Int32} {cl : List Cls} {r : Nat} : enF N cl (r + 1) = rwF (enF N cl r) cl (N (83 + 2 * r)) (N (84 + 2 * r)) := rfl
section
variable {V : Nat → Option AE} {Ev : Nat → Value} {d : Nat} {Q : Option Value → HS → Prop}
variable {LG gr : Nat → Nat} {M F : Nat → Int32} {ex : Nat → Bool} {hd : Option Nat} {D G : Nat → Option AE} {z : Nat × Nat} {cl : List Cls} {kf : Int32} {nb : Nat}
variable {Mt Ft : Nat → Int32} {xt : Nat → Bool} {ht : Option Nat} {BIG c k1 k2 k3 : Nat}
theorem c_goRow (hg : ∀ r, gr (LG r) = r) {C : Nat → Option AE} {A : Nat → Int32} (hm : DM LG C kf nb) {w n : Int32} {K : Nat} (hk : WK A xt c) (hS : isS (A 12)) (hB : Bk K A c) (hK : K < 2 ^ 30) (hb : HB LG C 150 ht cl) (hq : rwQ w n c) (H : ∀ Ft', Q none (GW LG gr 150 (rwF A cl w n) Ft' xt ht C G z)) : WP V (cdT Ev) mx (d + 7) 121 [.ref (LG 0), .int w, .int n] (GW LG gr 150 A Ft xt ht C G z) Q := by
  have hm1 := DM_W (M := A) (F := Ft) (ex := xt) (hd := ht) (B := 150) (by decide) hm
  have hpa : ∃ l3, (l3 = some (.ref (LG (150 + 13 + n.toNatClampNeg))) ∨ l3 = some .null) ∧ ((∃ i, i < c ∧ n = nI i) → l3 = some (.ref (LG (150 + 13 + n.toNatClampNeg)))) ∧ (WP V (cdT Ev) mx (d + 7) 121 [.ref (LG 0), .int w, .int n] (GW LG gr 150 A Ft xt ht C G z) Q = wp V (cdT Ev) mx (d + 6) 121 9 [some (.ref (LG 0)), some (.int w), some (.int n), l3] [] (GW LG gr 150 A Ft xt ht C G z) Q) := by
    by_cases ho : oneQ A n
    · obtain ⟨i, hi, rfl⟩ := oneQ_k hk.1 ho
      have c2 := hk.1.2
      have pa := fun (Q : Option Value → HS → Prop) => c_pAt_y (V := V) (Ev := Ev) (d := d + 5) (Q := Q) (B := 150) (F := Ft) (hd := ht) (C := C) (G := G) (z := z) hg hk hi
      refine ⟨some (.ref (LG (150 + 13 + (nI i).toNatClampNeg))), Or.inl rfl, fun _ => rfl, ?_⟩
      rw [e_121, nI_clamp (by omega)]
      simp only [s_121_0, s_121_1, s_121_4, s_121_5, s_121_8, ↓reduceIte, eq_self, rts_some, rts_none, nq_int, nq_ref, nq_null, nq_none, okr1_0, okr1_1, okr_b, List.length_nil, List.length_cons, Nat.zero_le, Nat.reduceAdd, Nat.reduceLeDiff, b2i_0, b2i_n0, b2i_1, b2i_n1, ite_not, if_true, if_false, not_true_eq_false, not_false_eq_true, true_and, and_true, false_and, and_false, dg_1 hg hm1, wcv hg, pa]
    · have pn := fun (Q : Option Value → HS → Prop) => c_pAt_n (V := V) (Ev := Ev) (d := d + 5) (Q := Q) (LG := LG) (gr := gr) (B := 150) (F := Ft) (ex := xt) (hd := ht) (C := C) (G := G) (z := z) hg hk.1 ho
      refine ⟨some .null, Or.inr rfl, fun h => ?_, ?_⟩
      · obtain ⟨i, hi, e⟩ := h
        exact absurd (oneQ_x hk.1 hi e) ho
      · rw [e_121]
        simp only [s_121_0, s_121_1, s_121_4, s_121_5, s_121_8_n, ↓reduceIte, eq_self, rts_some, rts_none, nq_int, nq_ref, nq_null, nq_none, okr1_0, okr1_1, okr_b, List.length_nil, List.length_cons, Nat.zero_le, Nat.reduceAdd, Nat.reduceLeDiff, b2i_0, b2i_n0, b2i_1, b2i_n1, ite_not, if_true, if_false, not_true_eq_false, not_false_eq_true, true_and, and_true, false_and, and_false, dg_1 hg hm1, wcv hg, pn]
  obtain ⟨l3, hl3, hl3', e0⟩ := hpa
  rw [e0]
  unfold rwF at H
  rcases hq with e | ⟨e, i, hi, en⟩ | ⟨e, s, hs, en⟩
  · subst e
    simp only [if_true] at H
    simp only [s_121_9, s_121_10, s_121_13, s_121_14, s_121_17, s_121_19, ↓reduceIte, eq_self, rts_some, rts_none, nq_int, nq_ref, nq_null, nq_none, okr1_0, okr1_1, okr_b, List.length_nil, List.length_cons, Nat.zero_le, Nat.reduceAdd, Nat.reduceLeDiff, b2i_0, b2i_n0, b2i_1, b2i_n1, ite_not, if_true, if_false, not_true_eq_false, not_false_eq_true, true_and, and_true, false_and, and_false, dg_1 hg hm1, wcv hg]
    rw [show (2147483647 : Int32) = nI 2147483647 from rfl]
    refine c_goDay hg hk hS (Bk_lt hB (by omega) (by decide)) hb (fun F' => ?_)
    simp only [s_121_22, s_121_69, ↓reduceIte, eq_self, rts_some, rts_none, nq_int, nq_ref, nq_null, nq_none, okr1_0, okr1_1, okr_b, List.length_nil, List.length_cons, Nat.zero_le, Nat.reduceAdd, Nat.reduceLeDiff, b2i_0, b2i_n0, b2i_1, b2i_n1, ite_not, if_true, if_false, not_true_eq_false, not_false_eq_true, true_and, and_true, false_and, and_false]
    exact H F'
  · have h6 := WK_6 hk hi
    have he := WK_1 hk hi
    rw [hl3' ⟨i, hi, en⟩]
    subst en
    rw [nI_clamp (by omega)] at H ⊢
    have h0 : (w = 0) = False := eq_false (by rcases e with e | e <;> (rw [e]; decide))
    have h3 : (w = 3) = False := eq_false (by rcases e with e | e <;> (rw [e]; decide))
    simp only [h0, h3, if_false] at H
    rcases e with e | e
    · subst e
      simp only [s_121_0, s_121_0_n, s_121_1, s_121_4, s_121_5, s_121_8, s_121_8_n, s_121_9, s_121_10, s_121_13, s_121_13_n, s_121_14, s_121_17, s_121_19, s_121_22, s_121_25, s_121_26, s_121_27, s_121_30, s_121_30_n, s_121_31, s_121_34, s_121_35, s_121_36, s_121_37, s_121_37_n, s_121_38, s_121_41, s_121_44, s_121_45, s_121_48, s_121_51, s_121_51_n, s_121_52, s_121_52_n, s_121_55, s_121_55_n, s_121_56, s_121_57, s_121_58, s_121_61, s_121_62, s_121_65, s_121_66, s_121_69, ↓reduceIte, eq_self, rts_some, rts_none, nq_int, nq_ref, nq_null, nq_none, okr1_0, okr1_1, okr_b, List.length_nil, List.length_cons, Nat.zero_le, Nat.reduceAdd, Nat.reduceLeDiff, b2i_0, b2i_n0, b2i_1, b2i_n1, ite_not, if_true, if_false, not_true_eq_false, not_false_eq_true, true_and, and_true, false_and, and_false, h0, h3, pp_4 hg h6 he okv1_1]
      exact H Ft
    · subst e
      have h1 : ((2 : Int32) = 1) = False := by decide
      simp only [s_121_0, s_121_0_n, s_121_1, s_121_4, s_121_5, s_121_8, s_121_8_n, s_121_9, s_121_10, s_121_13, s_121_13_n, s_121_14, s_121_17, s_121_19, s_121_22, s_121_25, s_121_26, s_121_27, s_121_30, s_121_30_n, s_121_31, s_121_34, s_121_35, s_121_36, s_121_37, s_121_37_n, s_121_38, s_121_41, s_121_44, s_121_45, s_121_48, s_121_51, s_121_51_n, s_121_52, s_121_52_n, s_121_55, s_121_55_n, s_121_56, s_121_57, s_121_58, s_121_61, s_121_62, s_121_65, s_121_66, s_121_69, ↓reduceIte, eq_self, rts_some, rts_none, nq_int, nq_ref, nq_null, nq_none, okr1_0, okr1_1, okr_b, List.length_nil, List.length_cons, Nat.zero_le, Nat.reduceAdd, Nat.reduceLeDiff, b2i_0, b2i_n0, b2i_1, b2i_n1, ite_not, if_true, if_false, not_true_eq_false, not_false_eq_true, true_and, and_true, false_and, and_false, h0, h3, h1, pp_4 hg h6 he okv1_0]
      exact H Ft
  · subst e
    subst en
    have h0 : ((3 : Int32) = 0) = False := by decide
    simp only [h0, if_false, if_true, nI_clamp (show s < 2 ^ 31 by omega)] at H
    obtain ⟨k, hk4, ek⟩ := isS_of hS
    have eo : (1 : Int32) <<< (nI s &&& 31) &&& A 12 = if bt (A 12) s = 1 then on1 s else 0 := by
      rw [ek]
      exact on1_and k hk4 s hs
    have H' := H Ft
    unfold heF at H'
    by_cases hbt : bt (A 12) s = 1
    · rw [if_pos hbt] at H' eo
      have e2 : upd (upd A 13 (A 13 ||| on1 s)) 12 (A 12 &&& (on1 s ^^^ (-1))) = upd (upd A 12 (A 12 &&& (on1 s ^^^ (-1)))) 13 (A 13 ||| on1 s) := by
        funext q
        simp only [upd]
        by_cases h1 : q = 12
        · subst h1
          rfl
        · by_cases h2 : q = 13
          · subst h2
            rfl
          · rw [if_neg h1, if_neg h2, if_neg h2, if_neg h1]
      simp only [s_121_0, s_121_0_n, s_121_1, s_121_4, s_121_5, s_121_8, s_121_8_n, s_121_9, s_121_10, s_121_13, s_121_13_n, s_121_14, s_121_17, s_121_19, s_121_22, s_121_25, s_121_26, s_121_27, s_121_30, s_121_30_n, s_121_31, s_121_34, s_121_35, s_121_36, s_121_37, s_121_37_n, s_121_38, s_121_41, s_121_44, s_121_45, s_121_48, s_121_51, s_121_51_n, s_121_52, s_121_52_n, s_121_55, s_121_55_n, s_121_56, s_121_57, s_121_58, s_121_61, s_121_62, s_121_65, s_121_66, s_121_69, ↓reduceIte, eq_self, rts_some, rts_none, nq_int, nq_ref, nq_null, nq_none, okr1_0, okr1_1, okr_b, List.length_nil, List.length_cons, Nat.zero_le, Nat.reduceAdd, Nat.reduceLeDiff, b2i_0, b2i_n0, b2i_1, b2i_n1, ite_not, if_true, if_false, not_true_eq_false, not_false_eq_true, true_and, and_true, false_and, and_false, h0, dg_1 hg hm1, wg_3 hg, wcv hg, eo, c_letGo hg, e2]
      exact H'
    · rw [if_neg hbt] at H' eo
      have e2 : upd (upd A 13 (A 13 ||| 0)) 12 (A 12 &&& (0 ^^^ (-1))) = A := by
        rw [or_0, upd_us, and_m1, upd_us]
      simp only [s_121_0, s_121_0_n, s_121_1, s_121_4, s_121_5, s_121_8, s_121_8_n, s_121_9, s_121_10, s_121_13, s_121_13_n, s_121_14, s_121_17, s_121_19, s_121_22, s_121_25, s_121_26, s_121_27, s_121_30, s_121_30_n, s_121_31, s_121_34, s_121_35, s_121_36, s_121_37, s_121_37_n, s_121_38, s_121_41, s_121_44, s_121_45, s_121_48, s_121_51, s_121_51_n, s_121_52, s_121_52_n, s_121_55, s_121_55_n, s_121_56, s_121_57, s_121_58, s_121_61, s_121_62, s_121_65, s_121_66, s_121_69, ↓reduceIte, eq_self, rts_some, rts_none, nq_int, nq_ref, nq_null, nq_none, okr1_0, okr1_1, okr_b, List.length_nil, List.length_cons, Nat.zero_le, Nat.reduceAdd, Nat.reduceLeDiff, b2i_0, b2i_n0, b2i_1, b2i_n1, ite_not, if_true, if_false, not_true_eq_false, not_false_eq_true, true_and, and_true, false_and, and_false, h0, dg_1 hg hm1, wg_3 hg, wcv hg, eo, c_letGo hg, e2]
      exact H'
theorem c_ends_l (hg : ∀ r, gr (LG r) = r) (hm : DM LG (WC LG 100 M F ex hd D) kf nb) {w : Int32} {M' : Nat → Int32} (hP : PLok M k2 c) (hc : c6 M c) (hb : HB LG (WC LG 100 M F ex hd D) 150 ht cl) (H : ∀ A Ft', WK A xt c → SL A (enF M cl k2) c k1 k2 k3 → (∀ j, j < 6 → A (14 + 9 * j + 0) = M' (14 + 9 * j + 0)) → wp V (cdT Ev) mx (d + 7) 87 72 [some (.ref (LG 0)), some (.int w), some (.int (nI k2))] [] (GW LG gr 150 A Ft' xt ht (WC LG 100 M F ex hd D) G z) Q) : ∀ m j, j + m = k2 → ∀ A Ft, WK A xt c → isS (A 12) → Bk (9999 + j) A c → SL A (enF M cl j) c k1 k2 k3 → (∀ j, j < 6 → A (14 + 9 * j + 0) = M' (14 + 9 * j + 0)) → wp V (cdT Ev) mx (d + 7) 87 24 [some (.ref (LG 0)), some (.int w), some (.int (nI j))] [] (GW LG gr 150 A Ft xt ht (WC LG 100 M F ex hd D) G z) Q := by
  obtain ⟨p1, p2, p3⟩ := id hP
  have q7 : ∀ {A Ft : Nat → Int32} {K : Value → Prop}, gf [10] 7 (GW LG gr 150 A Ft xt ht (WC LG 100 M F ex hd D) G z) (LG 100) K = K (.ref (LG 106)) := fun {A Ft K} => xg_7 (B2 := 100) hg (by decide) OW_W
  have r0 : ∀ {A Ft : Nat → Int32} {K : Value → Prop}, gf [7] 0 (GW LG gr 150 A Ft xt ht (WC LG 100 M F ex hd D) G z) (LG 106) K = K (.ref (LG 107)) := fun {A Ft K} => xrg_6_0 (B2 := 100) hg (by decide) OW_W
  have r1 : ∀ {A Ft : Nat → Int32} {K : Value → Prop}, gf [7] 1 (GW LG gr 150 A Ft xt ht (WC LG 100 M F ex hd D) G z) (LG 106) K = K (.ref (LG 108)) := fun {A Ft K} => xrg_6_1 (B2 := 100) hg (by decide) OW_W
  have r2 : ∀ {A Ft : Nat → Int32} {K : Value → Prop}, gf [7] 2 (GW LG gr 150 A Ft xt ht (WC LG 100 M F ex hd D) G z) (LG 106) K = K (.int (M 82)) := fun {A Ft K} => xrg_6_2 (B2 := 100) hg (by decide) OW_W
  have a7 : ∀ {A Ft : Nat → Int32} {i : Int32} {K : Int32 → Prop}, ai 2 i V (GW LG gr 150 A Ft xt ht (WC LG 100 M F ex hd D) G z) (LG 107) K = (ix i 10 ∧ K (M (83 + 2 * i.toNatClampNeg))) := fun {A Ft i K} => xa_7 (B2 := 100) hg (by decide) OW_W
  have a8 : ∀ {A Ft : Nat → Int32} {i : Int32} {K : Int32 → Prop}, ai 2 i V (GW LG gr 150 A Ft xt ht (WC LG 100 M F ex hd D) G z) (LG 108) K = (ix i 10 ∧ K (M (84 + 2 * i.toNatClampNeg))) := fun {A Ft i K} => xa_8 (B2 := 100) hg (by decide) OW_W
  intro m
  induction m with
  | zero =>
    intro j hj A Ft hk hS hB sl hkd
    have : j = k2 := by omega
    subst this
    rw [s_87_24]
    simp only [s_87_25, s_87_26, s_87_29, s_87_32, s_87_35, ↓reduceIte, eq_self, rts_some, rts_none, nq_int, nq_ref, nq_null, nq_none, okr1_0, okr1_1, okr_b, List.length_nil, List.length_cons, Nat.zero_le, Nat.reduceAdd, Nat.reduceLeDiff, b2i_0, b2i_n0, b2i_1, b2i_n1, ite_not, if_true, if_false, not_true_eq_false, not_false_eq_true, true_and, and_true, false_and, and_false, dg_0 hg (DM_W (B := 150) (by decide) hm), q7, r2, p1, Int32.le_refl]
    exact H A Ft hk sl hkd
  | succ m ih =>
    intro j hj A Ft hk hS hB sl hkd
    have hlt : (nI k2 ≤ nI j) = False := eq_false (nI_ge (show j < k2 by omega) (by omega))
    have hx := ix_nIT (show j < 10 by omega) (show 10 < 2 ^ 31 by decide)
    have hcl := nI_clamp (show j < 2 ^ 31 by omega)
    rw [s_87_24]
    simp only [s_87_0, s_87_1, s_87_4, s_87_5, s_87_6, s_87_9, s_87_10, s_87_11, s_87_11_n, s_87_12, s_87_15, s_87_15_n, s_87_16, s_87_19, s_87_22, s_87_23, s_87_25, s_87_25_n, s_87_26, s_87_29, s_87_32, s_87_35, s_87_38, s_87_38_n, s_87_39, s_87_39_n, s_87_40, s_87_43, s_87_46, s_87_49, s_87_50, s_87_51, s_87_51_n, s_87_52, s_87_55, s_87_58, s_87_61, s_87_62, s_87_63, s_87_66, s_87_69, s_87_73, s_87_76, s_87_76_n, s_87_77, s_87_80, s_87_83, s_87_86, s_87_86_n, s_87_87, s_87_90, s_87_93, ↓reduceIte, eq_self, rts_some, rts_none, nq_int, nq_ref, nq_null, nq_none, okr1_0, okr1_1, okr_b, List.length_nil, List.length_cons, Nat.zero_le, Nat.reduceAdd, Nat.reduceLeDiff, b2i_0, b2i_n0, b2i_1, b2i_n1, ite_not, if_true, if_false, not_true_eq_false, not_false_eq_true, true_and, and_true, false_and, and_false, dg_0 hg (DM_W (B := 150) (by decide) hm), q7, r0, r1, r2, a7, a8, p1, hlt, hx, hcl, dcv hg (DM_W (B := 150) (by decide) hm)]
    have hq : rwQ (M (83 + 2 * j)) (M (84 + 2 * j)) c := p3 j (by omega)
    refine c_goRow hg hm hk hS hB (by omega) hb hq (fun Ft' => ?_)
    simp only [s_87_0, s_87_1, s_87_4, s_87_5, s_87_6, s_87_9, s_87_10, s_87_11, s_87_11_n, s_87_12, s_87_15, s_87_15_n, s_87_16, s_87_19, s_87_22, s_87_23, s_87_25, s_87_25_n, s_87_26, s_87_29, s_87_32, s_87_35, s_87_38, s_87_38_n, s_87_39, s_87_39_n, s_87_40, s_87_43, s_87_46, s_87_49, s_87_50, s_87_51, s_87_51_n, s_87_52, s_87_55, s_87_58, s_87_61, s_87_62, s_87_63, s_87_66, s_87_69, s_87_73, s_87_76, s_87_76_n, s_87_77, s_87_80, s_87_83, s_87_86, s_87_86_n, s_87_87, s_87_90, s_87_93, ↓reduceIte, eq_self, rts_some, rts_none, nq_int, nq_ref, nq_null, nq_none, okr1_0, okr1_1, okr_b, List.length_nil, List.length_cons, Nat.zero_le, Nat.reduceAdd, Nat.reduceLeDiff, b2i_0, b2i_n0, b2i_1, b2i_n1, ite_not, if_true, if_false, not_true_eq_false, not_false_eq_true, true_and, and_true, false_and, and_false, nI_1]
    refine ih (j + 1) (by omega) _ Ft' (rwF_WK hq hk) (rwF_12 hq hS) (rwF_Bk hk.1 hB) ?_ (fun q hq2 => (rwF_kd hk.1 hq2).trans (hkd q hq2))
    rw [enF_s]
    exact SL_rw (SL_c6 (SL_symm sl) hk.1) sl
theorem c_ends (hA : AK BIG LG gr z M F ex hd Mt Ft xt ht D cl kf nb c k1 k2 k3) {w : Int32} (H : AQ BIG LG G z M ex hd ht D Q (.int (enR M cl w))) : WP V (cdT Ev) mx (d + 8) 87 [.ref (LG 0), .int w] (GW LG gr 100 M F ex hd (WC LG 150 Mt Ft xt ht D) G z) Q := by
  have hg := AK_g hA
  have hc := (AK_I hA).1
  have hP := WI_PL (AK_I hA)
  unfold enR at H
  rw [e_87]
  by_cases hw : 0 ≤ w ∧ w ≤ 1
  · rw [if_pos hw] at H
    simp only [s_87_0, s_87_1, s_87_4, s_87_5, s_87_6, s_87_11, s_87_12, s_87_15, s_87_16, s_87_19, ↓reduceIte, eq_self, rts_some, rts_none, nq_int, nq_ref, nq_null, nq_none, okr1_0, okr1_1, okr_b, List.length_nil, List.length_cons, Nat.zero_le, Nat.reduceAdd, Nat.reduceLeDiff, b2i_0, b2i_n0, b2i_1, b2i_n1, ite_not, if_true, if_false, not_true_eq_false, not_false_eq_true, true_and, and_true, false_and, and_false, eq_false (Int32.not_lt.mpr hw.1), hw.2, dg_0 hg (AK_m2 hA), dg_1 hg (AK_m2 hA), tcv hg]
    refine c_tl' (d := d + 1) hA (fun LG' gr' G' z' M' hk hw' sl wi => ?_)
    have hg' := hk.2.1.1
    have hm' : DM LG' (WC LG' 100 M F ex hd D) kf nb := DM_W (by decide) (KP_DM hk (AK_m hA))
    have hb' : HB LG' (WC LG' 100 M F ex hd D) 150 hd cl := HB_t (AK_b hA) (KP_HB hk (AK_b hA) (AK_h hA))
    rw [← KP_x hk 0 (by omega)]
    simp only [s_87_22, s_87_23, ↓reduceIte, eq_self, rts_some, rts_none, nq_int, nq_ref, nq_null, nq_none, okr1_0, okr1_1, okr_b, List.length_nil, List.length_cons, Nat.zero_le, Nat.reduceAdd, Nat.reduceLeDiff, b2i_0, b2i_n0, b2i_1, b2i_n1, ite_not, if_true, if_false, not_true_eq_false, not_false_eq_true, true_and, and_true, false_and, and_false]
    refine c_ends_l (M' := M') hg' hm' hP hc hb' (fun A Ft' wkA slA hkd => ?_) k2 0 (by omega) M' Ft hw' (WI_12 wi) (WI_B wi) sl (fun _ _ => rfl)
    have H' := AQ_t H (KP_F (F2 := Ft') (h2 := hd) (M2 := A) (fun j hj _ => hkd j hj) hk) (Or.inl rfl)
    rw [hP.1, nI_clamp (by have := hP.2.1; omega), hc.1, nI_clamp (by have := hc.2; omega)] at H'
    by_cases h0 : w = 0
    · rw [if_pos h0] at H'
      simp only [s_87_0, s_87_1, s_87_4, s_87_5, s_87_6, s_87_9, s_87_10, s_87_11, s_87_11_n, s_87_12, s_87_15, s_87_15_n, s_87_16, s_87_19, s_87_22, s_87_23, s_87_25, s_87_25_n, s_87_26, s_87_29, s_87_32, s_87_35, s_87_38, s_87_38_n, s_87_39, s_87_39_n, s_87_40, s_87_43, s_87_46, s_87_49, s_87_50, s_87_51, s_87_51_n, s_87_52, s_87_55, s_87_58, s_87_61, s_87_62, s_87_63, s_87_66, s_87_69, s_87_72, s_87_73, s_87_76, s_87_76_n, s_87_77, s_87_80, s_87_83, s_87_86, s_87_86_n, s_87_87, s_87_90, s_87_93, ↓reduceIte, eq_self, rts_some, rts_none, nq_int, nq_ref, nq_null, nq_none, okr1_0, okr1_1, okr_b, List.length_nil, List.length_cons, Nat.zero_le, Nat.reduceAdd, Nat.reduceLeDiff, b2i_0, b2i_n0, b2i_1, b2i_n1, ite_not, if_true, if_false, not_true_eq_false, not_false_eq_true, true_and, and_true, false_and, and_false, h0, dg_1 hg' (DM_W (B := 150) (by decide) hm'), wg_4 hg', SL_s slA (show 13 < 14 by decide)]
      subst h0
      exact H'
    · rw [if_neg h0] at H'
      simp only [s_87_0, s_87_1, s_87_4, s_87_5, s_87_6, s_87_9, s_87_10, s_87_11, s_87_11_n, s_87_12, s_87_15, s_87_15_n, s_87_16, s_87_19, s_87_22, s_87_23, s_87_25, s_87_25_n, s_87_26, s_87_29, s_87_32, s_87_35, s_87_38, s_87_38_n, s_87_39, s_87_39_n, s_87_40, s_87_43, s_87_46, s_87_49, s_87_50, s_87_51, s_87_51_n, s_87_52, s_87_55, s_87_58, s_87_61, s_87_62, s_87_63, s_87_66, s_87_69, s_87_72, s_87_73, s_87_76, s_87_76_n, s_87_77, s_87_80, s_87_83, s_87_86, s_87_86_n, s_87_87, s_87_90, s_87_93, ↓reduceIte, eq_self, rts_some, rts_none, nq_int, nq_ref, nq_null, nq_none, okr1_0, okr1_1, okr_b, List.length_nil, List.length_cons, Nat.zero_le, Nat.reduceAdd, Nat.reduceLeDiff, b2i_0, b2i_n0, b2i_1, b2i_n1, ite_not, if_true, if_false, not_true_eq_false, not_false_eq_true, true_and, and_true, false_and, and_false, h0, dg_1 hg' (DM_W (B := 150) (by decide) hm'), wcv hg', c_allBack hg' wkA, SL_bk slA c (Nat.le_refl _)]
      exact H'
  · rw [if_neg hw] at H
    by_cases h0 : w < 0
    · simp only [s_87_0, s_87_1, s_87_9, s_87_10, ↓reduceIte, eq_self, rts_some, rts_none, nq_int, nq_ref, nq_null, nq_none, okr1_0, okr1_1, okr_b, List.length_nil, List.length_cons, Nat.zero_le, Nat.reduceAdd, Nat.reduceLeDiff, b2i_0, b2i_n0, b2i_1, b2i_n1, ite_not, if_true, if_false, not_true_eq_false, not_false_eq_true, true_and, and_true, false_and, and_false, h0]
      exact AQ_now hA H F
    · have h1 : ¬ w ≤ 1 := fun h => hw ⟨Int32.not_lt.mp h0, h⟩
      simp only [s_87_0, s_87_1, s_87_4, s_87_5, s_87_6, s_87_9, s_87_10, ↓reduceIte, eq_self, rts_some, rts_none, nq_int, nq_ref, nq_null, nq_none, okr1_0, okr1_1, okr_b, List.length_nil, List.length_cons, Nat.zero_le, Nat.reduceAdd, Nat.reduceLeDiff, b2i_0, b2i_n0, b2i_1, b2i_n1, ite_not, if_true, if_false, not_true_eq_false, not_false_eq_true, true_and, and_true, false_and, and_false, h0, h1]
      exact AQ_now hA H F
end
