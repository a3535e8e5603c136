/-! The class reads what joins tests. -/
/-- what is owed behind a reader, for what the text has there -/
def cA (LG gr : Nat → Nat) (r n k : Nat) (fr : Int32) (T wt en : Nat → Int32) (C G : Nat → Option AE) (z : Nat × Nat) (cs : Nat) (cd : Nat → Int32) (res : Bool × Nat × List Int32) (Q : Option Value → HS → Prop) : Prop := (res.1 = true → ∀ cd', (∀ q, q < cs → cd' q = cd q) → (∀ q x, res.2.2[q]? = some x → cd' (cs + q) = x) → Q (some (.int 1)) (GH LG gr (BC LG r n res.2.1 (cs + res.2.2.length) k fr T cd' wt en C) G z)) ∧ (res.1 = false → ∀ cd' cs', Q (some (.int 0)) (GH LG gr (BC LG r n res.2.1 cs' k fr T cd' wt en C) G z))
theorem get_app {l1 l2 : List Int32} {cd : Nat → Int32} {cs : Nat} (h1 : ∀ q x, l1[q]? = some x → cd (cs + q) = x) (h2 : ∀ q x, l2[q]? = some x → cd (cs + l1.length + q) = x) : ∀ q x, (l1 ++ l2)[q]? = some x → cd (cs + q) = x := by
  intro q x h
  rw [List.getElem?_append] at h
  split at h
  · exact h1 q x h
  · rename_i hq
    have := h2 (q - l1.length) x h
    rwa [show cs + l1.length + (q - l1.length) = cs + q by omega] at this
section
variable {V : Nat → Option AE} {Ev : Nat → Value}
variable {LG gr : Nat → Nat} {r n k : Nat} {fr : Int32} {T wt en : Nat → Int32} {C G : Nat → Option AE} {z : Nat × Nat}
theorem rdC (hg : ∀ r, gr (LG r) = r) (hE : ES5 V Ev LG gr G z) (hT : TX T n) : ∀ (g w a : Nat), w ≤ 4 → a ≤ n →
    (4 * (n - a) + 3 ≤ g → ∀ (d cs : Nat) (cd : Nat → Int32) (Q : Option Value → HS → Prop), 10 + 3 * (4 - w) ≤ d → cs ≤ a → cA LG gr r n k fr T wt en C G z cs cd (pE T n g 0 w a) Q → WP V (cdT Ev) mx d 5 [.ref (LG r), .int (nI w)] (GH LG gr (BC LG r n a cs k fr T cd wt en C) G z) Q) ∧
    (4 * (n - a) + 2 ≤ g → ∀ (d cs : Nat) (cd : Nat → Int32) (Q : Option Value → HS → Prop), 9 + 3 * (4 - w) ≤ d → cs ≤ a → cA LG gr r n k fr T wt en C G z cs cd (pE T n g 1 w a) Q → WP V (cdT Ev) mx d 6 [.ref (LG r), .int (nI w)] (GH LG gr (BC LG r n a cs k fr T cd wt en C) G z) Q) ∧
    (4 * (n - a) + 1 ≤ g → ∀ (d cs : Nat) (cd : Nat → Int32) (Q : Option Value → HS → Prop), 8 + 3 * (4 - w) ≤ d → cs ≤ a → cA LG gr r n k fr T wt en C G z cs cd (pE T n g 2 w a) Q → WP V (cdT Ev) mx d 7 [.ref (LG r), .int (nI w)] (GH LG gr (BC LG r n a cs k fr T cd wt en C) G z) Q) ∧
    (4 * (n - a) + 1 ≤ g → ∀ (d i cs : Nat) (cd : Nat → Int32) (Q : Option Value → HS → Prop), 9 + 3 * (4 - w) ≤ d → i + 1 ≤ a → cs ≤ a → cA LG gr r n k fr T wt en C G z cs cd (pE T n g 3 w a) Q → wp V (cdT Ev) mx d 5 8 [some (.ref (LG r)), some (.int (nI w)), some (.int 1), some (.int (nI i))] [] (GH LG gr (BC LG r n a cs k fr T cd wt en C) G z) Q) ∧
    (4 * (n - a) + 1 ≤ g → ∀ (d i cs : Nat) (cd : Nat → Int32) (Q : Option Value → HS → Prop), 8 + 3 * (4 - w) ≤ d → i + 1 ≤ a → cs ≤ a → cA LG gr r n k fr T wt en C G z cs cd (pE T n g 4 w a) Q → wp V (cdT Ev) mx d 6 8 [some (.ref (LG r)), some (.int (nI w)), some (.int 1), some (.int (nI i))] [] (GH LG gr (BC LG r n a cs k fr T cd wt en C) G z) Q) := by
  have hn := hT.1
  have z10 : ((1 : Int32) = 0) = False := by decide
  -- an end with 0
  have end5 : ∀ (d w i a cs : Nat) (cd : Nat → Int32) (Q : Option Value → HS → Prop), Q (some (.int 0)) (GH LG gr (BC LG r n a cs k fr T cd wt en C) G z) → wp V (cdT Ev) mx d 5 8 [some (.ref (LG r)), some (.int (nI w)), some (.int 0), some (.int (nI i))] [] (GH LG gr (BC LG r n a cs k fr T cd wt en C) G z) Q := by
    intro d w i a cs cd Q h
    rw [s_5_8]
    simp only [s_5_9, s_5_10, s_5_13, s_5_16, s_5_17, s_5_58, s_5_59, ↓reduceIte, eq_self, rts_some, rts_none, nq_int, nq_ref, nq_null, nq_none, okr1_0, okr1_1, okr_b, List.length_nil, List.length_cons, Nat.zero_le, Nat.reduceAdd, Nat.reduceLeDiff, b2i_0, b2i_n0, b2i_1, b2i_n1, ite_not, if_true, if_false, not_true_eq_false, not_false_eq_true, true_and, and_true, false_and, and_false, bg_1 hg, ite_self]
    exact h
  have end6 : ∀ (d w i a cs : Nat) (cd : Nat → Int32) (Q : Option Value → HS → Prop), Q (some (.int 0)) (GH LG gr (BC LG r n a cs k fr T cd wt en C) G z) → wp V (cdT Ev) mx d 6 8 [some (.ref (LG r)), some (.int (nI w)), some (.int 0), some (.int (nI i))] [] (GH LG gr (BC LG r n a cs k fr T cd wt en C) G z) Q := by
    intro d w i a cs cd Q h
    rw [s_6_8]
    simp only [s_6_9, s_6_10, s_6_13, s_6_16, s_6_17, s_6_58, s_6_59, ↓reduceIte, eq_self, rts_some, rts_none, nq_int, nq_ref, nq_null, nq_none, okr1_0, okr1_1, okr_b, List.length_nil, List.length_cons, Nat.zero_le, Nat.reduceAdd, Nat.reduceLeDiff, b2i_0, b2i_n0, b2i_1, b2i_n1, ite_not, if_true, if_false, not_true_eq_false, not_false_eq_true, true_and, and_true, false_and, and_false, bg_1 hg, ite_self]
    exact h
  intro g
  induction g with
  | zero =>
    intro w a hw ha
    exact ⟨fun h => absurd h (by omega), fun h => absurd h (by omega), fun h => absurd h (by omega), fun h => absurd h (by omega), fun h => absurd h (by omega)⟩
  | succ g ih =>
    intro w a hw ha
    refine ⟨fun hgg d cs cd Q hd hcs H => ?_, fun hgg d cs cd Q hd hcs H => ?_, fun hgg d cs cd Q hd hcs H => ?_, fun hgg d i cs cd Q hd hi hcs H => ?_, fun hgg d i cs cd Q hd hi hcs H => ?_⟩
    · -- isEither
      obtain ⟨d, rfl⟩ : ∃ q, d = q + 1 := ⟨d - 1, by omega⟩
      rw [e_5]
      simp only [s_5_0, s_5_1, s_5_2, ↓reduceIte, eq_self, rts_some, rts_none, nq_int, nq_ref, nq_null, nq_none, okr1_0, okr1_1, okr_b, List.length_nil, List.length_cons, Nat.zero_le, Nat.reduceAdd, Nat.reduceLeDiff, b2i_0, b2i_n0, b2i_1, b2i_n1, ite_not, if_true, if_false, not_true_eq_false, not_false_eq_true, true_and, and_true, false_and, and_false, bcv hg]
      refine (ih w a hw ha).2.1 (by omega) d cs cd _ (by omega) hcs ?_
      have adv := pE_adv T n g 1 w a ha
      have len := pE_len T n g 1 w a
      simp only [pE] at H
      generalize e1 : pE T n g 1 w a = r1 at H adv len
      obtain ⟨o1, a1, c1⟩ := r1
      refine ⟨fun ho cd1 hc1 hl1 => ?_, fun ho cd1 cs1 => ?_⟩
      · have ho' : o1 = true := ho
        subst ho'
        have hlen := (len a1 c1 rfl).2 (by decide)
        simp only at adv hc1 hl1 H hlen ⊢
        simp only [s_5_5, s_5_6, s_5_7, ↓reduceIte, eq_self, rts_some, rts_none, nq_int, nq_ref, nq_null, nq_none, okr1_0, okr1_1, okr_b, List.length_nil, List.length_cons, Nat.zero_le, Nat.reduceAdd, Nat.reduceLeDiff, b2i_0, b2i_n0, b2i_1, b2i_n1, ite_not, if_true, if_false, not_true_eq_false, not_false_eq_true, true_and, and_true, false_and, and_false]
        have b1 : a < a1 := adv.2.2 trivial (by decide)
        refine (ih w a1 hw adv.2.1).2.2.2.1 (by omega) d 0 (cs + c1.length) cd1 Q (by omega) (by omega) (by omega) ?_
        generalize e2 : pE T n g 3 w a1 = r2 at H
        obtain ⟨o2, a2, c2⟩ := r2
        simp only at H
        refine ⟨fun ho2 cd2 hc2 hl2 => ?_, fun ho2 cd2 cs2 => H.2 ho2 cd2 cs2⟩
        have := H.1 ho2 cd2 (fun q hq => (hc2 q (by omega)).trans (hc1 q hq)) (get_app (fun q x hq => by
          have hql : q < c1.length := by
            rcases Nat.lt_or_ge q c1.length with h1 | h1
            · exact h1
            · rw [List.getElem?_eq_none h1] at hq
              cases hq
          rw [hc2 _ (by omega)]
          exact hl1 q x hq) hl2)
        simp only [List.length_append] at this
        rw [← Nat.add_assoc] at this
        exact this
      · have ho' : o1 = false := ho
        subst ho'
        simp only at H
        simp only [s_5_5, s_5_6, s_5_7, ↓reduceIte, eq_self, rts_some, rts_none, nq_int, nq_ref, nq_null, nq_none, okr1_0, okr1_1, okr_b, List.length_nil, List.length_cons, Nat.zero_le, Nat.reduceAdd, Nat.reduceLeDiff, b2i_0, b2i_n0, b2i_1, b2i_n1, ite_not, if_true, if_false, not_true_eq_false, not_false_eq_true, true_and, and_true, false_and, and_false]
        exact end5 d w 0 a1 cs1 cd1 Q (H.2 rfl cd1 cs1)
    · -- isBoth
      obtain ⟨d, rfl⟩ : ∃ q, d = q + 1 := ⟨d - 1, by omega⟩
      rw [e_6]
      simp only [s_6_0, s_6_1, s_6_2, ↓reduceIte, eq_self, rts_some, rts_none, nq_int, nq_ref, nq_null, nq_none, okr1_0, okr1_1, okr_b, List.length_nil, List.length_cons, Nat.zero_le, Nat.reduceAdd, Nat.reduceLeDiff, b2i_0, b2i_n0, b2i_1, b2i_n1, ite_not, if_true, if_false, not_true_eq_false, not_false_eq_true, true_and, and_true, false_and, and_false, bcv hg]
      refine (ih w a hw ha).2.2.1 (by omega) d cs cd _ (by omega) hcs ?_
      have adv := pE_adv T n g 2 w a ha
      have len := pE_len T n g 2 w a
      simp only [pE] at H
      generalize e1 : pE T n g 2 w a = r1 at H adv len
      obtain ⟨o1, a1, c1⟩ := r1
      refine ⟨fun ho cd1 hc1 hl1 => ?_, fun ho cd1 cs1 => ?_⟩
      · have ho' : o1 = true := ho
        subst ho'
        have hlen := (len a1 c1 rfl).2 (by decide)
        simp only at adv hc1 hl1 H hlen ⊢
        simp only [s_6_5, s_6_6, s_6_7, ↓reduceIte, eq_self, rts_some, rts_none, nq_int, nq_ref, nq_null, nq_none, okr1_0, okr1_1, okr_b, List.length_nil, List.length_cons, Nat.zero_le, Nat.reduceAdd, Nat.reduceLeDiff, b2i_0, b2i_n0, b2i_1, b2i_n1, ite_not, if_true, if_false, not_true_eq_false, not_false_eq_true, true_and, and_true, false_and, and_false]
        have b1 : a < a1 := adv.2.2 trivial (by decide)
        refine (ih w a1 hw adv.2.1).2.2.2.2 (by omega) d 0 (cs + c1.length) cd1 Q (by omega) (by omega) (by omega) ?_
        generalize e2 : pE T n g 4 w a1 = r2 at H
        obtain ⟨o2, a2, c2⟩ := r2
        simp only at H
        refine ⟨fun ho2 cd2 hc2 hl2 => ?_, fun ho2 cd2 cs2 => H.2 ho2 cd2 cs2⟩
        have := H.1 ho2 cd2 (fun q hq => (hc2 q (by omega)).trans (hc1 q hq)) (get_app (fun q x hq => by
          have hql : q < c1.length := by
            rcases Nat.lt_or_ge q c1.length with h1 | h1
            · exact h1
            · rw [List.getElem?_eq_none h1] at hq
              cases hq
          rw [hc2 _ (by omega)]
          exact hl1 q x hq) hl2)
        simp only [List.length_append] at this
        rw [← Nat.add_assoc] at this
        exact this
      · have ho' : o1 = false := ho
        subst ho'
        simp only at H
        simp only [s_6_5, s_6_6, s_6_7, ↓reduceIte, eq_self, rts_some, rts_none, nq_int, nq_ref, nq_null, nq_none, okr1_0, okr1_1, okr_b, List.length_nil, List.length_cons, Nat.zero_le, Nat.reduceAdd, Nat.reduceLeDiff, b2i_0, b2i_n0, b2i_1, b2i_n1, ite_not, if_true, if_false, not_true_eq_false, not_false_eq_true, true_and, and_true, false_and, and_false]
        exact end6 d w 0 a1 cs1 cd1 Q (H.2 rfl cd1 cs1)
    · -- isFactor
      obtain ⟨d, rfl⟩ : ∃ q, d = q + 1 := ⟨d - 1, by omega⟩
      have hx : ix (nI a) 101 = True := ix_nIT (by omega) (by decide)
      have hcl := nI_clamp (show a < 2 ^ 31 by omega)
      have lt0 : ∀ c : Int32, ¬ c = 0 → T a = c → a < n := by
        intro c hc h
        rcases Nat.lt_or_ge a n with h1 | h1
        · exact h1
        · exfalso
          apply hc
          rw [← h, show a = n by omega, hT.2.1]
      rw [e_7]
      by_cases h33 : T a = 33
      · have hlt := lt0 33 (by decide) h33
        by_cases hw4 : w < 4
        · have kw : (nI w < 4) = True := eq_true (nI_lt (a := w) (b := 4) hw4 (by decide))
          have c33 : w < 4 ∧ a < n ∧ T a = 33 := ⟨hw4, hlt, h33⟩
          simp only [pE] at H
          rw [if_pos c33] at H
          simp only [s_7_0, s_7_1, s_7_4, s_7_5, s_7_8, s_7_9, s_7_11, s_7_33, s_7_34, s_7_35, s_7_40, s_7_41, s_7_43, ↓reduceIte, eq_self, rts_some, rts_none, nq_int, nq_ref, nq_null, nq_none, okr1_0, okr1_1, okr_b, List.length_nil, List.length_cons, Nat.zero_le, Nat.reduceAdd, Nat.reduceLeDiff, b2i_0, b2i_n0, b2i_1, b2i_n1, ite_not, if_true, if_false, not_true_eq_false, not_false_eq_true, true_and, and_true, false_and, and_false, bg_0 hg, bg_2 hg, ba_1 hg, hx, hcl, h33, kw, bcv hg]
          obtain ⟨d, rfl⟩ : ∃ q, d = q + 1 := ⟨d - 1, by omega⟩
          rw [c_isNext hg hT ha (by decide), if_pos ⟨hlt, h33⟩]
          simp only [s_7_46, s_7_49, s_7_50, s_7_51, s_7_52, s_7_53, ↓reduceIte, eq_self, rts_some, rts_none, nq_int, nq_ref, nq_null, nq_none, okr1_0, okr1_1, okr_b, List.length_nil, List.length_cons, Nat.zero_le, Nat.reduceAdd, Nat.reduceLeDiff, b2i_0, b2i_n0, b2i_1, b2i_n1, ite_not, if_true, if_false, not_true_eq_false, not_false_eq_true, true_and, and_true, false_and, and_false, z10, nI_1, bcv hg]
          refine (ih (w + 1) (a + 1) (by omega) (by omega)).2.2.1 (by omega) (d + 1) cs cd _ (by omega) (by omega) ?_
          have len := pE_len T n g 2 (w + 1) (a + 1)
          have adv := pE_adv T n g 2 (w + 1) (a + 1) (by omega)
          generalize e1 : pE T n g 2 (w + 1) (a + 1) = r1 at H len adv
          obtain ⟨o1, a1, c1⟩ := r1
          refine ⟨fun ho cd1 hc1 hl1 => ?_, fun ho cd1 cs1 => ?_⟩
          · have ho' : o1 = true := ho
            subst ho'
            have hlen := (len a1 c1 rfl).2 (by decide)
            simp only at hc1 hl1 H hlen adv ⊢
            simp only [s_7_56, s_7_59, s_7_60, s_7_61, s_7_64, s_7_67, s_7_68, s_7_72, ↓reduceIte, eq_self, rts_some, rts_none, nq_int, nq_ref, nq_null, nq_none, okr1_0, okr1_1, okr_b, List.length_nil, List.length_cons, Nat.zero_le, Nat.reduceAdd, Nat.reduceLeDiff, b2i_0, b2i_n0, b2i_1, b2i_n1, ite_not, if_true, if_false, not_true_eq_false, not_false_eq_true, true_and, and_true, false_and, and_false, z10, bcv hg, c_isKept hg (show cs + c1.length < 100 by omega)]
            have := H.1 rfl (upd cd1 (cs + c1.length) (-1)) (fun q hq => (pk_un (by omega)).trans (hc1 q hq)) (get_app (fun q x hq => by
              have hql : q < c1.length := by
                rcases Nat.lt_or_ge q c1.length with h1 | h1
                · exact h1
                · rw [List.getElem?_eq_none h1] at hq
                  cases hq
              rw [pk_un (by omega)]
              exact hl1 q x hq) (fun q x hq => by
              match q, hq with
              | 0, hq =>
                simp at hq
                rw [Nat.add_zero, pk_us, hq]
              | q + 1, hq => simp at hq))
            simp only [List.length_append, List.length_cons, List.length_nil, Nat.zero_add] at this
            rw [← Nat.add_assoc] at this
            exact this
          · have ho' : o1 = false := ho
            subst ho'
            simp only at H
            simp only [s_7_56, s_7_71, s_7_72, ↓reduceIte, eq_self, rts_some, rts_none, nq_int, nq_ref, nq_null, nq_none, okr1_0, okr1_1, okr_b, List.length_nil, List.length_cons, Nat.zero_le, Nat.reduceAdd, Nat.reduceLeDiff, b2i_0, b2i_n0, b2i_1, b2i_n1, ite_not, if_true, if_false, not_true_eq_false, not_false_eq_true, true_and, and_true, false_and, and_false]
            exact H.2 rfl cd1 cs1
        · have kw : (nI w < 4) = False := eq_false (nI_nlt (a := w) (b := 4) (by omega) (by omega))
          have ep : pE T n (g + 1) 2 w a = (false, a, []) := by
            simp only [pE]
            rw [if_neg (fun h => hw4 h.1), if_neg (fun h => hw4 h.1)]
            have : pTest T n a = (false, a, 0) := by
              unfold pTest
              rw [if_pos hlt, h33, show pLet 33 = none by decide]
            rw [this]
          rw [ep] at H
          simp only [s_7_0, s_7_1, s_7_4, s_7_5, s_7_8, s_7_9, s_7_11, s_7_33, s_7_34, s_7_35, s_7_38, s_7_39, ↓reduceIte, eq_self, rts_some, rts_none, nq_int, nq_ref, nq_null, nq_none, okr1_0, okr1_1, okr_b, List.length_nil, List.length_cons, Nat.zero_le, Nat.reduceAdd, Nat.reduceLeDiff, b2i_0, b2i_n0, b2i_1, b2i_n1, ite_not, if_true, if_false, not_true_eq_false, not_false_eq_true, true_and, and_true, false_and, and_false, bg_0 hg, bg_2 hg, ba_1 hg, hx, hcl, h33, kw]
          exact H.2 rfl cd cs
      · by_cases h40 : T a = 40
        · have hlt := lt0 40 (by decide) h40
          have h33' : ((40 : Int32) = 33) = False := by decide
          by_cases hw4 : w < 4
          · have kw : (nI w < 4) = True := eq_true (nI_lt (a := w) (b := 4) hw4 (by decide))
            have c40 : w < 4 ∧ a < n ∧ T a = 40 := ⟨hw4, hlt, h40⟩
            simp only [pE] at H
            rw [if_neg (fun h => h33 h.2.2), if_pos c40] at H
            simp only [s_7_0, s_7_1, s_7_4, s_7_5, s_7_8, s_7_9, s_7_11, s_7_14, s_7_15, s_7_18, s_7_19, s_7_22, s_7_23, s_7_25, s_7_33, s_7_34, s_7_35, s_7_40, s_7_41, s_7_43, ↓reduceIte, eq_self, rts_some, rts_none, nq_int, nq_ref, nq_null, nq_none, okr1_0, okr1_1, okr_b, List.length_nil, List.length_cons, Nat.zero_le, Nat.reduceAdd, Nat.reduceLeDiff, b2i_0, b2i_n0, b2i_1, b2i_n1, ite_not, if_true, if_false, not_true_eq_false, not_false_eq_true, true_and, and_true, false_and, and_false, bg_0 hg, bg_2 hg, ba_1 hg, hx, hcl, h40, h33', kw, bcv hg]
            obtain ⟨d, rfl⟩ : ∃ q, d = q + 1 := ⟨d - 1, by omega⟩
            rw [c_isNext hg hT ha (by decide), if_neg (fun h => h33 h.2)]
            simp only [s_7_46, s_7_73, s_7_74, s_7_75, s_7_78, s_7_79, s_7_80, s_7_83, s_7_84, s_7_85, s_7_86, s_7_87, ↓reduceIte, eq_self, rts_some, rts_none, nq_int, nq_ref, nq_null, nq_none, okr1_0, okr1_1, okr_b, List.length_nil, List.length_cons, Nat.zero_le, Nat.reduceAdd, Nat.reduceLeDiff, b2i_0, b2i_n0, b2i_1, b2i_n1, ite_not, if_true, if_false, not_true_eq_false, not_false_eq_true, true_and, and_true, false_and, and_false, is1_r, bg_2 hg, nI_1, bp_2 hg, bcv hg]
            refine (ih (w + 1) (a + 1) (by omega) (by omega)).1 (by omega) (d + 1) cs cd _ (by omega) (by omega) ?_
            have adv := pE_adv T n g 0 (w + 1) (a + 1) (by omega)
            generalize e1 : pE T n g 0 (w + 1) (a + 1) = r1 at H adv
            obtain ⟨o1, a1, c1⟩ := r1
            refine ⟨fun ho cd1 hc1 hl1 => ?_, fun ho cd1 cs1 => ?_⟩
            · have ho' : o1 = true := ho
              subst ho'
              simp only at hc1 hl1 H adv ⊢
              simp only [s_7_90, s_7_93, s_7_94, s_7_96, ↓reduceIte, eq_self, rts_some, rts_none, nq_int, nq_ref, nq_null, nq_none, okr1_0, okr1_1, okr_b, List.length_nil, List.length_cons, Nat.zero_le, Nat.reduceAdd, Nat.reduceLeDiff, b2i_0, b2i_n0, b2i_1, b2i_n1, ite_not, if_true, if_false, not_true_eq_false, not_false_eq_true, true_and, and_true, false_and, and_false, z10, bcv hg]
              rw [c_isNext hg hT adv.2.1 (by decide)]
              by_cases h41 : a1 < n ∧ T a1 = 41
              · rw [if_pos h41] at H ⊢
                simp only [s_7_99, s_7_102, s_7_103, s_7_107, ↓reduceIte, eq_self, rts_some, rts_none, nq_int, nq_ref, nq_null, nq_none, okr1_0, okr1_1, okr_b, List.length_nil, List.length_cons, Nat.zero_le, Nat.reduceAdd, Nat.reduceLeDiff, b2i_0, b2i_n0, b2i_1, b2i_n1, ite_not, if_true, if_false, not_true_eq_false, not_false_eq_true, true_and, and_true, false_and, and_false, z10]
                exact H.1 rfl cd1 hc1 hl1
              · rw [if_neg h41] at H ⊢
                simp only [s_7_99, s_7_106, s_7_107, ↓reduceIte, eq_self, rts_some, rts_none, nq_int, nq_ref, nq_null, nq_none, okr1_0, okr1_1, okr_b, List.length_nil, List.length_cons, Nat.zero_le, Nat.reduceAdd, Nat.reduceLeDiff, b2i_0, b2i_n0, b2i_1, b2i_n1, ite_not, if_true, if_false, not_true_eq_false, not_false_eq_true, true_and, and_true, false_and, and_false]
                exact H.2 rfl cd1 _
            · have ho' : o1 = false := ho
              subst ho'
              simp only at H
              simp only [s_7_90, s_7_106, s_7_107, ↓reduceIte, eq_self, rts_some, rts_none, nq_int, nq_ref, nq_null, nq_none, okr1_0, okr1_1, okr_b, List.length_nil, List.length_cons, Nat.zero_le, Nat.reduceAdd, Nat.reduceLeDiff, b2i_0, b2i_n0, b2i_1, b2i_n1, ite_not, if_true, if_false, not_true_eq_false, not_false_eq_true, true_and, and_true, false_and, and_false]
              exact H.2 rfl cd1 cs1
          · have kw : (nI w < 4) = False := eq_false (nI_nlt (a := w) (b := 4) (by omega) (by omega))
            have ep : pE T n (g + 1) 2 w a = (false, a, []) := by
              simp only [pE]
              rw [if_neg (fun h => hw4 h.1), if_neg (fun h => hw4 h.1)]
              have : pTest T n a = (false, a, 0) := by
                unfold pTest
                rw [if_pos hlt, h40, show pLet 40 = none by decide]
              rw [this]
            rw [ep] at H
            simp only [s_7_0, s_7_1, s_7_4, s_7_5, s_7_8, s_7_9, s_7_11, s_7_14, s_7_15, s_7_18, s_7_19, s_7_22, s_7_23, s_7_25, s_7_33, s_7_34, s_7_35, s_7_38, s_7_39, ↓reduceIte, eq_self, rts_some, rts_none, nq_int, nq_ref, nq_null, nq_none, okr1_0, okr1_1, okr_b, List.length_nil, List.length_cons, Nat.zero_le, Nat.reduceAdd, Nat.reduceLeDiff, b2i_0, b2i_n0, b2i_1, b2i_n1, ite_not, if_true, if_false, not_true_eq_false, not_false_eq_true, true_and, and_true, false_and, and_false, bg_0 hg, bg_2 hg, ba_1 hg, hx, hcl, h40, h33', kw]
            exact H.2 rfl cd cs
        · simp only [pE] at H
          rw [if_neg (fun h => h33 h.2.2), if_neg (fun h => h40 h.2.2)] at H
          simp only [s_7_0, s_7_1, s_7_4, s_7_5, s_7_8, s_7_9, s_7_11, s_7_14, s_7_15, s_7_18, s_7_19, s_7_22, s_7_23, s_7_25, s_7_28, s_7_29, ↓reduceIte, eq_self, rts_some, rts_none, nq_int, nq_ref, nq_null, nq_none, okr1_0, okr1_1, okr_b, List.length_nil, List.length_cons, Nat.zero_le, Nat.reduceAdd, Nat.reduceLeDiff, b2i_0, b2i_n0, b2i_1, b2i_n1, ite_not, if_true, if_false, not_true_eq_false, not_false_eq_true, true_and, and_true, false_and, and_false, bg_0 hg, bg_2 hg, ba_1 hg, hx, hcl, h33, h40, bcv hg]
          obtain ⟨d, rfl⟩ : ∃ q, d = q + 7 := ⟨d - 7, by omega⟩
          rw [c_isTest hg hE hT ha hcs]
          generalize e1 : pTest T n a = r1 at H
          obtain ⟨o1, a1, c⟩ := r1
          cases o1 with
          | true =>
            simp only [if_true] at H ⊢
            simp only [s_7_32, ↓reduceIte, eq_self, rts_some, rts_none, nq_int, nq_ref, nq_null, nq_none, okr1_0, okr1_1, okr_b, List.length_nil, List.length_cons, Nat.zero_le, Nat.reduceAdd, Nat.reduceLeDiff, b2i_0, b2i_n0, b2i_1, b2i_n1, ite_not, if_true, if_false, not_true_eq_false, not_false_eq_true, true_and, and_true, false_and, and_false]
            refine H.1 rfl (upd cd cs c) (fun q hq => pk_un (by omega)) (fun q x hq => ?_)
            match q, hq with
            | 0, hq =>
              simp at hq
              rw [Nat.add_zero, pk_us, hq]
            | q + 1, hq => simp at hq
          | false =>
            simp only [Bool.false_eq_true, if_false] at H ⊢
            simp only [s_7_32, ↓reduceIte, eq_self, rts_some, rts_none, nq_int, nq_ref, nq_null, nq_none, okr1_0, okr1_1, okr_b, List.length_nil, List.length_cons, Nat.zero_le, Nat.reduceAdd, Nat.reduceLeDiff, b2i_0, b2i_n0, b2i_1, b2i_n1, ite_not, if_true, if_false, not_true_eq_false, not_false_eq_true, true_and, and_true, false_and, and_false]
            exact H.2 rfl cd cs
    · -- what follows in isEither
      have hin : (nI n ≤ nI i) = False := eq_false (nI_ge (show i < n by omega) (by omega))
      obtain ⟨d, rfl⟩ : ∃ q, d = q + 1 := ⟨d - 1, by omega⟩
      rw [s_5_8]
      simp only [s_5_9, s_5_10, s_5_13, s_5_16, s_5_17, s_5_20, s_5_21, s_5_23, ↓reduceIte, eq_self, rts_some, rts_none, nq_int, nq_ref, nq_null, nq_none, okr1_0, okr1_1, okr_b, List.length_nil, List.length_cons, Nat.zero_le, Nat.reduceAdd, Nat.reduceLeDiff, b2i_0, b2i_n0, b2i_1, b2i_n1, ite_not, if_true, if_false, not_true_eq_false, not_false_eq_true, true_and, and_true, false_and, and_false, bg_1 hg, hin, z10, bcv hg]
      rw [c_isNext hg hT ha (by decide)]
      simp only [pE] at H
      by_cases cc : a < n ∧ T a = 124
      · rw [if_pos cc] at H ⊢
        simp only [s_5_26, s_5_29, s_5_30, s_5_31, ↓reduceIte, eq_self, rts_some, rts_none, nq_int, nq_ref, nq_null, nq_none, okr1_0, okr1_1, okr_b, List.length_nil, List.length_cons, Nat.zero_le, Nat.reduceAdd, Nat.reduceLeDiff, b2i_0, b2i_n0, b2i_1, b2i_n1, ite_not, if_true, if_false, not_true_eq_false, not_false_eq_true, true_and, and_true, false_and, and_false, z10, bcv hg]
        refine (ih w (a + 1) hw (by omega)).2.1 (by omega) (d + 1) cs cd _ (by omega) (by omega) ?_
        have adv := pE_adv T n g 1 w (a + 1) (by omega)
        have len := pE_len T n g 1 w (a + 1)
        generalize e1 : pE T n g 1 w (a + 1) = r1 at H adv len
        obtain ⟨o1, a1, c1⟩ := r1
        refine ⟨fun ho cd1 hc1 hl1 => ?_, fun ho cd1 cs1 => ?_⟩
        · have ho' : o1 = true := ho
          subst ho'
          have hlen := (len a1 c1 rfl).2 (by decide)
          simp only at adv hc1 hl1 H hlen ⊢
          have b1 : a + 1 < a1 := adv.2.2 trivial (by decide)
          simp only [s_5_34, s_5_37, s_5_38, s_5_40, s_5_43, s_5_46, s_5_47, s_5_51, s_5_52, s_5_55, ↓reduceIte, eq_self, rts_some, rts_none, nq_int, nq_ref, nq_null, nq_none, okr1_0, okr1_1, okr_b, List.length_nil, List.length_cons, Nat.zero_le, Nat.reduceAdd, Nat.reduceLeDiff, b2i_0, b2i_n0, b2i_1, b2i_n1, ite_not, if_true, if_false, not_true_eq_false, not_false_eq_true, true_and, and_true, false_and, and_false, z10, bcv hg, c_isKept hg (show cs + c1.length < 100 by omega), nI_1]
          refine (ih w a1 hw adv.2.1).2.2.2.1 (by omega) (d + 1) (i + 1) (cs + c1.length + 1) _ Q (by omega) (by omega) (by omega) ?_
          generalize e2 : pE T n g 3 w a1 = r2 at H
          obtain ⟨o2, a2, c2⟩ := r2
          simp only at H
          refine ⟨fun ho2 cd2 hc2 hl2 => ?_, fun ho2 cd2 cs2 => H.2 ho2 cd2 cs2⟩
          have := H.1 ho2 cd2 (fun q hq => by
            rw [hc2 q (by omega), pk_un (by omega)]
            exact hc1 q hq) (get_app (get_app (fun q x hq => by
            have hql : q < c1.length := by
              rcases Nat.lt_or_ge q c1.length with h1 | h1
              · exact h1
              · rw [List.getElem?_eq_none h1] at hq
                cases hq
            rw [hc2 _ (by omega), pk_un (by omega)]
            exact hl1 q x hq) (fun q x hq => by
            match q, hq with
            | 0, hq =>
              simp at hq
              rw [hc2 _ (by omega), Nat.add_zero, pk_us, hq]
            | q + 1, hq => simp at hq)) (fun q x hq => by
            have t := hl2 q x hq
            simp only [List.length_append, List.length_cons, List.length_nil]
            rwa [show cs + (c1.length + (0 + 1)) + q = cs + c1.length + 1 + q by omega]))
          simp only [List.length_append, List.length_cons, List.length_nil] at this
          rw [show cs + (c1.length + (0 + 1) + c2.length) = cs + c1.length + 1 + c2.length by omega] at this
          exact this
        · have ho' : o1 = false := ho
          subst ho'
          simp only at H
          simp only [s_5_34, s_5_50, s_5_51, s_5_52, s_5_55, ↓reduceIte, eq_self, rts_some, rts_none, nq_int, nq_ref, nq_null, nq_none, okr1_0, okr1_1, okr_b, List.length_nil, List.length_cons, Nat.zero_le, Nat.reduceAdd, Nat.reduceLeDiff, b2i_0, b2i_n0, b2i_1, b2i_n1, ite_not, if_true, if_false, not_true_eq_false, not_false_eq_true, true_and, and_true, false_and, and_false, nI_1]
          exact end5 (d + 1) w (i + 1) a1 cs1 cd1 Q (H.2 rfl cd1 cs1)
      · rw [if_neg cc] at H ⊢
        simp only [s_5_26, s_5_58, s_5_59, ↓reduceIte, eq_self, rts_some, rts_none, nq_int, nq_ref, nq_null, nq_none, okr1_0, okr1_1, okr_b, List.length_nil, List.length_cons, Nat.zero_le, Nat.reduceAdd, Nat.reduceLeDiff, b2i_0, b2i_n0, b2i_1, b2i_n1, ite_not, if_true, if_false, not_true_eq_false, not_false_eq_true, true_and, and_true, false_and, and_false]
        exact H.1 rfl cd (fun _ _ => rfl) (fun q x hq => by simp at hq)
    · -- what follows in isBoth
      have hin : (nI n ≤ nI i) = False := eq_false (nI_ge (show i < n by omega) (by omega))
      obtain ⟨d, rfl⟩ : ∃ q, d = q + 1 := ⟨d - 1, by omega⟩
      rw [s_6_8]
      simp only [s_6_9, s_6_10, s_6_13, s_6_16, s_6_17, s_6_20, s_6_21, s_6_23, ↓reduceIte, eq_self, rts_some, rts_none, nq_int, nq_ref, nq_null, nq_none, okr1_0, okr1_1, okr_b, List.length_nil, List.length_cons, Nat.zero_le, Nat.reduceAdd, Nat.reduceLeDiff, b2i_0, b2i_n0, b2i_1, b2i_n1, ite_not, if_true, if_false, not_true_eq_false, not_false_eq_true, true_and, and_true, false_and, and_false, bg_1 hg, hin, z10, bcv hg]
      rw [c_isNext hg hT ha (by decide)]
      simp only [pE] at H
      by_cases cc : a < n ∧ T a = 38
      · rw [if_pos cc] at H ⊢
        simp only [s_6_26, s_6_29, s_6_30, s_6_31, ↓reduceIte, eq_self, rts_some, rts_none, nq_int, nq_ref, nq_null, nq_none, okr1_0, okr1_1, okr_b, List.length_nil, List.length_cons, Nat.zero_le, Nat.reduceAdd, Nat.reduceLeDiff, b2i_0, b2i_n0, b2i_1, b2i_n1, ite_not, if_true, if_false, not_true_eq_false, not_false_eq_true, true_and, and_true, false_and, and_false, z10, bcv hg]
        refine (ih w (a + 1) hw (by omega)).2.2.1 (by omega) (d + 1) cs cd _ (by omega) (by omega) ?_
        have adv := pE_adv T n g 2 w (a + 1) (by omega)
        have len := pE_len T n g 2 w (a + 1)
        generalize e1 : pE T n g 2 w (a + 1) = r1 at H adv len
        obtain ⟨o1, a1, c1⟩ := r1
        refine ⟨fun ho cd1 hc1 hl1 => ?_, fun ho cd1 cs1 => ?_⟩
        · have ho' : o1 = true := ho
          subst ho'
          have hlen := (len a1 c1 rfl).2 (by decide)
          simp only at adv hc1 hl1 H hlen ⊢
          have b1 : a + 1 < a1 := adv.2.2 trivial (by decide)
          simp only [s_6_34, s_6_37, s_6_38, s_6_40, s_6_43, s_6_46, s_6_47, s_6_51, s_6_52, s_6_55, ↓reduceIte, eq_self, rts_some, rts_none, nq_int, nq_ref, nq_null, nq_none, okr1_0, okr1_1, okr_b, List.length_nil, List.length_cons, Nat.zero_le, Nat.reduceAdd, Nat.reduceLeDiff, b2i_0, b2i_n0, b2i_1, b2i_n1, ite_not, if_true, if_false, not_true_eq_false, not_false_eq_true, true_and, and_true, false_and, and_false, z10, bcv hg, c_isKept hg (show cs + c1.length < 100 by omega), nI_1]
          refine (ih w a1 hw adv.2.1).2.2.2.2 (by omega) (d + 1) (i + 1) (cs + c1.length + 1) _ Q (by omega) (by omega) (by omega) ?_
          generalize e2 : pE T n g 4 w a1 = r2 at H
          obtain ⟨o2, a2, c2⟩ := r2
          simp only at H
          refine ⟨fun ho2 cd2 hc2 hl2 => ?_, fun ho2 cd2 cs2 => H.2 ho2 cd2 cs2⟩
          have := H.1 ho2 cd2 (fun q hq => by
            rw [hc2 q (by omega), pk_un (by omega)]
            exact hc1 q hq) (get_app (get_app (fun q x hq => by
            have hql : q < c1.length := by
              rcases Nat.lt_or_ge q c1.length with h1 | h1
              · exact h1
              · rw [List.getElem?_eq_none h1] at hq
                cases hq
            rw [hc2 _ (by omega), pk_un (by omega)]
            exact hl1 q x hq) (fun q x hq => by
            match q, hq with
            | 0, hq =>
              simp at hq
              rw [hc2 _ (by omega), Nat.add_zero, pk_us, hq]
            | q + 1, hq => simp at hq)) (fun q x hq => by
            have t := hl2 q x hq
            simp only [List.length_append, List.length_cons, List.length_nil]
            rwa [show cs + (c1.length + (0 + 1)) + q = cs + c1.length + 1 + q by omega]))
          simp only [List.length_append, List.length_cons, List.length_nil] at this
          rw [show cs + (c1.length + (0 + 1) + c2.length) = cs + c1.length + 1 + c2.length by omega] at this
          exact this
        · have ho' : o1 = false := ho
          subst ho'
          simp only at H
          simp only [s_6_34, s_6_50, s_6_51, s_6_52, s_6_55, ↓reduceIte, eq_self, rts_some, rts_none, nq_int, nq_ref, nq_null, nq_none, okr1_0, okr1_1, okr_b, List.length_nil, List.length_cons, Nat.zero_le, Nat.reduceAdd, Nat.reduceLeDiff, b2i_0, b2i_n0, b2i_1, b2i_n1, ite_not, if_true, if_false, not_true_eq_false, not_false_eq_true, true_and, and_true, false_and, and_false, nI_1]
          exact end6 (d + 1) w (i + 1) a1 cs1 cd1 Q (H.2 rfl cd1 cs1)
      · rw [if_neg cc] at H ⊢
        simp only [s_6_26, s_6_58, s_6_59, ↓reduceIte, eq_self, rts_some, rts_none, nq_int, nq_ref, nq_null, nq_none, okr1_0, okr1_1, okr_b, List.length_nil, List.length_cons, Nat.zero_le, Nat.reduceAdd, Nat.reduceLeDiff, b2i_0, b2i_n0, b2i_1, b2i_n1, ite_not, if_true, if_false, not_true_eq_false, not_false_eq_true, true_and, and_true, false_and, and_false]
        exact H.1 rfl cd (fun _ _ => rfl) (fun q x hq => by simp at hq)
end
