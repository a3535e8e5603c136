/-! The class reads clauses, a whole text. -/
section
variable {V : Nat → Option AE} {Ev : Nat → Value} {Q : Option Value → HS → Prop}
variable {LG gr : Nat → Nat} {r n a cs k : Nat} {fr : Int32} {T cd wt en : Nat → Int32} {C G : Nat → Option AE} {z : Nat × Nat}
theorem strB_n0 {q : Nat} (hq : q < 3) : ∀ i, i < (strB q).length → ¬ (strB q).getD i 0 = 0 := by
  match q, hq with
  | 0, _ => decide
  | 1, _ => decide
  | 2, _ => decide
  | q + 3, h => exact absurd h (by omega)
theorem strB_W {q : Nat} (hq : q < 3) : strB q = cWd q := by
  match q, hq with
  | 0, _ => rfl
  | 1, _ => rfl
  | 2, _ => rfl
  | q + 3, h => exact absurd h (by omega)
theorem pStr_first {l : List Int32} {c : Int32} (h : ¬ (a < n ∧ T a = c)) : pStr T n (c :: l) a = (false, a) := by
  simp only [pStr]
  rw [if_neg h]
/-- from the word on -/
theorem c_cl35 (hg : ∀ r, gr (LG r) = r) (hE : ES5 V Ev LG gr G z) (hT : TX T n) (ha : a < n) (hk : k < 10) (hcs : cs ≤ a) {q b d : Nat} (hq : q < 3) (hqa : cWh (T a) = some q) (hs : ∀ C, SR V (GH LG gr C G z) b (strB q)) (hd : 22 ≤ d) (H1 : (pCl T n a).1 = true → ∀ cd', (∀ q, q < cs → cd' q = cd q) → (∀ q x, (pCl T n a).2.2.2.2[q]? = some x → cd' (cs + q) = x) → Q (some (.int 1)) (GH LG gr (BC LG r n (pCl T n a).2.1 (cs + (pCl T n a).2.2.2.2.length) (k + 1) (if (pCl T n a).2.2.1 = 2 then (pCl T n a).2.2.2.1 else fr) T cd' (upd wt k (cW (pCl T n a).2.2)) (upd en k (nI (cs + (pCl T n a).2.2.2.2.length))) C) G z)) (H0 : (pCl T n a).1 = false → ∀ cd' cs', Q (some (.int 0)) (GH LG gr (BC LG r n (pCl T n a).2.1 cs' k fr T cd' wt en C) G z)) : wp V (cdT Ev) mx d 3 35 [some (.ref (LG r)), some (.int (T a)), some (.ref b), none] [] (GH LG gr (BC LG r n a cs k fr T cd wt en C) G z) Q := by
  have hn := hT.1
  have z10 : ((1 : Int32) = 0) = False := by decide
  obtain ⟨d, rfl⟩ : ∃ e, d = e + 22 := ⟨d - 22, by omega⟩
  simp only [s_3_35, s_3_36, s_3_37, ↓reduceIte, eq_self, rts_some, rts_none, nq_int, nq_ref, nq_null, nq_none, okr1_0, okr1_1, okr_b, List.length_nil, List.length_cons, Nat.zero_le, Nat.reduceAdd, Nat.reduceLeDiff, b2i_0, b2i_n0, b2i_1, b2i_n1, ite_not, if_true, if_false, not_true_eq_false, not_false_eq_true, true_and, and_true, false_and, and_false, bcv hg, c_isWord hg hT hE.2 hs (strB_CH (show q < 5 by omega)) (strB_n0 hq) (Nat.le_of_lt ha)]
  have ec : pCl T n a = (match pStr T n (cWd q) a with
      | (false, a1) => (false, a1, 0, 0, [])
      | (true, a1) => match pNum T n a1 with
        | (false, a2, _) => (false, a2, 0, 0, [])
        | (true, a2, v) => if q = 2 then (true, a2, 2, v, []) else if a2 < n ∧ T a2 = 32 then (match pE T n 500 0 0 (a2 + 1) with
          | (false, a3, _) => (false, a3, 0, 0, [])
          | (true, a3, cs) => (true, a3, q, v, cs)) else (false, a2, 0, 0, [])) := by
    unfold pCl
    rw [if_pos ha, hqa]
    rfl
  rw [ec] at H1 H0
  rw [strB_W hq]
  have adv1 := pStr_adv T n (cWd q) a (Nat.le_of_lt ha)
  generalize e1 : pStr T n (cWd q) a = r1 at H1 H0 adv1
  obtain ⟨o1, a1⟩ := r1
  cases o1 with
  | false =>
    simp only at H0
    simp only [s_3_40, s_3_43, s_3_44, ↓reduceIte, eq_self, rts_some, rts_none, nq_int, nq_ref, nq_null, nq_none, okr1_0, okr1_1, okr_b, List.length_nil, List.length_cons, Nat.zero_le, Nat.reduceAdd, Nat.reduceLeDiff, b2i_0, b2i_n0, b2i_1, b2i_n1, ite_not, if_true, if_false, not_true_eq_false, not_false_eq_true, true_and, and_true, false_and, and_false, bI_f]
    exact H0 (by trivial) cd cs
  | true =>
    simp only at H1 H0 adv1
    simp only [s_3_40, s_3_45, s_3_46, ↓reduceIte, eq_self, rts_some, rts_none, nq_int, nq_ref, nq_null, nq_none, okr1_0, okr1_1, okr_b, List.length_nil, List.length_cons, Nat.zero_le, Nat.reduceAdd, Nat.reduceLeDiff, b2i_0, b2i_n0, b2i_1, b2i_n1, ite_not, if_true, if_false, not_true_eq_false, not_false_eq_true, true_and, and_true, false_and, and_false, bI_t, z10, bcv hg, c_number hg hT adv1.2]
    have adv2 := pNum_adv T n a1
    have hv := @pNum_v T n a1
    generalize e2 : pNum T n a1 = r2 at H1 H0 adv2 hv
    obtain ⟨o2, a2, v⟩ := r2
    cases o2 with
    | false =>
      have e3 := pNum_f (T := T) (n := n) (a := a1) (by rw [e2])
      rw [e2] at e3
      simp only at e3
      subst e3
      simp only at H0
      simp only [Bool.false_eq_true, if_false]
      simp only [s_3_49, s_3_50, s_3_51, s_3_54, s_3_55, ↓reduceIte, eq_self, rts_some, rts_none, nq_int, nq_ref, nq_null, nq_none, okr1_0, okr1_1, okr_b, List.length_nil, List.length_cons, Nat.zero_le, Nat.reduceAdd, Nat.reduceLeDiff, b2i_0, b2i_n0, b2i_1, b2i_n1, ite_not, if_true, if_false, not_true_eq_false, not_false_eq_true, true_and, and_true, false_and, and_false, show ((0 : Int32) ≤ -1) = False from by decide]
      exact H0 (by trivial) cd cs
    | true =>
      obtain ⟨m, hm, ev⟩ := hv rfl
      simp only at ev
      subst ev
      simp only at H1 H0 adv2
      have ha2 : a2 ≤ n := adv2.2.1 adv1.2
      have hlt2 : a1 < a2 := adv2.2.2 trivial
      simp only [if_true]
      by_cases q2 : q = 2
      · subst q2
        have eT : T a = 102 := by
          unfold cWh at hqa
          by_cases h1 : T a = 112
          · rw [if_pos h1] at hqa
            cases hqa
          · rw [if_neg h1] at hqa
            by_cases h2 : T a = 104
            · rw [if_pos h2] at hqa
              cases hqa
            · rw [if_neg h2] at hqa
              by_cases h3 : T a = 102
              · exact h3
              · rw [if_neg h3] at hqa
                cases hqa
        simp only [if_true] at H1 H0
        simp only [s_3_49, s_3_50, s_3_51, s_3_56, s_3_57, s_3_59, s_3_62, s_3_63, s_3_64, s_3_67, s_3_68, s_3_69, s_3_72, ↓reduceIte, eq_self, rts_some, rts_none, nq_int, nq_ref, nq_null, nq_none, okr1_0, okr1_1, okr_b, List.length_nil, List.length_cons, Nat.zero_le, Nat.reduceAdd, Nat.reduceLeDiff, b2i_0, b2i_n0, b2i_1, b2i_n1, ite_not, if_true, if_false, not_true_eq_false, not_false_eq_true, true_and, and_true, false_and, and_false, eq_true (nI_pos' (show m < 2 ^ 31 by omega)), eT, bp_8 hg, bcv hg, c_endClause hg hk]
        have := H1 (by trivial) cd (fun _ _ => rfl) (fun q x hq => by simp at hq)
        simp only [List.length_nil, Nat.add_zero] at this
        exact this
      · have eT : T a = (if q = 0 then 112 else 104) := by
          unfold cWh at hqa
          by_cases h1 : T a = 112
          · rw [if_pos h1] at hqa
            cases hqa
            exact h1
          · rw [if_neg h1] at hqa
            by_cases h2 : T a = 104
            · rw [if_pos h2] at hqa
              cases hqa
              exact h2
            · rw [if_neg h2] at hqa
              by_cases h3 : T a = 102
              · rw [if_pos h3] at hqa
                cases hqa
                exact absurd rfl q2
              · rw [if_neg h3] at hqa
                cases hqa
        have n102 : (T a = 102) = False := by
          rw [eT]
          split <;> decide
        rw [if_neg q2] at H1 H0
        simp only [s_3_49, s_3_50, s_3_51, s_3_56, s_3_57, s_3_59, s_3_73, s_3_74, s_3_76, ↓reduceIte, eq_self, rts_some, rts_none, nq_int, nq_ref, nq_null, nq_none, okr1_0, okr1_1, okr_b, List.length_nil, List.length_cons, Nat.zero_le, Nat.reduceAdd, Nat.reduceLeDiff, b2i_0, b2i_n0, b2i_1, b2i_n1, ite_not, if_true, if_false, not_true_eq_false, not_false_eq_true, true_and, and_true, false_and, and_false, eq_true (nI_pos' (show m < 2 ^ 31 by omega)), n102, bcv hg]
        rw [c_isNext (d := d + 21) hg hT ha2 (by decide)]
        by_cases h32 : a2 < n ∧ T a2 = 32
        · rw [if_pos h32] at H1 H0 ⊢
          simp only [s_3_79, s_3_82, s_3_83, s_3_84, ↓reduceIte, eq_self, rts_some, rts_none, nq_int, nq_ref, nq_null, nq_none, okr1_0, okr1_1, okr_b, List.length_nil, List.length_cons, Nat.zero_le, Nat.reduceAdd, Nat.reduceLeDiff, b2i_0, b2i_n0, b2i_1, b2i_n1, ite_not, if_true, if_false, not_true_eq_false, not_false_eq_true, true_and, and_true, false_and, and_false, z10, bcv hg]
          refine (rdC hg hE hT 500 0 (a2 + 1) (by decide) (by omega)).1 (by omega) (d + 22) cs cd _ (by omega) (by omega) ?_
          have ok := pE_ok T n 500 0 0 (a2 + 1)
          have len := pE_len T n 500 0 0 (a2 + 1)
          have adv3 := pE_adv T n 500 0 0 (a2 + 1) (by omega)
          generalize e3 : pE T n 500 0 0 (a2 + 1) = r3 at H1 H0 ok len adv3
          obtain ⟨o3, a3, c3⟩ := r3
          refine ⟨fun ho cd1 hc1 hl1 => ?_, fun ho cd1 cs1 => ?_⟩
          · have ho' : o3 = true := ho
            subst ho'
            simp only at H1 hc1 hl1 ⊢
            have fin := H1 (by trivial) cd1 hc1 hl1
            rw [if_neg q2] at fin
            by_cases q0 : q = 0
            · subst q0
              rw [if_pos rfl] at eT
              have ew : cW (0, nI m, c3) = nI m := rfl
              rw [ew] at fin
              simp only [s_3_87, s_3_90, s_3_91, s_3_92, s_3_94, s_3_97, s_3_98, s_3_103, s_3_106, s_3_109, s_3_110, s_3_114, ↓reduceIte, eq_self, rts_some, rts_none, nq_int, nq_ref, nq_null, nq_none, okr1_0, okr1_1, okr_b, List.length_nil, List.length_cons, Nat.zero_le, Nat.reduceAdd, Nat.reduceLeDiff, b2i_0, b2i_n0, b2i_1, b2i_n1, ite_not, if_true, if_false, not_true_eq_false, not_false_eq_true, true_and, and_true, false_and, and_false, z10, eT, bcv hg, c_endClause hg hk]
              exact fin
            · rw [if_neg q0] at eT
              have ew : cW (q, nI m, c3) = -nI m := by
                unfold cW
                rw [if_neg q2, if_neg q0]
              rw [ew] at fin
              simp only [s_3_87, s_3_90, s_3_91, s_3_92, s_3_94, s_3_101, s_3_102, s_3_103, s_3_106, s_3_109, s_3_110, s_3_114, ↓reduceIte, eq_self, rts_some, rts_none, nq_int, nq_ref, nq_null, nq_none, okr1_0, okr1_1, okr_b, List.length_nil, List.length_cons, Nat.zero_le, Nat.reduceAdd, Nat.reduceLeDiff, b2i_0, b2i_n0, b2i_1, b2i_n1, ite_not, if_true, if_false, not_true_eq_false, not_false_eq_true, true_and, and_true, false_and, and_false, z10, eT, show ((104 : Int32) = 112) = False from by decide, bcv hg, c_endClause hg hk]
              exact fin
          · have ho' : o3 = false := ho
            subst ho'
            simp only at H0
            simp only [s_3_87, s_3_113, s_3_114, ↓reduceIte, eq_self, rts_some, rts_none, nq_int, nq_ref, nq_null, nq_none, okr1_0, okr1_1, okr_b, List.length_nil, List.length_cons, Nat.zero_le, Nat.reduceAdd, Nat.reduceLeDiff, b2i_0, b2i_n0, b2i_1, b2i_n1, ite_not, if_true, if_false, not_true_eq_false, not_false_eq_true, true_and, and_true, false_and, and_false]
            exact H0 (by trivial) cd1 cs1
        · rw [if_neg h32] at H1 H0 ⊢
          simp only [s_3_79, s_3_113, s_3_114, ↓reduceIte, eq_self, rts_some, rts_none, nq_int, nq_ref, nq_null, nq_none, okr1_0, okr1_1, okr_b, List.length_nil, List.length_cons, Nat.zero_le, Nat.reduceAdd, Nat.reduceLeDiff, b2i_0, b2i_n0, b2i_1, b2i_n1, ite_not, if_true, if_false, not_true_eq_false, not_false_eq_true, true_and, and_true, false_and, and_false]
          exact H0 (by trivial) cd cs
theorem c_isClause (hg : ∀ r, gr (LG r) = r) (hE : ES5 V Ev LG gr G z) (hT : TX T n) (ha : a ≤ n) (hk : k < 10) (hcs : cs ≤ a) {d : Nat} (H1 : (pCl T n a).1 = true → ∀ cd', (∀ q, q < cs → cd' q = cd q) → (∀ q x, (pCl T n a).2.2.2.2[q]? = some x → cd' (cs + q) = x) → Q (some (.int 1)) (GH LG gr (BC LG r n (pCl T n a).2.1 (cs + (pCl T n a).2.2.2.2.length) (k + 1) (if (pCl T n a).2.2.1 = 2 then (pCl T n a).2.2.2.1 else fr) T cd' (upd wt k (cW (pCl T n a).2.2)) (upd en k (nI (cs + (pCl T n a).2.2.2.2.length))) C) G z)) (H0 : (pCl T n a).1 = false → ∀ cd' cs', Q (some (.int 0)) (GH LG gr (BC LG r n (pCl T n a).2.1 cs' k fr T cd' wt en C) G z)) : WP V (cdT Ev) mx (d + 23) 3 [.ref (LG r)] (GH LG gr (BC LG r n a cs k fr T cd wt en C) G z) Q := by
  have hn := hT.1
  have hx : ix (nI a) 101 = True := ix_nIT (by omega) (by decide)
  have hcl := nI_clamp (show a < 2 ^ 31 by omega)
  obtain ⟨b0, eb0, s0⟩ := hE.1 0 (by decide)
  obtain ⟨b1, eb1, s1⟩ := hE.1 1 (by decide)
  obtain ⟨b2, eb2, s2⟩ := hE.1 2 (by decide)
  have eb0' : Ev 1 = .ref b0 := eb0
  have eb1' : Ev 2 = .ref b1 := eb1
  have eb2' : Ev 3 = .ref b2 := eb2
  have lt0 : ∀ c : Int32, ¬ c = 0 → T a = c → a < n := by
    intro c hc h
    rcases Nat.lt_or_ge a n with h1 | h1
    · exact h1
    · exfalso
      apply hc
      rw [← h, show a = n by omega, hT.2.1]
  rw [e_3]
  simp only [s_3_0, s_3_1, s_3_4, s_3_5, s_3_8, s_3_9, s_3_10, s_3_11, s_3_13, ↓reduceIte, eq_self, rts_some, rts_none, nq_int, nq_ref, nq_null, nq_none, okr1_0, okr1_1, okr_b, List.length_nil, List.length_cons, Nat.zero_le, Nat.reduceAdd, Nat.reduceLeDiff, b2i_0, b2i_n0, b2i_1, b2i_n1, ite_not, if_true, if_false, not_true_eq_false, not_false_eq_true, true_and, and_true, false_and, and_false, bg_0 hg, bg_2 hg, ba_1 hg, hx, hcl]
  by_cases h1 : T a = 112
  · have hq : cWh (T a) = some 0 := by rw [h1]; rfl
    rw [if_pos h1]
    simp only [s_3_16, s_3_18, s_3_34, ↓reduceIte, eq_self, rts_some, rts_none, nq_int, nq_ref, nq_null, nq_none, okr1_0, okr1_1, okr_b, List.length_nil, List.length_cons, Nat.zero_le, Nat.reduceAdd, Nat.reduceLeDiff, b2i_0, b2i_n0, b2i_1, b2i_n1, ite_not, if_true, if_false, not_true_eq_false, not_false_eq_true, true_and, and_true, false_and, and_false, eb0']
    exact c_cl35 hg hE hT (lt0 112 (by decide) h1) hk hcs (by decide) hq s0 (by omega) H1 H0
  · rw [if_neg h1]
    simp only [s_3_21, s_3_22, s_3_24, ↓reduceIte, eq_self, rts_some, rts_none, nq_int, nq_ref, nq_null, nq_none, okr1_0, okr1_1, okr_b, List.length_nil, List.length_cons, Nat.zero_le, Nat.reduceAdd, Nat.reduceLeDiff, b2i_0, b2i_n0, b2i_1, b2i_n1, ite_not, if_true, if_false, not_true_eq_false, not_false_eq_true, true_and, and_true, false_and, and_false]
    by_cases h2 : T a = 104
    · have hq : cWh (T a) = some 1 := by rw [h2]; rfl
      rw [if_pos h2]
      simp only [s_3_27, s_3_29, s_3_34, ↓reduceIte, eq_self, rts_some, rts_none, nq_int, nq_ref, nq_null, nq_none, okr1_0, okr1_1, okr_b, List.length_nil, List.length_cons, Nat.zero_le, Nat.reduceAdd, Nat.reduceLeDiff, b2i_0, b2i_n0, b2i_1, b2i_n1, ite_not, if_true, if_false, not_true_eq_false, not_false_eq_true, true_and, and_true, false_and, and_false, eb1']
      exact c_cl35 hg hE hT (lt0 104 (by decide) h2) hk hcs (by decide) hq s1 (by omega) H1 H0
    · rw [if_neg h2]
      simp only [s_3_32, s_3_34, ↓reduceIte, eq_self, rts_some, rts_none, nq_int, nq_ref, nq_null, nq_none, okr1_0, okr1_1, okr_b, List.length_nil, List.length_cons, Nat.zero_le, Nat.reduceAdd, Nat.reduceLeDiff, b2i_0, b2i_n0, b2i_1, b2i_n1, ite_not, if_true, if_false, not_true_eq_false, not_false_eq_true, true_and, and_true, false_and, and_false, eb2']
      by_cases h3 : T a = 102
      · have hq : cWh (T a) = some 2 := by rw [h3]; rfl
        exact c_cl35 hg hE hT (lt0 102 (by decide) h3) hk hcs (by decide) hq s2 (by omega) H1 H0
      · have hp : pCl T n a = (false, a, 0, 0, []) := by
          unfold pCl
          have : cWh (T a) = none := by
            unfold cWh
            rw [if_neg h1, if_neg h2, if_neg h3]
          rw [this]
          split <;> rfl
        rw [hp] at H0
        have ps : pStr T n (strB 2) a = (false, a) := pStr_first (fun h => h3 h.2)
        simp only [s_3_35, s_3_36, s_3_37, s_3_40, s_3_43, s_3_44, ↓reduceIte, eq_self, rts_some, rts_none, nq_int, nq_ref, nq_null, nq_none, okr1_0, okr1_1, okr_b, List.length_nil, List.length_cons, Nat.zero_le, Nat.reduceAdd, Nat.reduceLeDiff, b2i_0, b2i_n0, b2i_1, b2i_n1, ite_not, if_true, if_false, not_true_eq_false, not_false_eq_true, true_and, and_true, false_and, and_false, bcv hg, c_isWord hg hT hE.2 s2 (strB_CH (by decide)) (strB_n0 (by decide)) ha, ps, bI_f]
        exact H0 (by trivial) cd cs
end
/-- a clause's codes -/
theorem pCl_ok {T : Nat → Int32} {n a : Nat} (ha : a ≤ n) (hn : n ≤ 100) (h : (pCl T n a).1 = true) : (∃ m, okR (pCl T n a).2.2.2.2 0 = some m) ∧ (pCl T n a).2.2.2.2.length + a ≤ (pCl T n a).2.1 ∧ ∃ m, m < 100 ∧ (pCl T n a).2.2.2.1 = nI m := by
  unfold pCl at h ⊢
  split at h
  · rename_i hlt
    rw [if_pos hlt]
    split at h
    · cases h
    · rename_i q hq
      have adv1 := pStr_adv T n (cWd q) a ha
      generalize e1 : pStr T n (cWd q) a = r1 at h adv1
      obtain ⟨o1, a1⟩ := r1
      cases o1 with
      | false => cases h
      | true =>
        simp only at h adv1 ⊢
        have adv2 := pNum_adv T n a1
        have hv := @pNum_v T n a1
        generalize e2 : pNum T n a1 = r2 at h adv2 hv
        obtain ⟨o2, a2, v⟩ := r2
        cases o2 with
        | false => cases h
        | true =>
          simp only at h adv2 hv ⊢
          have hv := hv trivial
          by_cases q2 : q = 2
          · rw [if_pos q2]
            exact ⟨⟨0, rfl⟩, by simp only [List.length_nil]; omega, hv⟩
          · rw [if_neg q2] at h ⊢
            by_cases h32 : a2 < n ∧ T a2 = 32
            · rw [if_pos h32] at h ⊢
              have ok := pE_ok T n 500 0 0 (a2 + 1)
              have len := pE_len T n 500 0 0 (a2 + 1)
              generalize e3 : pE T n 500 0 0 (a2 + 1) = r3 at h ok len
              obtain ⟨o3, a3, c3⟩ := r3
              cases o3 with
              | false => cases h
              | true =>
                simp only
                refine ⟨⟨_, (ok a3 c3 rfl (by decide) 0).1 rfl (by decide)⟩, ?_, hv⟩
                have := (len a3 c3 rfl).1
                omega
            · rw [if_neg h32] at h
              cases h
  · cases h
section
variable {V : Nat → Option AE} {Ev : Nat → Value} {Q : Option Value → HS → Prop}
variable {LG gr : Nat → Nat} {r n : Nat} {T : Nat → Int32} {C G : Nat → Option AE} {z : Nat × Nat}
theorem c_fl (hg : ∀ r, gr (LG r) = r) (hE : ES5 V Ev LG gr G z) (hT : TX T n) {d : Nat} : ∀ (m i a cs : Nat) (fr : Int32) (cd wt en : Nat → Int32), i + m = 10 → a ≤ n → cs ≤ a →
    ((pCls T n m a).1 = true → ∀ cs' i' cd' wt' en', (∀ q, q < cs → cd' q = cd q) → (∀ q, q < i → wt' q = wt q) → (∀ q, q < i → en' q = en q) → cOK cd' wt' en' (pCls T n m a).2.2 i cs → wp V (cdT Ev) mx (d + 23) 2 67 [some (.ref (LG r)), some (.int 1), some (.int i')] [] (GH LG gr (BC LG r n (pCls T n m a).2.1 cs' (i + (pCls T n m a).2.2.length) (freeC fr (pCls T n m a).2.2) T cd' wt' en' C) G z) Q) →
    ((pCls T n m a).1 = false → ∀ cs' k' i' fr' cd' wt' en', wp V (cdT Ev) mx (d + 23) 2 67 [some (.ref (LG r)), some (.int 0), some (.int i')] [] (GH LG gr (BC LG r n (pCls T n m a).2.1 cs' k' fr' T cd' wt' en' C) G z) Q) →
    wp V (cdT Ev) mx (d + 23) 2 37 [some (.ref (LG r)), some (.int 1), some (.int (nI i))] [] (GH LG gr (BC LG r n a cs i fr T cd wt en C) G z) Q := by
  have hn := hT.1
  have z10 : ((1 : Int32) = 0) = False := by decide
  intro m
  induction m with
  | zero =>
    intro i a cs fr cd wt en hi ha hcs H1 H0
    have : i = 10 := by omega
    subst this
    rw [s_2_37]
    simp only [s_2_38, s_2_40, ↓reduceIte, eq_self, rts_some, rts_none, nq_int, nq_ref, nq_null, nq_none, okr1_0, okr1_1, okr_b, List.length_nil, List.length_cons, Nat.zero_le, Nat.reduceAdd, Nat.reduceLeDiff, b2i_0, b2i_n0, b2i_1, b2i_n1, ite_not, if_true, if_false, not_true_eq_false, not_false_eq_true, true_and, and_true, false_and, and_false, show ((10 : Int32) ≤ nI 10) = True from by decide]
    exact H1 (by trivial) cs (nI 10) cd wt en (fun _ _ => rfl) (fun _ _ => rfl) (fun _ _ => rfl) trivial
  | succ m ih =>
    intro i a cs fr cd wt en hi ha hcs H1 H0
    have hlt : ((10 : Int32) ≤ nI i) = False := eq_false (nI_ge (a := i) (b := 10) (by omega) (by decide))
    rw [s_2_37]
    simp only [s_2_38, s_2_40, s_2_43, s_2_44, s_2_47, s_2_48, s_2_50, ↓reduceIte, eq_self, rts_some, rts_none, nq_int, nq_ref, nq_null, nq_none, okr1_0, okr1_1, okr_b, List.length_nil, List.length_cons, Nat.zero_le, Nat.reduceAdd, Nat.reduceLeDiff, b2i_0, b2i_n0, b2i_1, b2i_n1, ite_not, if_true, if_false, not_true_eq_false, not_false_eq_true, true_and, and_true, false_and, and_false, hlt, z10, bcv hg]
    rw [c_isNext (d := d + 22) hg hT ha (by decide)]
    simp only [pCls] at H1 H0
    by_cases h59 : a < n ∧ T a = 59
    · rw [if_pos h59] at H1 H0 ⊢
      simp only [s_2_53, s_2_56, s_2_57, ↓reduceIte, eq_self, rts_some, rts_none, nq_int, nq_ref, nq_null, nq_none, okr1_0, okr1_1, okr_b, List.length_nil, List.length_cons, Nat.zero_le, Nat.reduceAdd, Nat.reduceLeDiff, b2i_0, b2i_n0, b2i_1, b2i_n1, ite_not, if_true, if_false, not_true_eq_false, not_false_eq_true, true_and, and_true, false_and, and_false, z10, bcv hg]
      have ok := pCl_ok (T := T) (n := n) (a := a + 1) (by omega) hn
      have adv := pCl_adv T n (a + 1) (by omega)
      refine c_isClause hg hE hT (by omega) (by omega) (by omega) (fun ho cd1 hc1 hl1 => ?_) (fun ho cd1 cs1 => ?_)
      · obtain ⟨ok1, ok2, ok3⟩ := ok ho
        generalize e1 : pCl T n (a + 1) = r1 at H1 H0 ho hl1 ok1 ok2 adv
        obtain ⟨o1, a1, c1⟩ := r1
        have ho' : o1 = true := ho
        subst ho'
        simp only at H1 H0 hl1 ok1 ok2 adv ⊢
        have ef : (if c1.1 = 2 then c1.2.1 else fr) = freeC fr [c1] := rfl
        simp only [s_2_60, s_2_61, s_2_64, ↓reduceIte, eq_self, rts_some, rts_none, nq_int, nq_ref, nq_null, nq_none, okr1_0, okr1_1, okr_b, List.length_nil, List.length_cons, Nat.zero_le, Nat.reduceAdd, Nat.reduceLeDiff, b2i_0, b2i_n0, b2i_1, b2i_n1, ite_not, if_true, if_false, not_true_eq_false, not_false_eq_true, true_and, and_true, false_and, and_false, nI_1]
        refine ih (i + 1) a1 (cs + c1.2.2.length) _ cd1 _ _ (by omega) (by omega) (by omega) (fun ho2 cs' i' cd2 wt2 en2 g1 g2 g3 g4 => ?_) (fun ho2 cs' k' i' fr' cd2 wt2 en2 => ?_)
        · generalize e2 : pCls T n m a1 = r2 at H1 H0 ho2 g4
          obtain ⟨o2, a2, l2⟩ := r2
          have ho2' : o2 = true := ho2
          subst ho2'
          simp only at H1 g4 ⊢
          have := H1 (by trivial) cs' i' cd2 wt2 en2 (fun q hq => (g1 q (by omega)).trans (hc1 q hq)) (fun q hq => (g2 q (by omega)).trans (pk_un (by omega))) (fun q hq => (g3 q (by omega)).trans (pk_un (by omega))) ⟨?_, ?_, ?_, fun q x hq => ?_, ok1, g4⟩
          · simp only [List.length_cons] at this
            rw [show i + (l2.length + 1) = i + 1 + l2.length by omega] at this
            exact this
          · rw [g2 i (by omega), pk_us]
          · rw [g3 i (by omega), pk_us]
          · omega
          · have hql : q < c1.2.2.length := by
              rcases Nat.lt_or_ge q c1.2.2.length with h1 | h1
              · exact h1
              · rw [List.getElem?_eq_none h1] at hq
                cases hq
            rw [g1 _ (by omega)]
            exact hl1 q x hq
        · generalize e2 : pCls T n m a1 = r2 at H1 H0 ho2
          obtain ⟨o2, a2, l2⟩ := r2
          have ho2' : o2 = false := ho2
          subst ho2'
          exact H0 (by trivial) cs' k' i' fr' cd2 wt2 en2
      · generalize e1 : pCl T n (a + 1) = r1 at H1 H0 ho
        obtain ⟨o1, a1, c1⟩ := r1
        have ho' : o1 = false := ho
        subst ho'
        simp only at H0
        simp only [s_2_60, s_2_61, s_2_64, ↓reduceIte, eq_self, rts_some, rts_none, nq_int, nq_ref, nq_null, nq_none, okr1_0, okr1_1, okr_b, List.length_nil, List.length_cons, Nat.zero_le, Nat.reduceAdd, Nat.reduceLeDiff, b2i_0, b2i_n0, b2i_1, b2i_n1, ite_not, if_true, if_false, not_true_eq_false, not_false_eq_true, true_and, and_true, false_and, and_false, nI_1]
        rw [s_2_37]
        simp only [s_2_38, s_2_40, s_2_43, s_2_44, ↓reduceIte, eq_self, rts_some, rts_none, nq_int, nq_ref, nq_null, nq_none, okr1_0, okr1_1, okr_b, List.length_nil, List.length_cons, Nat.zero_le, Nat.reduceAdd, Nat.reduceLeDiff, b2i_0, b2i_n0, b2i_1, b2i_n1, ite_not, if_true, if_false, not_true_eq_false, not_false_eq_true, true_and, and_true, false_and, and_false, ite_self]
        exact H0 (by trivial) cs1 i (nI (i + 1)) fr cd1 wt en
    · rw [if_neg h59] at H1 H0 ⊢
      simp only [s_2_53, ↓reduceIte, eq_self, rts_some, rts_none, nq_int, nq_ref, nq_null, nq_none, okr1_0, okr1_1, okr_b, List.length_nil, List.length_cons, Nat.zero_le, Nat.reduceAdd, Nat.reduceLeDiff, b2i_0, b2i_n0, b2i_1, b2i_n1, ite_not, if_true, if_false, not_true_eq_false, not_false_eq_true, true_and, and_true, false_and, and_false]
      exact H1 (by trivial) cs (nI i) cd wt en (fun _ _ => rfl) (fun _ _ => rfl) (fun _ _ => rfl) trivial
theorem TX_0 {T : Nat → Int32} {n : Nat} (hn : n ≤ 100) (h : ∀ k, k < n → ∃ q, q < 128 ∧ T k = nI q) : TX (upd T n 0) n := by
  refine ⟨hn, pk_us, fun k hk => ?_⟩
  by_cases e : k = n
  · subst e
    rw [pk_us]
    exact ⟨0, by decide, rfl⟩
  · rw [pk_un e]
    exact h k (by omega)
/-- the whole text -/
theorem c_fault (hg : ∀ r, gr (LG r) = r) (hE : ES5 V Ev LG gr G z) {d a cs k : Nat} {fr : Int32} {cd wt en : Nat → Int32} (hn : n ≤ 100) (hch : ∀ k, k < n → ∃ q, q < 128 ∧ T k = nI q) (H1 : (pAll T n).1 = true → (pAll T n).2.1 = n → ∀ cs' cd' wt' en', cOK cd' wt' en' (pAll T n).2.2 0 0 → Q (some (.int (-1))) (GH LG gr (BC LG r n n cs' (pAll T n).2.2.length (freeC 0 (pAll T n).2.2) (upd T n 0) cd' wt' en' C) G z)) (H0 : (pAll T n).1 = false → ∀ cs' k' fr' cd' wt' en', Q (some (.int (nI (pAll T n).2.1))) (GH LG gr (BC LG r n (pAll T n).2.1 cs' k' fr' (upd T n 0) cd' wt' en' C) G z)) : WP V (cdT Ev) mx (d + 24) 2 [.ref (LG r)] (GH LG gr (BC LG r n a cs k fr T cd wt en C) G z) Q := by
  have hT := TX_0 hn hch
  have z10 : ((1 : Int32) = 0) = False := by decide
  have hx : ix (nI n) 101 = True := ix_nIT (by omega) (by decide)
  have hcl := nI_clamp (show n < 2 ^ 31 by omega)
  have e0 : (0 : Int32) = nI 0 := rfl
  have nar0 : vp_nar .byte (0 : Int32) = 0 := ch_nar 0 (by decide)
  have epA : pAll T n = pAll (upd T n 0) n := pAll_cg (fun k hk => (pk_un (by omega)).symm)
  rw [epA] at H1 H0
  have p2 : ∀ {n a cs k : Nat} {fr : Int32} {T cd wt en : Nat → Int32} {K : HS → Prop}, pf [0] 2 0 (.int 0) (GH LG gr (BC LG r n a cs k fr T cd wt en C) G z) (LG r) K = K (GH LG gr (BC LG r n 0 cs k fr T cd wt en C) G z) := fun {n a cs k fr T cd wt en K} => bp_2 (x := 0) hg
  have p4 : ∀ {n a cs k : Nat} {fr : Int32} {T cd wt en : Nat → Int32} {K : HS → Prop}, pf [0] 4 0 (.int 0) (GH LG gr (BC LG r n a cs k fr T cd wt en C) G z) (LG r) K = K (GH LG gr (BC LG r n a 0 k fr T cd wt en C) G z) := fun {n a cs k fr T cd wt en K} => bp_4 (x := 0) hg
  have p7 : ∀ {n a cs k : Nat} {fr : Int32} {T cd wt en : Nat → Int32} {K : HS → Prop}, pf [0] 7 0 (.int 0) (GH LG gr (BC LG r n a cs k fr T cd wt en C) G z) (LG r) K = K (GH LG gr (BC LG r n a cs 0 fr T cd wt en C) G z) := fun {n a cs k fr T cd wt en K} => bp_7 (x := 0) hg
  rw [e_2]
  simp only [s_2_0, s_2_1, s_2_4, s_2_5, s_2_8, s_2_9, s_2_10, s_2_11, s_2_12, s_2_15, s_2_16, s_2_17, s_2_20, s_2_21, s_2_22, s_2_25, s_2_26, s_2_27, s_2_30, s_2_31, ↓reduceIte, eq_self, rts_some, rts_none, nq_int, nq_ref, nq_null, nq_none, okr1_0, okr1_1, okr_b, List.length_nil, List.length_cons, Nat.zero_le, Nat.reduceAdd, Nat.reduceLeDiff, b2i_0, b2i_n0, b2i_1, b2i_n1, ite_not, if_true, if_false, not_true_eq_false, not_false_eq_true, true_and, and_true, false_and, and_false, bg_0 hg, bg_1 hg, bs_1 hg, hx, hcl, nar0, p2, p4, p7, bp_8 hg, bcv hg]
  generalize upd T n 0 = U at *
  have e67 : ∀ (d a2 cs' k' : Nat) (i' fr' : Int32) (cd' wt' en' : Nat → Int32) (Q : Option Value → HS → Prop), a2 ≤ n → (a2 = n → Q (some (.int (-1))) (GH LG gr (BC LG r n a2 cs' k' fr' U cd' wt' en' C) G z)) → (¬ a2 = n → Q (some (.int (nI a2))) (GH LG gr (BC LG r n a2 cs' k' fr' U cd' wt' en' C) G z)) → wp V (cdT Ev) mx d 2 67 [some (.ref (LG r)), some (.int 1), some (.int i')] [] (GH LG gr (BC LG r n a2 cs' k' fr' U cd' wt' en' C) G z) Q := by
    intro d a2 cs' k' i' fr' cd' wt' en' Q h2 g1 g0
    by_cases e : a2 = n
    · have := g1 e
      subst e
      simp only [s_2_67, s_2_68, s_2_71, s_2_72, s_2_75, s_2_76, s_2_79, s_2_82, s_2_83, s_2_90, ↓reduceIte, eq_self, rts_some, rts_none, nq_int, nq_ref, nq_null, nq_none, okr1_0, okr1_1, okr_b, List.length_nil, List.length_cons, Nat.zero_le, Nat.reduceAdd, Nat.reduceLeDiff, b2i_0, b2i_n0, b2i_1, b2i_n1, ite_not, if_true, if_false, not_true_eq_false, not_false_eq_true, true_and, and_true, false_and, and_false, z10, bg_2 hg, bg_1 hg]
      exact this
    · have := g0 e
      have ne : (nI a2 = nI n) = False := eq_false (fun h => e ((nI_eq (by omega) (by omega)).mp h))
      simp only [s_2_67, s_2_68, s_2_71, s_2_72, s_2_75, s_2_76, s_2_79, s_2_86, s_2_87, s_2_90, ↓reduceIte, eq_self, rts_some, rts_none, nq_int, nq_ref, nq_null, nq_none, okr1_0, okr1_1, okr_b, List.length_nil, List.length_cons, Nat.zero_le, Nat.reduceAdd, Nat.reduceLeDiff, b2i_0, b2i_n0, b2i_1, b2i_n1, ite_not, if_true, if_false, not_true_eq_false, not_false_eq_true, true_and, and_true, false_and, and_false, z10, bg_2 hg, bg_1 hg, ne]
      exact this
  have e670 : ∀ (d a2 cs' k' : Nat) (i' fr' : Int32) (cd' wt' en' : Nat → Int32) (Q : Option Value → HS → Prop), Q (some (.int (nI a2))) (GH LG gr (BC LG r n a2 cs' k' fr' U cd' wt' en' C) G z) → wp V (cdT Ev) mx d 2 67 [some (.ref (LG r)), some (.int 0), some (.int i')] [] (GH LG gr (BC LG r n a2 cs' k' fr' U cd' wt' en' C) G z) Q := by
    intro d a2 cs' k' i' fr' cd' wt' en' Q g0
    simp only [s_2_67, s_2_68, s_2_86, s_2_87, s_2_90, ↓reduceIte, eq_self, rts_some, rts_none, nq_int, nq_ref, nq_null, nq_none, okr1_0, okr1_1, okr_b, List.length_nil, List.length_cons, Nat.zero_le, Nat.reduceAdd, Nat.reduceLeDiff, b2i_0, b2i_n0, b2i_1, b2i_n1, ite_not, if_true, if_false, not_true_eq_false, not_false_eq_true, true_and, and_true, false_and, and_false, bg_2 hg]
    exact g0
  have ok := pCl_ok (T := U) (n := n) (a := 0) (by omega) hn
  have adv := pCl_adv U n 0 (by omega)
  unfold pAll at H1 H0
  refine c_isClause hg hE hT (by omega) (by omega) (by omega) (fun ho cd1 hc1 hl1 => ?_) (fun ho cd1 cs1 => ?_)
  · obtain ⟨ok1, ok2, ok3⟩ := ok ho
    generalize e1 : pCl U n 0 = r1 at H1 H0 ho hl1 ok1 ok2 adv
    obtain ⟨o1, a1, c1⟩ := r1
    have ho' : o1 = true := ho
    subst ho'
    simp only at H1 H0 hl1 ok1 ok2 adv ⊢
    simp only [s_2_34, s_2_35, s_2_36, ↓reduceIte, eq_self, rts_some, rts_none, nq_int, nq_ref, nq_null, nq_none, okr1_0, okr1_1, okr_b, List.length_nil, List.length_cons, Nat.zero_le, Nat.reduceAdd, Nat.reduceLeDiff, b2i_0, b2i_n0, b2i_1, b2i_n1, ite_not, if_true, if_false, not_true_eq_false, not_false_eq_true, true_and, and_true, false_and, and_false]
    have adv2 := pCls_adv U n 9 a1 adv.2
    refine c_fl hg hE hT 9 1 a1 (0 + c1.2.2.length) _ cd1 _ _ (by omega) adv.2 (by omega) (fun ho2 cs' i' cd2 wt2 en2 g1 g2 g3 g4 => ?_) (fun ho2 cs' k' i' fr' cd2 wt2 en2 => ?_)
    · generalize e2 : pCls U n 9 a1 = r2 at H1 H0 ho2 g4 adv2
      obtain ⟨o2, a2, l2⟩ := r2
      have ho2' : o2 = true := ho2
      subst ho2'
      simp only [Bool.true_and] at H1 H0 g4 adv2 ⊢
      have ef : freeC (if c1.1 = 2 then c1.2.1 else 0) l2 = freeC 0 (c1 :: l2) := rfl
      rw [ef]
      refine e67 (d + 23) a2 cs' _ i' _ cd2 wt2 en2 Q adv2.2 (fun e => ?_) (fun e => ?_)
      · subst e
        have := H1 (decide_eq_true rfl) rfl cs' cd2 wt2 en2 ⟨?_, ?_, ?_, fun q x hq => ?_, ok1, g4⟩
        · simp only [List.length_cons] at this
          rw [show 0 + 1 + l2.length = l2.length + 1 by omega]
          exact this
        · rw [g2 0 (by omega), pk_us]
        · rw [g3 0 (by omega), pk_us]
        · omega
        · have hql : q < c1.2.2.length := by
            rcases Nat.lt_or_ge q c1.2.2.length with h1 | h1
            · exact h1
            · rw [List.getElem?_eq_none h1] at hq
              cases hq
          rw [g1 _ (by omega)]
          exact hl1 q x hq
      · exact H0 (decide_eq_false e) cs' _ _ cd2 wt2 en2
    · generalize e2 : pCls U n 9 a1 = r2 at H1 H0 ho2 adv2
      obtain ⟨o2, a2, l2⟩ := r2
      have ho2' : o2 = false := ho2
      subst ho2'
      simp only [Bool.false_and] at H0 ⊢
      exact e670 (d + 23) a2 cs' k' i' fr' cd2 wt2 en2 Q (H0 (by trivial) cs' k' fr' cd2 wt2 en2)
  · generalize e1 : pCl U n 0 = r1 at H1 H0 ho
    obtain ⟨o1, a1, c1⟩ := r1
    have ho' : o1 = false := ho
    subst ho'
    simp only at H0
    simp only [s_2_34, s_2_35, s_2_36, ↓reduceIte, eq_self, rts_some, rts_none, nq_int, nq_ref, nq_null, nq_none, okr1_0, okr1_1, okr_b, List.length_nil, List.length_cons, Nat.zero_le, Nat.reduceAdd, Nat.reduceLeDiff, b2i_0, b2i_n0, b2i_1, b2i_n1, ite_not, if_true, if_false, not_true_eq_false, not_false_eq_true, true_and, and_true, false_and, and_false]
    rw [s_2_37]
    simp only [s_2_38, s_2_40, s_2_43, s_2_44, ↓reduceIte, eq_self, rts_some, rts_none, nq_int, nq_ref, nq_null, nq_none, okr1_0, okr1_1, okr_b, List.length_nil, List.length_cons, Nat.zero_le, Nat.reduceAdd, Nat.reduceLeDiff, b2i_0, b2i_n0, b2i_1, b2i_n1, ite_not, if_true, if_false, not_true_eq_false, not_false_eq_true, true_and, and_true, false_and, and_false, ite_self]
    exact e670 (d + 23) a1 cs1 0 1 0 cd1 wt en Q (H0 (by trivial) cs1 0 0 cd1 wt en)
end
