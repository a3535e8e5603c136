/-! What the codes of a text are: lengths, how many answers wait; the class reads expressions. -/
theorem pTest_len {T : Nat → Int32} {n a : Nat} (h : (pTest T n a).1 = true) : a + 3 ≤ (pTest T n a).2.1 := by
  unfold pTest at h ⊢
  split at h
  · rename_i ha
    rw [if_pos ha]
    split at h
    · cases h
    · rename_i kk hk
      split at h
      · rename_i h1
        rw [if_pos h1]
        split at h
        · cases h
        · rename_i w hw
          have hn := pNum_adv T n (a + 2)
          split at h
          · cases h
          · rename_i a' v he
            rw [he] at hn
            have := hn.2.2 rfl
            simp only
            simp only at this
            omega
      · cases h
  · cases h
theorem pE_len (T : Nat → Int32) (n : Nat) : ∀ (f m w a a' : Nat) (l : List Int32), pE T n f m w a = (true, a', l) → l.length + a ≤ a' ∧ (m < 3 → l.length + a + 1 ≤ a') := by
  intro f
  induction f with
  | zero =>
    intro m w a a' l h
    simp [pE] at h
  | succ f ih =>
    intro m w a a' l h
    have seq : ∀ (m1 m2 a : Nat) (x : List Int32), (match pE T n f m1 w a with
      | (false, a1, c1) => (false, a1, c1)
      | (true, a1, c1) => match pE T n f m2 w a1 with
        | (o, a2, c2) => (o, a2, c1 ++ x ++ c2)) = (true, a', l) → m1 < 3 → l.length + a + 1 ≤ a' + x.length := by
      intro m1 m2 a x h hm
      generalize e1 : pE T n f m1 w a = r1 at h
      obtain ⟨o1, a1, c1⟩ := r1
      cases o1 with
      | false => cases h
      | true =>
        simp only at h
        generalize e2 : pE T n f m2 w a1 = r2 at h
        obtain ⟨o2, a2, c2⟩ := r2
        simp only [Prod.mk.injEq] at h
        obtain ⟨h1, h2, h3⟩ := h
        subst h1
        subst h2
        subst h3
        have i1 := (ih m1 w a a1 c1 e1).2 hm
        have i2 := (ih m2 w a1 a2 c2 e2).1
        simp only [List.length_append]
        omega
    have seq0 : ∀ (m1 m2 a : Nat), (match pE T n f m1 w a with
      | (false, a1, c1) => (false, a1, c1)
      | (true, a1, c1) => match pE T n f m2 w a1 with
        | (o, a2, c2) => (o, a2, c1 ++ c2)) = (true, a', l) → m1 < 3 → l.length + a + 1 ≤ a' := by
      intro m1 m2 a h hm
      have := seq m1 m2 a [] (by
        rw [← h]
        generalize pE T n f m1 w a = r1
        obtain ⟨o1, a1, c1⟩ := r1
        cases o1 with
        | false => rfl
        | true => simp only [List.append_nil]) hm
      simpa using this
    match m with
    | 0 =>
      simp only [pE] at h
      have := seq0 1 3 a h (by decide)
      exact ⟨by omega, fun _ => this⟩
    | 1 =>
      simp only [pE] at h
      have := seq0 2 4 a h (by decide)
      exact ⟨by omega, fun _ => this⟩
    | 2 =>
      simp only [pE] at h
      have key : l.length + a + 1 ≤ a' := by
        split at h
        · generalize e1 : pE T n f 2 (w + 1) (a + 1) = r1 at h
          obtain ⟨o1, a1, c1⟩ := r1
          cases o1 with
          | false => cases h
          | true =>
            simp only [Prod.mk.injEq] at h
            obtain ⟨-, h2, h3⟩ := h
            subst h2
            subst h3
            have i1 := (ih 2 (w + 1) (a + 1) a1 c1 e1).2 (by decide)
            simp only [List.length_append, List.length_cons, List.length_nil]
            omega
        · split at h
          · generalize e1 : pE T n f 0 (w + 1) (a + 1) = r1 at h
            obtain ⟨o1, a1, c1⟩ := r1
            cases o1 with
            | false => cases h
            | true =>
              simp only at h
              split at h
              · simp only [Prod.mk.injEq] at h
                obtain ⟨-, h2, h3⟩ := h
                subst h2
                subst h3
                have i1 := (ih 0 (w + 1) (a + 1) a1 c1 e1).2 (by decide)
                omega
              · cases h
          · generalize e1 : pTest T n a = r1 at h
            obtain ⟨o1, a1, c1⟩ := r1
            cases o1 with
            | false => cases h
            | true =>
              simp only [Prod.mk.injEq] at h
              obtain ⟨-, h2, h3⟩ := h
              subst h2
              subst h3
              have i1 := pTest_len (T := T) (n := n) (a := a) (by rw [e1])
              rw [e1] at i1
              simp only at i1
              simp only [List.length_cons, List.length_nil]
              omega
      exact ⟨by omega, fun _ => key⟩
    | 3 =>
      simp only [pE] at h
      refine ⟨?_, fun h => absurd h (by decide)⟩
      split at h
      · have := seq 1 3 (a + 1) [-3] h (by decide)
        simp only [List.length_cons, List.length_nil] at this
        omega
      · simp only [Prod.mk.injEq] at h
        obtain ⟨-, h2, h3⟩ := h
        subst h2
        subst h3
        simp
    | m + 4 =>
      simp only [pE] at h
      refine ⟨?_, fun h => absurd h (by omega)⟩
      split at h
      · have := seq 2 4 (a + 1) [-2] h (by decide)
        simp only [List.length_cons, List.length_nil] at this
        omega
      · simp only [Prod.mk.injEq] at h
        obtain ⟨-, h2, h3⟩ := h
        subst h2
        subst h3
        simp
theorem pTest_c {T : Nat → Int32} {n a : Nat} (h : (pTest T n a).1 = true) : ∃ q, q < 1800 ∧ (pTest T n a).2.2 = nI q := by
  unfold pTest at h ⊢
  split at h
  · rename_i ha
    rw [if_pos ha]
    split at h
    · cases h
    · rename_i kk hk
      have hk6 := pLet_k hk
      split at h
      · rename_i h1
        rw [if_pos h1]
        split at h
        · cases h
        · rename_i w hw
          have hw3 := pSgn_k hw
          split at h
          · cases h
          · rename_i a' v he
            have hv := pNum_v (T := T) (n := n) (a := a + 2) (by rw [he])
            rw [he] at hv
            obtain ⟨m, hm, ev⟩ := hv
            simp only at ev ⊢
            exact ⟨(kk * 3 + w) * 100 + m, by omega, by rw [ev, nI_add]⟩
      · cases h
  · cases h
/-- how many answers may wait below -/
theorem pE_ok (T : Nat → Int32) (n : Nat) : ∀ (f m w a a' : Nat) (l : List Int32), pE T n f m w a = (true, a', l) → w ≤ 4 → ∀ p, (m = 0 → p + (11 - 2 * w) ≤ 12 → okR l p = some (p + 1)) ∧ (m = 1 → p + (10 - 2 * w) ≤ 12 → okR l p = some (p + 1)) ∧ (m = 2 → p + (9 - 2 * w) ≤ 12 → okR l p = some (p + 1)) ∧ (m = 3 → p + (11 - 2 * w) ≤ 12 → okR l (p + 1) = some (p + 1)) ∧ (4 ≤ m → p + (10 - 2 * w) ≤ 12 → okR l (p + 1) = some (p + 1)) := by
  intro f
  induction f with
  | zero =>
    intro m w a a' l h
    simp [pE] at h
  | succ f ih =>
    intro m w a a' l h hw p
    have o1 : ∀ {q : Nat}, okR [-1] (q + 1) = some (q + 1) := by
      intro q
      simp only [okR]
      rw [if_pos trivial, if_pos (by omega)]
    have o2 : ∀ {q : Nat}, okR [-2] (q + 1 + 1) = some (q + 1) := by
      intro q
      simp only [okR]
      rw [if_neg (by decide), if_pos (Or.inl trivial), if_pos (by omega)]
      rfl
    have o3 : ∀ {q : Nat}, okR [-3] (q + 1 + 1) = some (q + 1) := by
      intro q
      simp only [okR]
      rw [if_neg (by decide), if_pos (Or.inr trivial), if_pos (by omega)]
      rfl
    match m with
    | 0 =>
      simp only [pE] at h
      refine ⟨fun _ hp => ?_, fun e => absurd e (by decide), fun e => absurd e (by decide), fun e => absurd e (by decide), fun e => absurd e (by decide)⟩
      generalize e1 : pE T n f 1 w a = r1 at h
      obtain ⟨q1, a1, c1⟩ := r1
      cases q1 with
      | false => cases h
      | true =>
        simp only at h
        generalize e2 : pE T n f 3 w a1 = r2 at h
        obtain ⟨q2, a2, c2⟩ := r2
        simp only [Prod.mk.injEq] at h
        obtain ⟨h1, h2, h3⟩ := h
        subst h1
        subst h3
        rw [okR_app, (ih 1 w a a1 c1 e1 hw p).2.1 rfl (by omega)]
        exact (ih 3 w a1 a2 c2 e2 hw p).2.2.2.1 rfl hp
    | 1 =>
      simp only [pE] at h
      refine ⟨fun e => absurd e (by decide), fun _ hp => ?_, fun e => absurd e (by decide), fun e => absurd e (by decide), fun e => absurd e (by decide)⟩
      generalize e1 : pE T n f 2 w a = r1 at h
      obtain ⟨q1, a1, c1⟩ := r1
      cases q1 with
      | false => cases h
      | true =>
        simp only at h
        generalize e2 : pE T n f 4 w a1 = r2 at h
        obtain ⟨q2, a2, c2⟩ := r2
        simp only [Prod.mk.injEq] at h
        obtain ⟨h1, h2, h3⟩ := h
        subst h1
        subst h3
        rw [okR_app, (ih 2 w a a1 c1 e1 hw p).2.2.1 rfl (by omega)]
        exact (ih 4 w a1 a2 c2 e2 hw p).2.2.2.2 (by decide) hp
    | 2 =>
      simp only [pE] at h
      refine ⟨fun e => absurd e (by decide), fun e => absurd e (by decide), fun _ hp => ?_, fun e => absurd e (by decide), fun e => absurd e (by decide)⟩
      split at h
      · rename_i hc
        generalize e1 : pE T n f 2 (w + 1) (a + 1) = r1 at h
        obtain ⟨q1, a1, c1⟩ := r1
        cases q1 with
        | false => cases h
        | true =>
          simp only [Prod.mk.injEq] at h
          obtain ⟨-, h2, h3⟩ := h
          subst h3
          rw [okR_app, (ih 2 (w + 1) (a + 1) a1 c1 e1 (by omega) p).2.2.1 rfl (by omega)]
          exact o1
      · split at h
        · rename_i hc
          generalize e1 : pE T n f 0 (w + 1) (a + 1) = r1 at h
          obtain ⟨q1, a1, c1⟩ := r1
          cases q1 with
          | false => cases h
          | true =>
            simp only at h
            split at h
            · simp only [Prod.mk.injEq] at h
              obtain ⟨-, h2, h3⟩ := h
              subst h3
              exact (ih 0 (w + 1) (a + 1) a1 c1 e1 (by omega) p).1 rfl (by omega)
            · cases h
        · generalize e1 : pTest T n a = r1 at h
          obtain ⟨q1, a1, c1⟩ := r1
          cases q1 with
          | false => cases h
          | true =>
            simp only [Prod.mk.injEq] at h
            obtain ⟨-, h2, h3⟩ := h
            subst h3
            have hq := pTest_c (T := T) (n := n) (a := a) (by rw [e1])
            rw [e1] at hq
            obtain ⟨q, hq, eq⟩ := hq
            simp only at eq
            rw [eq]
            simp only [okR]
            rw [if_neg (nI_neg (by omega) (by decide)), if_neg (fun h => h.elim (nI_neg (by omega) (by decide)) (nI_neg (by omega) (by decide))), nI_clamp (by omega), if_pos ⟨hq, nI_pos' (by omega), by omega⟩]
    | 3 =>
      simp only [pE] at h
      refine ⟨fun e => absurd e (by decide), fun e => absurd e (by decide), fun e => absurd e (by decide), fun _ hp => ?_, fun e => absurd e (by decide)⟩
      split at h
      · generalize e1 : pE T n f 1 w (a + 1) = r1 at h
        obtain ⟨q1, a1, c1⟩ := r1
        cases q1 with
        | false => cases h
        | true =>
          simp only at h
          generalize e2 : pE T n f 3 w a1 = r2 at h
          obtain ⟨q2, a2, c2⟩ := r2
          simp only [Prod.mk.injEq] at h
          obtain ⟨h1, h2, h3⟩ := h
          subst h1
          subst h3
          rw [okR_app, okR_app, (ih 1 w (a + 1) a1 c1 e1 hw (p + 1)).2.1 rfl (by omega), Option.bind_some, o3, Option.bind_some]
          exact (ih 3 w a1 a2 c2 e2 hw p).2.2.2.1 rfl hp
      · simp only [Prod.mk.injEq] at h
        obtain ⟨-, h2, h3⟩ := h
        subst h3
        rfl
    | m + 4 =>
      simp only [pE] at h
      refine ⟨fun e => absurd e (by omega), fun e => absurd e (by omega), fun e => absurd e (by omega), fun e => absurd e (by omega), fun _ hp => ?_⟩
      split at h
      · generalize e1 : pE T n f 2 w (a + 1) = r1 at h
        obtain ⟨q1, a1, c1⟩ := r1
        cases q1 with
        | false => cases h
        | true =>
          simp only at h
          generalize e2 : pE T n f 4 w a1 = r2 at h
          obtain ⟨q2, a2, c2⟩ := r2
          simp only [Prod.mk.injEq] at h
          obtain ⟨h1, h2, h3⟩ := h
          subst h1
          subst h3
          rw [okR_app, okR_app, (ih 2 w (a + 1) a1 c1 e1 hw (p + 1)).2.2.1 rfl (by omega), Option.bind_some, o2, Option.bind_some]
          exact (ih 4 w a1 a2 c2 e2 hw p).2.2.2.2 (by decide) hp
      · simp only [Prod.mk.injEq] at h
        obtain ⟨-, h2, h3⟩ := h
        subst h3
        rfl
section
variable {V : Nat → Option AE} {Ev : Nat → Value} {d : Nat} {Q : Option Value → HS → Prop}
variable {LG gr : Nat → Nat} {r n a cs k : Nat} {fr : Int32} {T cd wt en : Nat → Int32} {C G : Nat → Option AE} {z : Nat × Nat}
theorem c_isTest (hg : ∀ r, gr (LG r) = r) (hE : ES5 V Ev LG gr G z) (hT : TX T n) (ha : a ≤ n) (hcs : cs ≤ a) : WP V (cdT Ev) mx (d + 7) 8 [.ref (LG r)] (GH LG gr (BC LG r n a cs k fr T cd wt en C) G z) Q = if (pTest T n a).1 = true then Q (some (.int 1)) (GH LG gr (BC LG r n (pTest T n a).2.1 (cs + 1) k fr T (upd cd cs (pTest T n a).2.2) wt en C) G z) else Q (some (.int 0)) (GH LG gr (BC LG r n (pTest T n a).2.1 cs k fr T cd wt en C) G z) := by
  have hn := hT.1
  have hx : ix (nI a) 101 = True := ix_nIT (by omega) (by decide)
  have hcl := nI_clamp (show a < 2 ^ 31 by omega)
  obtain ⟨a3, e3, s3⟩ := hE.1 3 (by decide)
  obtain ⟨a4, e4, s4⟩ := hE.1 4 (by decide)
  have gc3 : ∀ K : Prop, cstr V a3 K = K := (sr_gs0 (s3 C)).choose_spec.2.2.1
  have gc4 : ∀ K : Prop, cstr V a4 K = K := (sr_gs0 (s4 C)).choose_spec.2.2.1
  have e3' : Ev 4 = .ref a3 := e3
  have e4' : Ev 5 = .ref a4 := e4
  have z0m : ((0 : Int32) ≤ -1) = False := by decide
  obtain ⟨q, hq, eq⟩ := hT.2.2 a ha
  have io3 := fun (a cs : Nat) (cd : Nat → Int32) (Q : Option Value → HS → Prop) => c_indexOf (V := V) (Ev := Ev) (d := d) (Q := Q) (s3 (BC LG r n a cs k fr T cd wt en C)) (strB_CH (by decide)) (by decide) hq
  have hl3 : (strB 3).length = 6 := rfl
  have hl4 : (strB 4).length = 3 := rfl
  rw [e_8]
  simp only [s_8_0, s_8_2, s_8_3, s_8_6, s_8_7, s_8_10, s_8_11, s_8_12, s_8_15, s_8_16, s_8_17, ↓reduceIte, eq_self, rts_some, rts_none, nq_int, nq_ref, nq_null, nq_none, okr1_0, okr1_1, okr_b, List.length_nil, List.length_cons, Nat.zero_le, Nat.reduceAdd, Nat.reduceLeDiff, b2i_0, b2i_n0, b2i_1, b2i_n1, ite_not, if_true, if_false, not_true_eq_false, not_false_eq_true, true_and, and_true, false_and, and_false, e3', bg_0 hg, bg_2 hg, ba_1 hg, hx, hcl, eq, ch_16 q hq, gc3, io3, hl3, ixO_let]
  rw [← eq]
  unfold pTest
  cases hp : pLet (T a) with
  | none =>
    simp only [z0m, if_false]
    have e : (if a < n then (false, a, (0 : Int32)) else (false, a, 0)) = (false, a, 0) := by split <;> rfl
    rw [e, if_neg Bool.false_ne_true]
    simp only [s_8_20, s_8_21, ↓reduceIte, eq_self, rts_some, rts_none, nq_int, nq_ref, nq_null, nq_none, okr1_0, okr1_1, okr_b, List.length_nil, List.length_cons, Nat.zero_le, Nat.reduceAdd, Nat.reduceLeDiff, b2i_0, b2i_n0, b2i_1, b2i_n1, ite_not, if_true, if_false, not_true_eq_false, not_false_eq_true, true_and, and_true, false_and, and_false]
  | some kk =>
    have hk6 := pLet_k hp
    have hlt : a < n := by
      rcases Nat.lt_or_ge a n with h1 | h1
      · exact h1
      · exfalso
        rw [show a = n by omega, hT.2.1, show pLet 0 = none by decide] at hp
        cases hp
    rw [if_pos hlt]
    have hx1 : ix (nI (a + 1)) 101 = True := ix_nIT (by omega) (by decide)
    have hcl1 := nI_clamp (show a + 1 < 2 ^ 31 by omega)
    obtain ⟨q1, hq1, eq1⟩ := hT.2.2 (a + 1) (by omega)
    have io4 := fun (a cs : Nat) (cd : Nat → Int32) (Q : Option Value → HS → Prop) => c_indexOf (V := V) (Ev := Ev) (d := d) (Q := Q) (s4 (BC LG r n a cs k fr T cd wt en C)) (strB_CH (by decide)) (by decide) hq1
    simp only [eq_true (nI_pos' (show kk < 2 ^ 31 by omega)), if_true]
    simp only [s_8_22, s_8_23, s_8_24, s_8_27, s_8_28, s_8_29, s_8_32, s_8_34, s_8_35, s_8_38, s_8_39, s_8_42, s_8_43, s_8_44, s_8_47, s_8_48, s_8_49, ↓reduceIte, eq_self, rts_some, rts_none, nq_int, nq_ref, nq_null, nq_none, okr1_0, okr1_1, okr_b, List.length_nil, List.length_cons, Nat.zero_le, Nat.reduceAdd, Nat.reduceLeDiff, b2i_0, b2i_n0, b2i_1, b2i_n1, ite_not, if_true, if_false, not_true_eq_false, not_false_eq_true, true_and, and_true, false_and, and_false, bg_2 hg, nI_1, bp_2 hg, e4', bg_0 hg, ba_1 hg, hx1, hcl1, eq1, ch_16 q1 hq1, gc4, io4, hl4, ixO_sgn]
    rw [← eq1]
    cases hp2 : pSgn (T (a + 1)) with
    | none =>
      simp only [z0m, if_false]
      have e : (if a + 1 < n then (false, a + 1, (0 : Int32)) else (false, a + 1, 0)) = (false, a + 1, 0) := by split <;> rfl
      rw [e, if_neg Bool.false_ne_true]
      simp only [s_8_52, s_8_53, ↓reduceIte, eq_self, rts_some, rts_none, nq_int, nq_ref, nq_null, nq_none, okr1_0, okr1_1, okr_b, List.length_nil, List.length_cons, Nat.zero_le, Nat.reduceAdd, Nat.reduceLeDiff, b2i_0, b2i_n0, b2i_1, b2i_n1, ite_not, if_true, if_false, not_true_eq_false, not_false_eq_true, true_and, and_true, false_and, and_false]
    | some w =>
      have hw3 := pSgn_k hp2
      have hlt2 : a + 1 < n := by
        rcases Nat.lt_or_ge (a + 1) n with h1 | h1
        · exact h1
        · exfalso
          rw [show a + 1 = n by omega, hT.2.1, show pSgn 0 = none by decide] at hp2
          cases hp2
      rw [if_pos hlt2]
      simp only [eq_true (nI_pos' (show w < 2 ^ 31 by omega)), if_true]
      simp only [s_8_54, s_8_55, s_8_56, s_8_59, s_8_60, s_8_61, s_8_64, s_8_65, ↓reduceIte, eq_self, rts_some, rts_none, nq_int, nq_ref, nq_null, nq_none, okr1_0, okr1_1, okr_b, List.length_nil, List.length_cons, Nat.zero_le, Nat.reduceAdd, Nat.reduceLeDiff, b2i_0, b2i_n0, b2i_1, b2i_n1, ite_not, if_true, if_false, not_true_eq_false, not_false_eq_true, true_and, and_true, false_and, and_false, bg_2 hg, nI_1, bp_2 hg, bcv hg, show a + 1 + 1 = a + 2 from rfl, c_number hg hT (show a + 2 ≤ n by omega)]
      have hv := @pNum_v T n (a + 2)
      generalize hpn : pNum T n (a + 2) = pn at hv
      obtain ⟨o, a', v⟩ := pn
      cases o with
      | false =>
        have e2 := pNum_f (T := T) (n := n) (a := a + 2) (by rw [hpn])
        rw [hpn] at e2
        simp only at e2
        subst e2
        simp only [Bool.false_eq_true, if_false]
        simp only [s_8_68, s_8_69, s_8_70, s_8_94, s_8_95, ↓reduceIte, eq_self, rts_some, rts_none, nq_int, nq_ref, nq_null, nq_none, okr1_0, okr1_1, okr_b, List.length_nil, List.length_cons, Nat.zero_le, Nat.reduceAdd, Nat.reduceLeDiff, b2i_0, b2i_n0, b2i_1, b2i_n1, ite_not, if_true, if_false, not_true_eq_false, not_false_eq_true, true_and, and_true, false_and, and_false, show ((-1 : Int32) < 0) = True from by decide]
      | true =>
        obtain ⟨m, hm, ev⟩ := hv rfl
        simp only at ev
        subst ev
        have ec : (nI kk * 3 + nI w) * 100 + nI m = nI ((kk * 3 + w) * 100) + nI m := by
          rw [show (3 : Int32) = nI 3 from rfl, show (100 : Int32) = nI 100 from rfl, pk_mul, nI_add, pk_mul]
        simp only [if_true]
        simp only [s_8_68, s_8_69, s_8_70, s_8_73, s_8_74, s_8_75, s_8_76, s_8_77, s_8_78, s_8_79, s_8_81, s_8_82, s_8_83, s_8_84, s_8_87, s_8_90, s_8_91, s_8_95, ↓reduceIte, eq_self, rts_some, rts_none, nq_int, nq_ref, nq_null, nq_none, okr1_0, okr1_1, okr_b, List.length_nil, List.length_cons, Nat.zero_le, Nat.reduceAdd, Nat.reduceLeDiff, b2i_0, b2i_n0, b2i_1, b2i_n1, ite_not, if_true, if_false, not_true_eq_false, not_false_eq_true, true_and, and_true, false_and, and_false, eq_false (nI_pos (show m < 2 ^ 31 by omega)), bcv hg, ec, c_isKept hg (show cs < 100 by omega), show ((1 : Int32) = 0) = False from by decide]
end
