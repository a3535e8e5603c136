/-! The cells of a bridge that is read; small readers: the class. -/
def bcl (LG : Nat → Nat) (r n a cs k : Nat) (fr : Int32) (T cd wt en : Nat → Int32) : Nat → Option AE
  | 0 => some (.inr (0, [.ref (LG (r + 1)), .int (nI n), .int (nI a), .ref (LG (r + 2)), .int (nI cs), .ref (LG (r + 3)), .ref (LG (r + 4)), .int (nI k), .int fr]))
  | 1 => some (.inl (0, 101, .inl T))
  | 2 => some (.inl (2, 100, .inl cd))
  | 3 => some (.inl (2, 10, .inl wt))
  | 4 => some (.inl (2, 10, .inl en))
  | _ => none
def BC (LG : Nat → Nat) (r n a cs k : Nat) (fr : Int32) (T cd wt en : Nat → Int32) (C : Nat → Option AE) : Nat → Option AE := fun q => if q < r then C q else if q < r + 5 then bcl LG r n a cs k fr T cd wt en (q - r) else C q
section
variable {LG gr : Nat → Nat} {r n a cs k : Nat} {fr : Int32} {T cd wt en : Nat → Int32} {C G : Nat → Option AE} {z : Nat × Nat} {V : Nat → Option AE}
theorem BC_k (j : Nat) (hj : j < 5) : BC LG r n a cs k fr T cd wt en C (r + j) = bcl LG r n a cs k fr T cd wt en j := by
  unfold BC
  rw [if_neg (by omega), if_pos (by omega), Nat.add_sub_cancel_left]
theorem BC_0 : BC LG r n a cs k fr T cd wt en C r = bcl LG r n a cs k fr T cd wt en 0 := BC_k 0 (by decide)
theorem BC_out {q : Nat} (h : q < r ∨ r + 5 ≤ q) : BC LG r n a cs k fr T cd wt en C q = C q := by
  unfold BC
  by_cases h1 : q < r
  · rw [if_pos h1]
  · rw [if_neg h1, if_neg (by omega)]
theorem BC_set {j : Nat} (hj : j < 5) {n' a' cs' k' : Nat} {fr' : Int32} {T' cd' wt' en' : Nat → Int32} {e : AE} (h1 : bcl LG r n' a' cs' k' fr' T' cd' wt' en' j = some e) (h2 : ∀ q, q ≠ j → q < 5 → bcl LG r n' a' cs' k' fr' T' cd' wt' en' q = bcl LG r n a cs k fr T cd wt en q) : va_up (BC LG r n a cs k fr T cd wt en C) (r + j) (some e) = BC LG r n' a' cs' k' fr' T' cd' wt' en' C := by
  funext q
  simp only [va_up, BC]
  by_cases eq : q = r + j
  · subst eq
    rw [if_pos rfl, if_neg (by omega), if_pos (by omega), Nat.add_sub_cancel_left, h1]
  · rw [if_neg eq]
    by_cases q1 : q < r
    · rw [if_pos q1, if_pos q1]
    · rw [if_neg q1, if_neg q1]
      by_cases q2 : q < r + 5
      · rw [if_pos q2, if_pos q2, h2 _ (by omega) (by omega)]
      · rw [if_neg q2, if_neg q2]
theorem bg_0 (hg : ∀ r, gr (LG r) = r) {K : Value → Prop} : gf [0] 0 (GH LG gr (BC LG r n a cs k fr T cd wt en C) G z) (LG r) K = K (.ref (LG (r + 1))) := r_gf hg BC_0 (by decide) rfl
theorem bg_1 (hg : ∀ r, gr (LG r) = r) {K : Value → Prop} : gf [0] 1 (GH LG gr (BC LG r n a cs k fr T cd wt en C) G z) (LG r) K = K (.int (nI n)) := r_gf hg BC_0 (by decide) rfl
theorem bg_2 (hg : ∀ r, gr (LG r) = r) {K : Value → Prop} : gf [0] 2 (GH LG gr (BC LG r n a cs k fr T cd wt en C) G z) (LG r) K = K (.int (nI a)) := r_gf hg BC_0 (by decide) rfl
theorem bg_3 (hg : ∀ r, gr (LG r) = r) {K : Value → Prop} : gf [0] 3 (GH LG gr (BC LG r n a cs k fr T cd wt en C) G z) (LG r) K = K (.ref (LG (r + 2))) := r_gf hg BC_0 (by decide) rfl
theorem bg_4 (hg : ∀ r, gr (LG r) = r) {K : Value → Prop} : gf [0] 4 (GH LG gr (BC LG r n a cs k fr T cd wt en C) G z) (LG r) K = K (.int (nI cs)) := r_gf hg BC_0 (by decide) rfl
theorem bg_5 (hg : ∀ r, gr (LG r) = r) {K : Value → Prop} : gf [0] 5 (GH LG gr (BC LG r n a cs k fr T cd wt en C) G z) (LG r) K = K (.ref (LG (r + 3))) := r_gf hg BC_0 (by decide) rfl
theorem bg_6 (hg : ∀ r, gr (LG r) = r) {K : Value → Prop} : gf [0] 6 (GH LG gr (BC LG r n a cs k fr T cd wt en C) G z) (LG r) K = K (.ref (LG (r + 4))) := r_gf hg BC_0 (by decide) rfl
theorem bg_7 (hg : ∀ r, gr (LG r) = r) {K : Value → Prop} : gf [0] 7 (GH LG gr (BC LG r n a cs k fr T cd wt en C) G z) (LG r) K = K (.int (nI k)) := r_gf hg BC_0 (by decide) rfl
theorem bg_8 (hg : ∀ r, gr (LG r) = r) {K : Value → Prop} : gf [0] 8 (GH LG gr (BC LG r n a cs k fr T cd wt en C) G z) (LG r) K = K (.int fr) := r_gf hg BC_0 (by decide) rfl
theorem bp_1 (hg : ∀ r, gr (LG r) = r) {x : Nat} {K : HS → Prop} : pf [0] 1 0 (.int (nI x)) (GH LG gr (BC LG r n a cs k fr T cd wt en C) G z) (LG r) K = K (GH LG gr (BC LG r x a cs k fr T cd wt en C) G z) := by
  rw [r_pf hg BC_0 (by decide) (by simp) rfl]
  refine congrArg (fun c => K (GH LG gr c G z)) ?_
  exact BC_set (j := 0) (by decide) rfl (fun q hq hq5 => by
    match q, hq5 with
    | 0, _ => first | rfl | exact absurd rfl hq
    | 1, _ => first | rfl | exact absurd rfl hq
    | 2, _ => first | rfl | exact absurd rfl hq
    | 3, _ => first | rfl | exact absurd rfl hq
    | 4, _ => first | rfl | exact absurd rfl hq)
theorem bp_2 (hg : ∀ r, gr (LG r) = r) {x : Nat} {K : HS → Prop} : pf [0] 2 0 (.int (nI x)) (GH LG gr (BC LG r n a cs k fr T cd wt en C) G z) (LG r) K = K (GH LG gr (BC LG r n x cs k fr T cd wt en C) G z) := by
  rw [r_pf hg BC_0 (by decide) (by simp) rfl]
  refine congrArg (fun c => K (GH LG gr c G z)) ?_
  exact BC_set (j := 0) (by decide) rfl (fun q hq hq5 => by
    match q, hq5 with
    | 0, _ => first | rfl | exact absurd rfl hq
    | 1, _ => first | rfl | exact absurd rfl hq
    | 2, _ => first | rfl | exact absurd rfl hq
    | 3, _ => first | rfl | exact absurd rfl hq
    | 4, _ => first | rfl | exact absurd rfl hq)
theorem bp_4 (hg : ∀ r, gr (LG r) = r) {x : Nat} {K : HS → Prop} : pf [0] 4 0 (.int (nI x)) (GH LG gr (BC LG r n a cs k fr T cd wt en C) G z) (LG r) K = K (GH LG gr (BC LG r n a x k fr T cd wt en C) G z) := by
  rw [r_pf hg BC_0 (by decide) (by simp) rfl]
  refine congrArg (fun c => K (GH LG gr c G z)) ?_
  exact BC_set (j := 0) (by decide) rfl (fun q hq hq5 => by
    match q, hq5 with
    | 0, _ => first | rfl | exact absurd rfl hq
    | 1, _ => first | rfl | exact absurd rfl hq
    | 2, _ => first | rfl | exact absurd rfl hq
    | 3, _ => first | rfl | exact absurd rfl hq
    | 4, _ => first | rfl | exact absurd rfl hq)
theorem bp_7 (hg : ∀ r, gr (LG r) = r) {x : Nat} {K : HS → Prop} : pf [0] 7 0 (.int (nI x)) (GH LG gr (BC LG r n a cs k fr T cd wt en C) G z) (LG r) K = K (GH LG gr (BC LG r n a cs x fr T cd wt en C) G z) := by
  rw [r_pf hg BC_0 (by decide) (by simp) rfl]
  refine congrArg (fun c => K (GH LG gr c G z)) ?_
  exact BC_set (j := 0) (by decide) rfl (fun q hq hq5 => by
    match q, hq5 with
    | 0, _ => first | rfl | exact absurd rfl hq
    | 1, _ => first | rfl | exact absurd rfl hq
    | 2, _ => first | rfl | exact absurd rfl hq
    | 3, _ => first | rfl | exact absurd rfl hq
    | 4, _ => first | rfl | exact absurd rfl hq)
theorem bp_8 (hg : ∀ r, gr (LG r) = r) {x : Int32} {K : HS → Prop} : pf [0] 8 0 (.int x) (GH LG gr (BC LG r n a cs k fr T cd wt en C) G z) (LG r) K = K (GH LG gr (BC LG r n a cs k x T cd wt en C) G z) := by
  rw [r_pf hg BC_0 (by decide) (by simp) rfl]
  refine congrArg (fun c => K (GH LG gr c G z)) ?_
  exact BC_set (j := 0) (by decide) rfl (fun q hq hq5 => by
    match q, hq5 with
    | 0, _ => first | rfl | exact absurd rfl hq
    | 1, _ => first | rfl | exact absurd rfl hq
    | 2, _ => first | rfl | exact absurd rfl hq
    | 3, _ => first | rfl | exact absurd rfl hq
    | 4, _ => first | rfl | exact absurd rfl hq)
theorem ba_1 (hg : ∀ r, gr (LG r) = r) {i : Int32} {K : Int32 → Prop} : ai 0 i V (GH LG gr (BC LG r n a cs k fr T cd wt en C) G z) (LG (r + 1)) K = (ix i 101 ∧ K (T i.toNatClampNeg)) := r_ai hg (BC_k 1 (by decide))
theorem bs_1 (hg : ∀ r, gr (LG r) = r) {i x : Int32} {K : HS → Prop} : si 0 i x (GH LG gr (BC LG r n a cs k fr T cd wt en C) G z) (LG (r + 1)) K = (ix i 101 ∧ K (GH LG gr (BC LG r n a cs k fr (upd T i.toNatClampNeg x) cd wt en C) G z)) := by
  rw [r_si hg (BC_k 1 (by decide))]
  refine congrArg (fun c => (ix i 101 ∧ K (GH LG gr c G z))) ?_
  exact BC_set (j := 1) (by decide) rfl (fun q hq hq5 => by
    match q, hq5 with
    | 0, _ => first | rfl | exact absurd rfl hq
    | 1, _ => first | rfl | exact absurd rfl hq
    | 2, _ => first | rfl | exact absurd rfl hq
    | 3, _ => first | rfl | exact absurd rfl hq
    | 4, _ => first | rfl | exact absurd rfl hq)
theorem ba_2 (hg : ∀ r, gr (LG r) = r) {i : Int32} {K : Int32 → Prop} : ai 2 i V (GH LG gr (BC LG r n a cs k fr T cd wt en C) G z) (LG (r + 2)) K = (ix i 100 ∧ K (cd i.toNatClampNeg)) := r_ai hg (BC_k 2 (by decide))
theorem bs_2 (hg : ∀ r, gr (LG r) = r) {i x : Int32} {K : HS → Prop} : si 2 i x (GH LG gr (BC LG r n a cs k fr T cd wt en C) G z) (LG (r + 2)) K = (ix i 100 ∧ K (GH LG gr (BC LG r n a cs k fr T (upd cd i.toNatClampNeg x) wt en C) G z)) := by
  rw [r_si hg (BC_k 2 (by decide))]
  refine congrArg (fun c => (ix i 100 ∧ K (GH LG gr c G z))) ?_
  exact BC_set (j := 2) (by decide) rfl (fun q hq hq5 => by
    match q, hq5 with
    | 0, _ => first | rfl | exact absurd rfl hq
    | 1, _ => first | rfl | exact absurd rfl hq
    | 2, _ => first | rfl | exact absurd rfl hq
    | 3, _ => first | rfl | exact absurd rfl hq
    | 4, _ => first | rfl | exact absurd rfl hq)
theorem ba_3 (hg : ∀ r, gr (LG r) = r) {i : Int32} {K : Int32 → Prop} : ai 2 i V (GH LG gr (BC LG r n a cs k fr T cd wt en C) G z) (LG (r + 3)) K = (ix i 10 ∧ K (wt i.toNatClampNeg)) := r_ai hg (BC_k 3 (by decide))
theorem bs_3 (hg : ∀ r, gr (LG r) = r) {i x : Int32} {K : HS → Prop} : si 2 i x (GH LG gr (BC LG r n a cs k fr T cd wt en C) G z) (LG (r + 3)) K = (ix i 10 ∧ K (GH LG gr (BC LG r n a cs k fr T cd (upd wt i.toNatClampNeg x) en C) G z)) := by
  rw [r_si hg (BC_k 3 (by decide))]
  refine congrArg (fun c => (ix i 10 ∧ K (GH LG gr c G z))) ?_
  exact BC_set (j := 3) (by decide) rfl (fun q hq hq5 => by
    match q, hq5 with
    | 0, _ => first | rfl | exact absurd rfl hq
    | 1, _ => first | rfl | exact absurd rfl hq
    | 2, _ => first | rfl | exact absurd rfl hq
    | 3, _ => first | rfl | exact absurd rfl hq
    | 4, _ => first | rfl | exact absurd rfl hq)
theorem ba_4 (hg : ∀ r, gr (LG r) = r) {i : Int32} {K : Int32 → Prop} : ai 2 i V (GH LG gr (BC LG r n a cs k fr T cd wt en C) G z) (LG (r + 4)) K = (ix i 10 ∧ K (en i.toNatClampNeg)) := r_ai hg (BC_k 4 (by decide))
theorem bs_4 (hg : ∀ r, gr (LG r) = r) {i x : Int32} {K : HS → Prop} : si 2 i x (GH LG gr (BC LG r n a cs k fr T cd wt en C) G z) (LG (r + 4)) K = (ix i 10 ∧ K (GH LG gr (BC LG r n a cs k fr T cd wt (upd en i.toNatClampNeg x) C) G z)) := by
  rw [r_si hg (BC_k 4 (by decide))]
  refine congrArg (fun c => (ix i 10 ∧ K (GH LG gr c G z))) ?_
  exact BC_set (j := 4) (by decide) rfl (fun q hq hq5 => by
    match q, hq5 with
    | 0, _ => first | rfl | exact absurd rfl hq
    | 1, _ => first | rfl | exact absurd rfl hq
    | 2, _ => first | rfl | exact absurd rfl hq
    | 3, _ => first | rfl | exact absurd rfl hq
    | 4, _ => first | rfl | exact absurd rfl hq)
theorem bl_2 (hg : ∀ r, gr (LG r) = r) {K : Int32 → Prop} : ln V (GH LG gr (BC LG r n a cs k fr T cd wt en C) G z) (LG (r + 2)) K = K 100 := r_ln hg (BC_k 2 (by decide)) (by decide) rfl
theorem bcv (hg : ∀ r, gr (LG r) = r) {y : Nat} {K : Nat → Prop} : cv [(0, y)] (GH LG gr (BC LG r n a cs k fr T cd wt en C) G z) (LG r) K = K y := r_cv hg BC_0 rfl
end
/-- the text: its signs, and the 0 behind it -/
def TX (T : Nat → Int32) (n : Nat) : Prop := n ≤ 100 ∧ T n = 0 ∧ ∀ k, k ≤ n → ∃ q, q < 128 ∧ T k = nI q
def strB : Nat → List Int32
  | 0 => [112, 114, 101, 115, 115, 32]
  | 1 => [104, 111, 108, 100, 32]
  | 2 => [102, 114, 101, 101, 32]
  | 3 => [112, 107, 118, 115, 119, 100]
  | _ => [60, 61, 62]
def ES5 (V : Nat → Option AE) (Ev : Nat → Value) (LG gr : Nat → Nat) (G : Nat → Option AE) (z : Nat × Nat) : Prop := (∀ k, k < 5 → ∃ a, Ev (k + 1) = .ref a ∧ ∀ C, SR V (GH LG gr C G z) a (strB k)) ∧ (Ev 6 = .null ∨ ∃ a, Ev 6 = .ref a)
theorem strB_CH {k : Nat} (hk : k < 5) : CH (strB k) := by
  match k, hk with
  | 0, _ => exact ⟨by decide, fun i => by
      match i with
      | 0 => exact ⟨112, by decide, rfl⟩
      | 1 => exact ⟨114, by decide, rfl⟩
      | 2 => exact ⟨101, by decide, rfl⟩
      | 3 => exact ⟨115, by decide, rfl⟩
      | 4 => exact ⟨115, by decide, rfl⟩
      | 5 => exact ⟨32, by decide, rfl⟩
      | i + 6 => exact ⟨0, by decide, rfl⟩⟩
  | 1, _ => exact ⟨by decide, fun i => by
      match i with
      | 0 => exact ⟨104, by decide, rfl⟩
      | 1 => exact ⟨111, by decide, rfl⟩
      | 2 => exact ⟨108, by decide, rfl⟩
      | 3 => exact ⟨100, by decide, rfl⟩
      | 4 => exact ⟨32, by decide, rfl⟩
      | i + 5 => exact ⟨0, by decide, rfl⟩⟩
  | 2, _ => exact ⟨by decide, fun i => by
      match i with
      | 0 => exact ⟨102, by decide, rfl⟩
      | 1 => exact ⟨114, by decide, rfl⟩
      | 2 => exact ⟨101, by decide, rfl⟩
      | 3 => exact ⟨101, by decide, rfl⟩
      | 4 => exact ⟨32, by decide, rfl⟩
      | i + 5 => exact ⟨0, by decide, rfl⟩⟩
  | 3, _ => exact ⟨by decide, fun i => by
      match i with
      | 0 => exact ⟨112, by decide, rfl⟩
      | 1 => exact ⟨107, by decide, rfl⟩
      | 2 => exact ⟨118, by decide, rfl⟩
      | 3 => exact ⟨115, by decide, rfl⟩
      | 4 => exact ⟨119, by decide, rfl⟩
      | 5 => exact ⟨100, by decide, rfl⟩
      | i + 6 => exact ⟨0, by decide, rfl⟩⟩
  | 4, _ => exact ⟨by decide, fun i => by
      match i with
      | 0 => exact ⟨60, by decide, rfl⟩
      | 1 => exact ⟨61, by decide, rfl⟩
      | 2 => exact ⟨62, by decide, rfl⟩
      | i + 3 => exact ⟨0, by decide, rfl⟩⟩
  | k + 5, h => exact absurd h (by omega)
theorem ixO_let {c : Int32} : ixO (strB 3) c 6 0 = (match pLet c with
    | some k => nI k
    | none => -1) := by
  unfold pLet
  simp only [ixO, strB]
  by_cases h0 : c = 112
  · subst h0
    rfl
  · by_cases h1 : c = 107
    · subst h1
      rfl
    · by_cases h2 : c = 118
      · subst h2
        rfl
      · by_cases h3 : c = 115
        · subst h3
          rfl
        · by_cases h4 : c = 119
          · subst h4
            rfl
          · by_cases h5 : c = 100
            · subst h5
              rfl
            · rw [if_neg h0, if_neg h1, if_neg h2, if_neg h3, if_neg h4, if_neg h5, if_neg (fun e => h0 e.symm), if_neg (fun e => h1 e.symm), if_neg (fun e => h2 e.symm), if_neg (fun e => h3 e.symm), if_neg (fun e => h4 e.symm), if_neg (fun e => h5 e.symm)]
theorem ixO_sgn {c : Int32} : ixO (strB 4) c 3 0 = (match pSgn c with
    | some k => nI k
    | none => -1) := by
  unfold pSgn
  simp only [ixO, strB]
  by_cases h0 : c = 60
  · subst h0
    rfl
  · by_cases h1 : c = 61
    · subst h1
      rfl
    · by_cases h2 : c = 62
      · subst h2
        rfl
      · rw [if_neg h0, if_neg h1, if_neg h2, if_neg (fun e => h0 e.symm), if_neg (fun e => h1 e.symm), if_neg (fun e => h2 e.symm)]
section
variable {V : Nat → Option AE} {Ev : Nat → Value} {d : Nat} {Q : Option Value → HS → Prop}
variable {LG gr : Nat → Nat} {r n a cs k : Nat} {fr : Int32} {T cd wt en : Nat → Int32} {C G : Nat → Option AE} {z : Nat × Nat}
theorem c_isNext (hg : ∀ r, gr (LG r) = r) (hT : TX T n) (ha : a ≤ n) {c : Int32} (hc : ¬ c = 0) : WP V (cdT Ev) mx (d + 1) 10 [.ref (LG r), .int c] (GH LG gr (BC LG r n a cs k fr T cd wt en C) G z) Q = if a < n ∧ T a = c then Q (some (.int 1)) (GH LG gr (BC LG r n (a + 1) cs k fr T cd wt en C) G z) else Q (some (.int 0)) (GH LG gr (BC LG r n a cs k fr T cd wt en C) G z) := by
  have hn := hT.1
  have hx : ix (nI a) 101 = True := ix_nIT (by omega) (by decide)
  have hcl := nI_clamp (show a < 2 ^ 31 by omega)
  rw [e_10]
  by_cases h : T a = c
  · have hlt : a < n := by
      rcases Nat.lt_or_ge a n with h1 | h1
      · exact h1
      · exfalso
        apply hc
        rw [← h, show a = n by omega, hT.2.1]
    rw [if_pos ⟨hlt, h⟩]
    simp only [s_10_0, s_10_0_n, s_10_1, s_10_4, s_10_4_n, s_10_5, s_10_8, s_10_9, s_10_10, s_10_13, s_10_14, s_10_15, s_10_15_n, s_10_16, s_10_16_i, s_10_17, s_10_20, s_10_21, s_10_22, s_10_25, s_10_26, ↓reduceIte, eq_self, rts_some, rts_none, nq_int, nq_ref, nq_null, nq_none, okr1_0, okr1_1, okr_b, List.length_nil, List.length_cons, Nat.zero_le, Nat.reduceAdd, Nat.reduceLeDiff, b2i_0, b2i_n0, b2i_1, b2i_n1, ite_not, if_true, if_false, not_true_eq_false, not_false_eq_true, true_and, and_true, false_and, and_false, bg_0 hg, bg_2 hg, ba_1 hg, hx, hcl, eq_true h, nI_1, bp_2 hg]
  · rw [if_neg (fun q => h q.2)]
    simp only [s_10_0, s_10_0_n, s_10_1, s_10_4, s_10_4_n, s_10_5, s_10_8, s_10_9, s_10_10, s_10_13, s_10_14, s_10_15, s_10_15_n, s_10_16, s_10_16_i, s_10_17, s_10_20, s_10_21, s_10_22, s_10_25, s_10_26, ↓reduceIte, eq_self, rts_some, rts_none, nq_int, nq_ref, nq_null, nq_none, okr1_0, okr1_1, okr_b, List.length_nil, List.length_cons, Nat.zero_le, Nat.reduceAdd, Nat.reduceLeDiff, b2i_0, b2i_n0, b2i_1, b2i_n1, ite_not, if_true, if_false, not_true_eq_false, not_false_eq_true, true_and, and_true, false_and, and_false, bg_0 hg, bg_2 hg, ba_1 hg, hx, hcl, eq_false h]
theorem c_isKept (hg : ∀ r, gr (LG r) = r) (hcs : cs < 100) {x : Int32} : WP V (cdT Ev) mx (d + 1) 9 [.ref (LG r), .int x] (GH LG gr (BC LG r n a cs k fr T cd wt en C) G z) Q = Q (some (.int 1)) (GH LG gr (BC LG r n a (cs + 1) k fr T (upd cd cs x) wt en C) G z) := by
  have hx : ix (nI cs) 100 = True := ix_nIT hcs (by decide)
  have hcl := nI_clamp (show cs < 2 ^ 31 by omega)
  have hl : (nI cs < 100) = True := eq_true (nI_lt (a := cs) (b := 100) hcs (by decide))
  rw [e_9]
  simp only [s_9_0, s_9_0_n, s_9_1, s_9_4, s_9_4_n, s_9_5, s_9_8, s_9_9, s_9_12, s_9_13, s_9_14, s_9_14_n, s_9_15, s_9_18, s_9_18_n, s_9_19, s_9_22, s_9_23, s_9_24, s_9_24_n, s_9_25, s_9_25_i, s_9_26, s_9_29, s_9_30, s_9_31, s_9_34, s_9_35, ↓reduceIte, eq_self, rts_some, rts_none, nq_int, nq_ref, nq_null, nq_none, okr1_0, okr1_1, okr_b, List.length_nil, List.length_cons, Nat.zero_le, Nat.reduceAdd, Nat.reduceLeDiff, b2i_0, b2i_n0, b2i_1, b2i_n1, ite_not, if_true, if_false, not_true_eq_false, not_false_eq_true, true_and, and_true, false_and, and_false, bg_4 hg, bg_3 hg, bl_2 hg, hl, bs_2 hg, hx, hcl, nI_1, bp_4 hg]
theorem c_endClause (hg : ∀ r, gr (LG r) = r) (hk : k < 10) {x : Int32} : WP V (cdT Ev) mx (d + 1) 4 [.ref (LG r), .int x] (GH LG gr (BC LG r n a cs k fr T cd wt en C) G z) Q = Q (some (.int 1)) (GH LG gr (BC LG r n a cs (k + 1) fr T cd (upd wt k x) (upd en k (nI cs)) C) G z) := by
  have hx : ix (nI k) 10 = True := ix_nIT hk (by decide)
  have hcl := nI_clamp (show k < 2 ^ 31 by omega)
  have hl : (nI k < 10) = True := eq_true (nI_lt (a := k) (b := 10) hk (by decide))
  rw [e_4]
  simp only [s_4_0, s_4_0_n, s_4_1, s_4_4, s_4_6, s_4_9, s_4_10, s_4_11, s_4_11_n, s_4_12, s_4_15, s_4_15_n, s_4_16, s_4_19, s_4_20, s_4_21, s_4_21_n, s_4_22, s_4_25, s_4_25_n, s_4_26, s_4_29, s_4_29_n, s_4_30, s_4_33, s_4_34, s_4_34_n, s_4_35, s_4_35_i, s_4_36, s_4_39, s_4_40, s_4_41, s_4_44, s_4_45, ↓reduceIte, eq_self, rts_some, rts_none, nq_int, nq_ref, nq_null, nq_none, okr1_0, okr1_1, okr_b, List.length_nil, List.length_cons, Nat.zero_le, Nat.reduceAdd, Nat.reduceLeDiff, b2i_0, b2i_n0, b2i_1, b2i_n1, ite_not, if_true, if_false, not_true_eq_false, not_false_eq_true, true_and, and_true, false_and, and_false, bg_7 hg, bg_5 hg, bg_6 hg, bg_4 hg, hl, bs_3 hg, bs_4 hg, hx, hcl, nI_1, bp_7 hg]
theorem c_number (hg : ∀ r, gr (LG r) = r) (hT : TX T n) (ha : a ≤ n) : WP V (cdT Ev) mx (d + 2) 12 [.ref (LG r)] (GH LG gr (BC LG r n a cs k fr T cd wt en C) G z) Q = if (pNum T n a).1 = true then Q (some (.int (pNum T n a).2.2)) (GH LG gr (BC LG r n (pNum T n a).2.1 cs k fr T cd wt en C) G z) else Q (some (.int (-1))) (GH LG gr (BC LG r n a cs k fr T cd wt en C) G z) := by
  have hn := hT.1
  have hx : ix (nI a) 101 = True := ix_nIT (by omega) (by decide)
  have hcl := nI_clamp (show a < 2 ^ 31 by omega)
  have end0 : ∀ b, b ≤ n → (48 ≤ T b ∧ T b ≤ 57) → b < n := by
    intro b hb h
    rcases Nat.lt_or_ge b n with h1 | h1
    · exact h1
    · exfalso
      have e := hT.2.1
      rw [show n = b by omega] at e
      rw [e] at h
      exact absurd h.1 (by decide)
  have z20 : ((2 : Int32) ≤ 0) = False := by decide
  have z21 : ((2 : Int32) ≤ 0 + 1) = False := by decide
  have z22 : ((2 : Int32) ≤ 0 + 1 + 1) = True := by decide
  have z31 : ((0 : Int32) + 1 = 0) = False := by decide
  have z32 : ((0 : Int32) + 1 + 1 = 0) = False := by decide
  have e010 : ∀ x : Int32, 0 * 10 + x - 48 = x - 48 := fun x => by
    rw [show (0 : Int32) * 10 = 0 by decide, Int32.zero_add]
  rw [e_12]
  by_cases h1 : 48 ≤ T a ∧ T a ≤ 57
  · have hlt := end0 a ha h1
    obtain ⟨t, ht, et⟩ := nI_dig h1.1 h1.2
    have k1 : (T a < 48) = False := eq_false (Int32.not_lt.mpr h1.1)
    have k2 : ((57 : Int32) < T a) = False := eq_false (Int32.not_lt.mpr h1.2)
    have hx1 : ix (nI (a + 1)) 101 = True := ix_nIT (by omega) (by decide)
    have hcl1 := nI_clamp (show a + 1 < 2 ^ 31 by omega)
    by_cases h2 : 48 ≤ T (a + 1) ∧ T (a + 1) ≤ 57
    · have hlt2 := end0 (a + 1) (by omega) h2
      have k3 : (T (a + 1) < 48) = False := eq_false (Int32.not_lt.mpr h2.1)
      have k4 : ((57 : Int32) < T (a + 1)) = False := eq_false (Int32.not_lt.mpr h2.2)
      have ep : pNum T n a = (true, a + 2, 10 * (T a - 48) + T (a + 1) - 48) := by
        unfold pNum
        rw [if_pos ⟨hlt, h1⟩, if_pos ⟨hlt2, h2⟩]
      rw [ep, if_pos rfl, Int32.mul_comm 10]
      simp only [s_12_0, s_12_1, s_12_2, s_12_3, s_12_4, s_12_5, s_12_6, s_12_9, s_12_9_n, s_12_10, s_12_13, s_12_13_n, s_12_14, s_12_17, s_12_18, s_12_20, s_12_23, s_12_23_n, s_12_24, s_12_27, s_12_27_n, s_12_28, s_12_31, s_12_32, s_12_34, s_12_37, s_12_38, s_12_40, s_12_41, s_12_41_n, s_12_42, s_12_45, s_12_45_n, s_12_46, s_12_49, s_12_50, s_12_51, s_12_53, s_12_54, s_12_55, s_12_55_n, s_12_56, s_12_56_i, s_12_57, s_12_60, s_12_61, s_12_62, s_12_65, s_12_68, s_12_71, s_12_72, s_12_75, s_12_76, s_12_79, s_12_80, ↓reduceIte, eq_self, rts_some, rts_none, nq_int, nq_ref, nq_null, nq_none, okr1_0, okr1_1, okr_b, List.length_nil, List.length_cons, Nat.zero_le, Nat.reduceAdd, Nat.reduceLeDiff, b2i_0, b2i_n0, b2i_1, b2i_n1, ite_not, if_true, if_false, not_true_eq_false, not_false_eq_true, true_and, and_true, false_and, and_false, bg_0 hg, bg_2 hg, ba_1 hg, hx, hcl, hx1, hcl1, z20, z21, z22, k1, k2, k3, k4, z31, z32, e010, nI_1, bp_2 hg]
    · have ep : pNum T n a = (true, a + 1, T a - 48) := by
        unfold pNum
        rw [if_pos ⟨hlt, h1⟩, if_neg (fun q => h2 q.2)]
      rw [ep, if_pos rfl]
      by_cases k3 : T (a + 1) < 48
      · simp only [s_12_0, s_12_1, s_12_2, s_12_3, s_12_4, s_12_5, s_12_6, s_12_9, s_12_9_n, s_12_10, s_12_13, s_12_13_n, s_12_14, s_12_17, s_12_18, s_12_20, s_12_23, s_12_23_n, s_12_24, s_12_27, s_12_27_n, s_12_28, s_12_31, s_12_32, s_12_34, s_12_37, s_12_38, s_12_40, s_12_41, s_12_41_n, s_12_42, s_12_45, s_12_45_n, s_12_46, s_12_49, s_12_50, s_12_51, s_12_53, s_12_54, s_12_55, s_12_55_n, s_12_56, s_12_56_i, s_12_57, s_12_60, s_12_61, s_12_62, s_12_65, s_12_68, s_12_71, s_12_72, s_12_75, s_12_76, s_12_79, s_12_80, ↓reduceIte, eq_self, rts_some, rts_none, nq_int, nq_ref, nq_null, nq_none, okr1_0, okr1_1, okr_b, List.length_nil, List.length_cons, Nat.zero_le, Nat.reduceAdd, Nat.reduceLeDiff, b2i_0, b2i_n0, b2i_1, b2i_n1, ite_not, if_true, if_false, not_true_eq_false, not_false_eq_true, true_and, and_true, false_and, and_false, bg_0 hg, bg_2 hg, ba_1 hg, hx, hcl, hx1, hcl1, z20, z21, z22, k1, k2, k3, z31, z32, e010, nI_1, bp_2 hg]
      · have k4 : ((57 : Int32) < T (a + 1)) = True := eq_true (Int32.not_le.mp (fun q => h2 ⟨Int32.not_lt.mp k3, q⟩))
        simp only [s_12_0, s_12_1, s_12_2, s_12_3, s_12_4, s_12_5, s_12_6, s_12_9, s_12_9_n, s_12_10, s_12_13, s_12_13_n, s_12_14, s_12_17, s_12_18, s_12_20, s_12_23, s_12_23_n, s_12_24, s_12_27, s_12_27_n, s_12_28, s_12_31, s_12_32, s_12_34, s_12_37, s_12_38, s_12_40, s_12_41, s_12_41_n, s_12_42, s_12_45, s_12_45_n, s_12_46, s_12_49, s_12_50, s_12_51, s_12_53, s_12_54, s_12_55, s_12_55_n, s_12_56, s_12_56_i, s_12_57, s_12_60, s_12_61, s_12_62, s_12_65, s_12_68, s_12_71, s_12_72, s_12_75, s_12_76, s_12_79, s_12_80, ↓reduceIte, eq_self, rts_some, rts_none, nq_int, nq_ref, nq_null, nq_none, okr1_0, okr1_1, okr_b, List.length_nil, List.length_cons, Nat.zero_le, Nat.reduceAdd, Nat.reduceLeDiff, b2i_0, b2i_n0, b2i_1, b2i_n1, ite_not, if_true, if_false, not_true_eq_false, not_false_eq_true, true_and, and_true, false_and, and_false, bg_0 hg, bg_2 hg, ba_1 hg, hx, hcl, hx1, hcl1, z20, z21, z22, k1, k2, k3, k4, z31, z32, e010, nI_1, bp_2 hg]
  · have ep : pNum T n a = (false, a, 0) := by
      unfold pNum
      rw [if_neg (fun q => h1 q.2)]
    rw [ep, if_neg Bool.false_ne_true]
    by_cases k1 : T a < 48
    · simp only [s_12_0, s_12_1, s_12_2, s_12_3, s_12_4, s_12_5, s_12_6, s_12_9, s_12_9_n, s_12_10, s_12_13, s_12_13_n, s_12_14, s_12_17, s_12_18, s_12_20, s_12_23, s_12_23_n, s_12_24, s_12_27, s_12_27_n, s_12_28, s_12_31, s_12_32, s_12_34, s_12_37, s_12_38, s_12_40, s_12_41, s_12_41_n, s_12_42, s_12_45, s_12_45_n, s_12_46, s_12_49, s_12_50, s_12_51, s_12_53, s_12_54, s_12_55, s_12_55_n, s_12_56, s_12_56_i, s_12_57, s_12_60, s_12_61, s_12_62, s_12_65, s_12_68, s_12_71, s_12_72, s_12_75, s_12_76, s_12_79, s_12_80, ↓reduceIte, eq_self, rts_some, rts_none, nq_int, nq_ref, nq_null, nq_none, okr1_0, okr1_1, okr_b, List.length_nil, List.length_cons, Nat.zero_le, Nat.reduceAdd, Nat.reduceLeDiff, b2i_0, b2i_n0, b2i_1, b2i_n1, ite_not, if_true, if_false, not_true_eq_false, not_false_eq_true, true_and, and_true, false_and, and_false, bg_0 hg, bg_2 hg, ba_1 hg, hx, hcl, z20, k1]
    · have k2 : ((57 : Int32) < T a) = True := eq_true (Int32.not_le.mp (fun q => h1 ⟨Int32.not_lt.mp k1, q⟩))
      simp only [s_12_0, s_12_1, s_12_2, s_12_3, s_12_4, s_12_5, s_12_6, s_12_9, s_12_9_n, s_12_10, s_12_13, s_12_13_n, s_12_14, s_12_17, s_12_18, s_12_20, s_12_23, s_12_23_n, s_12_24, s_12_27, s_12_27_n, s_12_28, s_12_31, s_12_32, s_12_34, s_12_37, s_12_38, s_12_40, s_12_41, s_12_41_n, s_12_42, s_12_45, s_12_45_n, s_12_46, s_12_49, s_12_50, s_12_51, s_12_53, s_12_54, s_12_55, s_12_55_n, s_12_56, s_12_56_i, s_12_57, s_12_60, s_12_61, s_12_62, s_12_65, s_12_68, s_12_71, s_12_72, s_12_75, s_12_76, s_12_79, s_12_80, ↓reduceIte, eq_self, rts_some, rts_none, nq_int, nq_ref, nq_null, nq_none, okr1_0, okr1_1, okr_b, List.length_nil, List.length_cons, Nat.zero_le, Nat.reduceAdd, Nat.reduceLeDiff, b2i_0, b2i_n0, b2i_1, b2i_n1, ite_not, if_true, if_false, not_true_eq_false, not_false_eq_true, true_and, and_true, false_and, and_false, bg_0 hg, bg_2 hg, ba_1 hg, hx, hcl, z20, k1, k2]
theorem c_isWord_l (hg : ∀ r, gr (LG r) = r) (hT : TX T n) (hE : Ev 6 = .null ∨ ∃ a, Ev 6 = .ref a) {b : Nat} {w : List Int32} (hs : ∀ C, SR V (GH LG gr C G z) b w) (hw : CH w) (h0 : ∀ i, i < w.length → ¬ w.getD i 0 = 0) : ∀ (l : List Int32) (j a : Nat), j + l.length = w.length → (∀ q x, l[q]? = some x → w.getD (j + q) 0 = x) → a ≤ n → wp V (cdT Ev) mx (d + 4) 11 2 [some (.ref (LG r)), some (.ref b), some (.int (nI j))] [] (GH LG gr (BC LG r n a cs k fr T cd wt en C) G z) Q = Q (some (.int (bI (pStr T n l a).1))) (GH LG gr (BC LG r n (pStr T n l a).2 cs k fr T cd wt en C) G z) := by
  have hw6 := hw.1
  have gc : ∀ K : Prop, cstr V b K = K := (sr_gs0 (hs C)).choose_spec.2.2.1
  intro l
  induction l with
  | nil =>
    intro j a hj _ ha
    have : j = w.length := by simpa using hj
    subst this
    rw [s_11_2]
    simp only [s_11_0, s_11_1, s_11_3, s_11_3_n, s_11_4, s_11_7, s_11_10, s_11_10_n, s_11_11, s_11_11_n, s_11_12, s_11_13, s_11_16, s_11_19, s_11_22, s_11_23, s_11_24, s_11_27, s_11_30, s_11_31, ↓reduceIte, eq_self, rts_some, rts_none, nq_int, nq_ref, nq_null, nq_none, okr1_0, okr1_1, okr_b, List.length_nil, List.length_cons, Nat.zero_le, Nat.reduceAdd, Nat.reduceLeDiff, b2i_0, b2i_n0, b2i_1, b2i_n1, ite_not, if_true, if_false, not_true_eq_false, not_false_eq_true, true_and, and_true, false_and, and_false, gc, c_slen (hs _), Int32.le_refl, pStr]
    rfl
  | cons x l ih =>
    intro j a hj hl ha
    have hj2 : j < w.length := by
      simp at hj
      omega
    have ex : w.getD j 0 = x := by
      have := hl 0 x rfl
      simpa using this
    have hx0 : ¬ x = 0 := by
      rw [← ex]
      exact h0 j hj2
    have hlt : (nI w.length ≤ nI j) = False := eq_false (nI_ge hj2 (by omega))
    rw [s_11_2]
    simp only [s_11_0, s_11_1, s_11_3, s_11_3_n, s_11_4, s_11_7, s_11_10, s_11_10_n, s_11_11, s_11_11_n, s_11_12, s_11_13, s_11_16, s_11_19, s_11_22, s_11_23, s_11_24, s_11_27, s_11_30, s_11_31, ↓reduceIte, eq_self, rts_some, rts_none, nq_int, nq_ref, nq_null, nq_none, okr1_0, okr1_1, okr_b, List.length_nil, List.length_cons, Nat.zero_le, Nat.reduceAdd, Nat.reduceLeDiff, b2i_0, b2i_n0, b2i_1, b2i_n1, ite_not, if_true, if_false, not_true_eq_false, not_false_eq_true, true_and, and_true, false_and, and_false, gc, c_slen (hs _), hlt, c_charAt (hs _) hw hj2 hE, ex, bcv hg, c_isNext hg hT ha hx0]
    simp only [pStr]
    by_cases h1 : a < n ∧ T a = x
    · rw [if_pos h1, if_pos h1]
      simp only [s_11_0, s_11_1, s_11_3, s_11_3_n, s_11_4, s_11_7, s_11_10, s_11_10_n, s_11_11, s_11_11_n, s_11_12, s_11_13, s_11_16, s_11_19, s_11_22, s_11_23, s_11_24, s_11_27, s_11_30, s_11_31, ↓reduceIte, eq_self, rts_some, rts_none, nq_int, nq_ref, nq_null, nq_none, okr1_0, okr1_1, okr_b, List.length_nil, List.length_cons, Nat.zero_le, Nat.reduceAdd, Nat.reduceLeDiff, b2i_0, b2i_n0, b2i_1, b2i_n1, ite_not, if_true, if_false, not_true_eq_false, not_false_eq_true, true_and, and_true, false_and, and_false, show ((1 : Int32) = 0) = False from by decide, nI_1]
      refine ih (j + 1) (a + 1) (by simp at hj; omega) (fun q y hq => ?_) (by omega)
      have := hl (q + 1) y (by simpa using hq)
      rwa [show j + (q + 1) = j + 1 + q by omega] at this
    · rw [if_neg h1, if_neg h1]
      simp only [s_11_0, s_11_1, s_11_3, s_11_3_n, s_11_4, s_11_7, s_11_10, s_11_10_n, s_11_11, s_11_11_n, s_11_12, s_11_13, s_11_16, s_11_19, s_11_22, s_11_23, s_11_24, s_11_27, s_11_30, s_11_31, ↓reduceIte, eq_self, rts_some, rts_none, nq_int, nq_ref, nq_null, nq_none, okr1_0, okr1_1, okr_b, List.length_nil, List.length_cons, Nat.zero_le, Nat.reduceAdd, Nat.reduceLeDiff, b2i_0, b2i_n0, b2i_1, b2i_n1, ite_not, if_true, if_false, not_true_eq_false, not_false_eq_true, true_and, and_true, false_and, and_false]
      rfl
theorem c_isWord (hg : ∀ r, gr (LG r) = r) (hT : TX T n) (hE : Ev 6 = .null ∨ ∃ a, Ev 6 = .ref a) {b : Nat} {w : List Int32} (hs : ∀ C, SR V (GH LG gr C G z) b w) (hw : CH w) (h0 : ∀ i, i < w.length → ¬ w.getD i 0 = 0) (ha : a ≤ n) : WP V (cdT Ev) mx (d + 5) 11 [.ref (LG r), .ref b] (GH LG gr (BC LG r n a cs k fr T cd wt en C) G z) Q = Q (some (.int (bI (pStr T n w a).1))) (GH LG gr (BC LG r n (pStr T n w a).2 cs k fr T cd wt en C) G z) := by
  rw [e_11]
  simp only [s_11_0, s_11_1, ↓reduceIte, eq_self, rts_some, rts_none, nq_int, nq_ref, nq_null, nq_none, okr1_0, okr1_1, okr_b, List.length_nil, List.length_cons, Nat.zero_le, Nat.reduceAdd, Nat.reduceLeDiff, b2i_0, b2i_n0, b2i_1, b2i_n1, ite_not, if_true, if_false, not_true_eq_false, not_false_eq_true, true_and, and_true, false_and, and_false]
  refine c_isWord_l hg hT hE hs hw h0 w 0 a (by omega) (fun q x hq => ?_) ha
  rw [Nat.zero_add, List.getD_eq_getElem?_getD, hq]
  rfl
end
