/-! Sums are small. -/
def CB (cl : List Cls) : Prop := cl.length ≤ 10 ∧ ∀ c, c ∈ cl → ∃ m, m < 100 ∧ c.2.1 = nI m
theorem pCls_cb {T : Nat → Int32} {n : Nat} (hn : n ≤ 100) : ∀ m a, a ≤ n → (pCls T n m a).2.2.length ≤ m ∧ ∀ c, c ∈ (pCls T n m a).2.2 → ∃ x, x < 100 ∧ c.2.1 = nI x := by
  intro m
  induction m with
  | zero =>
    intro a _
    refine ⟨Nat.le_refl _, fun c hc => ?_⟩
    simp [pCls] at hc
  | succ m ih =>
    intro a ha
    have ok := pCl_ok (T := T) (n := n) (a := a + 1)
    have ad := pCl_adv T n (a + 1)
    simp only [pCls]
    by_cases h : a < n ∧ T a = 59
    · rw [if_pos h]
      rcases e : pCl T n (a + 1) with ⟨o, a1, c⟩
      rw [e] at ok ad
      cases o with
      | false =>
        refine ⟨Nat.zero_le _, fun c hc => ?_⟩
        simp at hc
      | true =>
        have i2 := ih a1 (ad (by omega)).2
        refine ⟨?_, fun x hx => ?_⟩
        · show (c :: (pCls T n m a1).2.2).length ≤ m + 1
          rw [List.length_cons]
          omega
        · have hx' : x ∈ c :: (pCls T n m a1).2.2 := hx
          rcases List.mem_cons.mp hx' with g | g
          · rw [g]
            exact (ok (by omega) hn rfl).2.2
          · exact i2.2 x g
    · rw [if_neg h]
      refine ⟨Nat.zero_le _, fun c hc => ?_⟩
      simp at hc
theorem pAll_cb {T : Nat → Int32} {n k : Nat} {cl : List Cls} (hn : n ≤ 100) (h : pAll T n = (true, k, cl)) : CB cl := by
  have ok := pCl_ok (T := T) (n := n) (a := 0) (by omega) hn
  have ad := pCl_adv T n 0 (by omega)
  unfold pAll at h
  rcases e : pCl T n 0 with ⟨o, a1, c⟩
  rw [e] at h ok ad
  cases o with
  | false => simp at h
  | true =>
    have i2 := pCls_cb (T := T) hn 9 a1 ad.2
    have hcl : cl = c :: (pCls T n 9 a1).2.2 := by
      simp only [Prod.mk.injEq] at h
      exact h.2.2.symm
    rw [hcl]
    refine ⟨?_, fun x hx => ?_⟩
    · rw [List.length_cons]
      omega
    · rcases List.mem_cons.mp hx with g | g
      · rw [g]
        exact (ok rfl).2.2
      · exact i2.2 x g
theorem CB_nil : CB [] := ⟨Nat.zero_le _, fun c hc => by simp at hc⟩
theorem Rule_cb {ar : Nat → Nat → Int32} {cl : List Cls} (h : RuleOK ar cl) : CB cl := by
  rcases h with ⟨-, h⟩ | ⟨r, n, hr, hn, -, -, h⟩
  · rw [h]
    exact CB_nil
  · exact pAll_cb hn h
theorem cSum_b {nm : Nat → Int32} {c : Cls} (h : ∃ m, m < 100 ∧ c.2.1 = nI m) : -99 ≤ (cSum nm c).toInt ∧ (cSum nm c).toInt ≤ 99 := by
  obtain ⟨m, hm, e⟩ := h
  have z0 : (0 : Int32).toInt = 0 := by decide
  unfold cSum
  split
  · rw [z0]
    omega
  · split
    · split
      · rw [e, nI_toInt (by omega)]
        omega
      · have e2 : (-c.2.1).toInt = -(m : Int) := by
          rw [e, ← Int32.zero_sub, i_sub (by rw [nI_toInt (by omega)]; omega) (by rw [nI_toInt (by omega)]; omega), nI_toInt (by omega)]
          omega
        rw [e2]
        omega
    · rw [z0]
      omega
theorem sum_b {nm : Nat → Int32} : ∀ (l : List Cls) (s : Int32) (B : Int), (∀ c, c ∈ l → ∃ m, m < 100 ∧ c.2.1 = nI m) → -B ≤ s.toInt → s.toInt ≤ B → B + 100 * l.length ≤ 5000 → 0 ≤ B → -5000 ≤ (sumC nm s l).toInt ∧ (sumC nm s l).toInt ≤ 5000 := by
  intro l
  induction l with
  | nil =>
    intro s B _ h1 h2 h3 h4
    rw [sumC_nil]
    simp at h3
    omega
  | cons c l ih =>
    intro s B hc h1 h2 h3 h4
    rw [sumC_cons]
    rw [List.length_cons] at h3
    have b := cSum_b (nm := nm) (hc c (by simp))
    have e := i_add (a := s) (b := cSum nm c) (by omega) (by omega)
    refine ih (s + cSum nm c) (B + 100) (fun x hx => hc x (by simp [hx])) ?_ ?_ ?_ ?_
    · rw [e]
      omega
    · rw [e]
      omega
    · omega
    · omega
theorem UB_of {N : Nat → Int32} {cl : List Cls} {i : Nat} (hW : WO N) (hC : CB cl) : UB N cl i := by
  intro s hs
  obtain ⟨v, hv, e⟩ := hW s hs
  unfold smF
  have := hC.1
  refine sum_b cl (N s) 20 hC.2 ?_ ?_ (by omega) (by omega)
  · rw [e, nI_toInt (by omega)]
    omega
  · rw [e, nI_toInt (by omega)]
    omega
