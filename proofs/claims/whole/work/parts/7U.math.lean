/-! Rows seen: two ways to ask. -/
theorem seF_iff {N : Nat → Int32} {p t : Int32} : ∀ k, seF N p t k = true ↔ ∀ r, r < k → N (72 + 2 * r) = p → N (73 + 2 * r) = t := by
  intro k
  induction k with
  | zero =>
    simp only [seF, true_iff]
    intro r hr
    omega
  | succ k ih =>
    simp only [seF, Bool.and_eq_true, Bool.or_eq_true, decide_eq_true_eq]
    rw [ih]
    constructor
    · rintro ⟨h1, h2⟩ r hr hp
      by_cases e : r = k
      · subst e
        rcases h2 with h2 | h2
        · exact absurd hp h2
        · rw [show 73 + 2 * r = 72 + 2 * r + 1 by omega]
          exact h2
      · exact h1 r (by omega) hp
    · intro h
      refine ⟨fun r hr => h r (by omega), ?_⟩
      by_cases e : N (72 + 2 * k) = p
      · refine Or.inr ?_
        have := h k (by omega) e
        rwa [show 73 + 2 * k = 72 + 2 * k + 1 by omega] at this
      · exact Or.inl e
theorem soF_A {M : Nat → Int32} {p : Int32} {k : Nat} : ∀ f r t, ¬ t = -2 → r + f = k → (soF M p f r t = t ∧ ∀ q, r ≤ q → q < k → M (72 + 2 * q) = p → M (73 + 2 * q) = t) ∨ (soF M p f r t = -3 ∧ ∃ q, r ≤ q ∧ q < k ∧ M (72 + 2 * q) = p ∧ ¬ M (73 + 2 * q) = t) := by
  intro f
  induction f with
  | zero =>
    intro r t _ hr
    exact Or.inl ⟨rfl, fun q h1 h2 => by omega⟩
  | succ f ih =>
    intro r t ht hr
    simp only [soF]
    by_cases hp : M (72 + 2 * r) = p
    · rw [if_pos hp]
      by_cases he : t = M (73 + 2 * r)
      · rw [if_neg (fun h => h.2 he), ← he]
        rcases ih (r + 1) t ht (by omega) with ⟨h1, h2⟩ | ⟨h1, q, h2, h3, h4⟩
        · refine Or.inl ⟨h1, fun q q1 q2 q3 => ?_⟩
          by_cases e : q = r
          · rw [e, ← he]
          · exact h2 q (by omega) q2 q3
        · exact Or.inr ⟨h1, q, by omega, h3, h4⟩
      · rw [if_pos ⟨ht, he⟩]
        exact Or.inr ⟨rfl, r, Nat.le_refl _, by omega, hp, fun h => he h.symm⟩
    · rw [if_neg hp]
      rcases ih (r + 1) t ht (by omega) with ⟨h1, h2⟩ | ⟨h1, q, h2, h3, h4⟩
      · refine Or.inl ⟨h1, fun q q1 q2 q3 => ?_⟩
        by_cases e : q = r
        · rw [e] at q3
          exact absurd q3 hp
        · exact h2 q (by omega) q2 q3
      · exact Or.inr ⟨h1, q, by omega, h3, h4⟩
theorem soF_B {M : Nat → Int32} {p : Int32} {k c : Nat} (hs : SEok M k c) : ∀ f r, r + f = k → (soF M p f r (-2) = -2 ∧ ∀ q, r ≤ q → q < k → ¬ M (72 + 2 * q) = p) ∨ (∃ q, r ≤ q ∧ q < k ∧ M (72 + 2 * q) = p ∧ ((soF M p f r (-2) = M (73 + 2 * q) ∧ ∀ q', r ≤ q' → q' < k → M (72 + 2 * q') = p → M (73 + 2 * q') = M (73 + 2 * q)) ∨ (soF M p f r (-2) = -3 ∧ ∃ q', r ≤ q' ∧ q' < k ∧ M (72 + 2 * q') = p ∧ ¬ M (73 + 2 * q') = M (73 + 2 * q)))) := by
  intro f
  induction f with
  | zero =>
    intro r hr
    exact Or.inl ⟨rfl, fun q h1 h2 => by omega⟩
  | succ f ih =>
    intro r hr
    simp only [soF]
    by_cases hp : M (72 + 2 * r) = p
    · rw [if_pos hp, if_neg (fun h => h.1 (by trivial))]
      have hne : ¬ M (73 + 2 * r) = -2 := by
        rcases (hs.2.2 r (by omega)).2 with h | ⟨s, hs12, h⟩
        · rw [h]
          decide
        · rw [h]
          exact nI_neg (by omega) (by decide)
      refine Or.inr ⟨r, Nat.le_refl _, by omega, hp, ?_⟩
      rcases soF_A (M := M) (p := p) (k := k) f (r + 1) (M (73 + 2 * r)) hne (by omega) with ⟨h1, h2⟩ | ⟨h1, q, h2, h3, h4⟩
      · refine Or.inl ⟨h1, fun q q1 q2 q3 => ?_⟩
        by_cases e : q = r
        · rw [e]
        · exact h2 q (by omega) q2 q3
      · exact Or.inr ⟨h1, q, by omega, h3, h4⟩
    · rw [if_neg hp]
      rcases ih (r + 1) (by omega) with ⟨h1, h2⟩ | ⟨q, h1, h2, h3, h4⟩
      · refine Or.inl ⟨h1, fun q q1 q2 => ?_⟩
        by_cases e : q = r
        · rw [e]
          exact hp
        · exact h2 q (by omega) q2
      · refine Or.inr ⟨q, by omega, h2, h3, ?_⟩
        rcases h4 with ⟨h4, h5⟩ | ⟨h4, q', h5, h6⟩
        · refine Or.inl ⟨h4, fun q' q1 q2 q3 => ?_⟩
          by_cases e : q' = r
          · rw [e] at q3
            exact absurd q3 hp
          · exact h5 q' (by omega) q2 q3
        · exact Or.inr ⟨h4, q', by omega, h6⟩
/-- what is seen of one, three ways -/
theorem seen3 {M : Nat → Int32} {p : Int32} {k c : Nat} (hs : SEok M k c) : (soF M p k 0 (-2) = -2 ∧ ∀ t, seF M p t k = true) ∨ (soF M p k 0 (-2) = -3 ∧ ∀ t, seF M p t k = false) ∨ (∃ u, soF M p k 0 (-2) = u ∧ (u = -1 ∨ ∃ s, s < 12 ∧ u = nI s) ∧ ∀ t, (seF M p t k = true ↔ t = u)) := by
  rcases soF_B (p := p) hs k 0 (by omega) with ⟨h1, h2⟩ | ⟨q, -, h2, h3, h4⟩
  · refine Or.inl ⟨h1, fun t => ?_⟩
    rw [seF_iff]
    intro r hr hp
    exact absurd hp (h2 r (by omega) hr)
  · rcases h4 with ⟨h4, h5⟩ | ⟨h4, q', -, h5, h6, h7⟩
    · refine Or.inr (Or.inr ⟨M (73 + 2 * q), h4, (hs.2.2 q h2).2, fun t => ?_⟩)
      rw [seF_iff]
      constructor
      · intro h
        exact (h q h2 h3).symm
      · intro e r hr hp
        rw [e]
        exact h5 r (by omega) hr hp
    · refine Or.inr (Or.inl ⟨h4, fun t => ?_⟩)
      rw [Bool.eq_false_iff]
      intro h
      rw [seF_iff] at h
      apply h7
      rw [h q' h5 h6, h q h2 h3]
theorem cs_se {M : Nat → Int32} {cl : List Cls} {i k c : Nat} (hs : SEok M k c) : csF M cl i k = seF M (nI i) (tipF M cl i (M (14 + 9 * i + 2))) k := by
  unfold csF
  rcases seen3 (p := nI i) hs with ⟨h1, h2⟩ | ⟨h1, h2⟩ | ⟨u, h1, h2, h3⟩
  · rw [h1, h2]
    rfl
  · rw [h1, h2]
    rcases tipF_k M cl i (M (14 + 9 * i + 2)) with h | ⟨s, hs12, h, -⟩
    · rw [h]
      decide
    · rw [h]
      have : ¬ (-3 : Int32) = nI s := fun e => nI_neg (q := s) (by omega) (c := -3) (by decide) e.symm
      rw [decide_eq_false this]
      decide
  · rw [h1]
    have hn2 : ¬ u = -2 := by
      rcases h2 with h | ⟨s, hs12, h⟩
      · rw [h]
        decide
      · rw [h]
        exact nI_neg (by omega) (by decide)
    rw [decide_eq_false hn2, Bool.false_or]
    by_cases e : tipF M cl i (M (14 + 9 * i + 2)) = u
    · rw [decide_eq_true e.symm, (h3 _).mpr e]
    · rw [decide_eq_false (fun h => e h.symm)]
      exact (Bool.eq_false_iff.mpr (fun h => e ((h3 _).mp h))).symm
theorem dnF_cg {P P' : Nat → Bool} {top : Nat} (h : ∀ v, v ≤ top → P v = P' v) : ∀ m, m ≤ top + 1 → dnF P top m = dnF P' top m := by
  intro m
  induction m with
  | zero =>
    intro _
    rfl
  | succ m ih =>
    intro hm
    simp only [dnF]
    rw [ih (by omega), h (top - m) (by omega)]
theorem can_eq {M : Nat → Int32} {cl : List Cls} {i k c : Nat} (hi : i < 6) (hs : SEok M k c) : dnF (fun v => csF (upd M (14 + 9 * i + 1) (nI v)) cl i k) 9 10 = dnF (cnP M cl i k) 9 10 := by
  refine dnF_cg (fun v hv => ?_) 10 (by decide)
  have se2 : SEok (upd M (14 + 9 * i + 1) (nI v)) k c := by
    obtain ⟨a, b, r⟩ := hs
    refine ⟨(pk_un (by omega)).trans a, b, fun q hq => ?_⟩
    rw [pk_un (by omega), pk_un (by omega)]
    exact r q hq
  show csF (upd M (14 + 9 * i + 1) (nI v)) cl i k = cnP M cl i k v
  rw [cs_se se2]
  unfold cnP
  rw [pk_un (show 14 + 9 * i + 2 ≠ 14 + 9 * i + 1 by omega)]
theorem isF_iff {M : Nat → Int32} {cl : List Cls} : ∀ f r, isF M cl f r = true ↔ ∀ q, r ≤ q → q < r + f → tipF M cl (M (72 + 2 * q)).toNatClampNeg (M (14 + 9 * (M (72 + 2 * q)).toNatClampNeg + 2)) = M (73 + 2 * q) := by
  intro f
  induction f with
  | zero =>
    intro r
    simp only [isF, true_iff]
    intro q h1 h2
    omega
  | succ f ih =>
    intro r
    simp only [isF]
    split
    · rename_i h
      rw [ih (r + 1)]
      constructor
      · intro g q h1 h2
        by_cases e : q = r
        · rw [e]
          exact h
        · exact g q (by omega) (by omega)
      · intro g q h1 h2
        exact g q (by omega) (by omega)
    · rename_i h
      refine iff_of_false Bool.false_ne_true (fun g => h (g r (Nat.le_refl _) (by omega)))
theorem waF_iff {M : Nat → Int32} {cl : List Cls} {k : Nat} : ∀ c, waF M cl k c = true ↔ ∀ j, j < c → seF M (nI j) (tipF M cl j (M (14 + 9 * j + 2))) k = true := by
  intro c
  induction c with
  | zero =>
    simp only [waF, true_iff]
    intro j hj
    omega
  | succ c ih =>
    simp only [waF, Bool.and_eq_true]
    rw [ih]
    constructor
    · rintro ⟨h1, h2⟩ j hj
      by_cases e : j = c
      · rw [e]
        exact h2
      · exact h1 j (by omega)
    · intro h
      exact ⟨fun j hj => h j (by omega), h c (by omega)⟩
theorem is_wa {M : Nat → Int32} {cl : List Cls} {k c : Nat} (hc : c ≤ 6) (hs : SEok M k c) : isF M cl k 0 = waF M cl k c := by
  rw [Bool.eq_iff_iff, isF_iff, waF_iff]
  constructor
  · intro h j hj
    rw [seF_iff]
    intro r hr hp
    have := h r (by omega) (by omega)
    rw [hp, nI_clamp (by omega)] at this
    exact this.symm
  · intro h q _ hq
    obtain ⟨⟨i, hi, ei⟩, -⟩ := hs.2.2 q (by omega)
    have := h i hi
    rw [seF_iff] at this
    rw [ei, nI_clamp (by omega)]
    exact (this q (by omega) ei).symm
theorem wz_wt {M : Nat → Int32} {cl : List Cls} {s k c : Nat} (hc : c ≤ 6) (hs12 : s < 12) (hs : SEok M k c) : ∀ v, wzF M cl s k v = wtF M cl s k c v := by
  intro v
  induction v with
  | zero => rfl
  | succ v ih =>
    simp only [wzF, wtF]
    have se2 : SEok (upd M s (nI v)) k c := by
      obtain ⟨a, b, r⟩ := hs
      refine ⟨(pk_un (by omega)).trans a, b, fun q hq => ?_⟩
      rw [pk_un (by omega), pk_un (by omega)]
      exact r q hq
    rw [ih, is_wa hc se2]
    split
    · rfl
    · rw [or_0]
