/-! Sets counted one by one, sets counted by their sizes. -/
abbrev bts (u : Nat → Int32) (t s : Nat) : Prop := u s < u t ∨ (u s = u t ∧ t < s)
theorem tpL_3 (u : Nat → Int32) (has : Int32) : ∀ n, (tpL u has n = (-1, 0) ∧ ∀ s, s < n → bt has s = 1 → ¬ 0 < u s) ∨ (∃ t, t < n ∧ tpL u has n = (nI t, u t) ∧ bt has t = 1 ∧ 0 < u t ∧ ∀ s, s < n → bt has s = 1 → ¬ s = t → bts u t s) := by
  intro n
  induction n with
  | zero => exact Or.inl ⟨rfl, fun s hs => by omega⟩
  | succ n ih =>
    simp only [tpL]
    split
    · rename_i hb
      rcases ih with ⟨e, h⟩ | ⟨t, ht, e, h1, h2, h3⟩
      · rw [e]
        split
        · rename_i hu
          refine Or.inr ⟨n, by omega, rfl, hb, hu, fun s hs hbs hne => ?_⟩
          have := h s (by omega) hbs
          exact Or.inl (Int32.lt_of_le_of_lt (Int32.not_lt.mp this) hu)
        · rename_i hu
          refine Or.inl ⟨rfl, fun s hs hbs => ?_⟩
          by_cases es : s = n
          · rw [es]
            exact hu
          · exact h s (by omega) hbs
      · rw [e]
        split
        · rename_i hu
          refine Or.inr ⟨n, by omega, rfl, hb, Int32.lt_trans h2 hu, fun s hs hbs hne => ?_⟩
          by_cases es : s = t
          · rw [es]
            exact Or.inl hu
          · rcases h3 s (by omega) hbs es with g | ⟨g, -⟩
            · exact Or.inl (Int32.lt_trans g hu)
            · refine Or.inl ?_
              rw [g]
              exact hu
        · rename_i hu
          refine Or.inr ⟨t, by omega, rfl, h1, h2, fun s hs hbs hne => ?_⟩
          by_cases es : s = n
          · rw [es]
            have hle := Int32.not_lt.mp hu
            by_cases hq : u n = u t
            · exact Or.inr ⟨hq, ht⟩
            · exact Or.inl (Int32.lt_of_le_of_ne hle hq)
          · exact h3 s (by omega) hbs hne
    · rename_i hb
      rcases ih with ⟨e, h⟩ | ⟨t, ht, e, h1, h2, h3⟩
      · refine Or.inl ⟨e, fun s hs hbs => ?_⟩
        by_cases es : s = n
        · rw [es] at hbs
          exact absurd hbs hb
        · exact h s (by omega) hbs
      · refine Or.inr ⟨t, by omega, e, h1, h2, fun s hs hbs hne => ?_⟩
        by_cases es : s = n
        · rw [es] at hbs
          exact absurd hbs hb
        · exact h3 s (by omega) hbs hne
theorem nI_m1n {t : Nat} (ht : t < 12) : ¬ nI t = -1 := nI_neg (by omega) (by decide)
theorem tp_iff {u : Nat → Int32} {has : Int32} {t : Nat} (ht : t < 12) : tp u has = nI t ↔ (bt has t = 1 ∧ 0 < u t ∧ ∀ s, s < 12 → bt has s = 1 → ¬ s = t → bts u t s) := by
  unfold tp
  rcases tpL_3 u has 12 with ⟨e, h⟩ | ⟨t', ht', e, h1, h2, h3⟩
  · rw [e]
    constructor
    · intro h
      exact absurd h.symm (nI_m1n ht)
    · rintro ⟨g1, g2, -⟩
      exact absurd g2 (h t ht g1)
  · rw [e]
    show nI t' = nI t ↔ _
    constructor
    · intro h
      have : t' = t := (nI_eq (by omega) (by omega)).mp h
      subst this
      exact ⟨h1, h2, h3⟩
    · rintro ⟨g1, g2, g3⟩
      by_cases et : t' = t
      · rw [et]
      · exfalso
        have a := h3 t ht g1 (fun h => et h.symm)
        have b := g3 t' ht' h1 et
        rcases a with a | ⟨a, a'⟩
        · rcases b with b | ⟨b, b'⟩
          · exact Int32.lt_asymm a b
          · rw [b] at a
            exact Int32.lt_irrefl a
        · rcases b with b | ⟨b, b'⟩
          · rw [a] at b
            exact Int32.lt_irrefl b
          · omega
theorem tp_m1 {u : Nat → Int32} {has : Int32} : tp u has = -1 ↔ ∀ s, s < 12 → bt has s = 1 → ¬ 0 < u s := by
  unfold tp
  rcases tpL_3 u has 12 with ⟨e, h⟩ | ⟨t', ht', e, h1, h2, h3⟩
  · rw [e]
    exact ⟨fun _ => h, fun _ => rfl⟩
  · rw [e]
    constructor
    · intro g
      exact absurd g (nI_m1n ht')
    · intro g
      exact absurd h2 (g t' ht' h1)
/-- how many -/
def cnt (P : Nat → Bool) : Nat → Nat
  | 0 => 0
  | n + 1 => cnt P n + (if P n = true then 1 else 0)
theorem cnt_le (P : Nat → Bool) : ∀ n, cnt P n ≤ n := by
  intro n
  induction n with
  | zero => exact Nat.le_refl _
  | succ n ih =>
    simp only [cnt]
    split <;> omega
theorem cnt_cg {P P' : Nat → Bool} : ∀ n, (∀ v, v < n → P v = P' v) → cnt P n = cnt P' n := by
  intro n
  induction n with
  | zero =>
    intro _
    rfl
  | succ n ih =>
    intro h
    simp only [cnt]
    rw [ih (fun v hv => h v (by omega)), h n (by omega)]
theorem cnt_f {n : Nat} : cnt (fun _ => false) n = 0 := by
  induction n with
  | zero => rfl
  | succ n ih => simp [cnt, ih]
theorem cnt_t {n : Nat} : cnt (fun _ => true) n = n := by
  induction n with
  | zero => rfl
  | succ n ih => simp [cnt, ih]
theorem cnt_0 {P : Nat → Bool} : ∀ n, cnt P n = 0 → ∀ v, v < n → P v = false := by
  intro n
  induction n with
  | zero =>
    intro _ v hv
    omega
  | succ n ih =>
    intro h v hv
    simp only [cnt] at h
    by_cases e : v = n
    · rw [e]
      cases hp : P n with
      | false => rfl
      | true =>
        rw [hp] at h
        simp at h
    · exact ih (by omega) v (by omega)
theorem cnt_add {P : Nat → Bool} {a : Nat} : ∀ b, cnt P (a + b) = cnt P a + cnt (fun v => P (a + v)) b := by
  intro b
  induction b with
  | zero => rfl
  | succ b ih =>
    rw [← Nat.add_assoc]
    simp only [cnt]
    rw [ih]
    omega
theorem dn_cnt {P : Nat → Bool} {top : Nat} : ∀ m, m ≤ top + 1 → nI (cnt P (top + 1 - m)) + (dnF P top m).1 = nI (cnt P (top + 1)) := by
  intro m
  induction m with
  | zero =>
    intro _
    show nI _ + 0 = _
    rw [Int32.add_zero]
    rfl
  | succ m ih =>
    intro h
    rw [← ih (by omega), show top + 1 - m = top - m + 1 by omega, show top + 1 - (m + 1) = top - m by omega]
    simp only [dnF, cnt]
    split
    · rename_i hp
      show _ + ((dnF P top m).1 + 1) = nI (_ + 1) + _
      rw [← nI_1, Int32.add_assoc, Int32.add_comm (dnF P top m).1 1]
    · rfl
theorem dn_all {P : Nat → Bool} : (dnF P 4095 4096).1 = nI (cnt P 4096) := by
  have := dn_cnt (P := P) (top := 4095) 4096 (by decide)
  rw [← this]
  show _ = (0 : Int32) + _
  rw [Int32.zero_add]
theorem dn_2 {P : Nat → Bool} {top : Nat} : ∀ m, m ≤ top + 1 → ((dnF P top m).2 = -5 ∧ ∀ v, top + 1 - m ≤ v → v ≤ top → P v = false) ∨ (∃ v, top + 1 - m ≤ v ∧ v ≤ top ∧ P v = true ∧ (dnF P top m).2 = nI v ∧ ∀ w, top + 1 - m ≤ w → w < v → P w = false) := by
  intro m
  induction m with
  | zero =>
    intro _
    exact Or.inl ⟨rfl, fun v h1 h2 => by omega⟩
  | succ m ih =>
    intro h
    simp only [dnF]
    split
    · rename_i hp
      exact Or.inr ⟨top - m, by omega, by omega, hp, rfl, fun w h1 h2 => by omega⟩
    · rename_i hp
      rcases ih (by omega) with ⟨e, g⟩ | ⟨v, g1, g2, g3, g4, g5⟩
      · refine Or.inl ⟨e, fun v h1 h2 => ?_⟩
        by_cases ev : v = top - m
        · rw [ev]
          exact Bool.eq_false_iff.mpr hp
        · exact g v (by omega) h2
      · refine Or.inr ⟨v, by omega, g2, g3, g4, fun w h1 h2 => ?_⟩
        by_cases ev : w = top - m
        · rw [ev]
          exact Bool.eq_false_iff.mpr hp
        · exact g5 w (by omega) h2
/-- the least of all -/
theorem dn_least {P : Nat → Bool} {v : Nat} (hv : v < 4096) (hp : P v = true) (hl : ∀ w, w < v → P w = false) : (dnF P 4095 4096).2 = nI v := by
  rcases dn_2 (P := P) (top := 4095) 4096 (by decide) with ⟨-, g⟩ | ⟨v', -, g2, g3, g4, g5⟩
  · rw [g v (by omega) (by omega)] at hp
    exact absurd hp Bool.false_ne_true
  · rw [g4]
    by_cases h1 : v < v'
    · rw [g5 v (by omega) h1] at hp
      exact absurd hp Bool.false_ne_true
    · by_cases h2 : v' < v
      · rw [hl v' h2] at g3
        exact absurd g3 Bool.false_ne_true
      · rw [show v' = v by omega]
theorem dn_none {P : Nat → Bool} (hl : ∀ w, w < 4096 → P w = false) : (dnF P 4095 4096).2 = -5 := by
  rcases dn_2 (P := P) (top := 4095) 4096 (by decide) with ⟨e, -⟩ | ⟨v', -, g2, g3, -⟩
  · exact e
  · rw [hl v' (by omega)] at g3
    exact absurd g3 Bool.false_ne_true
/-! Sets of a size: some must be had, some must not. -/
def okq (g : Nat → Nat) : Nat → Nat → Nat → Bool
  | 0, m, _ => decide (m = 0)
  | n + 1, m, v => if v.testBit n = true then (decide (¬ g n = 2) && (decide (0 < m) && okq g n (m - 1) v)) else (decide (¬ g n = 1) && okq g n m v)
theorem tb_mod {v s : Nat} : v / 2 ^ s % 2 = if v.testBit s = true then 1 else 0 := by
  have h : v.testBit s = decide (v / 2 ^ s % 2 = 1) := Nat.testBit_eq_decide_div_mod_eq
  rw [h]
  by_cases h1 : v / 2 ^ s % 2 = 1
  · simp [h1]
  · have h0 : v / 2 ^ s % 2 = 0 := by omega
    simp [h0]
theorem okq_iff {g : Nat → Nat} : ∀ n m v, okq g n m v = true ↔ (pcL v n = m ∧ ∀ s, s < n → (g s = 1 → v.testBit s = true) ∧ (g s = 2 → v.testBit s = false)) := by
  intro n
  induction n with
  | zero =>
    intro m v
    simp only [okq, pcL, decide_eq_true_eq]
    constructor
    · intro h
      exact ⟨h.symm, fun s hs => by omega⟩
    · intro h
      exact h.1.symm
  | succ n ih =>
    intro m v
    simp only [okq, pcL, tb_mod]
    by_cases hb : v.testBit n = true
    · simp only [hb, if_true, Bool.and_eq_true, decide_eq_true_eq]
      rw [ih]
      constructor
      · rintro ⟨h1, h2, h3, h4⟩
        refine ⟨by omega, fun s hs => ?_⟩
        by_cases e : s = n
        · rw [e]
          exact ⟨fun _ => hb, fun h => absurd h h1⟩
        · exact h4 s (by omega)
      · rintro ⟨h1, h2⟩
        refine ⟨fun h => ?_, by omega, by omega, fun s hs => h2 s (by omega)⟩
        have := (h2 n (by omega)).2 h
        rw [hb] at this
        exact Bool.noConfusion this
    · simp only [hb, if_false, Bool.false_eq_true, Bool.and_eq_true, decide_eq_true_eq]
      rw [ih]
      constructor
      · rintro ⟨h1, h2, h3⟩
        refine ⟨by simpa using h2, fun s hs => ?_⟩
        by_cases e : s = n
        · rw [e]
          exact ⟨fun h => absurd h h1, fun _ => Bool.eq_false_iff.mpr hb⟩
        · exact h3 s (by omega)
      · rintro ⟨h1, h2⟩
        exact ⟨fun h => hb ((h2 n (by omega)).1 h), by simpa using h1, fun s hs => h2 s (by omega)⟩
theorem okq_cg {g : Nat → Nat} {v w : Nat} : ∀ n m, (∀ s, s < n → v.testBit s = w.testBit s) → okq g n m v = okq g n m w := by
  intro n
  induction n with
  | zero =>
    intro m _
    rfl
  | succ n ih =>
    intro m h
    simp only [okq]
    rw [h n (by omega), ih m (fun s hs => h s (by omega)), ih (m - 1) (fun s hs => h s (by omega))]
def bC : Nat → Nat → Nat
  | _, 0 => 1
  | 0, _ + 1 => 0
  | n + 1, k + 1 => bC n k + bC n (k + 1)
theorem bC_0 (n : Nat) : bC n 0 = 1 := by
  cases n <;> rfl
theorem bC_ch : ∀ a, a < 13 → ∀ n, n < 13 → chV a n = bC a n := by decide +kernel
def frN (g : Nat → Nat) : Nat → Nat
  | 0 => 0
  | n + 1 => frN g n + (if g n = 1 ∨ g n = 2 then 0 else 1)
def muN (g : Nat → Nat) : Nat → Nat
  | 0 => 0
  | n + 1 => muN g n + (if g n = 1 then 1 else 0)
theorem cnt_okq {g : Nat → Nat} : ∀ n m, cnt (okq g n m) (2 ^ n) = if m < muN g n then 0 else bC (frN g n) (m - muN g n) := by
  intro n
  induction n with
  | zero =>
    intro m
    show cnt (okq g 0 m) 1 = _
    simp only [cnt, okq, muN, frN, Nat.not_lt_zero, if_false, Nat.sub_zero, decide_eq_true_eq, Nat.zero_add]
    cases m with
    | zero => rfl
    | succ m => simp [bC]
  | succ n ih =>
    intro m
    rw [show 2 ^ (n + 1) = 2 ^ n + 2 ^ n by rw [Nat.pow_succ]; omega, cnt_add]
    have e1 : cnt (okq g (n + 1) m) (2 ^ n) = if g n = 1 then 0 else cnt (okq g n m) (2 ^ n) := by
      by_cases h : g n = 1
      · rw [if_pos h, ← cnt_f (n := 2 ^ n)]
        refine cnt_cg _ (fun v hv => ?_)
        simp only [okq, Nat.testBit_lt_two_pow hv, h]
        simp
      · rw [if_neg h]
        refine cnt_cg _ (fun v hv => ?_)
        simp only [okq, Nat.testBit_lt_two_pow hv]
        simp [h]
    have e2 : cnt (fun v => okq g (n + 1) m (2 ^ n + v)) (2 ^ n) = if g n = 2 ∨ m = 0 then 0 else cnt (okq g n (m - 1)) (2 ^ n) := by
      by_cases h : g n = 2 ∨ m = 0
      · rw [if_pos h, ← cnt_f (n := 2 ^ n)]
        refine cnt_cg _ (fun v hv => ?_)
        simp only [okq, Nat.testBit_two_pow_add_eq, Nat.testBit_lt_two_pow hv]
        rcases h with h | h <;> simp [h]
      · rw [if_neg h]
        refine cnt_cg _ (fun v hv => ?_)
        simp only [okq, Nat.testBit_two_pow_add_eq, Nat.testBit_lt_two_pow hv]
        have h1 : ¬ g n = 2 := fun e => h (Or.inl e)
        have h2 : 0 < m := by
          have : ¬ m = 0 := fun e => h (Or.inr e)
          omega
        simp only [h1, h2, Bool.not_false, if_true, not_false_eq_true, decide_true, Bool.true_and]
        exact okq_cg n (m - 1) (fun s hs => Nat.testBit_two_pow_add_gt hs v)
    rw [e1, e2, ih m, ih (m - 1)]
    simp only [muN, frN]
    by_cases h1 : g n = 1
    · have h2 : ¬ g n = 2 := by omega
      simp only [h1, if_true, true_or, Nat.zero_add, Nat.add_zero]
      have h21 : ¬ (1 : Nat) = 2 := by decide
      simp only [h21, false_or]
      by_cases hm : m = 0
      · simp [hm]
      · rw [if_neg hm]
        by_cases hl : m - 1 < muN g n
        · rw [if_pos hl, if_pos (by omega)]
        · rw [if_neg hl, if_neg (by omega), show m - 1 - muN g n = m - (muN g n + 1) by omega]
    · by_cases h2 : g n = 2
      · have h21 : ¬ (2 : Nat) = 1 := by decide
        simp only [h2, h21, if_false, if_true, or_true, true_or, Nat.add_zero]
      · simp only [h1, h2, if_false, or_self, false_or, Nat.add_zero]
        by_cases hm : m = 0
        · subst hm
          rw [if_pos rfl, Nat.add_zero]
          by_cases hk : 0 < muN g n
          · rw [if_pos hk, if_pos hk]
          · rw [if_neg hk, if_neg hk, Nat.zero_sub, bC_0, bC_0]
        · rw [if_neg hm]
          by_cases hl : m < muN g n
          · rw [if_pos hl, if_pos hl, if_pos (by omega)]
          · rw [if_neg hl, if_neg hl]
            by_cases hq : m = muN g n
            · rw [if_pos (by omega), hq, Nat.sub_self, bC_0, bC_0]
            · rw [if_neg (by omega)]
              obtain ⟨j, hj⟩ : ∃ j, m - muN g n = j + 1 := ⟨m - muN g n - 1, by omega⟩
              rw [hj, show m - 1 - muN g n = j by omega, bC]
              omega
/-- sums -/
def sS (f : Nat → Nat) : Nat → Nat
  | 0 => 0
  | n + 1 => sS f n + f n
theorem sS_cg {f f' : Nat → Nat} : ∀ n, (∀ k, k < n → f k = f' k) → sS f n = sS f' n := by
  intro n
  induction n with
  | zero =>
    intro _
    rfl
  | succ n ih =>
    intro h
    simp only [sS]
    rw [ih (fun k hk => h k (by omega)), h n (by omega)]
theorem sS_add {f f' : Nat → Nat} : ∀ n, sS (fun k => f k + f' k) n = sS f n + sS f' n := by
  intro n
  induction n with
  | zero => rfl
  | succ n ih =>
    simp only [sS]
    rw [ih]
    omega
theorem sS_cnt {R : Nat → Nat → Bool} (hR : ∀ m v, R m v = true → pcL v 12 = m) {k : Nat} : ∀ n, sS (fun m => cnt (R m) n) k = cnt (fun v => R (pcL v 12) v && decide (pcL v 12 < k)) n := by
  intro n
  induction n with
  | zero =>
    have : ∀ k, sS (fun m => cnt (R m) 0) k = 0 := by
      intro k
      induction k with
      | zero => rfl
      | succ k ih =>
        simp only [sS]
        rw [ih]
        rfl
    exact this k
  | succ n ih =>
    simp only [cnt]
    rw [sS_add, ih]
    congr 1
    clear ih
    induction k with
    | zero =>
      rw [sS]
      simp
    | succ k ih =>
      rw [sS, ih]
      by_cases h1 : R k n = true
      · have := hR k n h1
        simp [this, h1]
      · rw [if_neg h1, Nat.add_zero]
        by_cases h2 : pcL n 12 = k
        · simp [h2, h1]
        · have : (pcL n 12 < k + 1) = (pcL n 12 < k) := propext ⟨fun h => by omega, fun h => by omega⟩
          simp only [this]
