/-! A decoy: the class's way is the reference's. -/
theorem nI_and {a b : Nat} (ha : a < 2 ^ 31) (hb : b < 2 ^ 31) : nI a &&& nI b = nI (a &&& b) := by
  apply Int32.toBitVec_inj.mp
  apply BitVec.eq_of_toNat_eq
  rw [Int32.toBitVec_and, BitVec.toNat_and, pk_tn (by omega), pk_tn (by omega), pk_tn (by
    have := Nat.and_le_left (n := a) (m := b)
    omega)]
theorem nI_or {a b : Nat} (ha : a < 2 ^ 31) (hb : b < 2 ^ 31) : nI a ||| nI b = nI (a ||| b) := by
  apply Int32.toBitVec_inj.mp
  apply BitVec.eq_of_toNat_eq
  have := Nat.or_lt_two_pow (n := 31) ha hb
  rw [Int32.toBitVec_or, BitVec.toNat_or, pk_tn (by omega), pk_tn (by omega), pk_tn (by omega)]
theorem pc_2 : ∀ v, v < 4096 → v = 0 ∨ (∃ s, s < 12 ∧ v = 2 ^ s) ∨ 2 ≤ pcL v 12 := all64 (by decide +kernel)
theorem pc_1 : ∀ s, s < 12 → pcL (2 ^ s) 12 = 1 := by decide
section
variable {M : Nat → Int32} {cl : List Cls} {i : Nat}
abbrev gdP (M : Nat → Int32) (cl : List Cls) (i k : Nat) (t : Int32) (n : Nat) : Prop := n &&& k = 0 ∧ ¬ tipF M cl i (nI (k ||| n)) = -1 ∧ ¬ tipF M cl i (nI (k ||| n)) = t
theorem lt12 {s : Nat} (h : s < 12) : 2 ^ s < 4096 := by
  have : 2 ^ s < 2 ^ 12 := Nat.pow_lt_pow_right (by decide) h
  simpa using this
theorem or12 {a b : Nat} (ha : a < 4096) (hb : b < 4096) : a ||| b < 4096 := Nat.or_lt_two_pow (n := 12) ha hb
theorem dc_st {k n : Nat} {t : Int32} (hk : k < 4096) (hn : n < 4096) : dcF M cl i (nI k) t (n + 1) = if gdP M cl i k t n ∧ (dcF M cl i (nI k) t n = -5 ∨ nI (pcL n 12) < mn (dcF M cl i (nI k) t n)) then nI n else dcF M cl i (nI k) t n := by
  have hl := Nat.and_le_left (n := n) (m := k)
  have e0 : (nI n &&& nI k = 0) ↔ (n &&& k = 0) := by
    rw [nI_and (by omega) (by omega), show (0 : Int32) = nI 0 from rfl]
    exact nI_eq (by omega) (by decide)
  simp only [dcF]
  rw [nI_or (by omega) (by omega), mn_pc (by omega)]
  by_cases h : nI n &&& nI k = 0 ∧ (dcF M cl i (nI k) t n = -5 ∨ nI (pcL n 12) < mn (dcF M cl i (nI k) t n)) ∧ ¬ tipF M cl i (nI (k ||| n)) = -1 ∧ ¬ tipF M cl i (nI (k ||| n)) = t
  · rw [if_pos h, if_pos ⟨⟨e0.mp h.1, h.2.2⟩, h.2.1⟩]
  · rw [if_neg h, if_neg (fun g => h ⟨e0.mpr g.1.1, g.2, g.1.2⟩)]
theorem dc_keep {k a v : Nat} {t : Int32} (hk : k < 4096) (hv : v < 4096) (h : dcF M cl i (nI k) t a = nI v) : ∀ m, a + m ≤ 4096 → (∀ n, a ≤ n → n < 4096 → pcL v 12 ≤ pcL n 12) → dcF M cl i (nI k) t (a + m) = nI v := by
  intro m
  induction m with
  | zero =>
    intro _ _
    exact h
  | succ m ih =>
    intro hm hmin
    have e := ih (by omega) hmin
    rw [← Nat.add_assoc, dc_st hk (by omega), e, if_neg]
    rintro ⟨-, g | g⟩
    · exact nI_neg (q := v) (by omega) (by decide) g
    · rw [mn_pc (by omega)] at g
      have h1 := hmin (a + m) (by omega) (by omega)
      have h2 := pcL_le (a + m) 12
      exact Int32.not_lt.mpr (nI_le h1 (by omega)) g
theorem dyL_3 {has t : Int32} : ∀ f s, (dyL M cl i has t f s = -5 ∧ ∀ q, s ≤ q → q < s + f → ¬ (bt has q = 0 ∧ (0 ≤ tipF M cl i (has ||| on1 q) ∧ ¬ tipF M cl i (has ||| on1 q) = t))) ∨ (∃ x, s ≤ x ∧ x < s + f ∧ dyL M cl i has t f s = on1 x ∧ (bt has x = 0 ∧ (0 ≤ tipF M cl i (has ||| on1 x) ∧ ¬ tipF M cl i (has ||| on1 x) = t)) ∧ ∀ q, s ≤ q → q < x → ¬ (bt has q = 0 ∧ (0 ≤ tipF M cl i (has ||| on1 q) ∧ ¬ tipF M cl i (has ||| on1 q) = t))) := by
  intro f
  induction f with
  | zero =>
    intro s
    exact Or.inl ⟨rfl, fun q h1 h2 => by omega⟩
  | succ f ih =>
    intro s
    simp only [dyL]
    split
    · rename_i h
      exact Or.inr ⟨s, Nat.le_refl _, by omega, rfl, h, fun q h1 h2 => by omega⟩
    · rename_i h
      rcases ih (s + 1) with ⟨e, g⟩ | ⟨x, h1, h2, h3, h4, h5⟩
      · refine Or.inl ⟨e, fun q h1 h2 => ?_⟩
        by_cases eq : q = s
        · rw [eq]
          exact h
        · exact g q (by omega) (by omega)
      · refine Or.inr ⟨x, by omega, by omega, h3, h4, fun q q1 q2 => ?_⟩
        by_cases eq : q = s
        · rw [eq]
          exact h
        · exact h5 q (by omega) q2
theorem tip_0n {has : Int32} : 0 ≤ tipF M cl i has ↔ ¬ tipF M cl i has = -1 := by
  rcases tipF_k M cl i has with h | ⟨s, hs, h, -⟩
  · rw [h]
    decide
  · rw [h]
    exact ⟨fun _ => nI_m1n hs, fun _ => nI_pos' (by omega)⟩
theorem gd_1 {k s : Nat} {t : Int32} (hk : k < 4096) (hs : s < 12) : (bt (nI k) s = 0 ∧ (0 ≤ tipF M cl i (nI k ||| on1 s) ∧ ¬ tipF M cl i (nI k ||| on1 s) = t)) ↔ gdP M cl i k t (2 ^ s) := by
  have hl := lt12 hs
  rw [tip_0n, on1_nI s hs, nI_or (by omega) (by omega)]
  unfold gdP
  have e : bt (nI k) s = 0 ↔ 2 ^ s &&& k = 0 := by
    rw [← bt_n1 (isS_nI hk) (by omega), bt_1 hk hs]
    constructor
    · intro h
      apply Nat.eq_of_testBit_eq
      intro j
      rw [Nat.testBit_and, Nat.testBit_two_pow, Nat.zero_testBit]
      by_cases ej : s = j
      · subst ej
        simp [h]
      · simp [ej]
    · intro h hb
      have : (2 ^ s &&& k).testBit s = false := by
        rw [h, Nat.zero_testBit]
      rw [Nat.testBit_and, Nat.testBit_two_pow_self, hb] at this
      exact Bool.noConfusion this
  rw [e]
/-- where some set is a decoy, one sentence is, or none is needed -/
theorem gd_one {k n : Nat} {t : Int32} (hP : P2 M i) (hU : UB M cl i) (hk : k < 4096) (hn : n < 4096) (h : gdP M cl i k t n) : gdP M cl i k t 0 ∨ ∃ s, s < 12 ∧ gdP M cl i k t (2 ^ s) := by
  obtain ⟨h1, h2, h3⟩ := h
  have hA := or12 hk hn
  rcases tipF_k M cl i (nI (k ||| n)) with e | ⟨x, hx, e, hb⟩
  · exact absurd e h2
  · rw [e] at h3
    rw [bt_1 hA hx, Nat.testBit_or] at hb
    by_cases kx : k.testBit x = true
    · have := tip_sub hP hU (A := k ||| n) (B := k) hA hk hx (fun s hs hb => by rw [Nat.testBit_or, hb]; rfl) kx e
      refine Or.inl ⟨Nat.zero_and k, ?_, ?_⟩
      · rw [Nat.or_zero, this]
        exact nI_m1n hx
      · rw [Nat.or_zero, this]
        exact h3
    · have nx : n.testBit x = true := by
        rw [Bool.eq_false_iff.mpr kx, Bool.false_or] at hb
        exact hb
      have hl := lt12 hx
      have := tip_sub hP hU (A := k ||| n) (B := k ||| 2 ^ x) hA (or12 hk hl) hx (fun s hs hb => by
        rw [Nat.testBit_or, Nat.testBit_two_pow] at hb
        rw [Nat.testBit_or]
        by_cases es : x = s
        · rw [← es, nx, Bool.or_true]
        · simp only [es, decide_false, Bool.or_false] at hb
          rw [hb, Bool.true_or]) (by rw [Nat.testBit_or, Nat.testBit_two_pow_self, Bool.or_true]) e
      refine Or.inr ⟨x, hx, (gd_1 hk hx).mp ⟨?_, ?_, ?_⟩⟩
      · rw [← bt_n1 (isS_nI hk) (by omega), bt_1 hk hx]
        exact kx
      · rw [on1_nI x hx, nI_or (by omega) (by omega), this]
        exact nI_pos' (by omega)
      · rw [on1_nI x hx, nI_or (by omega) (by omega), this]
        exact h3
theorem dec_eq {has t : Int32} (hP : P2 M i) (hU : UB M cl i) (hh : isS has) : dyF M cl i has t = dcF M cl i has t 4096 := by
  obtain ⟨k, hk, rfl⟩ := isS_of hh
  unfold dyF
  by_cases g0 : gdP M cl i k t 0
  · have g0' : ¬ tipF M cl i (nI k) = -1 ∧ ¬ tipF M cl i (nI k) = t := by
      have := g0.2
      rw [Nat.or_zero] at this
      exact this
    rw [if_pos ⟨tip_0n.mpr g0'.1, g0'.2⟩]
    have e1 : dcF M cl i (nI k) t 1 = nI 0 := by
      rw [dc_st (n := 0) hk (by decide), if_pos ⟨g0, Or.inl rfl⟩]
    exact (dc_keep hk (by decide) e1 4095 (by decide) (fun n _ _ => by
      rw [show pcL 0 12 = 0 by decide]
      omega)).symm
  · have g0' : ¬ (¬ tipF M cl i (nI k) = -1 ∧ ¬ tipF M cl i (nI k) = t) := by
      intro h
      apply g0
      refine ⟨Nat.zero_and k, ?_⟩
      rw [Nat.or_zero]
      exact h
    rw [if_neg (fun h => g0' ⟨tip_0n.mp h.1, h.2⟩)]
    rcases dyL_3 (M := M) (cl := cl) (i := i) (has := nI k) (t := t) 12 0 with ⟨e, g⟩ | ⟨x, -, h2, h3, h4, h5⟩
    · rw [e]
      have hno : ∀ n, n < 4096 → ¬ gdP M cl i k t n := by
        intro n hn h
        rcases gd_one hP hU hk hn h with h | ⟨s, hs, h⟩
        · exact g0 h
        · exact g s (by omega) (by omega) ((gd_1 hk hs).mpr h)
      have : ∀ n, n ≤ 4096 → dcF M cl i (nI k) t n = -5 := by
        intro n
        induction n with
        | zero =>
          intro _
          rfl
        | succ n ih =>
          intro hn
          rw [dc_st hk (by omega), if_neg (fun h => hno n (by omega) h.1)]
          exact ih (by omega)
      exact (this 4096 (Nat.le_refl _)).symm
    · have hx : x < 12 := by omega
      have hl := lt12 hx
      rw [h3, on1_nI x hx]
      have gx := (gd_1 hk hx).mp h4
      have hb : ∀ n, n ≤ 2 ^ x → dcF M cl i (nI k) t n = -5 ∨ ∃ v, v < 4096 ∧ dcF M cl i (nI k) t n = nI v ∧ 2 ≤ pcL v 12 := by
        intro n
        induction n with
        | zero =>
          intro _
          exact Or.inl rfl
        | succ n ih =>
          intro hn
          rw [dc_st hk (by omega)]
          split
          · rename_i h
            refine Or.inr ⟨n, by omega, rfl, ?_⟩
            rcases pc_2 n (by omega) with z | ⟨s, hs, z⟩ | z
            · rw [z] at h
              exact absurd h.1 g0
            · rw [z] at h
              have hsx : s < x := by
                refine Nat.lt_of_not_le (fun hle => ?_)
                have : 2 ^ x ≤ 2 ^ s := Nat.pow_le_pow_right (by decide) hle
                omega
              exact absurd ((gd_1 hk hs).mpr h.1) (h5 s (by omega) hsx)
            · exact z
          · exact ih (by omega)
      have e1 : dcF M cl i (nI k) t (2 ^ x + 1) = nI (2 ^ x) := by
        rw [dc_st hk hl, if_pos]
        refine ⟨gx, ?_⟩
        rcases hb (2 ^ x) (Nat.le_refl _) with h | ⟨v, hv, h, hp⟩
        · exact Or.inl h
        · refine Or.inr ?_
          rw [h, mn_pc (by omega), pc_1 x hx]
          have := pcL_le v 12
          exact Int32.not_le.mp (nI_ge (by omega) (by omega))
      have := dc_keep hk hl e1 (4095 - 2 ^ x) (by omega) (fun n h1 h2 => by
        rw [pc_1 x hx]
        exact pcL_pos (k := n) 12 (Nat.lt_of_lt_of_le (Nat.succ_pos _) h1) (by simpa using h2))
      rw [show 2 ^ x + 1 + (4095 - 2 ^ x) = 4096 by omega] at this
      exact this.symm
end
