/-! Sets of sentences as bits. -/
def isS (x : Int32) : Prop := x.toBitVec.toNat < 4096
def on1 (s : Nat) : Int32 := (1 : Int32) <<< (nI s &&& 31)
theorem nI_self (x : Int32) : nI x.toBitVec.toNat = x := by
  apply Int32.toBitVec_inj.mp
  apply BitVec.eq_of_toNat_eq
  rw [pk_tn x.toBitVec.isLt]
theorem isS_nI {k : Nat} (h : k < 4096) : isS (nI k) := by
  unfold isS
  rw [pk_tn (by omega)]
  exact h
theorem isS_of {x : Int32} (h : isS x) : ∃ k, k < 4096 ∧ x = nI k := ⟨_, h, (nI_self x).symm⟩
theorem isS_and {x y : Int32} (h : isS x) : isS (x &&& y) := by
  unfold isS at h ⊢
  rw [Int32.toBitVec_and, BitVec.toNat_and]
  exact Nat.lt_of_le_of_lt Nat.and_le_left h
theorem isS_or {x y : Int32} (h : isS x) (g : isS y) : isS (x ||| y) := by
  unfold isS at h g ⊢
  rw [Int32.toBitVec_or, BitVec.toNat_or]
  exact Nat.or_lt_two_pow (n := 12) h g
theorem on1_nI : ∀ s, s < 12 → on1 s = nI (2 ^ s) := by decide +kernel
theorem isS_on1 {s : Nat} (hs : s < 12) : isS (on1 s) := by
  rw [on1_nI s hs]
  exact isS_nI (by
    have : 2 ^ s < 2 ^ 12 := Nat.pow_lt_pow_right (by decide) hs
    simpa using this)
theorem isS_iff {x : Int32} : (0 ≤ x ∧ x ≤ 4095) ↔ isS x := by
  constructor
  · rintro ⟨h1, h2⟩
    obtain ⟨j, hj, rfl⟩ := nI_of2 (M := 4095) (n := 4095) (by decide) (Int32.not_lt.mpr h1) h2
    exact isS_nI (by omega)
  · intro h
    obtain ⟨k, hk, rfl⟩ := isS_of h
    exact ⟨nI_pos' (by omega), by rw [show (4095 : Int32) = nI 4095 from rfl]; exact nI_le (by omega) (by decide)⟩
theorem sh_k : ∀ s, s < 32 → ((nI s &&& 31).toBitVec.smod 32).toNat = s := by decide +kernel
theorem bt_nI {k s : Nat} (hk : k < 2 ^ 31) (hs : s < 32) : bt (nI k) s = nI (k / 2 ^ s % 2) := by
  unfold bt
  rw [pk_shrN hk _ s (sh_k s hs), pk_andN (by
    have := Nat.div_le_self k (2 ^ s)
    omega) 1 (by decide)]
theorem bt_tb {k s : Nat} (hk : k < 2 ^ 31) (hs : s < 32) : bt (nI k) s = if k.testBit s = true then 1 else 0 := by
  rw [bt_nI hk hs]
  have h : k.testBit s = decide (k / 2 ^ s % 2 = 1) := Nat.testBit_eq_decide_div_mod_eq
  rw [h]
  by_cases h1 : k / 2 ^ s % 2 = 1
  · simp only [h1, decide_true, if_true]
    rfl
  · have h0 : k / 2 ^ s % 2 = 0 := by omega
    simp only [h0]
    rfl
theorem bt_01 {x : Int32} {s : Nat} (h : isS x) (hs : s < 32) : bt x s = 0 ∨ bt x s = 1 := by
  obtain ⟨k, hk, rfl⟩ := isS_of h
  rw [bt_tb (by omega) hs]
  split
  · exact Or.inr rfl
  · exact Or.inl rfl
theorem bt_n1 {x : Int32} {s : Nat} (h : isS x) (hs : s < 32) : (¬ bt x s = 1) = (bt x s = 0) := by
  rcases bt_01 h hs with e | e <;> rw [e] <;> decide
/-- the least of a set -/
def lsb (x : Int32) : Nat → Nat → Nat
  | 0, k => k
  | f + 1, k => if bt x k = 0 then lsb x f (k + 1) else k
theorem all64 {P : Nat → Prop} (h : ∀ a, a < 64 → ∀ b, b < 64 → P (64 * a + b)) : ∀ k, k < 4096 → P k := by
  intro k hk
  have := h (k / 64) (by omega) (k % 64) (by omega)
  rwa [show 64 * (k / 64) + k % 64 = k by omega] at this
theorem lsb_k : ∀ k, k < 4096 → k = 0 ∨ (lsb (nI k) 12 0 < 12 ∧ bt (nI k) (lsb (nI k) 12 0) = 1 ∧ nI k &&& (- nI k) = on1 (lsb (nI k) 12 0)) := all64 (by decide +kernel)
