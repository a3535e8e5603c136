/-! What the text of a bridge says: the spec that both sides are held against. T: the text, n: its size; a place is told by a. -/
/-- a number of one digit or two: whether it is there, the place behind it, the number -/
def pNum (T : Nat → Int32) (n a : Nat) : Bool × Nat × Int32 :=
  if a < n ∧ 48 ≤ T a ∧ T a ≤ 57 then (if a + 1 < n ∧ 48 ≤ T (a + 1) ∧ T (a + 1) ≤ 57 then (true, a + 2, 10 * (T a - 48) + T (a + 1) - 48) else (true, a + 1, T a - 48)) else (false, a, 0)
/-- a letter among pkvswd: its number -/
def pLet (c : Int32) : Option Nat := if c = 112 then some 0 else if c = 107 then some 1 else if c = 118 then some 2 else if c = 115 then some 3 else if c = 119 then some 4 else if c = 100 then some 5 else none
/-- a sign among < = > -/
def pSgn (c : Int32) : Option Nat := if c = 60 then some 0 else if c = 61 then some 1 else if c = 62 then some 2 else none
/-- a test: its code -/
def pTest (T : Nat → Int32) (n a : Nat) : Bool × Nat × Int32 :=
  if a < n then match pLet (T a) with
    | none => (false, a, 0)
    | some k => if a + 1 < n then match pSgn (T (a + 1)) with
      | none => (false, a + 1, 0)
      | some w => match pNum T n (a + 2) with
        | (false, a', _) => (false, a', 0)
        | (true, a', v) => (true, a', nI ((k * 3 + w) * 100) + v)
      else (false, a + 1, 0)
  else (false, a, 0)
/-- modes: 0 E, 1 T, 2 F, 3 what follows in E, 4 what follows in T; codes: -1 not, -2 and, -3 or -/
def pE (T : Nat → Int32) (n : Nat) : Nat → Nat → Nat → Nat → Bool × Nat × List Int32
  | 0, _, _, a => (false, a, [])
  | f + 1, 0, w, a => match pE T n f 1 w a with
    | (false, a1, c1) => (false, a1, c1)
    | (true, a1, c1) => match pE T n f 3 w a1 with
      | (o, a2, c2) => (o, a2, c1 ++ c2)
  | f + 1, 1, w, a => match pE T n f 2 w a with
    | (false, a1, c1) => (false, a1, c1)
    | (true, a1, c1) => match pE T n f 4 w a1 with
      | (o, a2, c2) => (o, a2, c1 ++ c2)
  | f + 1, 2, w, a => if w < 4 ∧ a < n ∧ T a = 33 then (match pE T n f 2 (w + 1) (a + 1) with
      | (false, a1, c1) => (false, a1, c1)
      | (true, a1, c1) => (true, a1, c1 ++ [-1]))
    else if w < 4 ∧ a < n ∧ T a = 40 then (match pE T n f 0 (w + 1) (a + 1) with
      | (false, a1, c1) => (false, a1, c1)
      | (true, a1, c1) => if a1 < n ∧ T a1 = 41 then (true, a1 + 1, c1) else (false, a1, c1))
    else match pTest T n a with
      | (false, a1, _) => (false, a1, [])
      | (true, a1, c) => (true, a1, [c])
  | f + 1, 3, w, a => if a < n ∧ T a = 124 then (match pE T n f 1 w (a + 1) with
      | (false, a1, c1) => (false, a1, c1)
      | (true, a1, c1) => match pE T n f 3 w a1 with
        | (o, a2, c2) => (o, a2, c1 ++ [-3] ++ c2))
    else (true, a, [])
  | f + 1, _, w, a => if a < n ∧ T a = 38 then (match pE T n f 2 w (a + 1) with
      | (false, a1, c1) => (false, a1, c1)
      | (true, a1, c1) => match pE T n f 4 w a1 with
        | (o, a2, c2) => (o, a2, c1 ++ [-2] ++ c2))
    else (true, a, [])
/-- a code worked off over answers that wait -/
def evC (nm : Nat → Int32) (c : Int32) (st : List Bool) : List Bool :=
  if c = -1 then (match st with
    | x :: r => (!x) :: r
    | [] => [])
  else if c = -2 then (match st with
    | y :: x :: r => (x && y) :: r
    | r => r)
  else if c = -3 then (match st with
    | y :: x :: r => (x || y) :: r
    | r => r)
  else (let q := c.toNatClampNeg
    let l := nm (q / 300)
    let v := nI (q % 100)
    (if q / 100 % 3 = 0 then decide (l < v) else if q / 100 % 3 = 1 then decide (l = v) else decide (v < l)) :: st)
def evR (nm : Nat → Int32) : List Int32 → List Bool → List Bool
  | [], st => st
  | c :: cs, st => evR nm cs (evC nm c st)
theorem evR_app (nm : Nat → Int32) (a b : List Int32) (st : List Bool) : evR nm (a ++ b) st = evR nm b (evR nm a st) := by
  induction a generalizing st with
  | nil => rfl
  | cons c cs ih => exact ih _
/-- places go on -/
theorem pNum_adv (T : Nat → Int32) (n a : Nat) : a ≤ (pNum T n a).2.1 ∧ (a ≤ n → (pNum T n a).2.1 ≤ n) ∧ ((pNum T n a).1 = true → a < (pNum T n a).2.1) := by
  unfold pNum
  split
  · split
    · refine ⟨by simp, fun _ => ?_, fun _ => ?_⟩ <;> simp <;> omega
    · refine ⟨by simp, fun _ => ?_, fun _ => ?_⟩ <;> simp <;> omega
  · simp
theorem pTest_adv (T : Nat → Int32) (n a : Nat) : a ≤ (pTest T n a).2.1 ∧ (a ≤ n → (pTest T n a).2.1 ≤ n) ∧ ((pTest T n a).1 = true → a < (pTest T n a).2.1) := by
  unfold pTest
  split
  · split
    · simp
    · split
      · split
        · refine ⟨by simp, fun _ => ?_, fun h => ?_⟩
          · simp; omega
          · simp at h
        · have h3 := pNum_adv T n (a + 2)
          split
          · rename_i heq
            rw [heq] at h3
            simp at h3 ⊢
            omega
          · rename_i heq
            rw [heq] at h3
            simp at h3 ⊢
            omega
      · simp
        omega
  · simp
theorem pE_adv (T : Nat → Int32) (n : Nat) : ∀ (f m w a : Nat), a ≤ n → a ≤ (pE T n f m w a).2.1 ∧ (pE T n f m w a).2.1 ≤ n ∧ ((pE T n f m w a).1 = true → m < 3 → a < (pE T n f m w a).2.1) := by
  intro f
  induction f with
  | zero =>
    intro m w a ha
    simp [pE, ha]
  | succ f ih =>
    intro m w a ha
    match m with
    | 0 =>
      have h1 := ih 1 w a ha
      simp only [pE]
      split
      · rename_i heq
        rw [heq] at h1
        simp at h1 ⊢
        omega
      · rename_i heq
        rw [heq] at h1
        simp at h1
        have h2 := ih 3 w _ h1.2.1
        generalize pE T n f 3 w _ = r at h2
        obtain ⟨o, a2, c2⟩ := r
        simp at h2 ⊢
        omega
    | 1 =>
      have h1 := ih 2 w a ha
      simp only [pE]
      split
      · rename_i heq
        rw [heq] at h1
        simp at h1 ⊢
        omega
      · rename_i heq
        rw [heq] at h1
        simp at h1
        have h2 := ih 4 w _ h1.2.1
        generalize pE T n f 4 w _ = r at h2
        obtain ⟨o, a2, c2⟩ := r
        simp at h2 ⊢
        omega
    | 2 =>
      simp only [pE]
      split
      · rename_i hc
        have h1 := ih 2 (w + 1) (a + 1) (by omega)
        split
        · rename_i heq
          rw [heq] at h1
          simp at h1 ⊢
          omega
        · rename_i heq
          rw [heq] at h1
          simp at h1 ⊢
          omega
      · split
        · rename_i hc
          have h1 := ih 0 (w + 1) (a + 1) (by omega)
          split
          · rename_i heq
            rw [heq] at h1
            simp at h1 ⊢
            omega
          · rename_i heq
            rw [heq] at h1
            simp at h1
            split
            · simp
              omega
            · simp
              omega
        · have h1 := pTest_adv T n a
          split
          · rename_i heq
            rw [heq] at h1
            simp at h1 ⊢
            omega
          · rename_i heq
            rw [heq] at h1
            simp at h1 ⊢
            omega
    | 3 =>
      simp only [pE]
      split
      · rename_i hc
        have h1 := ih 1 w (a + 1) (by omega)
        split
        · rename_i heq
          rw [heq] at h1
          simp at h1 ⊢
          omega
        · rename_i heq
          rw [heq] at h1
          simp at h1
          have h2 := ih 3 w _ h1.2.1
          generalize pE T n f 3 w _ = r at h2
          obtain ⟨o, a2, c2⟩ := r
          simp at h2 ⊢
          omega
      · simp
        omega
    | m + 4 =>
      simp only [pE]
      split
      · rename_i hc
        have h1 := ih 2 w (a + 1) (by omega)
        split
        · rename_i heq
          rw [heq] at h1
          simp at h1 ⊢
          omega
        · rename_i heq
          rw [heq] at h1
          simp at h1
          have h2 := ih 4 w _ h1.2.1
          generalize pE T n f 4 w _ = r at h2
          obtain ⟨o, a2, c2⟩ := r
          simp at h2 ⊢
          omega
      · simp
        omega
