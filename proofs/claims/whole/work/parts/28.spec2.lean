/-! Clauses: the spec. -/
def pStr (T : Nat → Int32) (n : Nat) : List Int32 → Nat → Bool × Nat
  | [], a => (true, a)
  | c :: l, a => if a < n ∧ T a = c then pStr T n l (a + 1) else (false, a)
/-- press 0, hold 1, free 2 -/
def cWh (c : Int32) : Option Nat := if c = 112 then some 0 else if c = 104 then some 1 else if c = 102 then some 2 else none
def cWd : Nat → List Int32
  | 0 => [112, 114, 101, 115, 115, 32]
  | 1 => [104, 111, 108, 100, 32]
  | _ => [102, 114, 101, 101, 32]
abbrev Cls : Type := Nat × Int32 × List Int32
/-- a clause at a: whether it is there, the place, what it is -/
def pCl (T : Nat → Int32) (n a : Nat) : Bool × Nat × Cls :=
  if a < n then (match cWh (T a) with
    | none => (false, a, 0, 0, [])
    | some q => match pStr T n (cWd q) a with
      | (false, a1) => (false, a1, 0, 0, [])
      | (true, a1) => match pNum T n a1 with
        | (false, a2, _) => (false, a2, 0, 0, [])
        | (true, a2, v) => if q = 2 then (true, a2, 2, v, []) else if a2 < n ∧ T a2 = 32 then (match pE T n 500 0 0 (a2 + 1) with
          | (false, a3, _) => (false, a3, 0, 0, [])
          | (true, a3, cs) => (true, a3, q, v, cs)) else (false, a2, 0, 0, []))
  else (false, a, 0, 0, [])
def pCls (T : Nat → Int32) (n : Nat) : Nat → Nat → Bool × Nat × List Cls
  | 0, a => (true, a, [])
  | m + 1, a => if a < n ∧ T a = 59 then (match pCl T n (a + 1) with
      | (false, a1, _) => (false, a1, [])
      | (true, a1, c) => match pCls T n m a1 with
        | (o, a2, l) => (o, a2, c :: l))
    else (true, a, [])
def pAll (T : Nat → Int32) (n : Nat) : Bool × Nat × List Cls := match pCl T n 0 with
  | (false, a1, _) => (false, a1, [])
  | (true, a1, c) => match pCls T n 9 a1 with
    | (o, a2, l) => (o && decide (a2 = n), a2, c :: l)
/-- what a clause presses -/
def cSum (nm : Nat → Int32) (c : Cls) : Int32 := if c.1 = 2 then 0 else if (evR nm c.2.2 []).headD false = true then (if c.1 = 0 then c.2.1 else -c.2.1) else 0
def sumC (nm : Nat → Int32) (s : Int32) (l : List Cls) : Int32 := l.foldl (fun s c => s + cSum nm c) s
def freeC (f : Int32) (l : List Cls) : Int32 := l.foldl (fun f c => if c.1 = 2 then c.2.1 else f) f
theorem pStr_adv (T : Nat → Int32) (n : Nat) : ∀ (l : List Int32) (a : Nat), a ≤ n → a ≤ (pStr T n l a).2 ∧ (pStr T n l a).2 ≤ n := by
  intro l
  induction l with
  | nil =>
    intro a ha
    simp [pStr, ha]
  | cons c l ih =>
    intro a ha
    simp only [pStr]
    split
    · have := ih (a + 1) (by omega)
      omega
    · simp [ha]
theorem pCl_adv (T : Nat → Int32) (n a : Nat) (ha : a ≤ n) : a ≤ (pCl T n a).2.1 ∧ (pCl T n a).2.1 ≤ n := by
  unfold pCl
  split
  · split
    · simp [ha]
    · rename_i q _
      have h1 := pStr_adv T n (cWd q) a ha
      split
      · rename_i heq
        rw [heq] at h1
        simpa using h1
      · rename_i a1 heq
        rw [heq] at h1
        simp at h1
        have h2 := pNum_adv T n a1
        split
        · rename_i heq2
          rw [heq2] at h2
          simp at h2 ⊢
          omega
        · rename_i a2 v heq2
          rw [heq2] at h2
          simp at h2
          split
          · simp
            omega
          · split
            · rename_i h3
              have h4 := pE_adv T n 500 0 0 (a2 + 1) (by omega)
              split
              · rename_i heq4
                rw [heq4] at h4
                simp at h4 ⊢
                omega
              · rename_i heq4
                rw [heq4] at h4
                simp at h4 ⊢
                omega
            · simp
              omega
  · simp [ha]
theorem pStr_app (T : Nat → Int32) (n : Nat) (c : Int32) : ∀ (l : List Int32) (a : Nat), pStr T n (l ++ [c]) a = if (pStr T n l a).1 = true then (if (pStr T n l a).2 < n ∧ T (pStr T n l a).2 = c then (true, (pStr T n l a).2 + 1) else (false, (pStr T n l a).2)) else (false, (pStr T n l a).2) := by
  intro l
  induction l with
  | nil =>
    intro a
    simp only [List.nil_append, pStr, if_true]
    rfl
  | cons x l ih =>
    intro a
    simp only [List.cons_append, pStr]
    split
    · exact ih (a + 1)
    · simp
