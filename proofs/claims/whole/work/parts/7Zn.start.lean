/-! The start: where what lies. -/
def LG0 (S BIG r : Nat) : Nat := if r = 0 then S else if r < 12 then S + (44 + r) else if r < 100 then BIG + r else if r < 113 then S + (r - 99) else if r < 150 then BIG + r else if r < 163 then S + (r - 136) else if r < 200 then BIG + r else if r < 213 then S + (r - 173) else if r < 300 then BIG + r else if r < 305 then S + (r - 260) else if r < 400 then BIG + r else if r < 420 then S + (r - 344) else BIG + r
def gr0 (S BIG a : Nat) : Nat := if a = S then 0 else if a < S + 14 then a - S + 99 else if a < S + 27 then a - S + 136 else if a < S + 40 then a - S + 173 else if a < S + 45 then a - S + 260 else if a < S + 56 then a - S - 44 else if a < S + 76 then a - S + 344 else a - BIG
theorem gr0_LG {S BIG : Nat} (hB : S + 76 ≤ BIG) (r : Nat) : gr0 S BIG (LG0 S BIG r) = r := by
  unfold LG0
  split
  · unfold gr0
    rw [if_pos rfl]
    omega
  · split
    · unfold gr0
      rw [if_neg (by omega), if_neg (by omega), if_neg (by omega), if_neg (by omega), if_neg (by omega), if_pos (by omega)]
      omega
    · split
      · unfold gr0
        rw [if_neg (by omega), if_neg (by omega), if_neg (by omega), if_neg (by omega), if_neg (by omega), if_neg (by omega), if_neg (by omega)]
        omega
      · split
        · unfold gr0
          rw [if_neg (by omega), if_pos (by omega)]
          omega
        · split
          · unfold gr0
            rw [if_neg (by omega), if_neg (by omega), if_neg (by omega), if_neg (by omega), if_neg (by omega), if_neg (by omega), if_neg (by omega)]
            omega
          · split
            · unfold gr0
              rw [if_neg (by omega), if_neg (by omega), if_pos (by omega)]
              omega
            · split
              · unfold gr0
                rw [if_neg (by omega), if_neg (by omega), if_neg (by omega), if_neg (by omega), if_neg (by omega), if_neg (by omega), if_neg (by omega)]
                omega
              · split
                · unfold gr0
                  rw [if_neg (by omega), if_neg (by omega), if_neg (by omega), if_pos (by omega)]
                  omega
                · split
                  · unfold gr0
                    rw [if_neg (by omega), if_neg (by omega), if_neg (by omega), if_neg (by omega), if_neg (by omega), if_neg (by omega), if_neg (by omega)]
                    omega
                  · split
                    · unfold gr0
                      rw [if_neg (by omega), if_neg (by omega), if_neg (by omega), if_neg (by omega), if_pos (by omega)]
                      omega
                    · split
                      · unfold gr0
                        rw [if_neg (by omega), if_neg (by omega), if_neg (by omega), if_neg (by omega), if_neg (by omega), if_neg (by omega), if_neg (by omega)]
                        omega
                      · split
                        · unfold gr0
                          rw [if_neg (by omega), if_neg (by omega), if_neg (by omega), if_neg (by omega), if_neg (by omega), if_neg (by omega), if_pos (by omega)]
                          omega
                        · unfold gr0
                          rw [if_neg (by omega), if_neg (by omega), if_neg (by omega), if_neg (by omega), if_neg (by omega), if_neg (by omega), if_neg (by omega)]
                          omega
theorem LG0_b {S BIG : Nat} (r : Nat) : (S ≤ LG0 S BIG r ∧ LG0 S BIG r < S + 76) ∨ BIG ≤ LG0 S BIG r := by
  unfold LG0
  repeat' split
  all_goals omega
def C0 (S BIG : Nat) (l : List (AE × Nat)) (r : Nat) : Option AE := if LG0 S BIG r < S + 76 then (l[LG0 S BIG r - S]?).map Prod.fst else none
theorem ca_t : ca 0 1 12 (frT 12) = tens := by
  funext k
  unfold ca frT tens upd
  match k with
  | 0 => rfl
  | 1 => rfl
  | 2 => rfl
  | 3 => rfl
  | 4 => rfl
  | 5 => rfl
  | 6 => rfl
  | 7 => rfl
  | 8 => rfl
  | 9 => rfl
  | 10 => rfl
  | 11 => rfl
  | k + 12 =>
    rw [if_neg (by omega)]
    simp
theorem ca_z {B st n : Nat} (hB : 12 ≤ B) : ca B st n (frT 12) = fun _ => 0 := by
  funext k
  unfold ca frT
  split
  · rw [if_neg (by omega)]
  · rfl
theorem WI0 : WI (frT 12) 0 0 0 0 := by
  refine ⟨⟨by decide, by decide⟩, fun i hi => by omega, ?_, ?_, fun s hs => ⟨10, by decide, ?_⟩, ⟨by decide, by decide, fun r hr => by omega⟩, ⟨by decide, by decide, fun r hr => by omega⟩, ⟨by decide, by decide, fun r hr => by omega⟩, 0, by decide, by decide, fun i hi => by omega⟩
  · show isS (nI 0)
    exact isS_nI (by decide)
  · show isS (nI 0)
    exact isS_nI (by decide)
  · unfold frT
    rw [if_pos hs]
    rfl
