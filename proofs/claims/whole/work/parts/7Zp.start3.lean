/-! The start: the state of both. -/
def sc0 : Nat → Int32 := fun _ => 0
def ar0 : Nat → Nat → Int32 := fun k => if k = 1 then frT 12 else if k = 16 then tsI else fun _ => 0
def lg0 : Nat → Nat → Int64 := fun _ _ => 0
theorem tsI_at {t : Nat} (h : t < 6) : tsI t = -1 := by
  match t, h with
  | 0, _ => rfl
  | 1, _ => rfl
  | 2, _ => rfl
  | 3, _ => rfl
  | 4, _ => rfl
  | 5, _ => rfl
theorem TP0 : TPok tsI (fun _ => 0) := fun t ht => ⟨0, by decide, rfl, fun _ => ⟨tsI_at ht, rfl⟩⟩
set_option maxHeartbeats 8000000 in
theorem RG0 {S BIG : Nat} : RG (LG0 S BIG) (C0 S BIG (sL S)) (S + 56) sc0 ar0 lg0 := by
  intro k hk
  match k, hk with
  | 0, _ => exact ⟨rfl, (C0_at (j := 56) rfl (by decide)).trans rfl⟩
  | 1, _ => exact ⟨rfl, (C0_at (j := 57) rfl (by decide)).trans rfl⟩
  | 2, _ => exact ⟨rfl, (C0_at (j := 58) rfl (by decide)).trans rfl⟩
  | 3, _ => exact ⟨rfl, (C0_at (j := 59) rfl (by decide)).trans rfl⟩
  | 4, _ => exact ⟨rfl, (C0_at (j := 60) rfl (by decide)).trans rfl⟩
  | 5, _ => exact ⟨rfl, (C0_at (j := 61) rfl (by decide)).trans rfl⟩
  | 6, _ => exact ⟨rfl, (C0_at (j := 62) rfl (by decide)).trans rfl⟩
  | 7, _ => exact ⟨rfl, (C0_at (j := 63) rfl (by decide)).trans rfl⟩
  | 8, _ => exact ⟨rfl, (C0_at (j := 64) rfl (by decide)).trans rfl⟩
  | 9, _ => exact ⟨rfl, (C0_at (j := 65) rfl (by decide)).trans rfl⟩
  | 10, _ => exact ⟨rfl, (C0_at (j := 66) rfl (by decide)).trans rfl⟩
  | 11, _ => exact ⟨rfl, (C0_at (j := 67) rfl (by decide)).trans rfl⟩
  | 12, _ => exact ⟨rfl, (C0_at (j := 68) rfl (by decide)).trans rfl⟩
  | 13, _ => exact ⟨rfl, (C0_at (j := 69) rfl (by decide)).trans rfl⟩
  | 14, _ => exact ⟨rfl, (C0_at (j := 70) rfl (by decide)).trans rfl⟩
  | 15, _ => exact ⟨rfl, (C0_at (j := 71) rfl (by decide)).trans rfl⟩
  | 16, _ => exact ⟨rfl, (C0_at (j := 72) rfl (by decide)).trans rfl⟩
  | 17, _ => exact ⟨rfl, (C0_at (j := 73) rfl (by decide)).trans rfl⟩
  | 18, _ => exact ⟨rfl, (C0_at (j := 74) rfl (by decide)).trans rfl⟩
  | 19, _ => exact ⟨rfl, (C0_at (j := 75) rfl (by decide)).trans rfl⟩
  | k + 20, h => exact absurd h (by omega)
theorem INV0 {S BIG : Nat} (hB : S + 76 ≤ BIG) : INV S (S + 56) BIG S (S + 76) (slN (sL S)) (hns (fun _ => none, S, 0) (sL S)) := by
  refine ⟨LG0 S BIG, gr0 S BIG, C0 S BIG (sL S), _, _, frT 12, fun _ => 0, fun _ => false, none, 0, 0, sc0, ar0, lg0, st_hp0 hB, st_HP hB, OW_100 hB, ⟨_, _, _, _, OW_150 hB, fun r hr => (by cases hr)⟩, ⟨rfl, ?_, ⟨_, _, _, _, OW_200 hB, fun r hr => (by cases hr), fun h => absurd rfl h⟩, ⟨0, 0, 0, 0, fun _ => 0, fun _ => 0, fun _ => 0, fun _ => 0, ?_, fun q hq => by omega⟩, fun j hj => by omega, ?_, ?_, ?_⟩, ⟨fun k _ => rfl, rfl, by decide, rfl, by decide⟩, ⟨0, 0, 0, 0, SL_refl, WI0, fun i hi => by omega, Or.inl ⟨rfl, rfl⟩⟩⟩
  · exact (C0_at (j := 0) rfl (by decide)).trans rfl
  · intro j hj
    match j, hj with
    | 0, _ => exact (C0_at (j := 40) rfl (by decide)).trans rfl
    | 1, _ => exact (C0_at (j := 41) rfl (by decide)).trans rfl
    | 2, _ => exact (C0_at (j := 42) rfl (by decide)).trans rfl
    | 3, _ => exact (C0_at (j := 43) rfl (by decide)).trans rfl
    | 4, _ => exact (C0_at (j := 44) rfl (by decide)).trans rfl
  · exact ⟨0, (C0_at (j := 45) rfl (by decide)).trans rfl, (C0_at (j := 46) rfl (by decide)).trans rfl, rfl, by decide⟩
  · refine ⟨tsI, fun _ => 0, fun _ _ => 0, ⟨(C0_at (j := 47) rfl (by decide)).trans rfl, (C0_at (j := 48) rfl (by decide)).trans rfl, (C0_at (j := 49) rfl (by decide)).trans ?_, fun t ht => ?_⟩, ⟨TP0, fun t ht => ?_⟩, TP0, fun t ht => ⟨rfl, rfl⟩, fun t ht k hk => rfl⟩
    · have e : (fun i => if i < 6 then some (LG0 S BIG (6 + i)) else none) = fun i => if i < 6 then some (S + 49 + 1 + i) else none := by
        funext i
        by_cases hi : i < 6
        · rw [if_pos hi, if_pos hi]
          unfold LG0
          rw [if_neg (by omega), if_pos (by omega)]
          congr 1
          omega
        · rw [if_neg hi, if_neg hi]
      rw [e]
      rfl
    · match t, ht with
      | 0, _ => exact (C0_at (j := 50) rfl (by decide)).trans rfl
      | 1, _ => exact (C0_at (j := 51) rfl (by decide)).trans rfl
      | 2, _ => exact (C0_at (j := 52) rfl (by decide)).trans rfl
      | 3, _ => exact (C0_at (j := 53) rfl (by decide)).trans rfl
      | 4, _ => exact (C0_at (j := 54) rfl (by decide)).trans rfl
      | 5, _ => exact (C0_at (j := 55) rfl (by decide)).trans rfl
    · rw [tsI_at ht]
      decide
  · exact RG0
