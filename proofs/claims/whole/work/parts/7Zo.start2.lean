/-! The start: the worlds. -/
def sL (S : Nat) : List (AE × Nat) := maL S ++ mdL (S + 56)
section
variable {S BIG : Nat} {l : List (AE × Nat)}
theorem C0_at {r j : Nat} (e : LG0 S BIG r = S + j) (hj : j < 76) : C0 S BIG l r = (l[j]?).map Prod.fst := by
  unfold C0
  rw [e, if_pos (by omega), Nat.add_sub_cancel_left]
theorem C0_no {r : Nat} (hB : S + 76 ≤ BIG) (e : LG0 S BIG r = BIG + r) : C0 S BIG l r = none := by
  unfold C0
  rw [e, if_neg (by omega)]
theorem sL_len : (sL S).length = 76 := rfl
theorem st_key (hB : S + 76 ≤ BIG) {r : Nat} {e : AE} (he : C0 S BIG (sL S) r = some e) : (hns (fun _ => none, S, 0) (sL S)).1 (LG0 S BIG r) = some e ∧ LG0 S BIG r < S + 76 := by
  unfold C0 at he
  split at he
  · rename_i hl
    rcases LG0_b (S := S) (BIG := BIG) r with ⟨h1, -⟩ | h1
    · rcases hx : (sL S)[LG0 S BIG r - S]? with _ | x
      · rw [hx] at he
        cases he
      · rw [hx] at he
        have := hns_at (sL S) (fun _ => none, S, 0) (LG0 S BIG r - S) x hx
        have e2 : S + (LG0 S BIG r - S) = LG0 S BIG r := by omega
        rw [show ((fun _ => none, S, 0) : HS).2.1 = S from rfl, e2] at this
        refine ⟨this.trans ?_, hl⟩
        exact he
    · omega
  · cases he
theorem st_hp0 (hB : S + 76 ≤ BIG) : hns (fun _ => none, S, 0) (sL S) = GH (LG0 S BIG) (gr0 S BIG) (C0 S BIG (sL S)) (hns (fun _ => none, S, 0) (sL S)).1 (hns (fun _ => none, S, 0) (sL S)).2 := GH_of (fun r e he => (st_key hB he).1)
theorem st_HP (hB : S + 76 ≤ BIG) : HP BIG S (S + 76) (slN (sL S)) (LG0 S BIG) (gr0 S BIG) (C0 S BIG (sL S)) (hns (fun _ => none, S, 0) (sL S)).1 (hns (fun _ => none, S, 0) (sL S)).2 := by
  have hz := hns_z (sL S) (fun _ => none, S, 0)
  rw [sL_len] at hz
  have z1 : (hns (fun _ => none, S, 0) (sL S)).2.1 = S + 76 := by rw [hz]
  have z2 : (hns (fun _ => none, S, 0) (sL S)).2.2 = slN (sL S) := by
    rw [hz]
    exact Nat.zero_add _
  refine ⟨⟨gr0_LG hB, fun r => ?_, fun r e he => ?_⟩, ⟨fun r => ?_, fun a ha => ?_, ?_⟩, ?_, ?_⟩
  · rw [z1]
    rcases LG0_b (S := S) (BIG := BIG) r with ⟨-, h⟩ | h
    · exact Or.inl h
    · exact Or.inr h
  · rw [z1]
    exact (st_key hB he).2
  · rcases LG0_b (S := S) (BIG := BIG) r with ⟨h, -⟩ | h <;> omega
  · exact hns_lt (sL S) (fun _ => none, S, 0) a ha
  · rw [z1]
    omega
  · rw [z1]
    exact Nat.le_refl _
  · rw [z2]
    exact Nat.le_refl _

theorem OW_100 (hB : S + 76 ≤ BIG) : OW (LG0 S BIG) (C0 S BIG (sL S)) 100 (frT 12) (fun _ => 0) (fun _ => false) none := by
  intro k hk
  match k, hk with
  | 0, _ => exact (C0_at (j := 1) rfl (by decide)).trans (rfl)
  | 1, _ => exact (C0_at (j := 2) rfl (by decide)).trans (by simp only [wcl, ca_t]; rfl)
  | 2, _ => exact (C0_at (j := 3) rfl (by decide)).trans (by simp only [wcl, Bool.false_eq_true, and_false, if_false]; rfl)
  | 3, _ => exact (C0_at (j := 4) rfl (by decide)).trans (rfl)
  | 4, _ => exact (C0_at (j := 5) rfl (by decide)).trans (by simp only [wcl, ca_z (show 12 ≤ 72 by decide)]; rfl)
  | 5, _ => exact (C0_at (j := 6) rfl (by decide)).trans (by simp only [wcl, ca_z (show 12 ≤ 73 by decide)]; rfl)
  | 6, _ => exact (C0_at (j := 7) rfl (by decide)).trans (rfl)
  | 7, _ => exact (C0_at (j := 8) rfl (by decide)).trans (by simp only [wcl, ca_z (show 12 ≤ 83 by decide)]; rfl)
  | 8, _ => exact (C0_at (j := 9) rfl (by decide)).trans (by simp only [wcl, ca_z (show 12 ≤ 84 by decide)]; rfl)
  | 9, _ => exact (C0_at (j := 10) rfl (by decide)).trans (rfl)
  | 10, _ => exact (C0_at (j := 11) rfl (by decide)).trans (by simp only [wcl, ca_z (show 12 ≤ 104 by decide)]; rfl)
  | 11, _ => exact (C0_at (j := 12) rfl (by decide)).trans (by simp only [wcl, ca_z (show 12 ≤ 105 by decide)]; rfl)
  | 12, _ => exact (C0_at (j := 13) rfl (by decide)).trans (rfl)
  | 13, _ => exact (C0_no hB rfl).trans (by simp [wcl])
  | 14, _ => exact (C0_no hB rfl).trans (by simp [wcl])
  | 15, _ => exact (C0_no hB rfl).trans (by simp [wcl])
  | 16, _ => exact (C0_no hB rfl).trans (by simp [wcl])
  | 17, _ => exact (C0_no hB rfl).trans (by simp [wcl])
  | 18, _ => exact (C0_no hB rfl).trans (by simp [wcl])
  | 19, _ => exact (C0_no hB rfl).trans (by simp [wcl])
  | 20, _ => exact (C0_no hB rfl).trans (by simp [wcl])
  | 21, _ => exact (C0_no hB rfl).trans (by simp [wcl])
  | 22, _ => exact (C0_no hB rfl).trans (by simp [wcl])
  | 23, _ => exact (C0_no hB rfl).trans (by simp [wcl])
  | 24, _ => exact (C0_no hB rfl).trans (by simp [wcl])
  | k + 25, h => exact absurd h (by omega)
theorem OW_150 (hB : S + 76 ≤ BIG) : OW (LG0 S BIG) (C0 S BIG (sL S)) 150 (frT 12) (fun _ => 0) (fun _ => false) none := by
  intro k hk
  match k, hk with
  | 0, _ => exact (C0_at (j := 14) rfl (by decide)).trans (rfl)
  | 1, _ => exact (C0_at (j := 15) rfl (by decide)).trans (by simp only [wcl, ca_t]; rfl)
  | 2, _ => exact (C0_at (j := 16) rfl (by decide)).trans (by simp only [wcl, Bool.false_eq_true, and_false, if_false]; rfl)
  | 3, _ => exact (C0_at (j := 17) rfl (by decide)).trans (rfl)
  | 4, _ => exact (C0_at (j := 18) rfl (by decide)).trans (by simp only [wcl, ca_z (show 12 ≤ 72 by decide)]; rfl)
  | 5, _ => exact (C0_at (j := 19) rfl (by decide)).trans (by simp only [wcl, ca_z (show 12 ≤ 73 by decide)]; rfl)
  | 6, _ => exact (C0_at (j := 20) rfl (by decide)).trans (rfl)
  | 7, _ => exact (C0_at (j := 21) rfl (by decide)).trans (by simp only [wcl, ca_z (show 12 ≤ 83 by decide)]; rfl)
  | 8, _ => exact (C0_at (j := 22) rfl (by decide)).trans (by simp only [wcl, ca_z (show 12 ≤ 84 by decide)]; rfl)
  | 9, _ => exact (C0_at (j := 23) rfl (by decide)).trans (rfl)
  | 10, _ => exact (C0_at (j := 24) rfl (by decide)).trans (by simp only [wcl, ca_z (show 12 ≤ 104 by decide)]; rfl)
  | 11, _ => exact (C0_at (j := 25) rfl (by decide)).trans (by simp only [wcl, ca_z (show 12 ≤ 105 by decide)]; rfl)
  | 12, _ => exact (C0_at (j := 26) rfl (by decide)).trans (rfl)
  | 13, _ => exact (C0_no hB rfl).trans (by simp [wcl])
  | 14, _ => exact (C0_no hB rfl).trans (by simp [wcl])
  | 15, _ => exact (C0_no hB rfl).trans (by simp [wcl])
  | 16, _ => exact (C0_no hB rfl).trans (by simp [wcl])
  | 17, _ => exact (C0_no hB rfl).trans (by simp [wcl])
  | 18, _ => exact (C0_no hB rfl).trans (by simp [wcl])
  | 19, _ => exact (C0_no hB rfl).trans (by simp [wcl])
  | 20, _ => exact (C0_no hB rfl).trans (by simp [wcl])
  | 21, _ => exact (C0_no hB rfl).trans (by simp [wcl])
  | 22, _ => exact (C0_no hB rfl).trans (by simp [wcl])
  | 23, _ => exact (C0_no hB rfl).trans (by simp [wcl])
  | 24, _ => exact (C0_no hB rfl).trans (by simp [wcl])
  | k + 25, h => exact absurd h (by omega)
theorem OW_200 (hB : S + 76 ≤ BIG) : OW (LG0 S BIG) (C0 S BIG (sL S)) 200 (frT 12) (fun _ => 0) (fun _ => false) none := by
  intro k hk
  match k, hk with
  | 0, _ => exact (C0_at (j := 27) rfl (by decide)).trans (rfl)
  | 1, _ => exact (C0_at (j := 28) rfl (by decide)).trans (by simp only [wcl, ca_t]; rfl)
  | 2, _ => exact (C0_at (j := 29) rfl (by decide)).trans (by simp only [wcl, Bool.false_eq_true, and_false, if_false]; rfl)
  | 3, _ => exact (C0_at (j := 30) rfl (by decide)).trans (rfl)
  | 4, _ => exact (C0_at (j := 31) rfl (by decide)).trans (by simp only [wcl, ca_z (show 12 ≤ 72 by decide)]; rfl)
  | 5, _ => exact (C0_at (j := 32) rfl (by decide)).trans (by simp only [wcl, ca_z (show 12 ≤ 73 by decide)]; rfl)
  | 6, _ => exact (C0_at (j := 33) rfl (by decide)).trans (rfl)
  | 7, _ => exact (C0_at (j := 34) rfl (by decide)).trans (by simp only [wcl, ca_z (show 12 ≤ 83 by decide)]; rfl)
  | 8, _ => exact (C0_at (j := 35) rfl (by decide)).trans (by simp only [wcl, ca_z (show 12 ≤ 84 by decide)]; rfl)
  | 9, _ => exact (C0_at (j := 36) rfl (by decide)).trans (rfl)
  | 10, _ => exact (C0_at (j := 37) rfl (by decide)).trans (by simp only [wcl, ca_z (show 12 ≤ 104 by decide)]; rfl)
  | 11, _ => exact (C0_at (j := 38) rfl (by decide)).trans (by simp only [wcl, ca_z (show 12 ≤ 105 by decide)]; rfl)
  | 12, _ => exact (C0_at (j := 39) rfl (by decide)).trans (rfl)
  | 13, _ => exact (C0_no hB rfl).trans (by simp [wcl])
  | 14, _ => exact (C0_no hB rfl).trans (by simp [wcl])
  | 15, _ => exact (C0_no hB rfl).trans (by simp [wcl])
  | 16, _ => exact (C0_no hB rfl).trans (by simp [wcl])
  | 17, _ => exact (C0_no hB rfl).trans (by simp [wcl])
  | 18, _ => exact (C0_no hB rfl).trans (by simp [wcl])
  | 19, _ => exact (C0_no hB rfl).trans (by simp [wcl])
  | 20, _ => exact (C0_no hB rfl).trans (by simp [wcl])
  | 21, _ => exact (C0_no hB rfl).trans (by simp [wcl])
  | 22, _ => exact (C0_no hB rfl).trans (by simp [wcl])
  | 23, _ => exact (C0_no hB rfl).trans (by simp [wcl])
  | 24, _ => exact (C0_no hB rfl).trans (by simp [wcl])
  | k + 25, h => exact absurd h (by omega)
end
