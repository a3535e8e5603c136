/-! Numbers, booleans; the reference's cells. -/
def b2i (c : Prop) [Decidable c] : Int32 := if c then 1 else 0
theorem b2i_0 {c : Prop} [Decidable c] : (b2i c = 0) = ¬ c := by
  unfold b2i
  by_cases h : c <;> simp [h]
theorem b2i_n0 {c : Prop} [Decidable c] : (¬ b2i c = 0) = c := by
  unfold b2i
  by_cases h : c <;> simp [h]
theorem b2i_1 {c : Prop} [Decidable c] : (b2i c = 1) = c := by
  unfold b2i
  by_cases h : c <;> simp [h]
theorem b2i_n1 {c : Prop} [Decidable c] : (¬ b2i c = 1) = ¬ c := by
  unfold b2i
  by_cases h : c <;> simp [h]
theorem okr1_0 : okr 1 (.int 0) = true := id rfl
theorem okr1_1 : okr 1 (.int 1) = true := id rfl
theorem nq_int {x : Int32} : nl (some (.int x)) = true := id rfl
theorem nq_ref {a : Nat} : nl (some (.ref a)) = true := id rfl
theorem nq_null : nl (some .null) = true := id rfl
theorem nq_none : nl none = true := id rfl
theorem okr_b {c : Prop} [Decidable c] : okr 1 (.int (b2i c)) = true := by
  unfold b2i
  by_cases h : c <;> simp [h, okr1_0, okr1_1]
theorem ix_nI {k n : Nat} (hk : k < n) (hn : n < 2 ^ 31) : ix (nI k) n := nI_in hk hn
theorem ix_nIT {k n : Nat} (hk : k < n) (hn : n < 2 ^ 31) : ix (nI k) n = True := eq_true (nI_in hk hn)
theorem not_lt32 {x y : Int32} : (¬ x < y) = (y ≤ x) := propext Int32.not_lt
theorem not_le32 {x y : Int32} : (¬ x ≤ y) = (y < x) := propext Int32.not_le
def c_letters : Nat → Int32 := (upd (upd (upd (upd (upd (upd (fun _ => 0) 0 (vp_nar .char (112))) 1 (vp_nar .char (107))) 2 (vp_nar .char (118))) 3 (vp_nar .char (115))) 4 (vp_nar .char (119))) 5 (vp_nar .char (100)))
theorem c_letters_0 : c_letters 0 = 112 := by decide +kernel
theorem c_letters_1 : c_letters 1 = 107 := by decide +kernel
theorem c_letters_2 : c_letters 2 = 118 := by decide +kernel
theorem c_letters_3 : c_letters 3 = 115 := by decide +kernel
theorem c_letters_4 : c_letters 4 = 119 := by decide +kernel
theorem c_letters_5 : c_letters 5 = 100 := by decide +kernel
def c_begins : Nat → Int32 := (upd (upd (upd (fun _ => 0) 0 (vp_nar .char (112))) 1 (vp_nar .char (104))) 2 (vp_nar .char (102)))
theorem c_begins_0 : c_begins 0 = 112 := by decide +kernel
theorem c_begins_1 : c_begins 1 = 104 := by decide +kernel
theorem c_begins_2 : c_begins 2 = 102 := by decide +kernel
def c_words : Nat → Int32 := (upd (upd (upd (upd (upd (upd (upd (upd (upd (upd (upd (upd (upd (upd (upd (fun _ => 0) 0 (vp_nar .char (112))) 1 (vp_nar .char (114))) 2 (vp_nar .char (101))) 3 (vp_nar .char (115))) 4 (vp_nar .char (115))) 5 (vp_nar .char (104))) 6 (vp_nar .char (111))) 7 (vp_nar .char (108))) 8 (vp_nar .char (100))) 9 (vp_nar .char (0))) 10 (vp_nar .char (102))) 11 (vp_nar .char (114))) 12 (vp_nar .char (101))) 13 (vp_nar .char (101))) 14 (vp_nar .char (0)))
theorem c_words_0 : c_words 0 = 112 := by decide +kernel
theorem c_words_1 : c_words 1 = 114 := by decide +kernel
theorem c_words_2 : c_words 2 = 101 := by decide +kernel
theorem c_words_3 : c_words 3 = 115 := by decide +kernel
theorem c_words_4 : c_words 4 = 115 := by decide +kernel
theorem c_words_5 : c_words 5 = 104 := by decide +kernel
theorem c_words_6 : c_words 6 = 111 := by decide +kernel
theorem c_words_7 : c_words 7 = 108 := by decide +kernel
theorem c_words_8 : c_words 8 = 100 := by decide +kernel
theorem c_words_9 : c_words 9 = 0 := by decide +kernel
theorem c_words_10 : c_words 10 = 102 := by decide +kernel
theorem c_words_11 : c_words 11 = 114 := by decide +kernel
theorem c_words_12 : c_words 12 = 101 := by decide +kernel
theorem c_words_13 : c_words 13 = 101 := by decide +kernel
theorem c_words_14 : c_words 14 = 0 := by decide +kernel
def c_above : Nat → Int32 := (upd (upd (upd (upd (upd (upd (upd (fun _ => 0) 0 (-1)) 1 (0)) 2 (0)) 3 (0)) 4 (1)) 5 (2)) 6 (3))
theorem c_above_0 : c_above 0 = -1 := by decide +kernel
theorem c_above_1 : c_above 1 = 0 := by decide +kernel
theorem c_above_2 : c_above 2 = 0 := by decide +kernel
theorem c_above_3 : c_above 3 = 0 := by decide +kernel
theorem c_above_4 : c_above 4 = 1 := by decide +kernel
theorem c_above_5 : c_above 5 = 2 := by decide +kernel
theorem c_above_6 : c_above 6 = 3 := by decide +kernel
def c_bodies : Nat → Int32 := (upd (upd (upd (upd (upd (upd (upd (upd (upd (upd (upd (upd (upd (upd (upd (upd (upd (upd (upd (upd (upd (fun _ => 0) 0 (10)) 1 (11)) 2 (12)) 3 (0)) 4 (20)) 5 (0)) 6 (30)) 7 (0)) 8 (0)) 9 (0)) 10 (0)) 11 (40)) 12 (50)) 13 (51)) 14 (0)) 15 (0)) 16 (0)) 17 (60)) 18 (71)) 19 (70)) 20 (0))
theorem c_bodies_0 : c_bodies 0 = 10 := by decide +kernel
theorem c_bodies_1 : c_bodies 1 = 11 := by decide +kernel
theorem c_bodies_2 : c_bodies 2 = 12 := by decide +kernel
theorem c_bodies_3 : c_bodies 3 = 0 := by decide +kernel
theorem c_bodies_4 : c_bodies 4 = 20 := by decide +kernel
theorem c_bodies_5 : c_bodies 5 = 0 := by decide +kernel
theorem c_bodies_6 : c_bodies 6 = 30 := by decide +kernel
theorem c_bodies_7 : c_bodies 7 = 0 := by decide +kernel
theorem c_bodies_8 : c_bodies 8 = 0 := by decide +kernel
theorem c_bodies_9 : c_bodies 9 = 0 := by decide +kernel
theorem c_bodies_10 : c_bodies 10 = 0 := by decide +kernel
theorem c_bodies_11 : c_bodies 11 = 40 := by decide +kernel
theorem c_bodies_12 : c_bodies 12 = 50 := by decide +kernel
theorem c_bodies_13 : c_bodies 13 = 51 := by decide +kernel
theorem c_bodies_14 : c_bodies 14 = 0 := by decide +kernel
theorem c_bodies_15 : c_bodies 15 = 0 := by decide +kernel
theorem c_bodies_16 : c_bodies 16 = 0 := by decide +kernel
theorem c_bodies_17 : c_bodies 17 = 60 := by decide +kernel
theorem c_bodies_18 : c_bodies 18 = 71 := by decide +kernel
theorem c_bodies_19 : c_bodies 19 = 70 := by decide +kernel
theorem c_bodies_20 : c_bodies 20 = 0 := by decide +kernel
/-- the cells of the reference at b, by their offsets -/
def mcl (b : Nat) (sc : Nat → Int32) (ar : Nat → Nat → Int32) (lg : Nat → Nat → Int64) : Nat → Option AE
  | 0 => some (.inr (12, [.ref (b + 1), .ref (b + 2), .ref (b + 3), .int (sc 0), .ref (b + 4), .int (sc 1), .ref (b + 5), .ref (b + 6), .int (sc 2), .ref (b + 7), .int (sc 3), .int (sc 4), .int (sc 5), .int (sc 6), .int (sc 7), .int (sc 8), .ref (b + 8), .ref (b + 9), .ref (b + 10), .ref (b + 11), .ref (b + 12), .ref (b + 13), .ref (b + 14), .ref (b + 15), .int (sc 9), .ref (b + 16), .ref (b + 17), .ref (b + 18), .ref (b + 19)]))
  | 1 => some (.inl (2, 120, .inl (ar 1)))
  | 2 => some (.inl (2, 120, .inl (ar 2)))
  | 3 => some (.inl (2, 120, .inl (ar 3)))
  | 4 => some (.inl (2, 100, .inl (ar 4)))
  | 5 => some (.inl (2, 600, .inl (ar 5)))
  | 6 => some (.inl (2, 6, .inl (ar 6)))
  | 7 => some (.inl (2, 100, .inl (ar 7)))
  | 8 => some (.inl (2, 6, .inl (ar 8)))
  | 9 => some (.inl (1, 6, .inl c_letters))
  | 10 => some (.inl (1, 3, .inl c_begins))
  | 11 => some (.inl (1, 15, .inl c_words))
  | 12 => some (.inl (2, 12, .inl (ar 12)))
  | 13 => some (.inl (2, 7, .inl c_above))
  | 14 => some (.inl (2, 21, .inl c_bodies))
  | 15 => some (.inl (2, 20, .inl (ar 15)))
  | 16 => some (.inl (2, 6, .inl (ar 16)))
  | 17 => some (.inl (2, 6, .inl (ar 17)))
  | 18 => some (.inl (3, 360, .inr (.inl (lg 18))))
  | 19 => some (.inl (3, 60, .inr (.inl (lg 19))))
  | _ => none
def ov (b : Nat) (sc : Nat → Int32) (ar : Nat → Nat → Int32) (lg : Nat → Nat → Int64) (G : Nat → Option AE) : Nat → Option AE := fun a => if a < b then G a else if a < b + 20 then mcl b sc ar lg (a - b) else G a
def MH (b : Nat) (sc : Nat → Int32) (ar : Nat → Nat → Int32) (lg : Nat → Nat → Int64) (G : Nat → Option AE) (z : Nat × Nat) : HS := (ov b sc ar lg G, z)
section
variable {b : Nat} {sc : Nat → Int32} {ar : Nat → Nat → Int32} {lg : Nat → Nat → Int64} {G : Nat → Option AE} {z : Nat × Nat} {V : Nat → Option AE}
theorem MH_k (k : Nat) (hk : k < 20) : (MH b sc ar lg G z).1 (b + k) = mcl b sc ar lg k := by
  show ov b sc ar lg G (b + k) = _
  unfold ov
  rw [if_neg (by omega), if_pos (by omega), Nat.add_sub_cancel_left]
theorem MH_0 : (MH b sc ar lg G z).1 b = mcl b sc ar lg 0 := MH_k 0 (by decide)
theorem MH_out {a : Nat} (h : a < b ∨ b + 20 ≤ a) : (MH b sc ar lg G z).1 a = G a := by
  show ov b sc ar lg G a = _
  unfold ov
  by_cases h1 : a < b
  · rw [if_pos h1]
  · rw [if_neg h1, if_neg (by omega)]
theorem MH_put {k : Nat} (hk : k < 20) {sc' : Nat → Int32} {ar' : Nat → Nat → Int32} {lg' : Nat → Nat → Int64} {e : AE} (h1 : mcl b sc' ar' lg' k = some e) (h2 : ∀ j, j ≠ k → mcl b sc' ar' lg' j = mcl b sc ar lg j) : hput (MH b sc ar lg G z) (b + k) e = MH b sc' ar' lg' G z := by
  refine Prod.ext (funext fun a => ?_) rfl
  show va_up (ov b sc ar lg G) (b + k) (some e) a = ov b sc' ar' lg' G a
  unfold va_up ov
  by_cases ea : a = b + k
  · subst ea
    rw [if_pos rfl, if_neg (by omega), if_pos (by omega), Nat.add_sub_cancel_left, h1]
  · rw [if_neg ea]
    by_cases q1 : a < b
    · rw [if_pos q1, if_pos q1]
    · rw [if_neg q1, if_neg q1]
      by_cases q2 : a < b + 20
      · rw [if_pos q2, if_pos q2, h2 _ (by omega)]
      · rw [if_neg q2, if_neg q2]
theorem mcl_ar {k : Nat} (hk : k ≠ 0) (f : Nat → Int32) : ∀ j, j ≠ k → mcl b sc (va_up ar k f) lg j = mcl b sc ar lg j := by
  intro j hj
  match j with
  | 0 => rfl
  | 1 => simp only [mcl, va_up, if_neg hj]
  | 2 => simp only [mcl, va_up, if_neg hj]
  | 3 => simp only [mcl, va_up, if_neg hj]
  | 4 => simp only [mcl, va_up, if_neg hj]
  | 5 => simp only [mcl, va_up, if_neg hj]
  | 6 => simp only [mcl, va_up, if_neg hj]
  | 7 => simp only [mcl, va_up, if_neg hj]
  | 8 => simp only [mcl, va_up, if_neg hj]
  | 9 => rfl
  | 10 => rfl
  | 11 => rfl
  | 12 => simp only [mcl, va_up, if_neg hj]
  | 13 => rfl
  | 14 => rfl
  | 15 => simp only [mcl, va_up, if_neg hj]
  | 16 => simp only [mcl, va_up, if_neg hj]
  | 17 => simp only [mcl, va_up, if_neg hj]
  | 18 => rfl
  | 19 => rfl
  | j + 20 => rfl
theorem mcl_lg {k : Nat} (f : Nat → Int64) : ∀ j, j ≠ k → mcl b sc ar (va_up lg k f) j = mcl b sc ar lg j := by
  intro j hj
  match j with
  | 0 => rfl
  | 1 => rfl
  | 2 => rfl
  | 3 => rfl
  | 4 => rfl
  | 5 => rfl
  | 6 => rfl
  | 7 => rfl
  | 8 => rfl
  | 9 => rfl
  | 10 => rfl
  | 11 => rfl
  | 12 => rfl
  | 13 => rfl
  | 14 => rfl
  | 15 => rfl
  | 16 => rfl
  | 17 => rfl
  | 18 => simp only [mcl, va_up, if_neg hj]
  | 19 => simp only [mcl, va_up, if_neg hj]
  | j + 20 => rfl
theorem mcl_sc {k : Nat} (v : Int32) : ∀ j, j ≠ 0 → mcl b (va_up sc k v) ar lg j = mcl b sc ar lg j := by
  intro j hj
  match j with
  | 0 => exact absurd rfl hj
  | 1 => rfl
  | 2 => rfl
  | 3 => rfl
  | 4 => rfl
  | 5 => rfl
  | 6 => rfl
  | 7 => rfl
  | 8 => rfl
  | 9 => rfl
  | 10 => rfl
  | 11 => rfl
  | 12 => rfl
  | 13 => rfl
  | 14 => rfl
  | 15 => rfl
  | 16 => rfl
  | 17 => rfl
  | 18 => rfl
  | 19 => rfl
  | j + 20 => rfl
theorem mg_now {K : Value → Prop} : gf [12] 0 (MH b sc ar lg G z) b K = K (.ref (b + 1)) := by
  simp only [gf, MH_0, mcl]
  rfl
theorem mg_mind {K : Value → Prop} : gf [12] 1 (MH b sc ar lg G z) b K = K (.ref (b + 2)) := by
  simp only [gf, MH_0, mcl]
  rfl
theorem mg_then {K : Value → Prop} : gf [12] 2 (MH b sc ar lg G z) b K = K (.ref (b + 3)) := by
  simp only [gf, MH_0, mcl]
  rfl
theorem mg_kept {K : Value → Prop} : gf [12] 3 (MH b sc ar lg G z) b K = K (.int (sc 0)) := by
  simp only [gf, MH_0, mcl]
  rfl
theorem mp_kept {v : Int32} {K : HS → Prop} (hv : okv 1 (.int v) = true) : pf [12] 3 1 (.int v) (MH b sc ar lg G z) b K = K (MH b (va_up sc 0 v) ar lg G z) := by
  simp only [pf, MH_0, mcl]
  rw [if_pos ⟨by decide, by simp, hv⟩]
  exact congrArg K (MH_put (k := 0) (by decide) rfl (mcl_sc v))
theorem mg_text {K : Value → Prop} : gf [12] 4 (MH b sc ar lg G z) b K = K (.ref (b + 4)) := by
  simp only [gf, MH_0, mcl]
  rfl
theorem mg_texted {K : Value → Prop} : gf [12] 5 (MH b sc ar lg G z) b K = K (.int (sc 1)) := by
  simp only [gf, MH_0, mcl]
  rfl
theorem mp_texted {v : Int32} {K : HS → Prop} : pf [12] 5 0 (.int v) (MH b sc ar lg G z) b K = K (MH b (va_up sc 1 v) ar lg G z) := by
  simp only [pf, MH_0, mcl]
  rw [if_pos ⟨by decide, by simp, (rfl : okv 0 (.int v) = true)⟩]
  exact congrArg K (MH_put (k := 0) (by decide) rfl (mcl_sc v))
theorem mg_rules {K : Value → Prop} : gf [12] 6 (MH b sc ar lg G z) b K = K (.ref (b + 5)) := by
  simp only [gf, MH_0, mcl]
  rfl
theorem mg_sizes {K : Value → Prop} : gf [12] 7 (MH b sc ar lg G z) b K = K (.ref (b + 6)) := by
  simp only [gf, MH_0, mcl]
  rfl
theorem mg_ruled {K : Value → Prop} : gf [12] 8 (MH b sc ar lg G z) b K = K (.int (sc 2)) := by
  simp only [gf, MH_0, mcl]
  rfl
theorem mp_ruled {v : Int32} {K : HS → Prop} : pf [12] 8 0 (.int v) (MH b sc ar lg G z) b K = K (MH b (va_up sc 2 v) ar lg G z) := by
  simp only [pf, MH_0, mcl]
  rw [if_pos ⟨by decide, by simp, (rfl : okv 0 (.int v) = true)⟩]
  exact congrArg K (MH_put (k := 0) (by decide) rfl (mcl_sc v))
theorem mg_read {K : Value → Prop} : gf [12] 9 (MH b sc ar lg G z) b K = K (.ref (b + 7)) := by
  simp only [gf, MH_0, mcl]
  rfl
theorem mg_size {K : Value → Prop} : gf [12] 10 (MH b sc ar lg G z) b K = K (.int (sc 3)) := by
  simp only [gf, MH_0, mcl]
  rfl
theorem mp_size {v : Int32} {K : HS → Prop} : pf [12] 10 0 (.int v) (MH b sc ar lg G z) b K = K (MH b (va_up sc 3 v) ar lg G z) := by
  simp only [pf, MH_0, mcl]
  rw [if_pos ⟨by decide, by simp, (rfl : okv 0 (.int v) = true)⟩]
  exact congrArg K (MH_put (k := 0) (by decide) rfl (mcl_sc v))
theorem mg_at {K : Value → Prop} : gf [12] 11 (MH b sc ar lg G z) b K = K (.int (sc 4)) := by
  simp only [gf, MH_0, mcl]
  rfl
theorem mp_at {v : Int32} {K : HS → Prop} : pf [12] 11 0 (.int v) (MH b sc ar lg G z) b K = K (MH b (va_up sc 4 v) ar lg G z) := by
  simp only [pf, MH_0, mcl]
  rw [if_pos ⟨by decide, by simp, (rfl : okv 0 (.int v) = true)⟩]
  exact congrArg K (MH_put (k := 0) (by decide) rfl (mcl_sc v))
theorem mg_well {K : Value → Prop} : gf [12] 12 (MH b sc ar lg G z) b K = K (.int (sc 5)) := by
  simp only [gf, MH_0, mcl]
  rfl
theorem mp_well {v : Int32} {K : HS → Prop} (hv : okv 1 (.int v) = true) : pf [12] 12 1 (.int v) (MH b sc ar lg G z) b K = K (MH b (va_up sc 5 v) ar lg G z) := by
  simp only [pf, MH_0, mcl]
  rw [if_pos ⟨by decide, by simp, hv⟩]
  exact congrArg K (MH_put (k := 0) (by decide) rfl (mcl_sc v))
theorem mg_within {K : Value → Prop} : gf [12] 13 (MH b sc ar lg G z) b K = K (.int (sc 6)) := by
  simp only [gf, MH_0, mcl]
  rfl
theorem mp_within {v : Int32} {K : HS → Prop} : pf [12] 13 0 (.int v) (MH b sc ar lg G z) b K = K (MH b (va_up sc 6 v) ar lg G z) := by
  simp only [pf, MH_0, mcl]
  rw [if_pos ⟨by decide, by simp, (rfl : okv 0 (.int v) = true)⟩]
  exact congrArg K (MH_put (k := 0) (by decide) rfl (mcl_sc v))
theorem mg_sum {K : Value → Prop} : gf [12] 14 (MH b sc ar lg G z) b K = K (.int (sc 7)) := by
  simp only [gf, MH_0, mcl]
  rfl
theorem mp_sum {v : Int32} {K : HS → Prop} : pf [12] 14 0 (.int v) (MH b sc ar lg G z) b K = K (MH b (va_up sc 7 v) ar lg G z) := by
  simp only [pf, MH_0, mcl]
  rw [if_pos ⟨by decide, by simp, (rfl : okv 0 (.int v) = true)⟩]
  exact congrArg K (MH_put (k := 0) (by decide) rfl (mcl_sc v))
theorem mg_free {K : Value → Prop} : gf [12] 15 (MH b sc ar lg G z) b K = K (.int (sc 8)) := by
  simp only [gf, MH_0, mcl]
  rfl
theorem mp_free {v : Int32} {K : HS → Prop} : pf [12] 15 0 (.int v) (MH b sc ar lg G z) b K = K (MH b (va_up sc 8 v) ar lg G z) := by
  simp only [pf, MH_0, mcl]
  rw [if_pos ⟨by decide, by simp, (rfl : okv 0 (.int v) = true)⟩]
  exact congrArg K (MH_put (k := 0) (by decide) rfl (mcl_sc v))
theorem mg_names {K : Value → Prop} : gf [12] 16 (MH b sc ar lg G z) b K = K (.ref (b + 8)) := by
  simp only [gf, MH_0, mcl]
  rfl
theorem mg_letters {K : Value → Prop} : gf [12] 17 (MH b sc ar lg G z) b K = K (.ref (b + 9)) := by
  simp only [gf, MH_0, mcl]
  rfl
theorem mg_begins {K : Value → Prop} : gf [12] 18 (MH b sc ar lg G z) b K = K (.ref (b + 10)) := by
  simp only [gf, MH_0, mcl]
  rfl
theorem mg_words {K : Value → Prop} : gf [12] 19 (MH b sc ar lg G z) b K = K (.ref (b + 11)) := by
  simp only [gf, MH_0, mcl]
  rfl
theorem mg_sums {K : Value → Prop} : gf [12] 20 (MH b sc ar lg G z) b K = K (.ref (b + 12)) := by
  simp only [gf, MH_0, mcl]
  rfl
theorem mg_above {K : Value → Prop} : gf [12] 21 (MH b sc ar lg G z) b K = K (.ref (b + 13)) := by
  simp only [gf, MH_0, mcl]
  rfl
theorem mg_bodies {K : Value → Prop} : gf [12] 22 (MH b sc ar lg G z) b K = K (.ref (b + 14)) := by
  simp only [gf, MH_0, mcl]
  rfl
theorem mg_trace {K : Value → Prop} : gf [12] 23 (MH b sc ar lg G z) b K = K (.ref (b + 15)) := by
  simp only [gf, MH_0, mcl]
  rfl
theorem mg_ran {K : Value → Prop} : gf [12] 24 (MH b sc ar lg G z) b K = K (.int (sc 9)) := by
  simp only [gf, MH_0, mcl]
  rfl
theorem mp_ran {v : Int32} {K : HS → Prop} : pf [12] 24 0 (.int v) (MH b sc ar lg G z) b K = K (MH b (va_up sc 9 v) ar lg G z) := by
  simp only [pf, MH_0, mcl]
  rw [if_pos ⟨by decide, by simp, (rfl : okv 0 (.int v) = true)⟩]
  exact congrArg K (MH_put (k := 0) (by decide) rfl (mcl_sc v))
theorem mg_sorts {K : Value → Prop} : gf [12] 25 (MH b sc ar lg G z) b K = K (.ref (b + 16)) := by
  simp only [gf, MH_0, mcl]
  rfl
theorem mg_lengths {K : Value → Prop} : gf [12] 26 (MH b sc ar lg G z) b K = K (.ref (b + 17)) := by
  simp only [gf, MH_0, mcl]
  rfl
theorem mg_items {K : Value → Prop} : gf [12] 27 (MH b sc ar lg G z) b K = K (.ref (b + 18)) := by
  simp only [gf, MH_0, mcl]
  rfl
theorem mg_moved {K : Value → Prop} : gf [12] 28 (MH b sc ar lg G z) b K = K (.ref (b + 19)) := by
  simp only [gf, MH_0, mcl]
  rfl
theorem ma_now {i : Int32} {K : Int32 → Prop} : ai 2 i V (MH b sc ar lg G z) (b + 1) K = (ix i 120 ∧ K (ar 1 i.toNatClampNeg)) := by
  simp only [ai, lk, MH_k 1 (by decide), mcl, true_and]
theorem ms_now {i x : Int32} {K : HS → Prop} : si 2 i x (MH b sc ar lg G z) (b + 1) K = (ix i 120 ∧ K (MH b sc (va_up ar 1 (upd (ar 1) i.toNatClampNeg x)) lg G z)) := by
  simp only [si, MH_k 1 (by decide), mcl, true_and]
  rw [MH_put (k := 1) (by decide) (sc' := sc) (ar' := va_up ar 1 (upd (ar 1) i.toNatClampNeg x)) (lg' := lg) (by simp only [mcl, va_up, if_true]) (mcl_ar (by decide) _)]
theorem ma_mind {i : Int32} {K : Int32 → Prop} : ai 2 i V (MH b sc ar lg G z) (b + 2) K = (ix i 120 ∧ K (ar 2 i.toNatClampNeg)) := by
  simp only [ai, lk, MH_k 2 (by decide), mcl, true_and]
theorem ms_mind {i x : Int32} {K : HS → Prop} : si 2 i x (MH b sc ar lg G z) (b + 2) K = (ix i 120 ∧ K (MH b sc (va_up ar 2 (upd (ar 2) i.toNatClampNeg x)) lg G z)) := by
  simp only [si, MH_k 2 (by decide), mcl, true_and]
  rw [MH_put (k := 2) (by decide) (sc' := sc) (ar' := va_up ar 2 (upd (ar 2) i.toNatClampNeg x)) (lg' := lg) (by simp only [mcl, va_up, if_true]) (mcl_ar (by decide) _)]
theorem ma_then {i : Int32} {K : Int32 → Prop} : ai 2 i V (MH b sc ar lg G z) (b + 3) K = (ix i 120 ∧ K (ar 3 i.toNatClampNeg)) := by
  simp only [ai, lk, MH_k 3 (by decide), mcl, true_and]
theorem ms_then {i x : Int32} {K : HS → Prop} : si 2 i x (MH b sc ar lg G z) (b + 3) K = (ix i 120 ∧ K (MH b sc (va_up ar 3 (upd (ar 3) i.toNatClampNeg x)) lg G z)) := by
  simp only [si, MH_k 3 (by decide), mcl, true_and]
  rw [MH_put (k := 3) (by decide) (sc' := sc) (ar' := va_up ar 3 (upd (ar 3) i.toNatClampNeg x)) (lg' := lg) (by simp only [mcl, va_up, if_true]) (mcl_ar (by decide) _)]
theorem ma_text {i : Int32} {K : Int32 → Prop} : ai 2 i V (MH b sc ar lg G z) (b + 4) K = (ix i 100 ∧ K (ar 4 i.toNatClampNeg)) := by
  simp only [ai, lk, MH_k 4 (by decide), mcl, true_and]
theorem ms_text {i x : Int32} {K : HS → Prop} : si 2 i x (MH b sc ar lg G z) (b + 4) K = (ix i 100 ∧ K (MH b sc (va_up ar 4 (upd (ar 4) i.toNatClampNeg x)) lg G z)) := by
  simp only [si, MH_k 4 (by decide), mcl, true_and]
  rw [MH_put (k := 4) (by decide) (sc' := sc) (ar' := va_up ar 4 (upd (ar 4) i.toNatClampNeg x)) (lg' := lg) (by simp only [mcl, va_up, if_true]) (mcl_ar (by decide) _)]
theorem ma_rules {i : Int32} {K : Int32 → Prop} : ai 2 i V (MH b sc ar lg G z) (b + 5) K = (ix i 600 ∧ K (ar 5 i.toNatClampNeg)) := by
  simp only [ai, lk, MH_k 5 (by decide), mcl, true_and]
theorem ms_rules {i x : Int32} {K : HS → Prop} : si 2 i x (MH b sc ar lg G z) (b + 5) K = (ix i 600 ∧ K (MH b sc (va_up ar 5 (upd (ar 5) i.toNatClampNeg x)) lg G z)) := by
  simp only [si, MH_k 5 (by decide), mcl, true_and]
  rw [MH_put (k := 5) (by decide) (sc' := sc) (ar' := va_up ar 5 (upd (ar 5) i.toNatClampNeg x)) (lg' := lg) (by simp only [mcl, va_up, if_true]) (mcl_ar (by decide) _)]
theorem ma_sizes {i : Int32} {K : Int32 → Prop} : ai 2 i V (MH b sc ar lg G z) (b + 6) K = (ix i 6 ∧ K (ar 6 i.toNatClampNeg)) := by
  simp only [ai, lk, MH_k 6 (by decide), mcl, true_and]
theorem ms_sizes {i x : Int32} {K : HS → Prop} : si 2 i x (MH b sc ar lg G z) (b + 6) K = (ix i 6 ∧ K (MH b sc (va_up ar 6 (upd (ar 6) i.toNatClampNeg x)) lg G z)) := by
  simp only [si, MH_k 6 (by decide), mcl, true_and]
  rw [MH_put (k := 6) (by decide) (sc' := sc) (ar' := va_up ar 6 (upd (ar 6) i.toNatClampNeg x)) (lg' := lg) (by simp only [mcl, va_up, if_true]) (mcl_ar (by decide) _)]
theorem ma_read {i : Int32} {K : Int32 → Prop} : ai 2 i V (MH b sc ar lg G z) (b + 7) K = (ix i 100 ∧ K (ar 7 i.toNatClampNeg)) := by
  simp only [ai, lk, MH_k 7 (by decide), mcl, true_and]
theorem ms_read {i x : Int32} {K : HS → Prop} : si 2 i x (MH b sc ar lg G z) (b + 7) K = (ix i 100 ∧ K (MH b sc (va_up ar 7 (upd (ar 7) i.toNatClampNeg x)) lg G z)) := by
  simp only [si, MH_k 7 (by decide), mcl, true_and]
  rw [MH_put (k := 7) (by decide) (sc' := sc) (ar' := va_up ar 7 (upd (ar 7) i.toNatClampNeg x)) (lg' := lg) (by simp only [mcl, va_up, if_true]) (mcl_ar (by decide) _)]
theorem ma_names {i : Int32} {K : Int32 → Prop} : ai 2 i V (MH b sc ar lg G z) (b + 8) K = (ix i 6 ∧ K (ar 8 i.toNatClampNeg)) := by
  simp only [ai, lk, MH_k 8 (by decide), mcl, true_and]
theorem ms_names {i x : Int32} {K : HS → Prop} : si 2 i x (MH b sc ar lg G z) (b + 8) K = (ix i 6 ∧ K (MH b sc (va_up ar 8 (upd (ar 8) i.toNatClampNeg x)) lg G z)) := by
  simp only [si, MH_k 8 (by decide), mcl, true_and]
  rw [MH_put (k := 8) (by decide) (sc' := sc) (ar' := va_up ar 8 (upd (ar 8) i.toNatClampNeg x)) (lg' := lg) (by simp only [mcl, va_up, if_true]) (mcl_ar (by decide) _)]
theorem ma_letters {i : Int32} {K : Int32 → Prop} : ai 1 i V (MH b sc ar lg G z) (b + 9) K = (ix i 6 ∧ K (c_letters i.toNatClampNeg)) := by
  simp only [ai, lk, MH_k 9 (by decide), mcl, true_and]
theorem ma_begins {i : Int32} {K : Int32 → Prop} : ai 1 i V (MH b sc ar lg G z) (b + 10) K = (ix i 3 ∧ K (c_begins i.toNatClampNeg)) := by
  simp only [ai, lk, MH_k 10 (by decide), mcl, true_and]
theorem ma_words {i : Int32} {K : Int32 → Prop} : ai 1 i V (MH b sc ar lg G z) (b + 11) K = (ix i 15 ∧ K (c_words i.toNatClampNeg)) := by
  simp only [ai, lk, MH_k 11 (by decide), mcl, true_and]
theorem ma_sums {i : Int32} {K : Int32 → Prop} : ai 2 i V (MH b sc ar lg G z) (b + 12) K = (ix i 12 ∧ K (ar 12 i.toNatClampNeg)) := by
  simp only [ai, lk, MH_k 12 (by decide), mcl, true_and]
theorem ms_sums {i x : Int32} {K : HS → Prop} : si 2 i x (MH b sc ar lg G z) (b + 12) K = (ix i 12 ∧ K (MH b sc (va_up ar 12 (upd (ar 12) i.toNatClampNeg x)) lg G z)) := by
  simp only [si, MH_k 12 (by decide), mcl, true_and]
  rw [MH_put (k := 12) (by decide) (sc' := sc) (ar' := va_up ar 12 (upd (ar 12) i.toNatClampNeg x)) (lg' := lg) (by simp only [mcl, va_up, if_true]) (mcl_ar (by decide) _)]
theorem ma_above {i : Int32} {K : Int32 → Prop} : ai 2 i V (MH b sc ar lg G z) (b + 13) K = (ix i 7 ∧ K (c_above i.toNatClampNeg)) := by
  simp only [ai, lk, MH_k 13 (by decide), mcl, true_and]
theorem ma_bodies {i : Int32} {K : Int32 → Prop} : ai 2 i V (MH b sc ar lg G z) (b + 14) K = (ix i 21 ∧ K (c_bodies i.toNatClampNeg)) := by
  simp only [ai, lk, MH_k 14 (by decide), mcl, true_and]
theorem ma_trace {i : Int32} {K : Int32 → Prop} : ai 2 i V (MH b sc ar lg G z) (b + 15) K = (ix i 20 ∧ K (ar 15 i.toNatClampNeg)) := by
  simp only [ai, lk, MH_k 15 (by decide), mcl, true_and]
theorem ms_trace {i x : Int32} {K : HS → Prop} : si 2 i x (MH b sc ar lg G z) (b + 15) K = (ix i 20 ∧ K (MH b sc (va_up ar 15 (upd (ar 15) i.toNatClampNeg x)) lg G z)) := by
  simp only [si, MH_k 15 (by decide), mcl, true_and]
  rw [MH_put (k := 15) (by decide) (sc' := sc) (ar' := va_up ar 15 (upd (ar 15) i.toNatClampNeg x)) (lg' := lg) (by simp only [mcl, va_up, if_true]) (mcl_ar (by decide) _)]
theorem ma_sorts {i : Int32} {K : Int32 → Prop} : ai 2 i V (MH b sc ar lg G z) (b + 16) K = (ix i 6 ∧ K (ar 16 i.toNatClampNeg)) := by
  simp only [ai, lk, MH_k 16 (by decide), mcl, true_and]
theorem ms_sorts {i x : Int32} {K : HS → Prop} : si 2 i x (MH b sc ar lg G z) (b + 16) K = (ix i 6 ∧ K (MH b sc (va_up ar 16 (upd (ar 16) i.toNatClampNeg x)) lg G z)) := by
  simp only [si, MH_k 16 (by decide), mcl, true_and]
  rw [MH_put (k := 16) (by decide) (sc' := sc) (ar' := va_up ar 16 (upd (ar 16) i.toNatClampNeg x)) (lg' := lg) (by simp only [mcl, va_up, if_true]) (mcl_ar (by decide) _)]
theorem ma_lengths {i : Int32} {K : Int32 → Prop} : ai 2 i V (MH b sc ar lg G z) (b + 17) K = (ix i 6 ∧ K (ar 17 i.toNatClampNeg)) := by
  simp only [ai, lk, MH_k 17 (by decide), mcl, true_and]
theorem ms_lengths {i x : Int32} {K : HS → Prop} : si 2 i x (MH b sc ar lg G z) (b + 17) K = (ix i 6 ∧ K (MH b sc (va_up ar 17 (upd (ar 17) i.toNatClampNeg x)) lg G z)) := by
  simp only [si, MH_k 17 (by decide), mcl, true_and]
  rw [MH_put (k := 17) (by decide) (sc' := sc) (ar' := va_up ar 17 (upd (ar 17) i.toNatClampNeg x)) (lg' := lg) (by simp only [mcl, va_up, if_true]) (mcl_ar (by decide) _)]
theorem ma_items {i : Int32} {K : Int64 → Prop} : al i (MH b sc ar lg G z) (b + 18) K = (ix i 360 ∧ K (lg 18 i.toNatClampNeg)) := by
  simp only [al, MH_k 18 (by decide), mcl]
theorem ms_items {i : Int32} {x : Int64} {K : HS → Prop} : sl i x (MH b sc ar lg G z) (b + 18) K = (ix i 360 ∧ K (MH b sc ar (va_up lg 18 (vp_updL (lg 18) i.toNatClampNeg x)) G z)) := by
  simp only [sl, MH_k 18 (by decide), mcl]
  rw [MH_put (k := 18) (by decide) (sc' := sc) (ar' := ar) (lg' := va_up lg 18 (vp_updL (lg 18) i.toNatClampNeg x)) (by simp only [mcl, va_up, if_true]) (mcl_lg _)]
theorem ma_moved {i : Int32} {K : Int64 → Prop} : al i (MH b sc ar lg G z) (b + 19) K = (ix i 60 ∧ K (lg 19 i.toNatClampNeg)) := by
  simp only [al, MH_k 19 (by decide), mcl]
theorem ms_moved {i : Int32} {x : Int64} {K : HS → Prop} : sl i x (MH b sc ar lg G z) (b + 19) K = (ix i 60 ∧ K (MH b sc ar (va_up lg 19 (vp_updL (lg 19) i.toNatClampNeg x)) G z)) := by
  simp only [sl, MH_k 19 (by decide), mcl]
  rw [MH_put (k := 19) (by decide) (sc' := sc) (ar' := ar) (lg' := va_up lg 19 (vp_updL (lg 19) i.toNatClampNeg x)) (by simp only [mcl, va_up, if_true]) (mcl_lg _)]
theorem mcv {y' : Nat} {K : Nat → Prop} : cv [(12, y')] (MH b sc ar lg G z) b K = K y' := by
  simp only [cv, MH_0, mcl, tabl, if_true]
end
theorem cl_0 : (0 : Int32).toNatClampNeg = 0 := by decide
theorem cl_1 : (1 : Int32).toNatClampNeg = 1 := by decide
theorem cl_2 : (2 : Int32).toNatClampNeg = 2 := by decide
theorem cl_3 : (3 : Int32).toNatClampNeg = 3 := by decide
theorem cl_4 : (4 : Int32).toNatClampNeg = 4 := by decide
theorem cl_5 : (5 : Int32).toNatClampNeg = 5 := by decide
theorem cl_6 : (6 : Int32).toNatClampNeg = 6 := by decide
theorem cl_7 : (7 : Int32).toNatClampNeg = 7 := by decide
theorem cl_8 : (8 : Int32).toNatClampNeg = 8 := by decide
theorem cl_9 : (9 : Int32).toNatClampNeg = 9 := by decide
theorem cl_10 : (10 : Int32).toNatClampNeg = 10 := by decide
theorem cl_11 : (11 : Int32).toNatClampNeg = 11 := by decide
theorem cl_12 : (12 : Int32).toNatClampNeg = 12 := by decide
theorem cl_13 : (13 : Int32).toNatClampNeg = 13 := by decide
theorem cl_14 : (14 : Int32).toNatClampNeg = 14 := by decide
theorem cl_15 : (15 : Int32).toNatClampNeg = 15 := by decide
theorem cl_16 : (16 : Int32).toNatClampNeg = 16 := by decide
theorem cl_17 : (17 : Int32).toNatClampNeg = 17 := by decide
theorem cl_18 : (18 : Int32).toNatClampNeg = 18 := by decide
theorem cl_19 : (19 : Int32).toNatClampNeg = 19 := by decide
theorem cl_20 : (20 : Int32).toNatClampNeg = 20 := by decide
theorem cl_21 : (21 : Int32).toNatClampNeg = 21 := by decide
theorem cl_22 : (22 : Int32).toNatClampNeg = 22 := by decide
theorem cl_23 : (23 : Int32).toNatClampNeg = 23 := by decide
theorem cl_24 : (24 : Int32).toNatClampNeg = 24 := by decide
theorem cl_25 : (25 : Int32).toNatClampNeg = 25 := by decide
theorem cl_26 : (26 : Int32).toNatClampNeg = 26 := by decide
theorem cl_27 : (27 : Int32).toNatClampNeg = 27 := by decide
theorem cl_28 : (28 : Int32).toNatClampNeg = 28 := by decide
theorem cl_29 : (29 : Int32).toNatClampNeg = 29 := by decide
theorem cl_30 : (30 : Int32).toNatClampNeg = 30 := by decide
theorem cl_31 : (31 : Int32).toNatClampNeg = 31 := by decide
theorem cl_68 : (68 : Int32).toNatClampNeg = 68 := by decide
theorem cl_69 : (69 : Int32).toNatClampNeg = 69 := by decide
theorem cl_70 : (70 : Int32).toNatClampNeg = 70 := by decide
theorem cl_71 : (71 : Int32).toNatClampNeg = 71 := by decide
theorem cl_82 : (82 : Int32).toNatClampNeg = 82 := by decide
theorem cl_103 : (103 : Int32).toNatClampNeg = 103 := by decide
theorem ix_0_120 : ix 0 120 = True := eq_true (by unfold ix; decide)
theorem ix_1_120 : ix 1 120 = True := eq_true (by unfold ix; decide)
theorem ix_2_120 : ix 2 120 = True := eq_true (by unfold ix; decide)
theorem ix_3_120 : ix 3 120 = True := eq_true (by unfold ix; decide)
theorem ix_4_120 : ix 4 120 = True := eq_true (by unfold ix; decide)
theorem ix_5_120 : ix 5 120 = True := eq_true (by unfold ix; decide)
theorem ix_6_120 : ix 6 120 = True := eq_true (by unfold ix; decide)
theorem ix_7_120 : ix 7 120 = True := eq_true (by unfold ix; decide)
theorem ix_8_120 : ix 8 120 = True := eq_true (by unfold ix; decide)
theorem ix_9_120 : ix 9 120 = True := eq_true (by unfold ix; decide)
theorem ix_10_120 : ix 10 120 = True := eq_true (by unfold ix; decide)
theorem ix_11_120 : ix 11 120 = True := eq_true (by unfold ix; decide)
theorem ix_12_120 : ix 12 120 = True := eq_true (by unfold ix; decide)
theorem ix_13_120 : ix 13 120 = True := eq_true (by unfold ix; decide)
theorem ix_68_120 : ix 68 120 = True := eq_true (by unfold ix; decide)
theorem ix_69_120 : ix 69 120 = True := eq_true (by unfold ix; decide)
theorem ix_70_120 : ix 70 120 = True := eq_true (by unfold ix; decide)
theorem ix_71_120 : ix 71 120 = True := eq_true (by unfold ix; decide)
theorem ix_82_120 : ix 82 120 = True := eq_true (by unfold ix; decide)
theorem ix_103_120 : ix 103 120 = True := eq_true (by unfold ix; decide)
theorem ix_0_6 : ix 0 6 = True := eq_true (by unfold ix; decide)
theorem ix_1_6 : ix 1 6 = True := eq_true (by unfold ix; decide)
theorem ix_2_6 : ix 2 6 = True := eq_true (by unfold ix; decide)
theorem ix_3_6 : ix 3 6 = True := eq_true (by unfold ix; decide)
theorem ix_4_6 : ix 4 6 = True := eq_true (by unfold ix; decide)
theorem ix_5_6 : ix 5 6 = True := eq_true (by unfold ix; decide)
theorem ix_0_12 : ix 0 12 = True := eq_true (by unfold ix; decide)
theorem ix_1_12 : ix 1 12 = True := eq_true (by unfold ix; decide)
theorem ix_2_12 : ix 2 12 = True := eq_true (by unfold ix; decide)
theorem ix_3_12 : ix 3 12 = True := eq_true (by unfold ix; decide)
theorem ix_4_12 : ix 4 12 = True := eq_true (by unfold ix; decide)
theorem ix_5_12 : ix 5 12 = True := eq_true (by unfold ix; decide)
theorem ix_6_12 : ix 6 12 = True := eq_true (by unfold ix; decide)
theorem ix_7_12 : ix 7 12 = True := eq_true (by unfold ix; decide)
theorem ix_8_12 : ix 8 12 = True := eq_true (by unfold ix; decide)
theorem ix_9_12 : ix 9 12 = True := eq_true (by unfold ix; decide)
theorem ix_10_12 : ix 10 12 = True := eq_true (by unfold ix; decide)
theorem ix_11_12 : ix 11 12 = True := eq_true (by unfold ix; decide)
