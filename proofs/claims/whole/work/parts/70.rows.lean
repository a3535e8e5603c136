/-! Another world beside; persons and rows copied. -/
/-- the world at B2, among the other cells -/
def OW (LG : Nat → Nat) (C : Nat → Option AE) (B2 : Nat) (M2 F2 : Nat → Int32) (ex2 : Nat → Bool) (hd2 : Option Nat) : Prop := ∀ k, k < 25 → C (B2 + k) = wcl LG B2 M2 F2 ex2 hd2 k
section
variable {LG gr : Nat → Nat} {B : Nat} {M F : Nat → Int32} {ex : Nat → Bool} {hd : Option Nat} {C G : Nat → Option AE} {z : Nat × Nat} {V : Nat → Option AE}
variable {B2 : Nat} {M2 F2 : Nat → Int32} {ex2 : Nat → Bool} {hd2 : Option Nat}
theorem ow_k (hD : B2 + 25 ≤ B ∨ B + 25 ≤ B2) (hO : OW LG C B2 M2 F2 ex2 hd2) {k : Nat} (hk : k < 25) : WC LG B M F ex hd C (B2 + k) = wcl LG B2 M2 F2 ex2 hd2 k := (WC_out (by omega)).trans (hO k hk)
theorem ow_0 (hD : B2 + 25 ≤ B ∨ B + 25 ≤ B2) (hO : OW LG C B2 M2 F2 ex2 hd2) : WC LG B M F ex hd C B2 = wcl LG B2 M2 F2 ex2 hd2 0 := ow_k (k := 0) hD hO (by decide)
theorem xg_0 (hg : ∀ r, gr (LG r) = r) (hD : B2 + 25 ≤ B ∨ B + 25 ≤ B2) (hO : OW LG C B2 M2 F2 ex2 hd2) {K : Value → Prop} : gf [10] 0 (GW LG gr B M F ex hd C G z) (LG B2) K = K (.ref (LG (B2 + 1))) := r_gf hg (ow_0 hD hO) (by decide) rfl
theorem xg_1 (hg : ∀ r, gr (LG r) = r) (hD : B2 + 25 ≤ B ∨ B + 25 ≤ B2) (hO : OW LG C B2 M2 F2 ex2 hd2) {K : Value → Prop} : gf [10] 1 (GW LG gr B M F ex hd C G z) (LG B2) K = K (.ref (LG (B2 + 2))) := r_gf hg (ow_0 hD hO) (by decide) rfl
theorem xg_2 (hg : ∀ r, gr (LG r) = r) (hD : B2 + 25 ≤ B ∨ B + 25 ≤ B2) (hO : OW LG C B2 M2 F2 ex2 hd2) {K : Value → Prop} : gf [10] 2 (GW LG gr B M F ex hd C G z) (LG B2) K = K (.int (M2 68)) := r_gf hg (ow_0 hD hO) (by decide) rfl
theorem xg_3 (hg : ∀ r, gr (LG r) = r) (hD : B2 + 25 ≤ B ∨ B + 25 ≤ B2) (hO : OW LG C B2 M2 F2 ex2 hd2) {K : Value → Prop} : gf [10] 3 (GW LG gr B M F ex hd C G z) (LG B2) K = K (.int (M2 12)) := r_gf hg (ow_0 hD hO) (by decide) rfl
theorem xg_4 (hg : ∀ r, gr (LG r) = r) (hD : B2 + 25 ≤ B ∨ B + 25 ≤ B2) (hO : OW LG C B2 M2 F2 ex2 hd2) {K : Value → Prop} : gf [10] 4 (GW LG gr B M F ex hd C G z) (LG B2) K = K (.int (M2 13)) := r_gf hg (ow_0 hD hO) (by decide) rfl
theorem xg_5 (hg : ∀ r, gr (LG r) = r) (hD : B2 + 25 ≤ B ∨ B + 25 ≤ B2) (hO : OW LG C B2 M2 F2 ex2 hd2) {K : Value → Prop} : gf [10] 5 (GW LG gr B M F ex hd C G z) (LG B2) K = K (.int (M2 69)) := r_gf hg (ow_0 hD hO) (by decide) rfl
theorem xg_6 (hg : ∀ r, gr (LG r) = r) (hD : B2 + 25 ≤ B ∨ B + 25 ≤ B2) (hO : OW LG C B2 M2 F2 ex2 hd2) {K : Value → Prop} : gf [10] 6 (GW LG gr B M F ex hd C G z) (LG B2) K = K (.ref (LG (B2 + 3))) := r_gf hg (ow_0 hD hO) (by decide) rfl
theorem xg_7 (hg : ∀ r, gr (LG r) = r) (hD : B2 + 25 ≤ B ∨ B + 25 ≤ B2) (hO : OW LG C B2 M2 F2 ex2 hd2) {K : Value → Prop} : gf [10] 7 (GW LG gr B M F ex hd C G z) (LG B2) K = K (.ref (LG (B2 + 6))) := r_gf hg (ow_0 hD hO) (by decide) rfl
theorem xg_8 (hg : ∀ r, gr (LG r) = r) (hD : B2 + 25 ≤ B ∨ B + 25 ≤ B2) (hO : OW LG C B2 M2 F2 ex2 hd2) {K : Value → Prop} : gf [10] 8 (GW LG gr B M F ex hd C G z) (LG B2) K = K (.ref (LG (B2 + 9))) := r_gf hg (ow_0 hD hO) (by decide) rfl
theorem xg_9 (hg : ∀ r, gr (LG r) = r) (hD : B2 + 25 ≤ B ∨ B + 25 ≤ B2) (hO : OW LG C B2 M2 F2 ex2 hd2) {K : Value → Prop} : gf [10] 9 (GW LG gr B M F ex hd C G z) (LG B2) K = K (rfv LG hd2) := r_gf hg (ow_0 hD hO) (by decide) rfl
theorem xg_10 (hg : ∀ r, gr (LG r) = r) (hD : B2 + 25 ≤ B ∨ B + 25 ≤ B2) (hO : OW LG C B2 M2 F2 ex2 hd2) {K : Value → Prop} : gf [10] 10 (GW LG gr B M F ex hd C G z) (LG B2) K = K (.ref (LG (B2 + 12))) := r_gf hg (ow_0 hD hO) (by decide) rfl
theorem xa_1 (hg : ∀ r, gr (LG r) = r) (hD : B2 + 25 ≤ B ∨ B + 25 ≤ B2) (hO : OW LG C B2 M2 F2 ex2 hd2) {i : Int32} {K : Int32 → Prop} : ai 2 i V (GW LG gr B M F ex hd C G z) (LG (B2 + 1)) K = (ix i 12 ∧ K (M2 i.toNatClampNeg)) := by
  rw [r_ai hg (r := B2 + 1) (ow_k hD hO (by decide))]
  refine propext (and_congr_right (fun h => ?_))
  have h2 : i.toNatClampNeg < 12 := by
    unfold ix at h
    omega
  rw [ca_at h2, Nat.zero_add, Nat.one_mul]
theorem xa_4 (hg : ∀ r, gr (LG r) = r) (hD : B2 + 25 ≤ B ∨ B + 25 ≤ B2) (hO : OW LG C B2 M2 F2 ex2 hd2) {i : Int32} {K : Int32 → Prop} : ai 2 i V (GW LG gr B M F ex hd C G z) (LG (B2 + 4)) K = (ix i 5 ∧ K (M2 (72 + 2 * i.toNatClampNeg))) := by
  rw [r_ai hg (r := B2 + 4) (ow_k hD hO (by decide))]
  refine propext (and_congr_right (fun h => ?_))
  have h2 : i.toNatClampNeg < 5 := by
    unfold ix at h
    omega
  rw [ca_at h2]
theorem xa_5 (hg : ∀ r, gr (LG r) = r) (hD : B2 + 25 ≤ B ∨ B + 25 ≤ B2) (hO : OW LG C B2 M2 F2 ex2 hd2) {i : Int32} {K : Int32 → Prop} : ai 2 i V (GW LG gr B M F ex hd C G z) (LG (B2 + 5)) K = (ix i 5 ∧ K (M2 (73 + 2 * i.toNatClampNeg))) := by
  rw [r_ai hg (r := B2 + 5) (ow_k hD hO (by decide))]
  refine propext (and_congr_right (fun h => ?_))
  have h2 : i.toNatClampNeg < 5 := by
    unfold ix at h
    omega
  rw [ca_at h2]
theorem xa_7 (hg : ∀ r, gr (LG r) = r) (hD : B2 + 25 ≤ B ∨ B + 25 ≤ B2) (hO : OW LG C B2 M2 F2 ex2 hd2) {i : Int32} {K : Int32 → Prop} : ai 2 i V (GW LG gr B M F ex hd C G z) (LG (B2 + 7)) K = (ix i 10 ∧ K (M2 (83 + 2 * i.toNatClampNeg))) := by
  rw [r_ai hg (r := B2 + 7) (ow_k hD hO (by decide))]
  refine propext (and_congr_right (fun h => ?_))
  have h2 : i.toNatClampNeg < 10 := by
    unfold ix at h
    omega
  rw [ca_at h2]
theorem xa_8 (hg : ∀ r, gr (LG r) = r) (hD : B2 + 25 ≤ B ∨ B + 25 ≤ B2) (hO : OW LG C B2 M2 F2 ex2 hd2) {i : Int32} {K : Int32 → Prop} : ai 2 i V (GW LG gr B M F ex hd C G z) (LG (B2 + 8)) K = (ix i 10 ∧ K (M2 (84 + 2 * i.toNatClampNeg))) := by
  rw [r_ai hg (r := B2 + 8) (ow_k hD hO (by decide))]
  refine propext (and_congr_right (fun h => ?_))
  have h2 : i.toNatClampNeg < 10 := by
    unfold ix at h
    omega
  rw [ca_at h2]
theorem xa_10 (hg : ∀ r, gr (LG r) = r) (hD : B2 + 25 ≤ B ∨ B + 25 ≤ B2) (hO : OW LG C B2 M2 F2 ex2 hd2) {i : Int32} {K : Int32 → Prop} : ai 2 i V (GW LG gr B M F ex hd C G z) (LG (B2 + 10)) K = (ix i 8 ∧ K (M2 (104 + 2 * i.toNatClampNeg))) := by
  rw [r_ai hg (r := B2 + 10) (ow_k hD hO (by decide))]
  refine propext (and_congr_right (fun h => ?_))
  have h2 : i.toNatClampNeg < 8 := by
    unfold ix at h
    omega
  rw [ca_at h2]
theorem xa_11 (hg : ∀ r, gr (LG r) = r) (hD : B2 + 25 ≤ B ∨ B + 25 ≤ B2) (hO : OW LG C B2 M2 F2 ex2 hd2) {i : Int32} {K : Int32 → Prop} : ai 2 i V (GW LG gr B M F ex hd C G z) (LG (B2 + 11)) K = (ix i 8 ∧ K (M2 (105 + 2 * i.toNatClampNeg))) := by
  rw [r_ai hg (r := B2 + 11) (ow_k hD hO (by decide))]
  refine propext (and_congr_right (fun h => ?_))
  have h2 : i.toNatClampNeg < 8 := by
    unfold ix at h
    omega
  rw [ca_at h2]
theorem xrg_3_0 (hg : ∀ r, gr (LG r) = r) (hD : B2 + 25 ≤ B ∨ B + 25 ≤ B2) (hO : OW LG C B2 M2 F2 ex2 hd2) {K : Value → Prop} : gf [7] 0 (GW LG gr B M F ex hd C G z) (LG (B2 + 3)) K = K (.ref (LG (B2 + 4))) := r_gf hg (ow_k hD hO (k := 3) (by decide)) (by decide) rfl
theorem xrg_3_1 (hg : ∀ r, gr (LG r) = r) (hD : B2 + 25 ≤ B ∨ B + 25 ≤ B2) (hO : OW LG C B2 M2 F2 ex2 hd2) {K : Value → Prop} : gf [7] 1 (GW LG gr B M F ex hd C G z) (LG (B2 + 3)) K = K (.ref (LG (B2 + 5))) := r_gf hg (ow_k hD hO (k := 3) (by decide)) (by decide) rfl
theorem xrg_3_2 (hg : ∀ r, gr (LG r) = r) (hD : B2 + 25 ≤ B ∨ B + 25 ≤ B2) (hO : OW LG C B2 M2 F2 ex2 hd2) {K : Value → Prop} : gf [7] 2 (GW LG gr B M F ex hd C G z) (LG (B2 + 3)) K = K (.int (M2 71)) := r_gf hg (ow_k hD hO (k := 3) (by decide)) (by decide) rfl
theorem xrg_6_0 (hg : ∀ r, gr (LG r) = r) (hD : B2 + 25 ≤ B ∨ B + 25 ≤ B2) (hO : OW LG C B2 M2 F2 ex2 hd2) {K : Value → Prop} : gf [7] 0 (GW LG gr B M F ex hd C G z) (LG (B2 + 6)) K = K (.ref (LG (B2 + 7))) := r_gf hg (ow_k hD hO (k := 6) (by decide)) (by decide) rfl
theorem xrg_6_1 (hg : ∀ r, gr (LG r) = r) (hD : B2 + 25 ≤ B ∨ B + 25 ≤ B2) (hO : OW LG C B2 M2 F2 ex2 hd2) {K : Value → Prop} : gf [7] 1 (GW LG gr B M F ex hd C G z) (LG (B2 + 6)) K = K (.ref (LG (B2 + 8))) := r_gf hg (ow_k hD hO (k := 6) (by decide)) (by decide) rfl
theorem xrg_6_2 (hg : ∀ r, gr (LG r) = r) (hD : B2 + 25 ≤ B ∨ B + 25 ≤ B2) (hO : OW LG C B2 M2 F2 ex2 hd2) {K : Value → Prop} : gf [7] 2 (GW LG gr B M F ex hd C G z) (LG (B2 + 6)) K = K (.int (M2 82)) := r_gf hg (ow_k hD hO (k := 6) (by decide)) (by decide) rfl
theorem xrg_9_0 (hg : ∀ r, gr (LG r) = r) (hD : B2 + 25 ≤ B ∨ B + 25 ≤ B2) (hO : OW LG C B2 M2 F2 ex2 hd2) {K : Value → Prop} : gf [7] 0 (GW LG gr B M F ex hd C G z) (LG (B2 + 9)) K = K (.ref (LG (B2 + 10))) := r_gf hg (ow_k hD hO (k := 9) (by decide)) (by decide) rfl
theorem xrg_9_1 (hg : ∀ r, gr (LG r) = r) (hD : B2 + 25 ≤ B ∨ B + 25 ≤ B2) (hO : OW LG C B2 M2 F2 ex2 hd2) {K : Value → Prop} : gf [7] 1 (GW LG gr B M F ex hd C G z) (LG (B2 + 9)) K = K (.ref (LG (B2 + 11))) := r_gf hg (ow_k hD hO (k := 9) (by decide)) (by decide) rfl
theorem xrg_9_2 (hg : ∀ r, gr (LG r) = r) (hD : B2 + 25 ≤ B ∨ B + 25 ≤ B2) (hO : OW LG C B2 M2 F2 ex2 hd2) {K : Value → Prop} : gf [7] 2 (GW LG gr B M F ex hd C G z) (LG (B2 + 9)) K = K (.int (M2 103)) := r_gf hg (ow_k hD hO (k := 9) (by decide)) (by decide) rfl
theorem xpe (hg : ∀ r, gr (LG r) = r) (hD : B2 + 25 ≤ B ∨ B + 25 ≤ B2) (hO : OW LG C B2 M2 F2 ex2 hd2) {i : Int32} {K : Value → Prop} : aa i (GW LG gr B M F ex hd C G z) (LG (B2 + 2)) K = (ix i 6 ∧ K (if ex2 i.toNatClampNeg = true then .ref (LG (B2 + 13 + i.toNatClampNeg)) else .null)) := by
  rw [r_aa hg (r := B2 + 2) (ow_k hD hO (k := 2) (by decide)) (by decide)]
  refine propext (and_congr_right (fun h => ?_))
  have h2 : i.toNatClampNeg < 6 := by
    unfold ix at h
    omega
  by_cases he : ex2 i.toNatClampNeg = true
  · rw [if_pos ⟨h2, he⟩, if_pos he]
    rfl
  · rw [if_neg (fun h => he h.2), if_neg he]
    rfl
theorem xPO (hD : B2 + 25 ≤ B ∨ B + 25 ≤ B2) (hO : OW LG C B2 M2 F2 ex2 hd2) {i : Nat} (hi : i < 6) (he : ex2 i = true) : PO LG (WC LG B M F ex hd C) B2 M2 i := by
  refine ⟨?_, fun hk => ?_⟩
  · rw [show B2 + 13 + i = B2 + (i + 13) by omega, ow_k hD hO (by omega)]
    simp only [wcl]
    rw [if_pos hi, if_pos he]
  · rw [show B2 + 19 + i = B2 + (i + 6 + 13) by omega, ow_k hD hO (by omega)]
    simp only [wcl]
    rw [if_neg (by omega), Nat.add_sub_cancel, if_pos ⟨he, hk⟩]
end
/-- rows of M2 up to j, behind base b -/
def cpR (M M2 : Nat → Int32) (b j : Nat) : Nat → Int32 := fun k => if b < k ∧ k ≤ b + 2 * j then M2 k else if k = b then nI j else M k
theorem cpR_b {M M2 : Nat → Int32} {b j : Nat} : cpR M M2 b j b = nI j := by
  unfold cpR
  rw [if_neg (by omega), if_pos rfl]
theorem cpR_add {M M2 : Nat → Int32} {b j : Nat} (hj : j < 2 ^ 31) : addF (cpR M M2 b j) b (M2 (b + 1 + 2 * j)) (M2 (b + 2 + 2 * j)) = cpR M M2 b (j + 1) := by
  unfold addF
  rw [cpR_b, nI_clamp hj]
  funext k
  simp only [upd, cpR]
  by_cases h1 : k = b
  · subst h1
    rw [if_pos rfl, if_neg (by omega), if_pos rfl, nI_1]
  · rw [if_neg h1, if_neg h1]
    by_cases h2 : k = b + 2 + 2 * j
    · rw [if_pos h2, if_pos (by omega), h2]
    · rw [if_neg h2]
      by_cases h3 : k = b + 1 + 2 * j
      · rw [if_pos h3, if_pos (by omega), h3]
      · rw [if_neg h3]
        by_cases h4 : b < k ∧ k ≤ b + 2 * j
        · rw [if_pos h4, if_pos (by omega)]
        · rw [if_neg h4, if_neg (by omega), if_neg h1]
theorem cpR_0 {M M2 : Nat → Int32} {b : Nat} : cpR M M2 b 0 = upd M b 0 := by
  funext k
  simp only [upd, cpR]
  rw [if_neg (by omega)]
  rfl
theorem is1_i {x : Int32} : is1 (.int x) = true := id rfl
section
variable {V : Nat → Option AE} {Ev : Nat → Value} {d : Nat} {Q : Option Value → HS → Prop}
variable {LG gr : Nat → Nat} {B : Nat} {M F : Nat → Int32} {ex : Nat → Bool} {hd : Option Nat} {C G : Nat → Option AE} {z : Nat × Nat}
variable {B2 : Nat} {M2 F2 : Nat → Int32} {ex2 : Nat → Bool} {hd2 : Option Nat}
theorem c_clr_3 (hg : ∀ r, gr (LG r) = r) : WP V (cdT Ev) mx (d + 1) 38 [.ref (LG (B + 3))] (GW LG gr B M F ex hd C G z) Q = Q (some (.int 0)) (GW LG gr B (upd M 71 0) F ex hd C G z) := by
  rw [e_38]
  simp only [s_38_0, s_38_0_n, s_38_1, s_38_2, s_38_5, s_38_6, ↓reduceIte, eq_self, rts_some, rts_none, nq_int, nq_ref, nq_null, nq_none, okr1_0, okr1_1, okr_b, List.length_nil, List.length_cons, Nat.zero_le, Nat.reduceAdd, Nat.reduceLeDiff, b2i_0, b2i_n0, b2i_1, b2i_n1, ite_not, if_true, if_false, not_true_eq_false, not_false_eq_true, true_and, and_true, false_and, and_false, wrp_3 hg]
theorem c_add_3 (hg : ∀ r, gr (LG r) = r) {k : Nat} (hk : k ≤ 5) (h : M 71 = nI k) {x y : Int32} : WP V (cdT Ev) mx (d + 1) 39 [.ref (LG (B + 3)), .int x, .int y] (GW LG gr B M F ex hd C G z) Q = if M 71 = 5 then Q (some (.int (-4))) (GW LG gr B M F ex hd C G z) else Q (some (.int (M 71 + 1))) (GW LG gr B (addF M 71 x y) F ex hd C G z) := by
  rw [e_39]
  by_cases h5 : k = 5
  · subst h5
    have e5 : M 71 = 5 := h
    simp only [s_39_0, s_39_0_n, s_39_1, s_39_4, s_39_4_n, s_39_5, s_39_8, s_39_9, s_39_12, s_39_14, s_39_15, s_39_15_n, s_39_16, s_39_19, s_39_19_n, s_39_20, s_39_23, s_39_24, s_39_25, s_39_25_n, s_39_26, s_39_29, s_39_29_n, s_39_30, s_39_33, s_39_34, s_39_35, s_39_35_n, s_39_36, s_39_36_i, s_39_37, s_39_40, s_39_41, s_39_42, s_39_45, s_39_45_n, s_39_46, s_39_49, ↓reduceIte, eq_self, rts_some, rts_none, nq_int, nq_ref, nq_null, nq_none, okr1_0, okr1_1, okr_b, List.length_nil, List.length_cons, Nat.zero_le, Nat.reduceAdd, Nat.reduceLeDiff, b2i_0, b2i_n0, b2i_1, b2i_n1, ite_not, if_true, if_false, not_true_eq_false, not_false_eq_true, true_and, and_true, false_and, and_false, wrg_3_2 hg, wrg_3_0 hg, wl_4 hg, e5, show ((5 : Int32) < 5) = False from by decide]
  · have hne : (nI k = 5) = False := eq_false (fun e => h5 ((nI_eq (a := k) (b := 5) (by omega) (by decide)).mp e))
    have hlt : (nI k < 5) = True := eq_true (nI_lt (a := k) (b := 5) (by omega) (by decide))
    have hx : ix (nI k) 5 = True := ix_nIT (by omega) (by decide)
    have hc := nI_clamp (show k < 2 ^ 31 by omega)
    have ea : addF M 71 x y = upd (upd (upd M (72 + 2 * k) x) (73 + 2 * k) y) 71 (nI (k + 1)) := by
      unfold addF
      rw [h, hc, nI_1]
    rw [ea]
    simp only [s_39_0, s_39_0_n, s_39_1, s_39_4, s_39_4_n, s_39_5, s_39_8, s_39_9, s_39_12, s_39_14, s_39_15, s_39_15_n, s_39_16, s_39_19, s_39_19_n, s_39_20, s_39_23, s_39_24, s_39_25, s_39_25_n, s_39_26, s_39_29, s_39_29_n, s_39_30, s_39_33, s_39_34, s_39_35, s_39_35_n, s_39_36, s_39_36_i, s_39_37, s_39_40, s_39_41, s_39_42, s_39_45, s_39_45_n, s_39_46, s_39_49, ↓reduceIte, eq_self, rts_some, rts_none, nq_int, nq_ref, nq_null, nq_none, okr1_0, okr1_1, okr_b, List.length_nil, List.length_cons, Nat.zero_le, Nat.reduceAdd, Nat.reduceLeDiff, b2i_0, b2i_n0, b2i_1, b2i_n1, ite_not, if_true, if_false, not_true_eq_false, not_false_eq_true, true_and, and_true, false_and, and_false, wrg_3_2 hg, wrg_3_0 hg, wrg_3_1 hg, wl_4 hg, h, hne, hlt, ws_4 hg, ws_5 hg, hx, hc, wrp_3 hg, pk_un (show 71 ≠ 72 + 2 * k by omega), pk_un (show 71 ≠ 73 + 2 * k by omega), pk_us, nI_1]
theorem c_rbl_3_l (hg : ∀ r, gr (LG r) = r) (hD : B2 + 25 ≤ B ∨ B + 25 ≤ B2) (hO : OW LG C B2 M2 F2 ex2 hd2) {k : Nat} (hk : k ≤ 5) (h : M2 71 = nI k) : ∀ m j, j + m = k → wp V (cdT Ev) mx (d + 1) 40 7 [some (.ref (LG (B + 3))), some (.ref (LG (B2 + 3))), some (.int (nI j))] [] (GW LG gr B (cpR M M2 71 j) F ex hd C G z) Q = Q none (GW LG gr B (cpR M M2 71 k) F ex hd C G z) := by
  intro m
  induction m with
  | zero =>
    intro j hj
    have : j = k := by omega
    subst this
    simp only [s_40_0, s_40_0_n, s_40_1, s_40_2, s_40_5, s_40_6, s_40_7, s_40_8, s_40_8_n, s_40_9, s_40_12, s_40_15, s_40_15_n, s_40_16, s_40_16_n, s_40_17, s_40_20, s_40_21, s_40_22, s_40_22_n, s_40_23, s_40_26, s_40_27, s_40_28, s_40_31, s_40_31_i, s_40_32, s_40_35, s_40_38, ↓reduceIte, eq_self, rts_some, rts_none, nq_int, nq_ref, nq_null, nq_none, okr1_0, okr1_1, okr_b, List.length_nil, List.length_cons, Nat.zero_le, Nat.reduceAdd, Nat.reduceLeDiff, b2i_0, b2i_n0, b2i_1, b2i_n1, ite_not, if_true, if_false, not_true_eq_false, not_false_eq_true, true_and, and_true, false_and, and_false, xrg_3_2 hg hD hO, h, Int32.le_refl]
  | succ m ih =>
    intro j hj
    have hlt : (nI k ≤ nI j) = False := eq_false (nI_ge (show j < k by omega) (by omega))
    have hx : ix (nI j) 5 = True := ix_nIT (by omega) (by decide)
    have hc := nI_clamp (show j < 2 ^ 31 by omega)
    have hne : (nI j = 5) = False := eq_false (fun e => by have := (nI_eq (a := j) (b := 5) (by omega) (by decide)).mp e; omega)
    have ea := cpR_add (M := M) (M2 := M2) (b := 71) (j := j) (by omega)
    have ea' : addF (cpR M M2 71 j) 71 (M2 (72 + 2 * j)) (M2 (73 + 2 * j)) = cpR M M2 71 (j + 1) := ea
    have hcp := cpR_b (M := M) (M2 := M2) (b := 71) (j := j)
    rw [s_40_7]
    simp only [s_40_0, s_40_0_n, s_40_1, s_40_2, s_40_5, s_40_6, s_40_8, s_40_8_n, s_40_9, s_40_12, s_40_15, s_40_15_n, s_40_16, s_40_16_n, s_40_17, s_40_20, s_40_21, s_40_22, s_40_22_n, s_40_23, s_40_26, s_40_27, s_40_28, s_40_31, s_40_31_i, s_40_32, s_40_35, s_40_38, ↓reduceIte, eq_self, rts_some, rts_none, nq_int, nq_ref, nq_null, nq_none, okr1_0, okr1_1, okr_b, List.length_nil, List.length_cons, Nat.zero_le, Nat.reduceAdd, Nat.reduceLeDiff, b2i_0, b2i_n0, b2i_1, b2i_n1, ite_not, if_true, if_false, not_true_eq_false, not_false_eq_true, true_and, and_true, false_and, and_false, xrg_3_2 hg hD hO, xrg_3_0 hg hD hO, xrg_3_1 hg hD hO, xa_4 hg hD hO, xa_5 hg hD hO, h, hlt, hx, hc, wrc_3 hg, c_add_3 hg (show j ≤ 5 by omega) hcp, hcp, hne, ea', nI_1, is1_i]
    exact ih (j + 1) (by omega)
theorem c_rbl_3 (hg : ∀ r, gr (LG r) = r) (hD : B2 + 25 ≤ B ∨ B + 25 ≤ B2) (hO : OW LG C B2 M2 F2 ex2 hd2) {k : Nat} (hk : k ≤ 5) (h : M2 71 = nI k) : WP V (cdT Ev) mx (d + 2) 40 [.ref (LG (B + 3)), .ref (LG (B2 + 3))] (GW LG gr B M F ex hd C G z) Q = Q none (GW LG gr B (cpR M M2 71 k) F ex hd C G z) := by
  rw [e_40]
  simp only [s_40_0, s_40_1, s_40_2, s_40_5, s_40_6, ↓reduceIte, eq_self, rts_some, rts_none, nq_int, nq_ref, nq_null, nq_none, okr1_0, okr1_1, okr_b, List.length_nil, List.length_cons, Nat.zero_le, Nat.reduceAdd, Nat.reduceLeDiff, b2i_0, b2i_n0, b2i_1, b2i_n1, ite_not, if_true, if_false, not_true_eq_false, not_false_eq_true, true_and, and_true, false_and, and_false, wrp_3 hg]
  rw [← cpR_0 (M2 := M2)]
  exact c_rbl_3_l hg hD hO hk h k 0 (by omega)
theorem c_clr_6 (hg : ∀ r, gr (LG r) = r) : WP V (cdT Ev) mx (d + 1) 38 [.ref (LG (B + 6))] (GW LG gr B M F ex hd C G z) Q = Q (some (.int 0)) (GW LG gr B (upd M 82 0) F ex hd C G z) := by
  rw [e_38]
  simp only [s_38_0, s_38_0_n, s_38_1, s_38_2, s_38_5, s_38_6, ↓reduceIte, eq_self, rts_some, rts_none, nq_int, nq_ref, nq_null, nq_none, okr1_0, okr1_1, okr_b, List.length_nil, List.length_cons, Nat.zero_le, Nat.reduceAdd, Nat.reduceLeDiff, b2i_0, b2i_n0, b2i_1, b2i_n1, ite_not, if_true, if_false, not_true_eq_false, not_false_eq_true, true_and, and_true, false_and, and_false, wrp_6 hg]
theorem c_add_6 (hg : ∀ r, gr (LG r) = r) {k : Nat} (hk : k ≤ 10) (h : M 82 = nI k) {x y : Int32} : WP V (cdT Ev) mx (d + 1) 39 [.ref (LG (B + 6)), .int x, .int y] (GW LG gr B M F ex hd C G z) Q = if M 82 = 10 then Q (some (.int (-4))) (GW LG gr B M F ex hd C G z) else Q (some (.int (M 82 + 1))) (GW LG gr B (addF M 82 x y) F ex hd C G z) := by
  rw [e_39]
  by_cases h5 : k = 10
  · subst h5
    have e5 : M 82 = 10 := h
    simp only [s_39_0, s_39_0_n, s_39_1, s_39_4, s_39_4_n, s_39_5, s_39_8, s_39_9, s_39_12, s_39_14, s_39_15, s_39_15_n, s_39_16, s_39_19, s_39_19_n, s_39_20, s_39_23, s_39_24, s_39_25, s_39_25_n, s_39_26, s_39_29, s_39_29_n, s_39_30, s_39_33, s_39_34, s_39_35, s_39_35_n, s_39_36, s_39_36_i, s_39_37, s_39_40, s_39_41, s_39_42, s_39_45, s_39_45_n, s_39_46, s_39_49, ↓reduceIte, eq_self, rts_some, rts_none, nq_int, nq_ref, nq_null, nq_none, okr1_0, okr1_1, okr_b, List.length_nil, List.length_cons, Nat.zero_le, Nat.reduceAdd, Nat.reduceLeDiff, b2i_0, b2i_n0, b2i_1, b2i_n1, ite_not, if_true, if_false, not_true_eq_false, not_false_eq_true, true_and, and_true, false_and, and_false, wrg_6_2 hg, wrg_6_0 hg, wl_7 hg, e5, show ((10 : Int32) < 10) = False from by decide]
  · have hne : (nI k = 10) = False := eq_false (fun e => h5 ((nI_eq (a := k) (b := 10) (by omega) (by decide)).mp e))
    have hlt : (nI k < 10) = True := eq_true (nI_lt (a := k) (b := 10) (by omega) (by decide))
    have hx : ix (nI k) 10 = True := ix_nIT (by omega) (by decide)
    have hc := nI_clamp (show k < 2 ^ 31 by omega)
    have ea : addF M 82 x y = upd (upd (upd M (83 + 2 * k) x) (84 + 2 * k) y) 82 (nI (k + 1)) := by
      unfold addF
      rw [h, hc, nI_1]
    rw [ea]
    simp only [s_39_0, s_39_0_n, s_39_1, s_39_4, s_39_4_n, s_39_5, s_39_8, s_39_9, s_39_12, s_39_14, s_39_15, s_39_15_n, s_39_16, s_39_19, s_39_19_n, s_39_20, s_39_23, s_39_24, s_39_25, s_39_25_n, s_39_26, s_39_29, s_39_29_n, s_39_30, s_39_33, s_39_34, s_39_35, s_39_35_n, s_39_36, s_39_36_i, s_39_37, s_39_40, s_39_41, s_39_42, s_39_45, s_39_45_n, s_39_46, s_39_49, ↓reduceIte, eq_self, rts_some, rts_none, nq_int, nq_ref, nq_null, nq_none, okr1_0, okr1_1, okr_b, List.length_nil, List.length_cons, Nat.zero_le, Nat.reduceAdd, Nat.reduceLeDiff, b2i_0, b2i_n0, b2i_1, b2i_n1, ite_not, if_true, if_false, not_true_eq_false, not_false_eq_true, true_and, and_true, false_and, and_false, wrg_6_2 hg, wrg_6_0 hg, wrg_6_1 hg, wl_7 hg, h, hne, hlt, ws_7 hg, ws_8 hg, hx, hc, wrp_6 hg, pk_un (show 82 ≠ 83 + 2 * k by omega), pk_un (show 82 ≠ 84 + 2 * k by omega), pk_us, nI_1]
theorem c_rbl_6_l (hg : ∀ r, gr (LG r) = r) (hD : B2 + 25 ≤ B ∨ B + 25 ≤ B2) (hO : OW LG C B2 M2 F2 ex2 hd2) {k : Nat} (hk : k ≤ 10) (h : M2 82 = nI k) : ∀ m j, j + m = k → wp V (cdT Ev) mx (d + 1) 40 7 [some (.ref (LG (B + 6))), some (.ref (LG (B2 + 6))), some (.int (nI j))] [] (GW LG gr B (cpR M M2 82 j) F ex hd C G z) Q = Q none (GW LG gr B (cpR M M2 82 k) F ex hd C G z) := by
  intro m
  induction m with
  | zero =>
    intro j hj
    have : j = k := by omega
    subst this
    simp only [s_40_0, s_40_0_n, s_40_1, s_40_2, s_40_5, s_40_6, s_40_7, s_40_8, s_40_8_n, s_40_9, s_40_12, s_40_15, s_40_15_n, s_40_16, s_40_16_n, s_40_17, s_40_20, s_40_21, s_40_22, s_40_22_n, s_40_23, s_40_26, s_40_27, s_40_28, s_40_31, s_40_31_i, s_40_32, s_40_35, s_40_38, ↓reduceIte, eq_self, rts_some, rts_none, nq_int, nq_ref, nq_null, nq_none, okr1_0, okr1_1, okr_b, List.length_nil, List.length_cons, Nat.zero_le, Nat.reduceAdd, Nat.reduceLeDiff, b2i_0, b2i_n0, b2i_1, b2i_n1, ite_not, if_true, if_false, not_true_eq_false, not_false_eq_true, true_and, and_true, false_and, and_false, xrg_6_2 hg hD hO, h, Int32.le_refl]
  | succ m ih =>
    intro j hj
    have hlt : (nI k ≤ nI j) = False := eq_false (nI_ge (show j < k by omega) (by omega))
    have hx : ix (nI j) 10 = True := ix_nIT (by omega) (by decide)
    have hc := nI_clamp (show j < 2 ^ 31 by omega)
    have hne : (nI j = 10) = False := eq_false (fun e => by have := (nI_eq (a := j) (b := 10) (by omega) (by decide)).mp e; omega)
    have ea := cpR_add (M := M) (M2 := M2) (b := 82) (j := j) (by omega)
    have ea' : addF (cpR M M2 82 j) 82 (M2 (83 + 2 * j)) (M2 (84 + 2 * j)) = cpR M M2 82 (j + 1) := ea
    have hcp := cpR_b (M := M) (M2 := M2) (b := 82) (j := j)
    rw [s_40_7]
    simp only [s_40_0, s_40_0_n, s_40_1, s_40_2, s_40_5, s_40_6, s_40_8, s_40_8_n, s_40_9, s_40_12, s_40_15, s_40_15_n, s_40_16, s_40_16_n, s_40_17, s_40_20, s_40_21, s_40_22, s_40_22_n, s_40_23, s_40_26, s_40_27, s_40_28, s_40_31, s_40_31_i, s_40_32, s_40_35, s_40_38, ↓reduceIte, eq_self, rts_some, rts_none, nq_int, nq_ref, nq_null, nq_none, okr1_0, okr1_1, okr_b, List.length_nil, List.length_cons, Nat.zero_le, Nat.reduceAdd, Nat.reduceLeDiff, b2i_0, b2i_n0, b2i_1, b2i_n1, ite_not, if_true, if_false, not_true_eq_false, not_false_eq_true, true_and, and_true, false_and, and_false, xrg_6_2 hg hD hO, xrg_6_0 hg hD hO, xrg_6_1 hg hD hO, xa_7 hg hD hO, xa_8 hg hD hO, h, hlt, hx, hc, wrc_6 hg, c_add_6 hg (show j ≤ 10 by omega) hcp, hcp, hne, ea', nI_1, is1_i]
    exact ih (j + 1) (by omega)
theorem c_rbl_6 (hg : ∀ r, gr (LG r) = r) (hD : B2 + 25 ≤ B ∨ B + 25 ≤ B2) (hO : OW LG C B2 M2 F2 ex2 hd2) {k : Nat} (hk : k ≤ 10) (h : M2 82 = nI k) : WP V (cdT Ev) mx (d + 2) 40 [.ref (LG (B + 6)), .ref (LG (B2 + 6))] (GW LG gr B M F ex hd C G z) Q = Q none (GW LG gr B (cpR M M2 82 k) F ex hd C G z) := by
  rw [e_40]
  simp only [s_40_0, s_40_1, s_40_2, s_40_5, s_40_6, ↓reduceIte, eq_self, rts_some, rts_none, nq_int, nq_ref, nq_null, nq_none, okr1_0, okr1_1, okr_b, List.length_nil, List.length_cons, Nat.zero_le, Nat.reduceAdd, Nat.reduceLeDiff, b2i_0, b2i_n0, b2i_1, b2i_n1, ite_not, if_true, if_false, not_true_eq_false, not_false_eq_true, true_and, and_true, false_and, and_false, wrp_6 hg]
  rw [← cpR_0 (M2 := M2)]
  exact c_rbl_6_l hg hD hO hk h k 0 (by omega)
theorem c_clr_9 (hg : ∀ r, gr (LG r) = r) : WP V (cdT Ev) mx (d + 1) 38 [.ref (LG (B + 9))] (GW LG gr B M F ex hd C G z) Q = Q (some (.int 0)) (GW LG gr B (upd M 103 0) F ex hd C G z) := by
  rw [e_38]
  simp only [s_38_0, s_38_0_n, s_38_1, s_38_2, s_38_5, s_38_6, ↓reduceIte, eq_self, rts_some, rts_none, nq_int, nq_ref, nq_null, nq_none, okr1_0, okr1_1, okr_b, List.length_nil, List.length_cons, Nat.zero_le, Nat.reduceAdd, Nat.reduceLeDiff, b2i_0, b2i_n0, b2i_1, b2i_n1, ite_not, if_true, if_false, not_true_eq_false, not_false_eq_true, true_and, and_true, false_and, and_false, wrp_9 hg]
theorem c_add_9 (hg : ∀ r, gr (LG r) = r) {k : Nat} (hk : k ≤ 8) (h : M 103 = nI k) {x y : Int32} : WP V (cdT Ev) mx (d + 1) 39 [.ref (LG (B + 9)), .int x, .int y] (GW LG gr B M F ex hd C G z) Q = if M 103 = 8 then Q (some (.int (-4))) (GW LG gr B M F ex hd C G z) else Q (some (.int (M 103 + 1))) (GW LG gr B (addF M 103 x y) F ex hd C G z) := by
  rw [e_39]
  by_cases h5 : k = 8
  · subst h5
    have e5 : M 103 = 8 := h
    simp only [s_39_0, s_39_0_n, s_39_1, s_39_4, s_39_4_n, s_39_5, s_39_8, s_39_9, s_39_12, s_39_14, s_39_15, s_39_15_n, s_39_16, s_39_19, s_39_19_n, s_39_20, s_39_23, s_39_24, s_39_25, s_39_25_n, s_39_26, s_39_29, s_39_29_n, s_39_30, s_39_33, s_39_34, s_39_35, s_39_35_n, s_39_36, s_39_36_i, s_39_37, s_39_40, s_39_41, s_39_42, s_39_45, s_39_45_n, s_39_46, s_39_49, ↓reduceIte, eq_self, rts_some, rts_none, nq_int, nq_ref, nq_null, nq_none, okr1_0, okr1_1, okr_b, List.length_nil, List.length_cons, Nat.zero_le, Nat.reduceAdd, Nat.reduceLeDiff, b2i_0, b2i_n0, b2i_1, b2i_n1, ite_not, if_true, if_false, not_true_eq_false, not_false_eq_true, true_and, and_true, false_and, and_false, wrg_9_2 hg, wrg_9_0 hg, wl_10 hg, e5, show ((8 : Int32) < 8) = False from by decide]
  · have hne : (nI k = 8) = False := eq_false (fun e => h5 ((nI_eq (a := k) (b := 8) (by omega) (by decide)).mp e))
    have hlt : (nI k < 8) = True := eq_true (nI_lt (a := k) (b := 8) (by omega) (by decide))
    have hx : ix (nI k) 8 = True := ix_nIT (by omega) (by decide)
    have hc := nI_clamp (show k < 2 ^ 31 by omega)
    have ea : addF M 103 x y = upd (upd (upd M (104 + 2 * k) x) (105 + 2 * k) y) 103 (nI (k + 1)) := by
      unfold addF
      rw [h, hc, nI_1]
    rw [ea]
    simp only [s_39_0, s_39_0_n, s_39_1, s_39_4, s_39_4_n, s_39_5, s_39_8, s_39_9, s_39_12, s_39_14, s_39_15, s_39_15_n, s_39_16, s_39_19, s_39_19_n, s_39_20, s_39_23, s_39_24, s_39_25, s_39_25_n, s_39_26, s_39_29, s_39_29_n, s_39_30, s_39_33, s_39_34, s_39_35, s_39_35_n, s_39_36, s_39_36_i, s_39_37, s_39_40, s_39_41, s_39_42, s_39_45, s_39_45_n, s_39_46, s_39_49, ↓reduceIte, eq_self, rts_some, rts_none, nq_int, nq_ref, nq_null, nq_none, okr1_0, okr1_1, okr_b, List.length_nil, List.length_cons, Nat.zero_le, Nat.reduceAdd, Nat.reduceLeDiff, b2i_0, b2i_n0, b2i_1, b2i_n1, ite_not, if_true, if_false, not_true_eq_false, not_false_eq_true, true_and, and_true, false_and, and_false, wrg_9_2 hg, wrg_9_0 hg, wrg_9_1 hg, wl_10 hg, h, hne, hlt, ws_10 hg, ws_11 hg, hx, hc, wrp_9 hg, pk_un (show 103 ≠ 104 + 2 * k by omega), pk_un (show 103 ≠ 105 + 2 * k by omega), pk_us, nI_1]
theorem c_rbl_9_l (hg : ∀ r, gr (LG r) = r) (hD : B2 + 25 ≤ B ∨ B + 25 ≤ B2) (hO : OW LG C B2 M2 F2 ex2 hd2) {k : Nat} (hk : k ≤ 8) (h : M2 103 = nI k) : ∀ m j, j + m = k → wp V (cdT Ev) mx (d + 1) 40 7 [some (.ref (LG (B + 9))), some (.ref (LG (B2 + 9))), some (.int (nI j))] [] (GW LG gr B (cpR M M2 103 j) F ex hd C G z) Q = Q none (GW LG gr B (cpR M M2 103 k) F ex hd C G z) := by
  intro m
  induction m with
  | zero =>
    intro j hj
    have : j = k := by omega
    subst this
    simp only [s_40_0, s_40_0_n, s_40_1, s_40_2, s_40_5, s_40_6, s_40_7, s_40_8, s_40_8_n, s_40_9, s_40_12, s_40_15, s_40_15_n, s_40_16, s_40_16_n, s_40_17, s_40_20, s_40_21, s_40_22, s_40_22_n, s_40_23, s_40_26, s_40_27, s_40_28, s_40_31, s_40_31_i, s_40_32, s_40_35, s_40_38, ↓reduceIte, eq_self, rts_some, rts_none, nq_int, nq_ref, nq_null, nq_none, okr1_0, okr1_1, okr_b, List.length_nil, List.length_cons, Nat.zero_le, Nat.reduceAdd, Nat.reduceLeDiff, b2i_0, b2i_n0, b2i_1, b2i_n1, ite_not, if_true, if_false, not_true_eq_false, not_false_eq_true, true_and, and_true, false_and, and_false, xrg_9_2 hg hD hO, h, Int32.le_refl]
  | succ m ih =>
    intro j hj
    have hlt : (nI k ≤ nI j) = False := eq_false (nI_ge (show j < k by omega) (by omega))
    have hx : ix (nI j) 8 = True := ix_nIT (by omega) (by decide)
    have hc := nI_clamp (show j < 2 ^ 31 by omega)
    have hne : (nI j = 8) = False := eq_false (fun e => by have := (nI_eq (a := j) (b := 8) (by omega) (by decide)).mp e; omega)
    have ea := cpR_add (M := M) (M2 := M2) (b := 103) (j := j) (by omega)
    have ea' : addF (cpR M M2 103 j) 103 (M2 (104 + 2 * j)) (M2 (105 + 2 * j)) = cpR M M2 103 (j + 1) := ea
    have hcp := cpR_b (M := M) (M2 := M2) (b := 103) (j := j)
    rw [s_40_7]
    simp only [s_40_0, s_40_0_n, s_40_1, s_40_2, s_40_5, s_40_6, s_40_8, s_40_8_n, s_40_9, s_40_12, s_40_15, s_40_15_n, s_40_16, s_40_16_n, s_40_17, s_40_20, s_40_21, s_40_22, s_40_22_n, s_40_23, s_40_26, s_40_27, s_40_28, s_40_31, s_40_31_i, s_40_32, s_40_35, s_40_38, ↓reduceIte, eq_self, rts_some, rts_none, nq_int, nq_ref, nq_null, nq_none, okr1_0, okr1_1, okr_b, List.length_nil, List.length_cons, Nat.zero_le, Nat.reduceAdd, Nat.reduceLeDiff, b2i_0, b2i_n0, b2i_1, b2i_n1, ite_not, if_true, if_false, not_true_eq_false, not_false_eq_true, true_and, and_true, false_and, and_false, xrg_9_2 hg hD hO, xrg_9_0 hg hD hO, xrg_9_1 hg hD hO, xa_10 hg hD hO, xa_11 hg hD hO, h, hlt, hx, hc, wrc_9 hg, c_add_9 hg (show j ≤ 8 by omega) hcp, hcp, hne, ea', nI_1, is1_i]
    exact ih (j + 1) (by omega)
theorem c_rbl_9 (hg : ∀ r, gr (LG r) = r) (hD : B2 + 25 ≤ B ∨ B + 25 ≤ B2) (hO : OW LG C B2 M2 F2 ex2 hd2) {k : Nat} (hk : k ≤ 8) (h : M2 103 = nI k) : WP V (cdT Ev) mx (d + 2) 40 [.ref (LG (B + 9)), .ref (LG (B2 + 9))] (GW LG gr B M F ex hd C G z) Q = Q none (GW LG gr B (cpR M M2 103 k) F ex hd C G z) := by
  rw [e_40]
  simp only [s_40_0, s_40_1, s_40_2, s_40_5, s_40_6, ↓reduceIte, eq_self, rts_some, rts_none, nq_int, nq_ref, nq_null, nq_none, okr1_0, okr1_1, okr_b, List.length_nil, List.length_cons, Nat.zero_le, Nat.reduceAdd, Nat.reduceLeDiff, b2i_0, b2i_n0, b2i_1, b2i_n1, ite_not, if_true, if_false, not_true_eq_false, not_false_eq_true, true_and, and_true, false_and, and_false, wrp_9 hg]
  rw [← cpR_0 (M2 := M2)]
  exact c_rbl_9_l hg hD hO hk h k 0 (by omega)
end
