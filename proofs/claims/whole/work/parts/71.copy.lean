/-! A person copied: the class. -/
def cpP (M M2 : Nat → Int32) (i : Nat) : Nat → Int32 := fun k => if 14 + 9 * i ≤ k ∧ k < 14 + 9 * i + 9 then M2 k else M k
theorem cpP_in {M M2 : Nat → Int32} {i w : Nat} (hw : w < 9) : cpP M M2 i (14 + 9 * i + w) = M2 (14 + 9 * i + w) := if_pos (by omega)
theorem cpP_out {M M2 : Nat → Int32} {i k : Nat} (h : k < 14 + 9 * i ∨ 14 + 9 * i + 9 ≤ k) : cpP M M2 i k = M k := if_neg (by omega)
def blM (M M2 : Nat → Int32) (i : Nat) : Nat → Int32 := upd (upd (upd (upd M (14 + 9 * i + 1) (M2 (14 + 9 * i + 1))) (14 + 9 * i + 2) (M2 (14 + 9 * i + 2))) (14 + 9 * i + 3) (M2 (14 + 9 * i + 3))) (14 + 9 * i + 4) (M2 (14 + 9 * i + 4))
theorem blM_o {M M2 : Nat → Int32} {i k : Nat} (h : k ≠ 14 + 9 * i + 1 ∧ k ≠ 14 + 9 * i + 2 ∧ k ≠ 14 + 9 * i + 3 ∧ k ≠ 14 + 9 * i + 4) : blM M M2 i k = M k := by
  unfold blM
  rw [pk_un h.2.2.2, pk_un h.2.2.1, pk_un h.2.1, pk_un h.1]
theorem blM_i {M M2 : Nat → Int32} {i w : Nat} (h1 : 1 ≤ w) (h4 : w ≤ 4) : blM M M2 i (14 + 9 * i + w) = M2 (14 + 9 * i + w) := by
  unfold blM
  rcases (by omega : w = 1 ∨ w = 2 ∨ w = 3 ∨ w = 4) with e | e | e | e
  · subst e
    rw [pk_un (by omega), pk_un (by omega), pk_un (by omega), pk_us]
  · subst e
    rw [pk_un (by omega), pk_un (by omega), pk_us]
  · subst e
    rw [pk_un (by omega), pk_us]
  · subst e
    rw [pk_us]
section
variable {LG gr : Nat → Nat} {B : Nat} {M F : Nat → Int32} {ex : Nat → Bool} {hd : Option Nat} {C G : Nat → Option AE} {z : Nat × Nat}
/-- cells by what a world shows of M -/
theorem wcl_sh {M' : Nat → Int32} {i k : Nat} (hi : i < 6) (hk : k < 25) (ho : ∀ q, (q < 14 + 9 * i ∨ 14 + 9 * i + 9 ≤ q) → M' q = M q) (h0 : M' (14 + 9 * i + 0) = M (14 + 9 * i + 0)) (kp : k = 13 + i → ∀ w, 1 ≤ w → w ≤ 4 → M' (14 + 9 * i + w) = M (14 + 9 * i + w)) (km : k = 19 + i → M (14 + 9 * i + 0) = 6 → ∀ w, w < 4 → M' (14 + 9 * i + 5 + w) = M (14 + 9 * i + 5 + w)) : wcl LG B M' F ex hd k = wcl LG B M F ex hd k := by
  match k, hk with
  | 0, _ => simp only [wcl, ho 68 (by omega), ho 12 (by omega), ho 13 (by omega), ho 69 (by omega)]
  | 1, _ =>
    simp only [wcl]
    rw [ca_cg (fun r hr => ho _ (by omega))]
  | 2, _ => rfl
  | 3, _ => simp only [wcl, ho 71 (by omega)]
  | 4, _ =>
    simp only [wcl]
    rw [ca_cg (fun r hr => ho _ (by omega))]
  | 5, _ =>
    simp only [wcl]
    rw [ca_cg (fun r hr => ho _ (by omega))]
  | 6, _ => simp only [wcl, ho 82 (by omega)]
  | 7, _ =>
    simp only [wcl]
    rw [ca_cg (fun r hr => ho _ (by omega))]
  | 8, _ =>
    simp only [wcl]
    rw [ca_cg (fun r hr => ho _ (by omega))]
  | 9, _ => simp only [wcl, ho 103 (by omega)]
  | 10, _ =>
    simp only [wcl]
    rw [ca_cg (fun r hr => ho _ (by omega))]
  | 11, _ =>
    simp only [wcl]
    rw [ca_cg (fun r hr => ho _ (by omega))]
  | 12, _ => rfl
  | j + 13, hk =>
    simp only [wcl]
    by_cases h6 : j < 6
    · rw [if_pos h6, if_pos h6]
      by_cases hj : j = i
      · subst hj
        have e := kp (by omega)
        simp only [pfs, h0, e 1 (by omega) (by omega), e 2 (by omega) (by omega), e 3 (by omega) (by omega), e 4 (by omega) (by omega)]
      · have e2 : ∀ w, w < 9 → M' (14 + 9 * j + w) = M (14 + 9 * j + w) := fun w hw => ho _ (by omega)
        simp only [pfs, e2 0 (by decide), e2 1 (by decide), e2 2 (by decide), e2 3 (by decide), e2 4 (by decide)]
    · rw [if_neg h6, if_neg h6]
      by_cases hj : j - 6 = i
      · rw [hj, h0]
        by_cases hk6 : ex i = true ∧ M (14 + 9 * i + 0) = 6
        · have ec : ca (14 + 9 * i + 5) 1 4 M' = ca (14 + 9 * i + 5) 1 4 M := ca_cg (fun r hr => by
            rw [Nat.one_mul]
            exact km (by omega) hk6.2 r hr)
          rw [if_pos hk6, if_pos hk6, ec]
        · rw [if_neg hk6, if_neg hk6]
      · rw [ho (14 + 9 * (j - 6) + 0) (by omega), ca_cg (fun r hr => ho _ (by omega))]
theorem WC_sh {M' : Nat → Int32} (h : ∀ k, k < 25 → wcl LG B M' F ex hd k = wcl LG B M F ex hd k) : WC LG B M' F ex hd C = WC LG B M F ex hd C := by
  funext r
  by_cases hr : r < B ∨ B + 25 ≤ r
  · rw [WC_out hr, WC_out hr]
  · obtain ⟨k, hk, rfl⟩ : ∃ k, k < 25 ∧ r = B + k := ⟨r - B, by omega, by omega⟩
    rw [WC_k k hk, WC_k k hk, h k hk]
/-- roles are had by kinds and by who is there alone -/
theorem wcl_dom {M' F' : Nat → Int32} {hd' : Option Nat} {LG' : Nat → Nat} {k : Nat} {e : AE} (hM : ∀ j, j < 6 → ex j = true → M' (14 + 9 * j + 0) = M (14 + 9 * j + 0)) (hk : k < 25) (h : wcl LG' B M' F' ex hd' k = some e) : ∃ e', wcl LG B M F ex hd k = some e' := by
  match k, hk with
  | 0, _ => exact ⟨_, rfl⟩
  | 1, _ => exact ⟨_, rfl⟩
  | 2, _ => exact ⟨_, rfl⟩
  | 3, _ => exact ⟨_, rfl⟩
  | 4, _ => exact ⟨_, rfl⟩
  | 5, _ => exact ⟨_, rfl⟩
  | 6, _ => exact ⟨_, rfl⟩
  | 7, _ => exact ⟨_, rfl⟩
  | 8, _ => exact ⟨_, rfl⟩
  | 9, _ => exact ⟨_, rfl⟩
  | 10, _ => exact ⟨_, rfl⟩
  | 11, _ => exact ⟨_, rfl⟩
  | 12, _ => exact ⟨_, rfl⟩
  | j + 13, hk =>
    simp only [wcl] at h ⊢
    by_cases h6 : j < 6
    · rw [if_pos h6] at h ⊢
      by_cases he : ex j = true
      · rw [if_pos he]
        exact ⟨_, rfl⟩
      · rw [if_neg he] at h
        cases h
    · rw [if_neg h6] at h ⊢
      by_cases he : ex (j - 6) = true
      · rw [hM (j - 6) (by omega) he] at h
        by_cases hk6 : ex (j - 6) = true ∧ M (14 + 9 * (j - 6) + 0) = 6
        · rw [if_pos hk6]
          exact ⟨_, rfl⟩
        · rw [if_neg hk6] at h
          cases h
      · rw [if_neg (fun h => he h.1)] at h
        cases h
theorem LV_dom {M' F' : Nat → Int32} {hd' : Option Nat} {BIG : Nat} (hM : ∀ j, j < 6 → ex j = true → M' (14 + 9 * j + 0) = M (14 + 9 * j + 0)) (h : LV LG gr (WC LG B M F ex hd C) z BIG) : LV LG gr (WC LG B M' F' ex hd' C) z BIG := by
  refine ⟨h.1, h.2.1, fun r e he => ?_⟩
  by_cases hr : r < B ∨ B + 25 ≤ r
  · rw [WC_out hr] at he
    exact h.2.2 r e ((WC_out hr).trans he)
  · obtain ⟨k, hk, rfl⟩ : ∃ k, k < 25 ∧ r = B + k := ⟨r - B, by omega, by omega⟩
    rw [WC_k k hk] at he
    obtain ⟨e', h'⟩ := wcl_dom (LG := LG) (M := M) (F := F) (hd := hd) hM hk he
    exact h.2.2 _ e' ((WC_k k hk).trans h')
end
section
variable {V : Nat → Option AE} {Ev : Nat → Value} {d : Nat} {Q : Option Value → HS → Prop}
variable {LG gr : Nat → Nat} {B : Nat} {M F : Nat → Int32} {ex : Nat → Bool} {hd : Option Nat} {C G : Nat → Option AE} {z : Nat × Nat}
variable {B2 : Nat} {M2 F2 : Nat → Int32} {ex2 : Nat → Bool} {hd2 : Option Nat}
theorem okv1_b {x : Int32} (h : x = 0 ∨ x = 1) : okv 1 (.int x) = true := by
  rcases h with rfl | rfl <;> rfl
theorem c_obl (hg : ∀ r, gr (LG r) = r) (hD : B2 + 25 ≤ B ∨ B + 25 ≤ B2) (hO : OW LG C B2 M2 F2 ex2 hd2) {i : Nat} (hi : i < 6) (he : ex i = true) (he2 : ex2 i = true) (hP : P1 M2 i) : WP V (cdT Ev) mx (d + 1) 25 [.ref (LG (B + 13 + i)), .ref (LG (B2 + 13 + i))] (GW LG gr B M F ex hd C G z) Q = Q none (GW LG gr B (blM M M2 i) F ex hd C G z) := by
  have o2 : ∀ M (K : Value → Prop), gf [1, 2, 3, 4, 5, 6, 8] 2 (GW LG gr B M F ex hd C G z) (LG (B2 + 13 + i)) K = K (.int (M2 (14 + 9 * i + 1))) := fun M K => og_2 hg (xPO hD hO hi he2)
  have o3 : ∀ M (K : Value → Prop), gf [1, 2, 3, 4, 5, 6, 8] 3 (GW LG gr B M F ex hd C G z) (LG (B2 + 13 + i)) K = K (.int (M2 (14 + 9 * i + 2))) := fun M K => og_3 hg (xPO hD hO hi he2)
  have o4 : ∀ M (K : Value → Prop), gf [1, 2, 3, 4, 5, 6, 8] 4 (GW LG gr B M F ex hd C G z) (LG (B2 + 13 + i)) K = K (.int (M2 (14 + 9 * i + 3))) := fun M K => og_4 hg (xPO hD hO hi he2)
  have o5 : ∀ M (K : Value → Prop), gf [1, 2, 3, 4, 5, 6, 8] 5 (GW LG gr B M F ex hd C G z) (LG (B2 + 13 + i)) K = K (.int (M2 (14 + 9 * i + 4))) := fun M K => og_5 hg (xPO hD hO hi he2)
  rw [e_25]
  simp only [s_25_0, s_25_0_n, s_25_1, s_25_1_n, s_25_2, s_25_5, s_25_8, s_25_8_n, s_25_9, s_25_9_n, s_25_10, s_25_13, s_25_16, s_25_16_n, s_25_17, s_25_17_n, s_25_18, s_25_21, s_25_24, s_25_24_n, s_25_25, s_25_25_n, s_25_26, s_25_29, s_25_32, ↓reduceIte, eq_self, rts_some, rts_none, nq_int, nq_ref, nq_null, nq_none, okr1_0, okr1_1, okr_b, List.length_nil, List.length_cons, Nat.zero_le, Nat.reduceAdd, Nat.reduceLeDiff, b2i_0, b2i_n0, b2i_1, b2i_n1, ite_not, if_true, if_false, not_true_eq_false, not_false_eq_true, true_and, and_true, false_and, and_false, o2, o3, o4, o5, pp_2 hg hi he, pp_3 hg hi he, pp_4 hg hi he (okv1_b hP.2.1), pp_5 hg hi he]
  rfl
abbrev BT : List (Nat × Nat) := [(1, 25), (2, 25), (3, 25), (4, 25), (5, 25), (6, 25), (8, 42)]
theorem bl_n6 {i : Nat} (hi : i < 6) (h0 : M (14 + 9 * i + 0) = M2 (14 + 9 * i + 0)) (h6 : ¬ M (14 + 9 * i + 0) = 6) : WC LG B (cpP M M2 i) F ex hd C = WC LG B (blM M M2 i) F ex hd C := by
  have b0 : blM M M2 i (14 + 9 * i + 0) = M (14 + 9 * i + 0) := blM_o (by omega)
  refine WC_sh (fun k hk => wcl_sh (i := i) hi hk (fun q hq => (cpP_out hq).trans (blM_o (by omega)).symm) ((cpP_in (by decide)).trans (by rw [b0, h0])) (fun _ w h1 h4 => (cpP_in (by omega)).trans (blM_i h1 h4).symm) (fun _ h => ?_))
  rw [b0] at h
  exact absurd h h6
theorem c_tbl (hg : ∀ r, gr (LG r) = r) (hD : B2 + 25 ≤ B ∨ B + 25 ≤ B2) (hO : OW LG C B2 M2 F2 ex2 hd2) {i : Nat} (hi : i < 6) (he : ex i = true) (he2 : ex2 i = true) (hP : P1 M2 i) (h1 : M (14 + 9 * i + 0) = 6) (h2 : M2 (14 + 9 * i + 0) = 6) : WP V (cdT Ev) mx (d + 2) 42 [.ref (LG (B + 13 + i)), .ref (LG (B2 + 13 + i))] (GW LG gr B M F ex hd C G z) Q = Q none (GW LG gr B (cpP M M2 i) F ex hd C G z) := by
  have b0 : blM M M2 i (14 + 9 * i + 0) = 6 := (blM_o (by omega)).trans h1
  have hcv : ∀ K : Nat → Prop, cv [(8, 25)] (GW LG gr B M F ex hd C G z) (LG (B + 13 + i)) K = K 25 := fun K => r_cv hg (WC_p hi he) (by rw [h1]; rfl)
  have hp2 : PO LG (WC LG B (blM M M2 i) F ex hd C) B2 M2 i := xPO hD hO hi he2
  have hio : ∀ K : Int32 → Prop, io [8] [1, 2, 3, 4, 5, 6] (GW LG gr B (blM M M2 i) F ex hd C G z) (LG (B2 + 13 + i)) K = K 1 := by
    intro K
    rw [r_io hg hp2.1, h2]
    exact if_pos (by decide)
  have hco : ∀ K : Prop, co [8] (GW LG gr B (blM M M2 i) F ex hd C G z) (LG (B2 + 13 + i)) K = K := by
    intro K
    rw [r_co hg hp2.1, h2]
    exact propext ⟨fun h => h.2, fun h => ⟨by decide, h⟩⟩
  have hm2 : ∀ K : Value → Prop, gf [8] 6 (GW LG gr B (blM M M2 i) F ex hd C G z) (LG (B2 + 13 + i)) K = K (.ref (LG (B2 + 19 + i))) := fun K => og_6 hg hp2 h2
  have hm1 : ∀ K : Value → Prop, gf [8] 6 (GW LG gr B (blM M M2 i) F ex hd C G z) (LG (B + 13 + i)) K = K (.ref (LG (B + 19 + i))) := fun K => pg_6 hg hi he b0
  have ec : va_up (WC LG B (blM M M2 i) F ex hd C) (B + 19 + i) (some (.inl (2, 4, .inl (va_cpy (ca (14 + 9 * i + 5) 1 4 M2) (ca (14 + 9 * i + 5) 1 4 (blM M M2 i)) 0 0 4)))) = WC LG B (cpP M M2 i) F ex hd C := by
    rw [show B + 19 + i = B + (i + 6 + 13) by omega]
    refine WC_set (k := i + 6 + 13) (by omega) ?_ (fun j hj hj25 => wcl_sh (i := i) hi hj25 (fun q hq => (cpP_out hq).trans (blM_o (by omega)).symm) ((cpP_in (by decide)).trans (by rw [b0, h2])) (fun _ w h1 h4 => (cpP_in (by omega)).trans (blM_i h1 h4).symm) (fun e => absurd e (by omega)))
    have c0 : cpP M M2 i (14 + 9 * i + 0) = 6 := (cpP_in (by decide)).trans h2
    simp only [wcl]
    rw [if_neg (by omega), Nat.add_sub_cancel, if_pos ⟨he, c0⟩]
    have e2 : ca (14 + 9 * i + 5) 1 4 (cpP M M2 i) = va_cpy (ca (14 + 9 * i + 5) 1 4 M2) (ca (14 + 9 * i + 5) 1 4 (blM M M2 i)) 0 0 4 := by
      funext r
      by_cases hr : r < 4
      · rw [pk_cpy_in (by omega) (by omega), ca_at hr, ca_at (by omega)]
        rw [show 14 + 9 * i + 5 + 1 * r = 14 + 9 * i + (5 + r) by omega, cpP_in (by omega), show 14 + 9 * i + 5 + 1 * (0 + (r - 0)) = 14 + 9 * i + (5 + r) by omega]
      · rw [pk_cpy_out (by omega)]
        unfold ca
        rw [if_neg hr, if_neg hr]
    rw [e2]
  have hcp : ∀ K : HS → Prop, ci2 (GW LG gr B (blM M M2 i) F ex hd C G z) (LG (B2 + 19 + i)) (LG (B + 19 + i)) 4 0 0 K = K (GW LG gr B (cpP M M2 i) F ex hd C G z) := by
    intro K
    rw [r_ci2 hg (hp2.2 h2) (WC_m hi he b0)]
    simp only [cl_0, cl_4]
    rw [ec]
    exact propext ⟨fun h => h.2, fun h => ⟨by decide, h⟩⟩
  have z10 : ((1 : Int32) = 0) = False := by decide
  rw [e_42]
  simp only [s_42_0, s_42_0_n, s_42_1, s_42_1_n, s_42_2, s_42_5, s_42_5_n, s_42_6, s_42_6_n, s_42_9, s_42_12, s_42_12_n, s_42_13, s_42_16, s_42_16_n, s_42_17, s_42_17_n, s_42_18, s_42_21, s_42_22, s_42_22_n, s_42_23, s_42_26, s_42_27, s_42_28, s_42_31, ↓reduceIte, eq_self, rts_some, rts_none, nq_int, nq_ref, nq_null, nq_none, okr1_0, okr1_1, okr_b, List.length_nil, List.length_cons, Nat.zero_le, Nat.reduceAdd, Nat.reduceLeDiff, b2i_0, b2i_n0, b2i_1, b2i_n1, ite_not, if_true, if_false, not_true_eq_false, not_false_eq_true, true_and, and_true, false_and, and_false, hcv, c_obl hg hD hO hi he he2 hP, hio, z10, hco, hm2, hm1, hcp]
end
