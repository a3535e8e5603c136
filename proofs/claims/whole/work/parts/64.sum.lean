/-! What a bridge presses; a person's sums, urges, tip in a world. -/
theorem bI_t : bI true = 1 := rfl
theorem bI_f : bI false = 0 := rfl
section
variable {V : Nat → Option AE} {Ev : Nat → Value} {Q : Option Value → HS → Prop}
variable {LG gr : Nat → Nat} {C G : Nat → Option AE} {z : Nat × Nat}
theorem c_press_l (hg : ∀ r, gr (LG r) = r) {d r rf : Nat} {x1 x2 x4 x7 x8 : Int32} {code wt en nm : Nat → Int32} (h1 : C r = some (.inr (0, [.ref (LG (r + 1)), .int x1, .int x2, .ref (LG (r + 2)), .int x4, .ref (LG (r + 3)), .ref (LG (r + 4)), .int x7, .int x8]))) (h3 : C (r + 2) = some (.inl (2, 100, .inl code))) (h5 : C (r + 3) = some (.inl (2, 10, .inl wt))) (h6 : C (r + 4) = some (.inl (2, 10, .inl en))) (h4 : C rf = some (.inl (2, 6, .inl nm))) {L : Nat} (hL : L ≤ 10) (h7 : x7 = nI L) : ∀ (l : List Cls) (i p : Nat) (s : Int32), i + l.length = L → cOK code wt en l i p → wp V (cdT Ev) mx (d + 1) 13 7 [some (.ref (LG r)), some (.ref (LG rf)), some (.int s), some (.int (nI p)), some (.int (nI i))] [] (GH LG gr C G z) Q = Q (some (.int (sumC nm s l))) (GH LG gr C G z) := by
  have g7 : ∀ K : Value → Prop, gf [0] 7 (GH LG gr C G z) (LG r) K = K (.int x7) := fun K => r_gf hg h1 (by decide) rfl
  have g5 : ∀ K : Value → Prop, gf [0] 5 (GH LG gr C G z) (LG r) K = K (.ref (LG (r + 3))) := fun K => r_gf hg h1 (by decide) rfl
  have g6 : ∀ K : Value → Prop, gf [0] 6 (GH LG gr C G z) (LG r) K = K (.ref (LG (r + 4))) := fun K => r_gf hg h1 (by decide) rfl
  have a5 : ∀ (i : Int32) (K : Int32 → Prop), ai 2 i V (GH LG gr C G z) (LG (r + 3)) K = (ix i 10 ∧ K (wt i.toNatClampNeg)) := fun i K => r_ai hg h5
  have a6 : ∀ (i : Int32) (K : Int32 → Prop), ai 2 i V (GH LG gr C G z) (LG (r + 4)) K = (ix i 10 ∧ K (en i.toNatClampNeg)) := fun i K => r_ai hg h6
  have cvh : ∀ K : Nat → Prop, cv [(0, 14)] (GH LG gr C G z) (LG r) K = K 14 := fun K => r_cv hg h1 rfl
  intro l
  induction l with
  | nil =>
    intro i p s hi _
    have hi' : i = L := by simpa using hi
    subst hi'
    simp only [s_13_0, s_13_1, s_13_2, s_13_3, s_13_4, s_13_5, s_13_7, s_13_9, s_13_9_n, s_13_10, s_13_13, s_13_16, s_13_16_n, s_13_17, s_13_20, s_13_22, s_13_23, s_13_26, s_13_26_n, s_13_27, s_13_28, s_13_28_n, s_13_29, s_13_32, s_13_34, s_13_35, s_13_35_n, s_13_36, s_13_39, s_13_42, s_13_43, s_13_43_n, s_13_44, s_13_47, s_13_49, s_13_50, s_13_51, s_13_52, s_13_52_n, s_13_53, s_13_56, s_13_58, s_13_59, s_13_60, s_13_63, s_13_66, s_13_67, ↓reduceIte, eq_self, rts_some, rts_none, nq_int, nq_ref, nq_null, nq_none, okr1_0, okr1_1, okr_b, List.length_nil, List.length_cons, Nat.zero_le, Nat.reduceAdd, Nat.reduceLeDiff, b2i_0, b2i_n0, b2i_1, b2i_n1, ite_not, if_true, if_false, not_true_eq_false, not_false_eq_true, true_and, and_true, false_and, and_false, g7, h7, Int32.le_refl, sumC, List.foldl_nil]
  | cons c l ih =>
    intro i p s hi ho
    obtain ⟨o1, o2, o3, o4, ⟨n, o5⟩, o6⟩ := ho
    have hi2 : i < L := by
      simp at hi
      omega
    have hi' : i + 1 + l.length = L := by
      simp at hi
      omega
    have hlt : (nI L ≤ nI i) = False := eq_false (nI_ge hi2 (by omega))
    have hx1 : ix (nI i) 10 = True := ix_nIT (by omega) (by decide)
    have es : sumC nm s (c :: l) = sumC nm (s + cSum nm c) l := rfl
    have hh : ∀ Q : Option Value → HS → Prop, WP V (cdT Ev) mx (d + 1) 14 [.ref (LG r), .int (nI p), .int (nI (p + c.2.2.length)), .ref (LG rf)] (GH LG gr C G z) Q = Q (some (.int (bI ((evR nm c.2.2 []).headD false)))) (GH LG gr C G z) := by
      intro Q
      rw [e_14]
      simp only [s_14_0, s_14_1, s_14_3, s_14_4, ↓reduceIte, eq_self, rts_some, rts_none, nq_int, nq_ref, nq_null, nq_none, okr1_0, okr1_1, okr_b, List.length_nil, List.length_cons, Nat.zero_le, Nat.reduceAdd, Nat.reduceLeDiff, b2i_0, b2i_n0, b2i_1, b2i_n1, ite_not, if_true, if_false, not_true_eq_false, not_false_eq_true, true_and, and_true, false_and, and_false]
      exact c_holds_l hg h1 rfl h3 h4 o3 c.2.2 p n [] o4 rfl o5 (by simp) _ _ _ _ nq_none nq_none nq_none
    rw [es, cSum_w]
    by_cases hw : cW c = 0
    · have e0 : (if (evR nm c.2.2 []).headD false = true then cW c else 0) = 0 := by
        rw [hw]
        split <;> rfl
      rw [e0, Int32.add_zero]
      rw [s_13_7]
      simp only [s_13_0, s_13_1, s_13_2, s_13_3, s_13_4, s_13_5, s_13_9, s_13_9_n, s_13_10, s_13_13, s_13_16, s_13_16_n, s_13_17, s_13_20, s_13_22, s_13_23, s_13_26, s_13_26_n, s_13_27, s_13_28, s_13_28_n, s_13_29, s_13_32, s_13_34, s_13_35, s_13_35_n, s_13_36, s_13_39, s_13_42, s_13_43, s_13_43_n, s_13_44, s_13_47, s_13_49, s_13_50, s_13_51, s_13_52, s_13_52_n, s_13_53, s_13_56, s_13_58, s_13_59, s_13_60, s_13_63, s_13_66, s_13_67, ↓reduceIte, eq_self, rts_some, rts_none, nq_int, nq_ref, nq_null, nq_none, okr1_0, okr1_1, okr_b, List.length_nil, List.length_cons, Nat.zero_le, Nat.reduceAdd, Nat.reduceLeDiff, b2i_0, b2i_n0, b2i_1, b2i_n1, ite_not, if_true, if_false, not_true_eq_false, not_false_eq_true, true_and, and_true, false_and, and_false, g7, h7, hlt, g5, g6, a5, a6, hx1, nI_clamp (show i < 2 ^ 31 by omega), o1, o2, hw, nI_1]
      exact ih (i + 1) _ s hi' o6
    · have hw' : (cW c = 0) = False := eq_false hw
      by_cases hb : (evR nm c.2.2 []).headD false = true
      · have z10 : ((1 : Int32) = 0) = False := by decide
        rw [if_pos hb]
        rw [s_13_7]
        simp only [s_13_0, s_13_1, s_13_2, s_13_3, s_13_4, s_13_5, s_13_9, s_13_9_n, s_13_10, s_13_13, s_13_16, s_13_16_n, s_13_17, s_13_20, s_13_22, s_13_23, s_13_26, s_13_26_n, s_13_27, s_13_28, s_13_28_n, s_13_29, s_13_32, s_13_34, s_13_35, s_13_35_n, s_13_36, s_13_39, s_13_42, s_13_43, s_13_43_n, s_13_44, s_13_47, s_13_49, s_13_50, s_13_51, s_13_52, s_13_52_n, s_13_53, s_13_56, s_13_58, s_13_59, s_13_60, s_13_63, s_13_66, s_13_67, ↓reduceIte, eq_self, rts_some, rts_none, nq_int, nq_ref, nq_null, nq_none, okr1_0, okr1_1, okr_b, List.length_nil, List.length_cons, Nat.zero_le, Nat.reduceAdd, Nat.reduceLeDiff, b2i_0, b2i_n0, b2i_1, b2i_n1, ite_not, if_true, if_false, not_true_eq_false, not_false_eq_true, true_and, and_true, false_and, and_false, g7, h7, hlt, g5, g6, a5, a6, hx1, nI_clamp (show i < 2 ^ 31 by omega), o1, o2, hw', cvh, hh, hb, bI_t, z10, nI_1]
        exact ih (i + 1) _ _ hi' o6
      · have hb2 := Bool.eq_false_iff.mpr hb
        rw [if_neg hb, Int32.add_zero]
        rw [s_13_7]
        simp only [s_13_0, s_13_1, s_13_2, s_13_3, s_13_4, s_13_5, s_13_9, s_13_9_n, s_13_10, s_13_13, s_13_16, s_13_16_n, s_13_17, s_13_20, s_13_22, s_13_23, s_13_26, s_13_26_n, s_13_27, s_13_28, s_13_28_n, s_13_29, s_13_32, s_13_34, s_13_35, s_13_35_n, s_13_36, s_13_39, s_13_42, s_13_43, s_13_43_n, s_13_44, s_13_47, s_13_49, s_13_50, s_13_51, s_13_52, s_13_52_n, s_13_53, s_13_56, s_13_58, s_13_59, s_13_60, s_13_63, s_13_66, s_13_67, ↓reduceIte, eq_self, rts_some, rts_none, nq_int, nq_ref, nq_null, nq_none, okr1_0, okr1_1, okr_b, List.length_nil, List.length_cons, Nat.zero_le, Nat.reduceAdd, Nat.reduceLeDiff, b2i_0, b2i_n0, b2i_1, b2i_n1, ite_not, if_true, if_false, not_true_eq_false, not_false_eq_true, true_and, and_true, false_and, and_false, g7, h7, hlt, g5, g6, a5, a6, hx1, nI_clamp (show i < 2 ^ 31 by omega), o1, o2, hw', cvh, hh, hb2, bI_f, nI_1]
        exact ih (i + 1) _ s hi' o6
theorem c_pressing (hg : ∀ r, gr (LG r) = r) {d r rf : Nat} {cl : List Cls} {nm : Nat → Int32} (hb : BrC LG C r cl) (h4 : C rf = some (.inl (2, 6, .inl nm))) : WP V (cdT Ev) mx (d + 2) 13 [.ref (LG r), .ref (LG rf)] (GH LG gr C G z) Q = Q (some (.int (sumC nm 0 cl))) (GH LG gr C G z) := by
  obtain ⟨x1, x2, x4, code, wt, en, h1, h3, h5, h6, h7, h8⟩ := hb
  rw [e_13]
  simp only [s_13_0, s_13_1, s_13_2, s_13_3, s_13_4, s_13_5, ↓reduceIte, eq_self, rts_some, rts_none, nq_int, nq_ref, nq_null, nq_none, okr1_0, okr1_1, okr_b, List.length_nil, List.length_cons, Nat.zero_le, Nat.reduceAdd, Nat.reduceLeDiff, b2i_0, b2i_n0, b2i_1, b2i_n1, ite_not, if_true, if_false, not_true_eq_false, not_false_eq_true, true_and, and_true, false_and, and_false]
  exact c_press_l hg h1 h3 h5 h6 h4 h7 rfl cl 0 0 0 (by simp) h8
end
/-- what the world and the person hold, in one row -/
def AG (W M Mp : Nat → Int32) (i : Nat) : Prop := (∀ w, w < 9 → W (14 + 9 * i + w) = Mp (14 + 9 * i + w)) ∧ (∀ s, s < 12 → W s = M s) ∧ W 69 = M 69
theorem AG_self {M : Nat → Int32} {i : Nat} : AG M M M i := ⟨fun _ _ => rfl, fun _ _ => rfl, rfl⟩
theorem urg_ag {W Mp : Nat → Int32} {i s : Nat} {sum sz : Int32} (h : ∀ w, w < 9 → W (14 + 9 * i + w) = Mp (14 + 9 * i + w)) : urg W i s sum sz = urg Mp i s sum sz := by
  unfold urg
  rw [h 0 (by decide), h 1 (by decide), h 3 (by decide), h 4 (by decide), h (5 + s % 4) (by omega)]
theorem BrC_of {LG : Nat → Nat} {C C' : Nat → Option AE} {r : Nat} {cl : List Cls} (h : ∀ k, k < 5 → C' (r + k) = C (r + k)) (hb : BrC LG C r cl) : BrC LG C' r cl := by
  obtain ⟨x1, x2, x4, code, wt, en, h1, h3, h5, h6, h7, h8⟩ := hb
  exact ⟨x1, x2, x4, code, wt, en, (h 0 (by decide)).trans h1, (h 2 (by decide)).trans h3, (h 3 (by decide)).trans h5, (h 4 (by decide)).trans h6, h7, h8⟩
section
variable {V : Nat → Option AE} {Ev : Nat → Value} {d : Nat} {Q : Option Value → HS → Prop}
variable {LG gr : Nat → Nat} {B : Nat} {M F : Nat → Int32} {ex : Nat → Bool} {hd : Option Nat} {C G : Nat → Option AE} {z : Nat × Nat}
variable {Bp : Nat} {Mp W : Nat → Int32} {cl : List Cls}
theorem BrC_W {M' F' : Nat → Int32} {ex' : Nat → Bool} {hd' : Option Nat} {r : Nat} (h : HB LG C B (some r) cl) : BrC LG (WC LG B M' F' ex' hd' C) r cl := BrC_of (fun k hk => WC_out (by have := h.1; omega)) h.2
theorem PO_W {i : Nat} (hi : i < 6) (he : ex i = true) : PO LG (WC LG B M F ex hd C) B M i := ⟨WC_p hi he, fun hk => WC_m hi he hk⟩
theorem PO_out {i : Nat} (h : Bp + 25 ≤ B ∨ B + 25 ≤ Bp) (hi : i < 6) (hp : PO LG C Bp Mp i) : PO LG (WC LG B M F ex hd C) Bp Mp i := ⟨(WC_out (by omega)).trans hp.1, fun hk => (WC_out (by omega)).trans (hp.2 hk)⟩
/-- the sum for a person and a sentence -/
theorem c_sumOf (hg : ∀ r, gr (LG r) = r) {i s : Nat} (hp : ∀ F, PO LG (WC LG B M F ex hd C) Bp Mp i) (hs : s < 12) (hW : AG W M Mp i) (hb : HB LG C B hd cl) : ∃ F', ∀ Q : Option Value → HS → Prop, WP V (cdT Ev) mx (d + 3) 56 [.ref (LG B), .ref (LG (Bp + 13 + i)), .int (nI s)] (GW LG gr B M F ex hd C G z) Q = Q (some (.int (smF W cl i s))) (GW LG gr B M F' ex hd C G z) := by
  have hx : ix (nI s) 12 = True := ix_nIT hs (by decide)
  have hc := nI_clamp (show s < 2 ^ 31 by omega)
  match hd, hb with
  | none, hb =>
    have hb' : cl = [] := hb
    subst hb'
    refine ⟨F, fun Q => ?_⟩
    rw [e_56]
    have hr : rfv LG none = .null := rfl
    simp only [s_56_0, s_56_0_n, s_56_1, s_56_4, s_56_4_n, s_56_7, s_56_7_n, s_56_8, s_56_11, s_56_12, s_56_13, s_56_14, s_56_14_n, s_56_15, s_56_18, s_56_19, s_56_19_n, s_56_20, s_56_23, s_56_24, s_56_24_n, s_56_25, s_56_28, s_56_29, s_56_29_n, s_56_30, s_56_33, s_56_34, s_56_34_n, s_56_35, s_56_38, s_56_39, s_56_39_n, s_56_40, s_56_43, s_56_44, s_56_44_n, s_56_45, s_56_48, s_56_49, s_56_50, s_56_51, s_56_51_n, s_56_52, s_56_55, s_56_56, s_56_56_n, s_56_57, s_56_60, s_56_61, s_56_62, s_56_63, s_56_63_n, s_56_64, s_56_67, s_56_68, s_56_68_n, s_56_69, s_56_72, s_56_74, s_56_75, s_56_76, s_56_76_n, s_56_77, s_56_80, s_56_81, s_56_82, s_56_82_n, s_56_83, s_56_86, s_56_86_n, s_56_87, s_56_90, s_56_93, s_56_94, ↓reduceIte, eq_self, rts_some, rts_none, nq_int, nq_ref, nq_null, nq_none, okr1_0, okr1_1, okr_b, List.length_nil, List.length_cons, Nat.zero_le, Nat.reduceAdd, Nat.reduceLeDiff, b2i_0, b2i_n0, b2i_1, b2i_n1, ite_not, if_true, if_false, not_true_eq_false, not_false_eq_true, true_and, and_true, false_and, and_false, wg_9 hg, hr, wg_0 hg, wa_1 hg, hx, hc]
    rw [show smF W [] i s = M s from hW.2.1 s hs]
  | some r, hb =>
    refine ⟨upd (upd (upd (upd (upd (upd F 0 (nI i)) 1 (Mp (14 + 9 * i + 0))) 2 (Mp (14 + 9 * i + 1))) 3 (nI s)) 4 (M s)) 5 (M 69 - M 69 / 10 * 10), fun Q => ?_⟩
    rw [e_56]
    have hr : rfv LG (some r) = .ref (LG r) := rfl
    have z10 : ((10 : Int32) = 0) = False := by decide
    have o0 : ∀ F (K : Value → Prop), gf [1, 2, 3, 4, 5, 6, 8] 0 (GW LG gr B M F ex (some r) C G z) (LG (Bp + 13 + i)) K = K (.int (Mp (14 + 9 * i + 0))) := fun F K => og_0 hg (hp F)
    have o1 : ∀ F (K : Value → Prop), gf [1, 2, 3, 4, 5, 6, 8] 1 (GW LG gr B M F ex (some r) C G z) (LG (Bp + 13 + i)) K = K (.int (nI i)) := fun F K => og_1 hg (hp F)
    have o2 : ∀ F (K : Value → Prop), gf [1, 2, 3, 4, 5, 6, 8] 2 (GW LG gr B M F ex (some r) C G z) (LG (Bp + 13 + i)) K = K (.int (Mp (14 + 9 * i + 1))) := fun F K => og_2 hg (hp F)
    have cvp : ∀ F (K : Nat → Prop), cv [(0, 13)] (GW LG gr B M F ex (some r) C G z) (LG r) K = K 13 := by
      intro F K
      obtain ⟨x1, x2, x4, code, wt, en, h1, -⟩ := BrC_W (M' := M) (F' := F) (ex' := ex) (hd' := some r) hb
      exact r_cv hg h1 rfl
    have pr : ∀ F (Q : Option Value → HS → Prop), WP V (cdT Ev) mx (d + 2) 13 [.ref (LG r), .ref (LG (B + 12))] (GW LG gr B M F ex (some r) C G z) Q = Q (some (.int (sumC F 0 cl))) (GW LG gr B M F ex (some r) C G z) := fun F Q => c_pressing hg (BrC_W hb) (WC_k 12 (by decide))
    simp only [s_56_0, s_56_0_n, s_56_1, s_56_4, s_56_4_n, s_56_7, s_56_7_n, s_56_8, s_56_11, s_56_12, s_56_13, s_56_14, s_56_14_n, s_56_15, s_56_18, s_56_19, s_56_19_n, s_56_20, s_56_23, s_56_24, s_56_24_n, s_56_25, s_56_28, s_56_29, s_56_29_n, s_56_30, s_56_33, s_56_34, s_56_34_n, s_56_35, s_56_38, s_56_39, s_56_39_n, s_56_40, s_56_43, s_56_44, s_56_44_n, s_56_45, s_56_48, s_56_49, s_56_50, s_56_51, s_56_51_n, s_56_52, s_56_55, s_56_56, s_56_56_n, s_56_57, s_56_60, s_56_61, s_56_62, s_56_63, s_56_63_n, s_56_64, s_56_67, s_56_68, s_56_68_n, s_56_69, s_56_72, s_56_74, s_56_75, s_56_76, s_56_76_n, s_56_77, s_56_80, s_56_81, s_56_82, s_56_82_n, s_56_83, s_56_86, s_56_86_n, s_56_87, s_56_90, s_56_93, s_56_94, ↓reduceIte, eq_self, rts_some, rts_none, nq_int, nq_ref, nq_null, nq_none, okr1_0, okr1_1, okr_b, List.length_nil, List.length_cons, Nat.zero_le, Nat.reduceAdd, Nat.reduceLeDiff, b2i_0, b2i_n0, b2i_1, b2i_n1, ite_not, if_true, if_false, not_true_eq_false, not_false_eq_true, true_and, and_true, false_and, and_false, wg_9 hg, hr, wg_0 hg, wg_5 hg, wg_10 hg, wa_1 hg, ws_12 hg, ix_0_6, ix_1_6, ix_2_6, ix_3_6, ix_4_6, ix_5_6, cl_0, cl_1, cl_2, cl_3, cl_4, cl_5, hx, hc, o0, o1, o2, z10, cvp, pr]
    obtain ⟨x1, x2, x4, code, wt, en, -, -, -, -, -, h8⟩ := hb.2
    have e : M s + sumC (upd (upd (upd (upd (upd (upd F 0 (nI i)) 1 (Mp (14 + 9 * i + 0))) 2 (Mp (14 + 9 * i + 1))) 3 (nI s)) 4 (M s)) 5 (M 69 - M 69 / 10 * 10)) 0 cl = smF W cl i s := by
      rw [← sumC_add, Int32.add_zero]
      unfold smF
      rw [hW.2.1 s hs]
      refine sumC_cg (fun k hk => ?_) cl 0 0 _ h8
      have w0 := hW.1 0 (by decide)
      have w1 := hW.1 1 (by decide)
      have w2 := hW.2.1 s hs
      have w3 := hW.2.2
      match k, hk with
      | 0, _ => rfl
      | 1, _ => exact w0.symm
      | 2, _ => exact w1.symm
      | 3, _ => rfl
      | 4, _ => exact w2.symm
      | 5, _ =>
        show M 69 - M 69 / 10 * 10 = W 69 - W 69 / 10 * 10
        rw [w3]
      | k + 6, h => exact absurd h (by omega)
    rw [e]
theorem c_uv (hg : ∀ r, gr (LG r) = r) {i s : Nat} (hp : PO LG C B M i) (hs : s < 12) (hP : P1 M i) {sum sz : Int32} : cv [(1, 16), (2, 19), (3, 22), (4, 26), (5, 31), (6, 35), (8, 43)] (GH LG gr C G z) (LG (B + 13 + i)) (fun y => WP V (cdT Ev) mx (d + 3) y [.ref (LG (B + 13 + i)), .int (nI s), .int sum, .int sz] (GH LG gr C G z) Q) = Q (some (.int (urg M i s sum sz))) (GH LG gr C G z) := (ocv hg hp).trans (c_urgeBy hg hp hs hP)
theorem c_urgeFor (hg : ∀ r, gr (LG r) = r) {i s : Nat} (hp : ∀ F, PO LG (WC LG B M F ex hd C) Bp Mp i) (hP : P1 Mp i) (hs : s < 12) (hW : AG W M Mp i) (hb : HB LG C B hd cl) {sz : Int32} : ∃ F', ∀ Q : Option Value → HS → Prop, WP V (cdT Ev) mx (d + 4) 57 [.ref (LG B), .ref (LG (Bp + 13 + i)), .int (nI s), .int sz] (GW LG gr B M F ex hd C G z) Q = Q (some (.int (urg W i s (smF W cl i s) sz))) (GW LG gr B M F' ex hd C G z) := by
  obtain ⟨F', e⟩ := c_sumOf (V := V) (Ev := Ev) (d := d) (F := F) (G := G) (z := z) hg hp hs hW hb
  refine ⟨F', fun Q => ?_⟩
  rw [e_57]
  have cu := fun (Q : Option Value → HS → Prop) => c_uv (V := V) (Ev := Ev) (d := d) (Q := Q) (G := G) (z := z) (sum := smF W cl i s) (sz := sz) hg (hp F') hs hP
  simp only [s_57_0, s_57_0_n, s_57_1, s_57_2, s_57_2_n, s_57_3, s_57_3_n, s_57_4, s_57_5, s_57_8, s_57_9, s_57_12, ↓reduceIte, eq_self, rts_some, rts_none, nq_int, nq_ref, nq_null, nq_none, okr1_0, okr1_1, okr_b, List.length_nil, List.length_cons, Nat.zero_le, Nat.reduceAdd, Nat.reduceLeDiff, b2i_0, b2i_n0, b2i_1, b2i_n1, ite_not, if_true, if_false, not_true_eq_false, not_false_eq_true, true_and, and_true, false_and, and_false, wcv hg, e, cu]
  rw [urg_ag hW.1]
end
