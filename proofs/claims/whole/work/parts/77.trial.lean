/-! What is tried on a second world: the class. -/
/-- what an asking method leaves behind -/
def KP (BIG : Nat) (LG : Nat → Nat) (G : Nat → Option AE) (z : Nat × Nat) (LG' gr' : Nat → Nat) (G' : Nat → Option AE) (z' : Nat × Nat) (C' : Nat → Option AE) : Prop := LGx 150 LG LG' ∧ LV LG' gr' C' z' BIG ∧ (∀ S, GN S LG G z → GN S LG' G' z') ∧ z'.1 ≤ z.1 + 12 ∧ z'.2 ≤ z.2 + 66
/-- sizes -/
def SZ (M : Nat → Int32) (k1 k2 k3 : Nat) : Prop := M 71 = nI k1 ∧ k1 ≤ 5 ∧ M 82 = nI k2 ∧ k2 ≤ 10 ∧ M 103 = nI k3 ∧ k3 ≤ 8
section
variable {V : Nat → Option AE} {Ev : Nat → Value} {d : Nat} {Q : Option Value → HS → Prop}
variable {LG gr : Nat → Nat} {M F : Nat → Int32} {ex : Nat → Bool} {hd : Option Nat} {D G : Nat → Option AE} {z : Nat × Nat} {cl : List Cls} {kf : Int32} {nb : Nat}
variable {Mt Ft : Nat → Int32} {xt : Nat → Bool} {ht : Option Nat}
theorem WC_LG {LG LG' : Nat → Nat} {B : Nat} {C : Nat → Option AE} (h : ∀ q, q < 25 → LG' (B + q) = LG (B + q)) (hh : ∀ r, hd = some r → LG' r = LG r) : WC LG' B M F ex hd C = WC LG B M F ex hd C := by
  funext r
  by_cases hr : r < B ∨ B + 25 ≤ r
  · rw [WC_out hr, WC_out hr]
  · obtain ⟨k, hk, rfl⟩ : ∃ k, k < 25 ∧ r = B + k := ⟨r - B, by omega, by omega⟩
    rw [WC_k k hk, WC_k k hk, wcl_LG h hh hk]
theorem bR_o {hh : Option Nat} {B : Nat} (hb : bR hh) (hB : B + 25 ≤ 300) : ∀ r, hh = some r → r + 5 ≤ B ∨ B + 25 ≤ r := fun r hr => by
  have := hb r hr
  omega
/-- the trial world becomes like the world now -/
theorem c_tl {BIG c k1 k2 k3 : Nat} (hL : LV LG gr (WC LG 100 M F ex hd (WC LG 150 Mt Ft xt ht D)) z BIG) (hz : z.1 + 12 ≤ BIG) (hb : bR hd) (hbt : bR ht) (hk : WK M ex c) (hS : SZ M k1 k2 k3) (H : ∀ LG' gr' G' z' M', KP BIG LG G z LG' gr' G' z' (WC LG' 150 M' Ft (exQ xt c) hd (WC LG' 100 M F ex hd D)) → WK M' (exQ xt c) c → SL M' M c k1 k2 k3 → Q none (GW LG' gr' 150 M' Ft (exQ xt c) hd (WC LG' 100 M F ex hd D) G' z')) : WP V (cdT Ev) mx (d + 6) 49 [.ref (LG 150), .ref (LG 100)] (GW LG gr 100 M F ex hd (WC LG 150 Mt Ft xt ht D) G z) Q := by
  have e1 : WC LG 100 M F ex hd (WC LG 150 Mt Ft xt ht D) = WC LG 150 Mt Ft xt ht (WC LG 100 M F ex hd D) := WC_sw (by decide)
  rw [GW, e1]
  rw [e1] at hL
  obtain ⟨s1, s2, s3, s4, s5, s6⟩ := hS
  refine c_like (BIG := BIG) (B2 := 100) (F2 := F) hL hz (by decide) OW_W (bR_o hbt (by decide)) (bR_o hb (by decide)) hk s1 s2 s3 s4 s5 s6 (fun LG' gr' G' z' M' hx hL' gn z1 z2 sm => ?_)
  have e2 : WC LG 100 M F ex hd D = WC LG' 100 M F ex hd D := (WC_LG (fun q hq => hx _ (by omega)) (fun r hr => hx _ (by have := hb r hr; omega))).symm
  rw [e2] at hL' ⊢
  have sl := SM_SL sm
  refine H LG' gr' G' z' M' ⟨hx, hL', gn, z1, z2⟩ ⟨SL_c6 sl hk.1, fun i hi => ⟨?_, SL_P1 sl hi (WK_P hk hi)⟩⟩ sl
  unfold exQ
  rw [if_pos hi]
theorem KP_F {BIG : Nat} {LG' gr' : Nat → Nat} {G' : Nat → Option AE} {z' : Nat × Nat} {M' M2 F2 : Nat → Int32} {xt' : Nat → Bool} {h2 : Option Nat} {C : Nat → Option AE} (hk : ∀ j, j < 6 → xt' j = true → M2 (14 + 9 * j + 0) = M' (14 + 9 * j + 0)) (h : KP BIG LG G z LG' gr' G' z' (WC LG' 150 M' Ft xt' ht C)) : KP BIG LG G z LG' gr' G' z' (WC LG' 150 M2 F2 xt' h2 C) := ⟨h.1, LV_dom hk h.2.1, h.2.2⟩
theorem KP_x {BIG : Nat} {LG' gr' : Nat → Nat} {G' : Nat → Option AE} {z' : Nat × Nat} {C' : Nat → Option AE} (h : KP BIG LG G z LG' gr' G' z' C') : ∀ r, (r < 163 ∨ 175 ≤ r) → LG' r = LG r := fun r hr => h.1 r (by omega)
theorem KP_DM {BIG : Nat} {LG' gr' : Nat → Nat} {G' : Nat → Option AE} {z' : Nat × Nat} {C' : Nat → Option AE} (h : KP BIG LG G z LG' gr' G' z' C') (hm : DM LG D kf nb) : DM LG' D kf nb := DM_x (fun r hr => KP_x h r (by omega)) hm
theorem KP_HB {BIG B : Nat} {LG' gr' : Nat → Nat} {G' : Nat → Option AE} {z' : Nat × Nat} {C' : Nat → Option AE} (h : KP BIG LG G z LG' gr' G' z' C') (hbr : bR hd) (hb : HB LG D B hd cl) : HB LG' D B hd cl := HB_x hbr (fun r hr => KP_x h r (by omega)) hb
/-- the trial world's bridge, beside the world now -/
theorem HB_t {B : Nat} {LG' : Nat → Nat} {M F : Nat → Int32} (hbr : bR hd) (hb : HB LG' D B hd cl) : HB LG' (WC LG' 100 M F ex hd D) 150 hd cl := HB_W (by decide) (bR_o hbr (by decide)) (HB_b hbr (by decide) hb)
theorem DM_2 (hm : DM LG D kf nb) : DM LG (WC LG 150 Mt Ft xt ht (WC LG 100 M F ex hd D)) kf nb := DM_W (by decide) (DM_W (by decide) hm)
/-- who is behind a world's days is of the kind that it was -/
theorem days_kd {N : Nat → Int32} {c : Nat} (hc : c6 N c) (n : Nat) {j : Nat} (hj : j < 6) : daysF N cl n (14 + 9 * j + 0) = N (14 + 9 * j + 0) := by
  induction n with
  | zero => rfl
  | succ n ih => exact (dayF_out (daysF_c hc n) (fun i hi => by omega) (by omega) (by omega) (by omega)).trans ih
theorem c_comes_l (hg : ∀ r, gr (LG r) = r) {c s K : Nat} {C : Nat → Option AE} {v : Int32} (hm : DM LG C kf nb) (hk : WK Mt xt c) (hS : isS (Mt 12)) (hB : Bk K Mt c) (hK : K + 61 < 2 ^ 30) (hb : HB LG C 150 ht cl) (hs : s < 12) (H : ∀ n Ft', Q (some (.int v)) (GW LG gr 150 (daysF Mt cl n) Ft' xt ht C G z)) : ∀ m j, j + m = 61 → v = comF Mt cl s m j → ∀ Ft, wp V (cdT Ev) mx (d + 6) 118 13 [some (.ref (LG 0)), some (.int (nI s)), some (.int (nI j))] [] (GW LG gr 150 (daysF Mt cl j) Ft xt ht C G z) Q := by
  intro m
  induction m with
  | zero =>
    intro j hj hv Ft
    have : j = 61 := by omega
    subst this
    have hv' : v = -5 := hv
    subst hv'
    rw [s_118_13]
    simp only [s_118_0, s_118_0_n, s_118_1, s_118_4, s_118_4_n, s_118_5, s_118_8, s_118_11, s_118_12, s_118_14, s_118_16, s_118_19, s_118_19_n, s_118_20, s_118_23, s_118_26, s_118_27, s_118_28, s_118_29, s_118_30, s_118_31, s_118_34, s_118_35, s_118_36, s_118_36_n, s_118_37, s_118_40, s_118_42, s_118_45, s_118_48, s_118_51, s_118_53, ↓reduceIte, eq_self, rts_some, rts_none, nq_int, nq_ref, nq_null, nq_none, okr1_0, okr1_1, okr_b, List.length_nil, List.length_cons, Nat.zero_le, Nat.reduceAdd, Nat.reduceLeDiff, b2i_0, b2i_n0, b2i_1, b2i_n1, ite_not, if_true, if_false, not_true_eq_false, not_false_eq_true, true_and, and_true, false_and, and_false, show ((60 : Int32) < nI 61) = True from by decide]
    exact H 61 Ft
  | succ m ih =>
    intro j hj hv Ft
    have hlt : ((60 : Int32) < nI j) = False := eq_false (nI_nlt (a := 60) (b := j) (by omega) (by decide))
    simp only [comF] at hv
    rw [s_118_13]
    by_cases hbt : bt (daysF Mt cl j 13) s = 1
    · have hb1 : (daysF Mt cl j 13 >>> (nI s &&& 31) &&& 1 = 1) = True := eq_true hbt
      rw [if_pos hbt] at hv
      subst hv
      simp only [s_118_0, s_118_0_n, s_118_1, s_118_4, s_118_4_n, s_118_5, s_118_8, s_118_11, s_118_12, s_118_14, s_118_16, s_118_19, s_118_19_n, s_118_20, s_118_23, s_118_26, s_118_27, s_118_28, s_118_29, s_118_30, s_118_31, s_118_34, s_118_35, s_118_36, s_118_36_n, s_118_37, s_118_40, s_118_42, s_118_45, s_118_48, s_118_51, s_118_53, ↓reduceIte, eq_self, rts_some, rts_none, nq_int, nq_ref, nq_null, nq_none, okr1_0, okr1_1, okr_b, List.length_nil, List.length_cons, Nat.zero_le, Nat.reduceAdd, Nat.reduceLeDiff, b2i_0, b2i_n0, b2i_1, b2i_n1, ite_not, if_true, if_false, not_true_eq_false, not_false_eq_true, true_and, and_true, false_and, and_false, hlt, dg_1 hg (DM_W (B := 150) (by decide) hm), wg_4 hg, hb1]
      exact H j Ft
    · have hb1 : (daysF Mt cl j 13 >>> (nI s &&& 31) &&& 1 = 1) = False := eq_false hbt
      rw [if_neg hbt] at hv
      simp only [s_118_0, s_118_0_n, s_118_1, s_118_4, s_118_4_n, s_118_5, s_118_8, s_118_11, s_118_12, s_118_14, s_118_16, s_118_19, s_118_19_n, s_118_20, s_118_23, s_118_26, s_118_27, s_118_28, s_118_29, s_118_30, s_118_31, s_118_34, s_118_35, s_118_36, s_118_36_n, s_118_37, s_118_40, s_118_42, s_118_45, s_118_48, s_118_51, s_118_53, ↓reduceIte, eq_self, rts_some, rts_none, nq_int, nq_ref, nq_null, nq_none, okr1_0, okr1_1, okr_b, List.length_nil, List.length_cons, Nat.zero_le, Nat.reduceAdd, Nat.reduceLeDiff, b2i_0, b2i_n0, b2i_1, b2i_n1, ite_not, if_true, if_false, not_true_eq_false, not_false_eq_true, true_and, and_true, false_and, and_false, hlt, dg_1 hg (DM_W (B := 150) (by decide) hm), wg_4 hg, hb1, wcv hg]
      have mx : (2147483647 : Int32) = nI 2147483647 := rfl
      rw [mx]
      refine c_goDay hg (WK_days hk j) (daysF_12 hS j) (Bk_lt (Bk_days hk.1 hB j) (by omega) (by decide)) hb (fun F' => ?_)
      simp only [s_118_0, s_118_0_n, s_118_1, s_118_4, s_118_4_n, s_118_5, s_118_8, s_118_11, s_118_12, s_118_14, s_118_16, s_118_19, s_118_19_n, s_118_20, s_118_23, s_118_26, s_118_27, s_118_28, s_118_29, s_118_30, s_118_31, s_118_34, s_118_35, s_118_36, s_118_36_n, s_118_37, s_118_40, s_118_42, s_118_45, s_118_48, s_118_51, s_118_53, ↓reduceIte, eq_self, rts_some, rts_none, nq_int, nq_ref, nq_null, nq_none, okr1_0, okr1_1, okr_b, List.length_nil, List.length_cons, Nat.zero_le, Nat.reduceAdd, Nat.reduceLeDiff, b2i_0, b2i_n0, b2i_1, b2i_n1, ite_not, if_true, if_false, not_true_eq_false, not_false_eq_true, true_and, and_true, false_and, and_false, nI_1]
      exact ih (j + 1) (by omega) hv F'
end
