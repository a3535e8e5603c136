/-! What is asked, on the trial world: the class. -/
def P2 (M : Nat → Int32) (i : Nat) : Prop := M (14 + 9 * i + 0) = 6 → ∀ w, w < 4 → ∃ v, v ≤ 9 ∧ M (14 + 9 * i + 5 + w) = nI v
/-- what holds of the numbers of a world -/
def WI (M : Nat → Int32) (c k1 k2 k3 : Nat) : Prop := c6 M c ∧ (∀ i, i < c → P1 M i ∧ P2 M i) ∧ isS (M 12) ∧ isS (M 13) ∧ WO M ∧ SEok M k1 c ∧ PLok M k2 c ∧ BKok M k3 ∧ (∃ t, t ≤ 9999 ∧ M 69 = nI t ∧ Bk t M c)
theorem WI_c {M : Nat → Int32} {c k1 k2 k3 : Nat} (h : WI M c k1 k2 k3) : c6 M c := h.1
theorem WI_P {M : Nat → Int32} {c k1 k2 k3 i : Nat} (h : WI M c k1 k2 k3) (hi : i < c) : P1 M i := (h.2.1 i hi).1
theorem WI_12 {M : Nat → Int32} {c k1 k2 k3 : Nat} (h : WI M c k1 k2 k3) : isS (M 12) := h.2.2.1
theorem WI_13 {M : Nat → Int32} {c k1 k2 k3 : Nat} (h : WI M c k1 k2 k3) : isS (M 13) := h.2.2.2.1
theorem WI_WO {M : Nat → Int32} {c k1 k2 k3 : Nat} (h : WI M c k1 k2 k3) : WO M := h.2.2.2.2.1
theorem WI_SE {M : Nat → Int32} {c k1 k2 k3 : Nat} (h : WI M c k1 k2 k3) : SEok M k1 c := h.2.2.2.2.2.1
theorem WI_PL {M : Nat → Int32} {c k1 k2 k3 : Nat} (h : WI M c k1 k2 k3) : PLok M k2 c := h.2.2.2.2.2.2.1
theorem WI_BK {M : Nat → Int32} {c k1 k2 k3 : Nat} (h : WI M c k1 k2 k3) : BKok M k3 := h.2.2.2.2.2.2.2.1
theorem WI_SZ {M : Nat → Int32} {c k1 k2 k3 : Nat} (h : WI M c k1 k2 k3) : SZ M k1 k2 k3 := ⟨(WI_SE h).1, (WI_SE h).2.1, (WI_PL h).1, (WI_PL h).2.1, (WI_BK h).1, (WI_BK h).2.1⟩
theorem WI_B {M : Nat → Int32} {c k1 k2 k3 : Nat} (h : WI M c k1 k2 k3) : Bk 9999 M c := by
  obtain ⟨t, ht, -, hb⟩ := h.2.2.2.2.2.2.2.2
  intro i hi
  obtain ⟨b, h1, h2⟩ := hb i hi
  exact ⟨b, by omega, h2⟩
theorem WI_W {M : Nat → Int32} {c k1 k2 k3 : Nat} {ex : Nat → Bool} (h : WI M c k1 k2 k3) (he : ∀ i, i < c → ex i = true) : WK M ex c := ⟨h.1, fun i hi => ⟨he i hi, WI_P h hi⟩⟩
theorem SL_SE {M N : Nat → Int32} {c k1 k2 k3 : Nat} (s : SL M N c k1 k2 k3) (h : SEok N k1 c) : SEok M k1 c := by
  obtain ⟨a, b, r⟩ := h
  refine ⟨(SL_71 s).trans a, b, fun q hq => ?_⟩
  rw [(SL_r1 s hq).1, (SL_r1 s hq).2]
  exact r q hq
theorem SL_PL {M N : Nat → Int32} {c k1 k2 k3 : Nat} (s : SL M N c k1 k2 k3) (h : PLok N k2 c) : PLok M k2 c := by
  obtain ⟨a, b, r⟩ := h
  refine ⟨(SL_82 s).trans a, b, fun q hq => ?_⟩
  rw [(SL_r2 s hq).1, (SL_r2 s hq).2]
  exact r q hq
theorem SL_BK {M N : Nat → Int32} {c k1 k2 k3 : Nat} (s : SL M N c k1 k2 k3) (h : BKok N k3) : BKok M k3 := by
  obtain ⟨a, b, r⟩ := h
  refine ⟨(SL_103 s).trans a, b, fun q hq => ?_⟩
  rw [(SL_r3 s hq).1]
  exact r q hq
theorem SL_Bk {M N : Nat → Int32} {c k1 k2 k3 K : Nat} (s : SL M N c k1 k2 k3) (h : Bk K N c) : Bk K M c := fun i hi => by
  rw [SL_p s hi 4 (by decide)]
  exact h i hi
theorem SL_P2 {M N : Nat → Int32} {c k1 k2 k3 i : Nat} (s : SL M N c k1 k2 k3) (hi : i < c) (h : P2 N i) : P2 M i := fun h6 w hw => by
  have := SL_p s hi (5 + w) (by omega)
  rw [show 14 + 9 * i + (5 + w) = 14 + 9 * i + 5 + w by omega] at this
  rw [this]
  exact h (by rw [← SL_p s hi 0 (by decide)]; exact h6) w hw
theorem SL_WI {M N : Nat → Int32} {c k1 k2 k3 : Nat} (s : SL M N c k1 k2 k3) (h : WI N c k1 k2 k3) : WI M c k1 k2 k3 := by
  refine ⟨SL_c6 s h.1, fun i hi => ⟨SL_P1 s hi (h.2.1 i hi).1, SL_P2 s hi (h.2.1 i hi).2⟩, ?_, ?_, fun q hq => ?_, SL_SE s (WI_SE h), SL_PL s (WI_PL h), SL_BK s (WI_BK h), ?_⟩
  · rw [SL_s s (by decide)]
    exact WI_12 h
  · rw [SL_s s (by decide)]
    exact WI_13 h
  · rw [SL_s s (by omega)]
    exact WI_WO h q hq
  · obtain ⟨t, a, b, e⟩ := h.2.2.2.2.2.2.2.2
    exact ⟨t, a, (SL_69 s).trans b, SL_Bk s e⟩
/-- where an asking method may start -/
def AK (BIG : Nat) (LG gr : Nat → Nat) (z : Nat × Nat) (M F : Nat → Int32) (ex : Nat → Bool) (hd : Option Nat) (Mt Ft : Nat → Int32) (xt : Nat → Bool) (ht : Option Nat) (D : Nat → Option AE) (cl : List Cls) (kf : Int32) (nb c k1 k2 k3 : Nat) : Prop := LV LG gr (WC LG 100 M F ex hd (WC LG 150 Mt Ft xt ht D)) z BIG ∧ z.1 + 12 ≤ BIG ∧ bR hd ∧ bR ht ∧ (WI M c k1 k2 k3 ∧ ∀ i, i < c → ex i = true) ∧ DM LG D kf nb ∧ HB LG D 100 hd cl
/-- what is owed behind it, for its answer -/
def AQ (BIG : Nat) (LG : Nat → Nat) (G : Nat → Option AE) (z : Nat × Nat) (M : Nat → Int32) (ex : Nat → Bool) (hd ht : Option Nat) (D : Nat → Option AE) (Q : Option Value → HS → Prop) (v : Value) : Prop := ∀ LG' gr' G' z' F' Mt' Ft' xt' ht', KP BIG LG G z LG' gr' G' z' (WC LG' 100 M F' ex hd (WC LG' 150 Mt' Ft' xt' ht' D)) → (ht' = hd ∨ ht' = ht) → Q (some v) (GW LG' gr' 100 M F' ex hd (WC LG' 150 Mt' Ft' xt' ht' D) G' z')
section
variable {V : Nat → Option AE} {Ev : Nat → Value} {d : Nat} {Q : Option Value → HS → Prop}
variable {LG gr : Nat → Nat} {M F : Nat → Int32} {ex : Nat → Bool} {hd : Option Nat} {D G : Nat → Option AE} {z : Nat × Nat} {cl : List Cls} {kf : Int32} {nb : Nat}
variable {Mt Ft : Nat → Int32} {xt : Nat → Bool} {ht : Option Nat} {BIG c k1 k2 k3 : Nat} {v : Value}
theorem AK_g (h : AK BIG LG gr z M F ex hd Mt Ft xt ht D cl kf nb c k1 k2 k3) : ∀ r, gr (LG r) = r := h.1.1
theorem AK_b (h : AK BIG LG gr z M F ex hd Mt Ft xt ht D cl kf nb c k1 k2 k3) : bR hd := h.2.2.1
theorem AK_I (h : AK BIG LG gr z M F ex hd Mt Ft xt ht D cl kf nb c k1 k2 k3) : WI M c k1 k2 k3 := h.2.2.2.2.1.1
theorem AK_W (h : AK BIG LG gr z M F ex hd Mt Ft xt ht D cl kf nb c k1 k2 k3) : WK M ex c := WI_W h.2.2.2.2.1.1 h.2.2.2.2.1.2
theorem AK_m (h : AK BIG LG gr z M F ex hd Mt Ft xt ht D cl kf nb c k1 k2 k3) : DM LG D kf nb := h.2.2.2.2.2.1
theorem AK_m1 (h : AK BIG LG gr z M F ex hd Mt Ft xt ht D cl kf nb c k1 k2 k3) {Mt' Ft' : Nat → Int32} {xt' : Nat → Bool} {ht' : Option Nat} : DM LG (WC LG 150 Mt' Ft' xt' ht' D) kf nb := DM_W (by decide) (AK_m h)
theorem AK_m2 (h : AK BIG LG gr z M F ex hd Mt Ft xt ht D cl kf nb c k1 k2 k3) {M' F' Mt' Ft' : Nat → Int32} {ex' xt' : Nat → Bool} {hd' ht' : Option Nat} : DM LG (WC LG 100 M' F' ex' hd' (WC LG 150 Mt' Ft' xt' ht' D)) kf nb := DM_W (by decide) (AK_m1 h)
theorem AK_h (h : AK BIG LG gr z M F ex hd Mt Ft xt ht D cl kf nb c k1 k2 k3) : HB LG D 100 hd cl := h.2.2.2.2.2.2
theorem AK_h1 (h : AK BIG LG gr z M F ex hd Mt Ft xt ht D cl kf nb c k1 k2 k3) {Mt' Ft' : Nat → Int32} {xt' : Nat → Bool} {ht' : Option Nat} : HB LG (WC LG 150 Mt' Ft' xt' ht' D) 100 hd cl := HB_W (by decide) (bR_o (AK_b h) (by decide)) (AK_h h)
/-- nothing but a row of facts was written -/
theorem AQ_now (h : AK BIG LG gr z M F ex hd Mt Ft xt ht D cl kf nb c k1 k2 k3) (H : AQ BIG LG G z M ex hd ht D Q v) : ∀ F', Q (some v) (GW LG gr 100 M F' ex hd (WC LG 150 Mt Ft xt ht D) G z) := fun F' => H LG gr G z F' Mt Ft xt ht ⟨LGx_refl, LV_dom (fun j hj _ => rfl) h.1, fun _ h => h, by omega, by omega⟩ (Or.inr rfl)
theorem AQ_t (H : AQ BIG LG G z M ex hd ht D Q v) {LG' gr' : Nat → Nat} {G' : Nat → Option AE} {z' : Nat × Nat} {F' Mt' Ft' : Nat → Int32} {xt' : Nat → Bool} {ht' : Option Nat} (hk : KP BIG LG G z LG' gr' G' z' (WC LG' 150 Mt' Ft' xt' ht' (WC LG' 100 M F' ex hd D))) (hb : ht' = hd ∨ ht' = ht) : Q (some v) (GW LG' gr' 150 Mt' Ft' xt' ht' (WC LG' 100 M F' ex hd D) G' z') := by
  have e1 : WC LG' 100 M F' ex hd (WC LG' 150 Mt' Ft' xt' ht' D) = WC LG' 150 Mt' Ft' xt' ht' (WC LG' 100 M F' ex hd D) := WC_sw (by decide)
  rw [← e1] at hk
  rw [GW, ← e1]
  exact H LG' gr' G' z' F' Mt' Ft' xt' ht' hk hb
/-- the trial world becomes like the world now: with the first object's fields read -/
theorem c_tl' (h : AK BIG LG gr z M F ex hd Mt Ft xt ht D cl kf nb c k1 k2 k3) (H : ∀ LG' gr' G' z' M', KP BIG LG G z LG' gr' G' z' (WC LG' 150 M' Ft (exQ xt c) hd (WC LG' 100 M F ex hd D)) → WK M' (exQ xt c) c → SL M' M c k1 k2 k3 → WI M' c k1 k2 k3 → Q none (GW LG' gr' 150 M' Ft (exQ xt c) hd (WC LG' 100 M F ex hd D) G' z')) : WP V (cdT Ev) mx (d + 6) 49 [.ref (LG 150), .ref (LG 100)] (GW LG gr 100 M F ex hd (WC LG 150 Mt Ft xt ht D) G z) Q := c_tl h.1 h.2.1 (AK_b h) h.2.2.2.1 (AK_W h) (WI_SZ (AK_I h)) (fun LG' gr' G' z' M' hk hw sl => H LG' gr' G' z' M' hk hw sl (SL_WI sl (AK_I h)))
theorem tcv (hg : ∀ r, gr (LG r) = r) {y : Nat} {K : Nat → Prop} : cv [(10, y)] (GW LG gr 100 M F ex hd (WC LG 150 Mt Ft xt ht D) G z) (LG 150) K = K y := r_cv hg ((WC_out (by decide)).trans WC_0) rfl
theorem SL_com {M' : Nat → Int32} (hc : c6 M c) (h : SL M' M c k1 k2 k3) {s : Nat} : ∀ f n, comF M' cl s f n = comF M cl s f n := by
  intro f
  induction f with
  | zero =>
    intro n
    rfl
  | succ f ih =>
    intro n
    simp only [comF]
    rw [ih (n + 1), SL_s (SL_days hc h n) (by decide)]
theorem c_comesOf (hA : AK BIG LG gr z M F ex hd Mt Ft xt ht D cl kf nb c k1 k2 k3) {s : Nat} (hs : s < 12) (H : AQ BIG LG G z M ex hd ht D Q (.int (comF M cl s 61 0))) : WP V (cdT Ev) mx (d + 7) 118 [.ref (LG 0), .int (nI s)] (GW LG gr 100 M F ex hd (WC LG 150 Mt Ft xt ht D) G z) Q := by
  rw [e_118]
  simp only [s_118_0, s_118_1, s_118_4, s_118_5, s_118_8, ↓reduceIte, eq_self, rts_some, rts_none, nq_int, nq_ref, nq_null, nq_none, okr1_0, okr1_1, okr_b, List.length_nil, List.length_cons, Nat.zero_le, Nat.reduceAdd, Nat.reduceLeDiff, b2i_0, b2i_n0, b2i_1, b2i_n1, ite_not, if_true, if_false, not_true_eq_false, not_false_eq_true, true_and, and_true, false_and, and_false, dg_0 (AK_g hA) (AK_m2 hA), dg_1 (AK_g hA) (AK_m2 hA)]
  rw [tcv (AK_g hA)]
  refine c_tl' hA (fun LG' gr' G' z' M' hk hw sl wi => ?_)
  have hg' := hk.2.1.1
  have hm' : DM LG' (WC LG' 100 M F ex hd D) kf nb := DM_W (by decide) (KP_DM hk (AK_m hA))
  have hb' : HB LG' (WC LG' 100 M F ex hd D) 150 hd cl := HB_t (AK_b hA) (KP_HB hk (AK_b hA) (AK_h hA))
  have e0 : LG 0 = LG' 0 := (KP_x hk 0 (by omega)).symm
  rw [e0]
  simp only [s_118_11, s_118_12, ↓reduceIte, eq_self, rts_some, rts_none, nq_int, nq_ref, nq_null, nq_none, okr1_0, okr1_1, okr_b, List.length_nil, List.length_cons, Nat.zero_le, Nat.reduceAdd, Nat.reduceLeDiff, b2i_0, b2i_n0, b2i_1, b2i_n1, ite_not, if_true, if_false, not_true_eq_false, not_false_eq_true, true_and, and_true, false_and, and_false]
  exact c_comes_l hg' hm' hw (WI_12 wi) (WI_B wi) (by decide) hb' hs (fun n Ft' => AQ_t H (KP_F (fun j hj _ => days_kd hw.1 n hj) hk) (Or.inl rfl)) 61 0 rfl (SL_com (AK_I hA).1 sl 61 0).symm Ft
end
