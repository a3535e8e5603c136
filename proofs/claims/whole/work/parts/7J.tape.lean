/-! Tapes: the class. -/
def TF (LG : Nat → Nat) (C : Nat → Option AE) (ts tz : Nat → Int32) (rw : Nat → Nat → Int64) : Prop := C 3 = some (.inl (2, 6, .inl ts)) ∧ C 4 = some (.inl (2, 6, .inl tz)) ∧ C 5 = some (.inl (5, 6, .inr (.inr (.inr (.inr (fun i => if i < 6 then some (LG (6 + i)) else none)))))) ∧ ∀ t, t < 6 → C (6 + t) = some (.inl (3, 60, .inr (.inl (rw t))))
def TPU (C : Nat → Option AE) (ts tz : Nat → Int32) (t : Nat) (f : Nat → Int64) : Nat → Option AE := va_up (va_up (va_up C 3 (some (.inl (2, 6, .inl ts)))) 4 (some (.inl (2, 6, .inl tz)))) (6 + t) (some (.inl (3, 60, .inr (.inl f))))
def zrF (f : Nat → Int64) (m : Nat) : Nat → Int64 := fun k => if k < m then 0 else f k
theorem zrF_0 {f : Nat → Int64} : zrF f 0 = f := by
  funext k
  unfold zrF
  rw [if_neg (by omega)]
theorem zrF_s {f : Nat → Int64} {m : Nat} : vp_updL (zrF f m) m 0 = zrF f (m + 1) := by
  funext k
  rw [updL_s]
  unfold zrF
  by_cases h1 : k = m
  · rw [if_pos h1, if_pos (by omega)]
  · rw [if_neg h1]
    by_cases h2 : k < m
    · rw [if_pos h2, if_pos (by omega)]
    · rw [if_neg h2, if_neg (by omega)]
section
variable {LG : Nat → Nat} {C : Nat → Option AE} {ts tz : Nat → Int32} {rw : Nat → Nat → Int64} {kf : Int32} {nb : Nat}
theorem TF_3 {ts' : Nat → Int32} (h : TF LG C ts tz rw) : TF LG (va_up C 3 (some (.inl (2, 6, .inl ts')))) ts' tz rw := ⟨rfl, h.2.1, h.2.2.1, fun t ht => (if_neg (by omega)).trans (h.2.2.2 t ht)⟩
theorem TF_4 {tz' : Nat → Int32} (h : TF LG C ts tz rw) : TF LG (va_up C 4 (some (.inl (2, 6, .inl tz')))) ts tz' rw := ⟨h.1, rfl, h.2.2.1, fun t ht => (if_neg (by omega)).trans (h.2.2.2 t ht)⟩
theorem TF_r {q : Nat} {f : Nat → Int64} (hq : q < 6) (h : TF LG C ts tz rw) : TF LG (va_up C (6 + q) (some (.inl (3, 60, .inr (.inl f))))) ts tz (va_up rw q f) := by
  refine ⟨(if_neg (by omega)).trans h.1, (if_neg (by omega)).trans h.2.1, (if_neg (by omega)).trans h.2.2.1, fun t ht => ?_⟩
  unfold va_up
  by_cases e : t = q
  · subst e
    rw [if_pos rfl, if_pos rfl]
  · rw [if_neg (by omega), if_neg e]
    exact h.2.2.2 t ht
theorem TF_U {q : Nat} {ts' tz' : Nat → Int32} {f : Nat → Int64} (hq : q < 6) (h : TF LG C ts tz rw) : TF LG (TPU C ts' tz' q f) ts' tz' (va_up rw q f) := TF_r hq (TF_4 (TF_3 h))
theorem DM_up {r : Nat} {e : AE} (hr : r ≠ 0) (h : DM LG C kf nb) : DM LG (va_up C r (some e)) kf nb := (if_neg (fun e => hr e.symm)).trans h
theorem va_id {α : Type} {f : Nat → α} {k : Nat} {v : α} (h : f k = v) : va_up f k v = f := by
  funext q
  unfold va_up
  by_cases e : q = k
  · rw [if_pos e, e, h]
  · rw [if_neg e]
end
section
variable {V : Nat → Option AE} {Ev : Nat → Value} {d : Nat} {Q : Option Value → HS → Prop}
variable {LG gr : Nat → Nat} {C G : Nat → Option AE} {z : Nat × Nat} {kf : Int32} {nb : Nat} {ts tz : Nat → Int32} {rw : Nat → Nat → Int64}
theorem tf_a3 (hg : ∀ r, gr (LG r) = r) (h : TF LG C ts tz rw) {i : Int32} {K : Int32 → Prop} : ai 2 i V (GH LG gr C G z) (LG 3) K = (ix i 6 ∧ K (ts i.toNatClampNeg)) := r_ai hg h.1
theorem tf_a4 (hg : ∀ r, gr (LG r) = r) (h : TF LG C ts tz rw) {i : Int32} {K : Int32 → Prop} : ai 2 i V (GH LG gr C G z) (LG 4) K = (ix i 6 ∧ K (tz i.toNatClampNeg)) := r_ai hg h.2.1
theorem tf_s3 (hg : ∀ r, gr (LG r) = r) (h : TF LG C ts tz rw) {i x : Int32} {K : HS → Prop} : si 2 i x (GH LG gr C G z) (LG 3) K = (ix i 6 ∧ K (GH LG gr (va_up C 3 (some (.inl (2, 6, .inl (upd ts i.toNatClampNeg x))))) G z)) := r_si hg h.1
theorem tf_s4 (hg : ∀ r, gr (LG r) = r) (h : TF LG C ts tz rw) {i x : Int32} {K : HS → Prop} : si 2 i x (GH LG gr C G z) (LG 4) K = (ix i 6 ∧ K (GH LG gr (va_up C 4 (some (.inl (2, 6, .inl (upd tz i.toNatClampNeg x))))) G z)) := r_si hg h.2.1
theorem tf_a5 (hg : ∀ r, gr (LG r) = r) (h : TF LG C ts tz rw) {t : Nat} (ht : t < 6) {K : Value → Prop} : aa (nI t) (GH LG gr C G z) (LG 5) K = K (.ref (LG (6 + t))) := by
  rw [r_aa hg h.2.2.1 (by decide), ix_nIT ht (by decide), nI_clamp (by omega), if_pos ht, true_and]
  rfl
theorem tf_al (hg : ∀ r, gr (LG r) = r) (h : TF LG C ts tz rw) {t : Nat} (ht : t < 6) {i : Int32} {K : Int64 → Prop} : al i (GH LG gr C G z) (LG (6 + t)) K = (ix i 60 ∧ K (rw t i.toNatClampNeg)) := r_al hg (h.2.2.2 t ht)
theorem tf_sl (hg : ∀ r, gr (LG r) = r) (h : TF LG C ts tz rw) {t : Nat} (ht : t < 6) {i : Int32} {x : Int64} {K : HS → Prop} : sl i x (GH LG gr C G z) (LG (6 + t)) K = (ix i 60 ∧ K (GH LG gr (va_up C (6 + t) (some (.inl (3, 60, .inr (.inl (vp_updL (rw t) i.toNatClampNeg x)))))) G z)) := r_sl hg (h.2.2.2 t ht)
theorem c_tape_l (hg : ∀ r, gr (LG r) = r) (hm : DM LG C kf nb) (h : TF LG C ts tz rw) {t L : Nat} {s n : Int32} (ht : t < 6) (hL : L ≤ 60) (eL : tz t = nI L) : ∀ m j, j + m = L → wp V (cdT Ev) mx d 97 71 [some (.ref (LG 0)), some (.int (nI t)), some (.int s), some (.int n), some (.int (nI j))] [] (GH LG gr (va_up C (6 + t) (some (.inl (3, 60, .inr (.inl (zrF (rw t) j)))))) G z) Q = Q (some (.int 1)) (GH LG gr (va_up C (6 + t) (some (.inl (3, 60, .inr (.inl (zrF (rw t) L)))))) G z) := by
  have hx := ix_nIT ht (show 6 < 2 ^ 31 by decide)
  have hcl := nI_clamp (show t < 2 ^ 31 by omega)
  intro m
  induction m with
  | zero =>
    intro j hj
    have : j = L := by omega
    subst this
    have hT := TF_r (f := zrF (rw t) j) ht h
    rw [s_97_71]
    simp only [s_97_0, s_97_1, s_97_4, s_97_7, s_97_8, s_97_9, s_97_10, s_97_11, s_97_14, s_97_15, s_97_16, s_97_19, s_97_21, s_97_22, s_97_23, s_97_26, s_97_27, s_97_29, s_97_32, s_97_34, s_97_35, s_97_36, s_97_39, s_97_40, s_97_43, s_97_45, s_97_46, s_97_46_n, s_97_47, s_97_50, s_97_51, s_97_52, s_97_53, s_97_53_n, s_97_54, s_97_57, s_97_58, s_97_59, s_97_62, s_97_63, s_97_66, s_97_67, s_97_68, s_97_69, s_97_73, s_97_73_n, s_97_74, s_97_77, s_97_78, s_97_79, s_97_82, s_97_82_n, s_97_83, s_97_86, s_97_87, s_97_88, s_97_90, s_97_91, s_97_92, s_97_95, s_97_98, s_97_99, ↓reduceIte, eq_self, rts_some, rts_none, nq_int, nq_ref, nq_null, nq_none, okr1_0, okr1_1, okr_b, List.length_nil, List.length_cons, Nat.zero_le, Nat.reduceAdd, Nat.reduceLeDiff, b2i_0, b2i_n0, b2i_1, b2i_n1, ite_not, if_true, if_false, not_true_eq_false, not_false_eq_true, true_and, and_true, false_and, and_false, dg_8 hg (DM_up (show 6 + t ≠ 0 by omega) hm), tf_a4 hg hT, hx, hcl, eL, Int32.le_refl]
  | succ m ih =>
    intro j hj
    have hT := TF_r (f := zrF (rw t) j) ht h
    have hlt : (nI L ≤ nI j) = False := eq_false (nI_ge (show j < L by omega) (by omega))
    have eu : va_up rw t (zrF (rw t) j) t = zrF (rw t) j := if_pos rfl
    rw [s_97_71]
    simp only [s_97_0, s_97_1, s_97_4, s_97_7, s_97_8, s_97_9, s_97_10, s_97_11, s_97_14, s_97_15, s_97_16, s_97_19, s_97_21, s_97_22, s_97_23, s_97_26, s_97_27, s_97_29, s_97_32, s_97_34, s_97_35, s_97_36, s_97_39, s_97_40, s_97_43, s_97_45, s_97_46, s_97_46_n, s_97_47, s_97_50, s_97_51, s_97_52, s_97_53, s_97_53_n, s_97_54, s_97_57, s_97_58, s_97_59, s_97_62, s_97_63, s_97_66, s_97_67, s_97_68, s_97_69, s_97_73, s_97_73_n, s_97_74, s_97_77, s_97_78, s_97_79, s_97_82, s_97_82_n, s_97_83, s_97_86, s_97_87, s_97_88, s_97_90, s_97_91, s_97_92, s_97_95, s_97_98, s_97_99, ↓reduceIte, eq_self, rts_some, rts_none, nq_int, nq_ref, nq_null, nq_none, okr1_0, okr1_1, okr_b, List.length_nil, List.length_cons, Nat.zero_le, Nat.reduceAdd, Nat.reduceLeDiff, b2i_0, b2i_n0, b2i_1, b2i_n1, ite_not, if_true, if_false, not_true_eq_false, not_false_eq_true, true_and, and_true, false_and, and_false, dg_8 hg (DM_up (show 6 + t ≠ 0 by omega) hm), dg_9 hg (DM_up (show 6 + t ≠ 0 by omega) hm), tf_a4 hg hT, tf_a5 hg hT ht, tf_sl hg hT ht, hx, hcl, eL, hlt, ix_nIT (show j < 60 by omega) (show 60 < 2 ^ 31 by decide), nI_clamp (show j < 2 ^ 31 by omega), eu, zrF_s, va_uu, nI_1]
    exact ih (j + 1) (by omega)
theorem c_tape (hg : ∀ r, gr (LG r) = r) (hm : DM LG C kf nb) (h : TF LG C ts tz rw) {t s n : Int32} : WP V (cdT Ev) mx (d + 2) 97 [.ref (LG 0), .int t, .int s, .int n] (GH LG gr C G z) Q = if tapQ t then (if (-1 ≤ s ∧ s ≤ 4) ∧ (s < 0 ∨ n ≤ 60) then (if s < 0 ∨ 0 ≤ n then Q (some (.int 1)) (GH LG gr (TPU C (upd ts t.toNatClampNeg s) (upd tz t.toNatClampNeg (if 0 ≤ s then n else 0)) t.toNatClampNeg (zrF (rw t.toNatClampNeg) (if 0 ≤ s then n else 0).toNatClampNeg)) G z) else Q (some (.int (-14))) (GH LG gr C G z)) else Q (some (.int (-2))) (GH LG gr C G z)) else Q (some (.int (-1))) (GH LG gr C G z) := by
  have z10 : ((1 : Int32) = 0) = False := by decide
  rw [e_97]
  by_cases ht : tapQ t
  · have ht' : 0 ≤ t ∧ t ≤ 5 := ht
    rw [if_pos ht]
    obtain ⟨j, hj, rfl⟩ := tapQ_k ht
    have hx := ix_nIT hj (show 6 < 2 ^ 31 by decide)
    have hcl := nI_clamp (show j < 2 ^ 31 by omega)
    rw [hcl]
    by_cases s1 : s < -1
    · rw [if_neg (fun h => absurd s1 (Int32.not_lt.mpr h.1.1))]
      simp only [s_97_0, s_97_1, s_97_4, s_97_7, s_97_8, s_97_9, s_97_10, s_97_11, s_97_14, s_97_15, s_97_16, s_97_19, s_97_21, s_97_22, s_97_23, s_97_26, s_97_27, s_97_29, s_97_32, s_97_34, s_97_35, s_97_36, s_97_39, s_97_40, s_97_43, s_97_45, s_97_46, s_97_46_n, s_97_47, s_97_50, s_97_51, s_97_52, s_97_53, s_97_53_n, s_97_54, s_97_57, s_97_58, s_97_59, s_97_62, s_97_63, s_97_66, s_97_67, s_97_68, s_97_69, s_97_73, s_97_73_n, s_97_74, s_97_77, s_97_78, s_97_79, s_97_82, s_97_82_n, s_97_83, s_97_86, s_97_87, s_97_88, s_97_90, s_97_91, s_97_92, s_97_95, s_97_98, s_97_99, ↓reduceIte, eq_self, rts_some, rts_none, nq_int, nq_ref, nq_null, nq_none, okr1_0, okr1_1, okr_b, List.length_nil, List.length_cons, Nat.zero_le, Nat.reduceAdd, Nat.reduceLeDiff, b2i_0, b2i_n0, b2i_1, b2i_n1, ite_not, if_true, if_false, not_true_eq_false, not_false_eq_true, true_and, and_true, false_and, and_false, c_isTap, b2i_t ht', z10, s1]
    · by_cases s4 : s ≤ 4
      · have hs : -1 ≤ s ∧ s ≤ 4 := ⟨Int32.not_lt.mp s1, s4⟩
        have fin : ∀ x : Int32, (if 0 ≤ s then n else 0) = x → (∃ L, L ≤ 60 ∧ x = nI L) → wp V (cdT Ev) mx (d + 1) 97 67 [some (.ref (LG 0)), some (.int (nI j)), some (.int s), some (.int n), none] [.int x, .int (nI j), .ref (LG 4)] (GH LG gr (va_up C 3 (some (.inl (2, 6, .inl (upd ts j s))))) G z) Q = Q (some (.int 1)) (GH LG gr (TPU C (upd ts j s) (upd tz j x) j (zrF (rw j) x.toNatClampNeg)) G z) := by
          intro x _ hL
          obtain ⟨L, hL, rfl⟩ := hL
          have hT3 := TF_3 (ts' := upd ts j s) h
          have hT4 := TF_4 (tz' := upd tz j (nI L)) hT3
          have eL : upd tz j (nI L) j = nI L := pk_us
          have hm4 : DM LG (va_up (va_up C 3 (some (.inl (2, 6, .inl (upd ts j s))))) 4 (some (.inl (2, 6, .inl (upd tz j (nI L)))))) kf nb := DM_up (by decide) (DM_up (by decide) hm)
          simp only [s_97_67, s_97_68, s_97_69, ↓reduceIte, eq_self, rts_some, rts_none, nq_int, nq_ref, nq_null, nq_none, okr1_0, okr1_1, okr_b, List.length_nil, List.length_cons, Nat.zero_le, Nat.reduceAdd, Nat.reduceLeDiff, b2i_0, b2i_n0, b2i_1, b2i_n1, ite_not, if_true, if_false, not_true_eq_false, not_false_eq_true, true_and, and_true, false_and, and_false, tf_s4 hg hT3, hx, hcl]
          have lp := c_tape_l (V := V) (Ev := Ev) (d := d + 1) (Q := Q) (G := G) (z := z) (s := s) (n := n) hg hm4 hT4 hj hL eL L 0 (by omega)
          rw [zrF_0, va_id (hT4.2.2.2 j hj)] at lp
          rw [nI_clamp (show L < 2 ^ 31 by omega)]
          exact lp
        by_cases s0 : s < 0
        · rw [if_pos ⟨hs, Or.inl s0⟩, if_pos (Or.inl s0)]
          have e0 : (if 0 ≤ s then n else 0) = 0 := if_neg (Int32.not_le.mpr s0)
          rw [e0]
          rw [← fin 0 e0 ⟨0, by decide, rfl⟩]
          simp only [s_97_0, s_97_1, s_97_4, s_97_7, s_97_8, s_97_9, s_97_10, s_97_11, s_97_14, s_97_15, s_97_16, s_97_19, s_97_21, s_97_22, s_97_23, s_97_26, s_97_27, s_97_29, s_97_32, s_97_34, s_97_35, s_97_36, s_97_39, s_97_40, s_97_43, s_97_45, s_97_46, s_97_46_n, s_97_47, s_97_50, s_97_51, s_97_52, s_97_53, s_97_53_n, s_97_54, s_97_57, s_97_58, s_97_59, s_97_62, s_97_63, s_97_66, s_97_73, s_97_73_n, s_97_74, s_97_77, s_97_78, s_97_79, s_97_82, s_97_82_n, s_97_83, s_97_86, s_97_87, s_97_88, s_97_90, s_97_91, s_97_92, s_97_95, s_97_98, s_97_99, ↓reduceIte, eq_self, rts_some, rts_none, nq_int, nq_ref, nq_null, nq_none, okr1_0, okr1_1, okr_b, List.length_nil, List.length_cons, Nat.zero_le, Nat.reduceAdd, Nat.reduceLeDiff, b2i_0, b2i_n0, b2i_1, b2i_n1, ite_not, if_true, if_false, not_true_eq_false, not_false_eq_true, true_and, and_true, false_and, and_false, c_isTap, b2i_t ht', z10, s1, s4, s0, dg_7 hg hm, tf_s3 hg h, hx, hcl, dg_8 hg (DM_up (show 3 ≠ 0 by decide) hm)]
        · have e0 : (if 0 ≤ s then n else 0) = n := if_pos (Int32.not_lt.mp s0)
          by_cases n60 : n ≤ 60
          · rw [if_pos ⟨hs, Or.inr n60⟩]
            by_cases n0 : 0 ≤ n
            · rw [if_pos (Or.inr n0), e0]
              obtain ⟨L, hL, eL⟩ : ∃ L, L ≤ 60 ∧ n = nI L := nI_of2 (M := 60) (n := 60) (by decide) (Int32.not_lt.mpr n0) n60
              rw [← fin n e0 ⟨L, hL, eL⟩]
              simp only [s_97_0, s_97_1, s_97_4, s_97_7, s_97_8, s_97_9, s_97_10, s_97_11, s_97_14, s_97_15, s_97_16, s_97_19, s_97_21, s_97_22, s_97_23, s_97_26, s_97_27, s_97_29, s_97_32, s_97_34, s_97_35, s_97_36, s_97_39, s_97_40, s_97_43, s_97_45, s_97_46, s_97_46_n, s_97_47, s_97_50, s_97_51, s_97_52, s_97_53, s_97_53_n, s_97_54, s_97_57, s_97_58, s_97_59, s_97_62, s_97_63, s_97_66, s_97_73, s_97_73_n, s_97_74, s_97_77, s_97_78, s_97_79, s_97_82, s_97_82_n, s_97_83, s_97_86, s_97_87, s_97_88, s_97_90, s_97_91, s_97_92, s_97_95, s_97_98, s_97_99, ↓reduceIte, eq_self, rts_some, rts_none, nq_int, nq_ref, nq_null, nq_none, okr1_0, okr1_1, okr_b, List.length_nil, List.length_cons, Nat.zero_le, Nat.reduceAdd, Nat.reduceLeDiff, b2i_0, b2i_n0, b2i_1, b2i_n1, ite_not, if_true, if_false, not_true_eq_false, not_false_eq_true, true_and, and_true, false_and, and_false, c_isTap, b2i_t ht', z10, s1, s4, s0, n60, n0, dg_7 hg hm, tf_s3 hg h, hx, hcl, dg_8 hg (DM_up (show 3 ≠ 0 by decide) hm)]
            · rw [if_neg (fun h => h.elim s0 n0)]
              simp only [s_97_0, s_97_1, s_97_4, s_97_7, s_97_8, s_97_9, s_97_10, s_97_11, s_97_14, s_97_15, s_97_16, s_97_19, s_97_21, s_97_22, s_97_23, s_97_26, s_97_27, s_97_29, s_97_32, s_97_34, s_97_35, s_97_36, s_97_39, s_97_40, s_97_43, s_97_45, s_97_46, s_97_46_n, s_97_47, s_97_50, s_97_51, s_97_52, s_97_53, s_97_53_n, s_97_54, s_97_57, s_97_58, s_97_59, s_97_62, s_97_63, s_97_66, s_97_73, s_97_73_n, s_97_74, s_97_77, s_97_78, s_97_79, s_97_82, s_97_82_n, s_97_83, s_97_86, s_97_87, s_97_88, s_97_90, s_97_91, s_97_92, s_97_95, s_97_98, s_97_99, ↓reduceIte, eq_self, rts_some, rts_none, nq_int, nq_ref, nq_null, nq_none, okr1_0, okr1_1, okr_b, List.length_nil, List.length_cons, Nat.zero_le, Nat.reduceAdd, Nat.reduceLeDiff, b2i_0, b2i_n0, b2i_1, b2i_n1, ite_not, if_true, if_false, not_true_eq_false, not_false_eq_true, true_and, and_true, false_and, and_false, c_isTap, b2i_t ht', z10, s1, s4, s0, n60, n0]
          · rw [if_neg (fun h => h.2.elim s0 n60)]
            simp only [s_97_0, s_97_1, s_97_4, s_97_7, s_97_8, s_97_9, s_97_10, s_97_11, s_97_14, s_97_15, s_97_16, s_97_19, s_97_21, s_97_22, s_97_23, s_97_26, s_97_27, s_97_29, s_97_32, s_97_34, s_97_35, s_97_36, s_97_39, s_97_40, s_97_43, s_97_45, s_97_46, s_97_46_n, s_97_47, s_97_50, s_97_51, s_97_52, s_97_53, s_97_53_n, s_97_54, s_97_57, s_97_58, s_97_59, s_97_62, s_97_63, s_97_66, s_97_73, s_97_73_n, s_97_74, s_97_77, s_97_78, s_97_79, s_97_82, s_97_82_n, s_97_83, s_97_86, s_97_87, s_97_88, s_97_90, s_97_91, s_97_92, s_97_95, s_97_98, s_97_99, ↓reduceIte, eq_self, rts_some, rts_none, nq_int, nq_ref, nq_null, nq_none, okr1_0, okr1_1, okr_b, List.length_nil, List.length_cons, Nat.zero_le, Nat.reduceAdd, Nat.reduceLeDiff, b2i_0, b2i_n0, b2i_1, b2i_n1, ite_not, if_true, if_false, not_true_eq_false, not_false_eq_true, true_and, and_true, false_and, and_false, c_isTap, b2i_t ht', z10, s1, s4, s0, n60]
      · rw [if_neg (fun h => s4 h.1.2)]
        simp only [s_97_0, s_97_1, s_97_4, s_97_7, s_97_8, s_97_9, s_97_10, s_97_11, s_97_14, s_97_15, s_97_16, s_97_19, s_97_21, s_97_22, s_97_23, s_97_26, s_97_27, s_97_29, s_97_32, s_97_34, s_97_35, s_97_36, s_97_39, s_97_40, s_97_43, s_97_45, s_97_46, s_97_46_n, s_97_47, s_97_50, s_97_51, s_97_52, s_97_53, s_97_53_n, s_97_54, s_97_57, s_97_58, s_97_59, s_97_62, s_97_63, s_97_66, s_97_73, s_97_73_n, s_97_74, s_97_77, s_97_78, s_97_79, s_97_82, s_97_82_n, s_97_83, s_97_86, s_97_87, s_97_88, s_97_90, s_97_91, s_97_92, s_97_95, s_97_98, s_97_99, ↓reduceIte, eq_self, rts_some, rts_none, nq_int, nq_ref, nq_null, nq_none, okr1_0, okr1_1, okr_b, List.length_nil, List.length_cons, Nat.zero_le, Nat.reduceAdd, Nat.reduceLeDiff, b2i_0, b2i_n0, b2i_1, b2i_n1, ite_not, if_true, if_false, not_true_eq_false, not_false_eq_true, true_and, and_true, false_and, and_false, c_isTap, b2i_t ht', z10, s1, s4]
  · have ht' : ¬ (0 ≤ t ∧ t ≤ 5) := ht
    rw [if_neg ht]
    simp only [s_97_0, s_97_1, s_97_4, s_97_7, s_97_8, s_97_9, s_97_10, s_97_11, s_97_14, s_97_15, s_97_16, s_97_19, s_97_21, s_97_22, s_97_23, s_97_26, s_97_27, s_97_29, s_97_32, s_97_34, s_97_35, s_97_36, s_97_39, s_97_40, s_97_43, s_97_45, s_97_46, s_97_46_n, s_97_47, s_97_50, s_97_51, s_97_52, s_97_53, s_97_53_n, s_97_54, s_97_57, s_97_58, s_97_59, s_97_62, s_97_63, s_97_66, s_97_73, s_97_73_n, s_97_74, s_97_77, s_97_78, s_97_79, s_97_82, s_97_82_n, s_97_83, s_97_86, s_97_87, s_97_88, s_97_90, s_97_91, s_97_92, s_97_95, s_97_98, s_97_99, ↓reduceIte, eq_self, rts_some, rts_none, nq_int, nq_ref, nq_null, nq_none, okr1_0, okr1_1, okr_b, List.length_nil, List.length_cons, Nat.zero_le, Nat.reduceAdd, Nat.reduceLeDiff, b2i_0, b2i_n0, b2i_1, b2i_n1, ite_not, if_true, if_false, not_true_eq_false, not_false_eq_true, true_and, and_true, false_and, and_false, c_isTap, b2i_f ht']
theorem c_asItem {h : HS} {s : Int32} {v : Int64} (hs : 0 ≤ s ∧ s ≤ 4) : WP V (cdT Ev) mx (d + 1) 109 [.int s, .long v] h Q = Q (some (.long (itF s v))) h := by
  obtain ⟨j, hj, rfl⟩ : ∃ j, j ≤ 4 ∧ s = nI j := nI_of2 (M := 4) (n := 4) (by decide) (Int32.not_lt.mpr hs.1) hs.2
  rw [e_109]
  rcases (by omega : j = 0 ∨ j = 1 ∨ j = 2 ∨ j = 3 ∨ j = 4) with e | e | e | e | e
  · subst e
    have hs : ∀ T : Nat → Prop, swp T 62 (nI 0) [(0, 36), (1, 41), (2, 46), (3, 62), (4, 50)] = T 36 := fun T => rfl
    simp only [s_109_0, s_109_1, s_109_36, s_109_37, s_109_38, s_109_39, s_109_40, s_109_41, s_109_42, s_109_43, s_109_44, s_109_45, s_109_46, s_109_47, s_109_48, s_109_49, s_109_50, s_109_51, s_109_52, s_109_53, s_109_56, s_109_57, s_109_60, s_109_61, s_109_62, s_109_63, ↓reduceIte, eq_self, rts_some, rts_none, nq_int, nq_ref, nq_null, nq_none, okr1_0, okr1_1, okr_b, List.length_nil, List.length_cons, Nat.zero_le, Nat.reduceAdd, Nat.reduceLeDiff, b2i_0, b2i_n0, b2i_1, b2i_n1, ite_not, if_true, if_false, not_true_eq_false, not_false_eq_true, true_and, and_true, false_and, and_false, hs, okr2_l]
    rfl
  · subst e
    have hs : ∀ T : Nat → Prop, swp T 62 (nI 1) [(0, 36), (1, 41), (2, 46), (3, 62), (4, 50)] = T 41 := fun T => rfl
    simp only [s_109_0, s_109_1, s_109_36, s_109_37, s_109_38, s_109_39, s_109_40, s_109_41, s_109_42, s_109_43, s_109_44, s_109_45, s_109_46, s_109_47, s_109_48, s_109_49, s_109_50, s_109_51, s_109_52, s_109_53, s_109_56, s_109_57, s_109_60, s_109_61, s_109_62, s_109_63, ↓reduceIte, eq_self, rts_some, rts_none, nq_int, nq_ref, nq_null, nq_none, okr1_0, okr1_1, okr_b, List.length_nil, List.length_cons, Nat.zero_le, Nat.reduceAdd, Nat.reduceLeDiff, b2i_0, b2i_n0, b2i_1, b2i_n1, ite_not, if_true, if_false, not_true_eq_false, not_false_eq_true, true_and, and_true, false_and, and_false, hs, okr2_l]
    rfl
  · subst e
    have hs : ∀ T : Nat → Prop, swp T 62 (nI 2) [(0, 36), (1, 41), (2, 46), (3, 62), (4, 50)] = T 46 := fun T => rfl
    simp only [s_109_0, s_109_1, s_109_36, s_109_37, s_109_38, s_109_39, s_109_40, s_109_41, s_109_42, s_109_43, s_109_44, s_109_45, s_109_46, s_109_47, s_109_48, s_109_49, s_109_50, s_109_51, s_109_52, s_109_53, s_109_56, s_109_57, s_109_60, s_109_61, s_109_62, s_109_63, ↓reduceIte, eq_self, rts_some, rts_none, nq_int, nq_ref, nq_null, nq_none, okr1_0, okr1_1, okr_b, List.length_nil, List.length_cons, Nat.zero_le, Nat.reduceAdd, Nat.reduceLeDiff, b2i_0, b2i_n0, b2i_1, b2i_n1, ite_not, if_true, if_false, not_true_eq_false, not_false_eq_true, true_and, and_true, false_and, and_false, hs, okr2_l]
    rfl
  · subst e
    have hs : ∀ T : Nat → Prop, swp T 62 (nI 3) [(0, 36), (1, 41), (2, 46), (3, 62), (4, 50)] = T 62 := fun T => rfl
    simp only [s_109_0, s_109_1, s_109_36, s_109_37, s_109_38, s_109_39, s_109_40, s_109_41, s_109_42, s_109_43, s_109_44, s_109_45, s_109_46, s_109_47, s_109_48, s_109_49, s_109_50, s_109_51, s_109_52, s_109_53, s_109_56, s_109_57, s_109_60, s_109_61, s_109_62, s_109_63, ↓reduceIte, eq_self, rts_some, rts_none, nq_int, nq_ref, nq_null, nq_none, okr1_0, okr1_1, okr_b, List.length_nil, List.length_cons, Nat.zero_le, Nat.reduceAdd, Nat.reduceLeDiff, b2i_0, b2i_n0, b2i_1, b2i_n1, ite_not, if_true, if_false, not_true_eq_false, not_false_eq_true, true_and, and_true, false_and, and_false, hs, okr2_l]
    rfl
  · subst e
    have hs : ∀ T : Nat → Prop, swp T 62 (nI 4) [(0, 36), (1, 41), (2, 46), (3, 62), (4, 50)] = T 50 := fun T => rfl
    have ei : itF (nI 4) v = if v = 0 then 0 else 1 := rfl
    rw [ei]
    by_cases hv : v = 0
    · subst hv
      have hc : lg_cmp 0 0 = 0 := by decide
      simp only [s_109_0, s_109_1, s_109_36, s_109_37, s_109_38, s_109_39, s_109_40, s_109_41, s_109_42, s_109_43, s_109_44, s_109_45, s_109_46, s_109_47, s_109_48, s_109_49, s_109_50, s_109_51, s_109_52, s_109_53, s_109_56, s_109_57, s_109_60, s_109_61, s_109_62, s_109_63, ↓reduceIte, eq_self, rts_some, rts_none, nq_int, nq_ref, nq_null, nq_none, okr1_0, okr1_1, okr_b, List.length_nil, List.length_cons, Nat.zero_le, Nat.reduceAdd, Nat.reduceLeDiff, b2i_0, b2i_n0, b2i_1, b2i_n1, ite_not, if_true, if_false, not_true_eq_false, not_false_eq_true, true_and, and_true, false_and, and_false, hs, hc, okr2_l]
      rfl
    · have hc : (lg_cmp v 0 = 0) = False := eq_false (fun h => by
        rw [lg_cmp, if_neg hv] at h
        split at h <;> exact absurd h (by decide))
      rw [if_neg hv]
      simp only [s_109_0, s_109_1, s_109_36, s_109_37, s_109_38, s_109_39, s_109_40, s_109_41, s_109_42, s_109_43, s_109_44, s_109_45, s_109_46, s_109_47, s_109_48, s_109_49, s_109_50, s_109_51, s_109_52, s_109_53, s_109_56, s_109_57, s_109_60, s_109_61, s_109_62, s_109_63, ↓reduceIte, eq_self, rts_some, rts_none, nq_int, nq_ref, nq_null, nq_none, okr1_0, okr1_1, okr_b, List.length_nil, List.length_cons, Nat.zero_le, Nat.reduceAdd, Nat.reduceLeDiff, b2i_0, b2i_n0, b2i_1, b2i_n1, ite_not, if_true, if_false, not_true_eq_false, not_false_eq_true, true_and, and_true, false_and, and_false, hs, hc, okr2_l]
      rfl
end
