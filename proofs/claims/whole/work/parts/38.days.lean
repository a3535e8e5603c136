/-! Days, what comes, how dear: the reference. -/
def c6 (N : Nat → Int32) (c : Nat) : Prop := N 68 = nI c ∧ c ≤ 6
theorem upd_us {f : Nat → Int32} {k : Nat} : upd f k (f k) = f := by
  funext j
  simp only [upd]
  split
  · rename_i h
    rw [h]
  · rfl
theorem upd_uu {f : Nat → Int32} {k : Nat} {x y : Int32} : upd (upd f k x) k y = upd f k y := by
  funext j
  simp only [upd]
  split <;> rfl
theorem heF_out {M : Nat → Int32} {s k : Nat} (h12 : k ≠ 12) (h13 : k ≠ 13) : heF M s k = M k := by
  unfold heF
  split
  · rw [pk_un h13, pk_un h12]
  · rfl
theorem evF_out {M : Nat → Int32} {fr : Int32} {k : Nat} (h12 : k ≠ 12) (h13 : k ≠ 13) : evF M fr k = M k := by
  unfold evF
  split
  · exact heF_out h12 h13
  · rfl
theorem dayF_out {N : Nat → Int32} {cl : List Cls} {c k : Nat} (hc : c6 N c) (hk : ∀ i, i < 6 → k ≠ 14 + 9 * i + 2 ∧ k ≠ 14 + 9 * i + 3 ∧ k ≠ 14 + 9 * i + 4) (h12 : k ≠ 12) (h13 : k ≠ 13) (h69 : k ≠ 69) : dayF N cl k = N k := by
  unfold dayF
  rw [hc.1, nI_clamp (by have := hc.2; omega), pk_un h69, evF_out h12 h13, gosF_out c (fun i hi => hk i (by have := hc.2; omega)) h12 h13]
theorem dayF_c {N : Nat → Int32} {cl : List Cls} {c : Nat} (hc : c6 N c) : c6 (dayF N cl) c := by
  refine ⟨?_, hc.2⟩
  rw [dayF_out hc (fun i hi => by omega) (by decide) (by decide) (by decide)]
  exact hc.1
theorem dayF_70 {N : Nat → Int32} {cl : List Cls} {c : Nat} (hc : c6 N c) : dayF N cl 70 = N 70 := dayF_out hc (fun i hi => by omega) (by decide) (by decide) (by decide)
theorem dayF_12 {N : Nat → Int32} {cl : List Cls} (h : isS (N 12)) : isS (dayF N cl 12) := by
  unfold dayF
  rw [pk_un (by decide)]
  have h1 := gosF_12 (cl := cl) h (N 68).toNatClampNeg
  unfold evF
  split
  · unfold heF
    split
    · rw [pk_un (by decide), pk_us]
      exact isS_and h1
    · exact h1
  · exact h1
theorem daysF_c {N : Nat → Int32} {cl : List Cls} {c : Nat} (hc : c6 N c) : ∀ n, c6 (daysF N cl n) c := by
  intro n
  induction n with
  | zero => exact hc
  | succ n ih => exact dayF_c ih
theorem daysF_70 {N : Nat → Int32} {cl : List Cls} {c : Nat} (hc : c6 N c) : ∀ n, daysF N cl n 70 = N 70 := by
  intro n
  induction n with
  | zero => rfl
  | succ n ih => exact (dayF_70 (daysF_c hc n)).trans ih
theorem daysF_12 {N : Nat → Int32} {cl : List Cls} (h : isS (N 12)) : ∀ n, isS (daysF N cl n 12) := by
  intro n
  induction n with
  | zero => exact h
  | succ n ih => exact dayF_12 ih
theorem daysF_120 {N : Nat → Int32} {cl : List Cls} {c k : Nat} (hc : c6 N c) (hk : 120 ≤ k) : ∀ n, daysF N cl n k = N k := by
  intro n
  induction n with
  | zero => rfl
  | succ n ih => exact (dayF_out (daysF_c hc n) (fun i hi => by omega) (by omega) (by omega) (by omega)).trans ih
/-- bits of those who are beyond -/
def beF (N : Nat → Int32) : Nat → Int32
  | 0 => 0
  | j + 1 => beF N j ||| (N (14 + 9 * j + 3) <<< (nI j &&& 31))
def comF (N : Nat → Int32) (cl : List Cls) (s : Nat) : Nat → Nat → Int32
  | 0, _ => -5
  | f + 1, n => if bt (daysF N cl n 13) s = 1 then nI n else comF N cl s f (n + 1)
def drL (N : Nat → Int32) (cl : List Cls) (i t : Nat) : Nat → Int32
  | 0 => 0
  | n + 1 => if tipF (upd N t (if 0 < N t - nI (n + 1) then N t - nI (n + 1) else 0)) cl i (N (14 + 9 * i + 2)) = nI t then nI (n + 1) else drL N cl i t n
theorem cp_back {N M f : Nat → Int32} (h : ∀ k, 120 ≤ k → M k = N k) : cpN 120 (cpN 120 N f) M = N := by
  funext k
  simp only [cpN]
  by_cases h1 : k < 120
  · simp only [h1, if_true]
  · simp only [h1, if_false]
    exact h k (by omega)
theorem RuleOK_up {ar : Nat → Nat → Int32} {cl : List Cls} {N : Nat → Int32} (h : N 70 = ar 1 70) (hr : RuleOK ar cl) : RuleOK (va_up ar 1 N) cl := RuleOK_of h rfl rfl hr
theorem N8_up {ar : Nat → Nat → Int32} {N : Nat → Int32} (h : N8 ar) : N8 (va_up ar 1 N) := h
theorem va_up1 {α : Type} {ar : Nat → α} {N : α} : va_up ar 1 N 1 = N := rfl
/-- the world anew -/
theorem SE_set {a b : Nat → Int32} {x y : Nat → Nat → Int32} {N : Nat → Int32} (h : SE a (va_up x 1 N) b y) (M : Nat → Int32) : SE a (va_up x 1 M) b (va_up y 1 M) := by
  have := SE_up h M
  rwa [va_uu] at this
section
variable {V : Nat → Option AE} {Ev : Nat → Value} {d : Nat} {Q : Option Value → HS → Prop}
variable {b : Nat} {lg : Nat → Nat → Int64} {G : Nat → Option AE} {z : Nat × Nat} {cl : List Cls}
theorem m_move_12 {sc : Nat → Int32} {ar : Nat → Nat → Int32} : WP V (cdT Ev) mx (d + 1) 125 [.ref (b + 1), .ref (b + 2)] (MH b sc ar lg G z) Q = Q none (MH b sc (va_up ar 2 (cpN 120 (ar 1) (ar 2))) lg G z) := by
  rw [e_125]
  simp only [s_125_0, s_125_1, s_125_3, s_125_5, s_125_8, s_125_8_n, s_125_9, s_125_10, s_125_10_n, s_125_11, s_125_12, s_125_13, s_125_14, s_125_17, s_125_20, ↓reduceIte, eq_self, rts_some, rts_none, nq_int, nq_ref, nq_null, nq_none, okr1_0, okr1_1, okr_b, List.length_nil, List.length_cons, Nat.zero_le, Nat.reduceAdd, Nat.reduceLeDiff, b2i_0, b2i_n0, b2i_1, b2i_n1, ite_not, if_true, if_false, not_true_eq_false, not_false_eq_true, true_and, and_true, false_and, and_false]
  have := m_move_l (Ev := Ev) (d := d) (Q := Q) (b := b) (sc := sc) (ar := ar) (lg := lg) (G := G) (z := z) (s := 1) (t := 2) (by decide) (V := V) (fun ar i K => ma_now) (fun ar i x K => ms_mind) 120 0 rfl
  rw [cpN_0, va_us] at this
  exact this
theorem m_move_21 {sc : Nat → Int32} {ar : Nat → Nat → Int32} : WP V (cdT Ev) mx (d + 1) 125 [.ref (b + 2), .ref (b + 1)] (MH b sc ar lg G z) Q = Q none (MH b sc (va_up ar 1 (cpN 120 (ar 2) (ar 1))) lg G z) := by
  rw [e_125]
  simp only [s_125_0, s_125_1, s_125_3, s_125_5, s_125_8, s_125_8_n, s_125_9, s_125_10, s_125_10_n, s_125_11, s_125_12, s_125_13, s_125_14, s_125_17, s_125_20, ↓reduceIte, eq_self, rts_some, rts_none, nq_int, nq_ref, nq_null, nq_none, okr1_0, okr1_1, okr_b, List.length_nil, List.length_cons, Nat.zero_le, Nat.reduceAdd, Nat.reduceLeDiff, b2i_0, b2i_n0, b2i_1, b2i_n1, ite_not, if_true, if_false, not_true_eq_false, not_false_eq_true, true_and, and_true, false_and, and_false]
  have := m_move_l (Ev := Ev) (d := d) (Q := Q) (b := b) (sc := sc) (ar := ar) (lg := lg) (G := G) (z := z) (s := 2) (t := 1) (by decide) (V := V) (fun ar i K => ma_mind) (fun ar i x K => ms_now) 120 0 rfl
  rw [cpN_0, va_us] at this
  exact this
theorem m_move_13 {sc : Nat → Int32} {ar : Nat → Nat → Int32} : WP V (cdT Ev) mx (d + 1) 125 [.ref (b + 1), .ref (b + 3)] (MH b sc ar lg G z) Q = Q none (MH b sc (va_up ar 3 (cpN 120 (ar 1) (ar 3))) lg G z) := by
  rw [e_125]
  simp only [s_125_0, s_125_1, s_125_3, s_125_5, s_125_8, s_125_8_n, s_125_9, s_125_10, s_125_10_n, s_125_11, s_125_12, s_125_13, s_125_14, s_125_17, s_125_20, ↓reduceIte, eq_self, rts_some, rts_none, nq_int, nq_ref, nq_null, nq_none, okr1_0, okr1_1, okr_b, List.length_nil, List.length_cons, Nat.zero_le, Nat.reduceAdd, Nat.reduceLeDiff, b2i_0, b2i_n0, b2i_1, b2i_n1, ite_not, if_true, if_false, not_true_eq_false, not_false_eq_true, true_and, and_true, false_and, and_false]
  have := m_move_l (Ev := Ev) (d := d) (Q := Q) (b := b) (sc := sc) (ar := ar) (lg := lg) (G := G) (z := z) (s := 1) (t := 3) (by decide) (V := V) (fun ar i K => ma_now) (fun ar i x K => ms_then) 120 0 rfl
  rw [cpN_0, va_us] at this
  exact this
theorem m_move_31 {sc : Nat → Int32} {ar : Nat → Nat → Int32} : WP V (cdT Ev) mx (d + 1) 125 [.ref (b + 3), .ref (b + 1)] (MH b sc ar lg G z) Q = Q none (MH b sc (va_up ar 1 (cpN 120 (ar 3) (ar 1))) lg G z) := by
  rw [e_125]
  simp only [s_125_0, s_125_1, s_125_3, s_125_5, s_125_8, s_125_8_n, s_125_9, s_125_10, s_125_10_n, s_125_11, s_125_12, s_125_13, s_125_14, s_125_17, s_125_20, ↓reduceIte, eq_self, rts_some, rts_none, nq_int, nq_ref, nq_null, nq_none, okr1_0, okr1_1, okr_b, List.length_nil, List.length_cons, Nat.zero_le, Nat.reduceAdd, Nat.reduceLeDiff, b2i_0, b2i_n0, b2i_1, b2i_n1, ite_not, if_true, if_false, not_true_eq_false, not_false_eq_true, true_and, and_true, false_and, and_false]
  have := m_move_l (Ev := Ev) (d := d) (Q := Q) (b := b) (sc := sc) (ar := ar) (lg := lg) (G := G) (z := z) (s := 3) (t := 1) (by decide) (V := V) (fun ar i K => ma_then) (fun ar i x K => ms_now) 120 0 rfl
  rw [cpN_0, va_us] at this
  exact this
theorem m_day_g {c : Nat} : ∀ m j, j + m = c → ∀ (sc : Nat → Int32) (ar : Nat → Nat → Int32) (N : Nat → Int32), c6 N c → N8 ar → RuleOK ar cl → ar 1 = gosF N cl j → (∀ sc' ar', SE sc (va_up ar 1 (gosF N cl c)) sc' ar' → wp V (cdT Ev) mx (d + 24) 161 24 [some (.ref b), some (.int (nI c)), none] [] (MH b sc' ar' lg G z) Q) → wp V (cdT Ev) mx (d + 24) 161 2 [some (.ref b), some (.int (nI j)), none] [] (MH b sc ar lg G z) Q := by
  intro m
  induction m with
  | zero =>
    intro j hj sc ar N hc h8 hr h1 H
    obtain rfl : j = c := by omega
    have hc6 := hc.2
    have h68 : ar 1 68 = nI j := by
      rw [h1, gosF_out j (fun i hi => by omega) (by decide) (by decide)]
      exact hc.1
    have hle : (nI j ≤ nI j) = True := eq_true (nI_le (by omega) (by omega))
    rw [s_161_2]
    simp only [s_161_0, s_161_1, s_161_3, s_161_3_n, s_161_4, s_161_7, s_161_9, s_161_10, s_161_13, s_161_13_n, s_161_14, s_161_15, s_161_18, s_161_21, s_161_25, s_161_28, s_161_29, s_161_30, s_161_33, s_161_33_n, s_161_34, s_161_37, s_161_39, s_161_40, s_161_41, s_161_42, s_161_45, s_161_45_n, s_161_46, s_161_49, s_161_51, s_161_52, s_161_55, s_161_56, s_161_58, s_161_61, s_161_63, s_161_64, s_161_65, s_161_66, s_161_67, s_161_68, s_161_71, s_161_74, s_161_78, s_161_79, s_161_83, s_161_86, s_161_88, s_161_89, s_161_90, s_161_91, s_161_92, s_161_93, ↓reduceIte, eq_self, rts_some, rts_none, nq_int, nq_ref, nq_null, nq_none, okr1_0, okr1_1, okr_b, List.length_nil, List.length_cons, Nat.zero_le, Nat.reduceAdd, Nat.reduceLeDiff, b2i_0, b2i_n0, b2i_1, b2i_n1, ite_not, if_true, if_false, not_true_eq_false, not_false_eq_true, true_and, and_true, false_and, and_false, mg_now, mg_mind, mg_then, mp_kept, mg_kept, mg_text, mp_texted, mg_texted, mg_rules, mg_sizes, mp_ruled, mg_ruled, mg_read, mp_size, mg_size, mp_at, mg_at, mp_well, mg_well, mp_within, mg_within, mp_sum, mg_sum, mp_free, mg_free, mg_names, mg_letters, mg_begins, mg_words, mg_sums, mg_above, mg_bodies, mg_trace, mp_ran, mg_ran, mg_sorts, mg_lengths, mg_items, mg_moved, ma_now, ms_now, ma_mind, ms_mind, ma_then, ms_then, ma_text, ms_text, ma_rules, ms_rules, ma_sizes, ms_sizes, ma_read, ms_read, ma_names, ms_names, ma_letters, ma_begins, ma_words, ma_sums, ms_sums, ma_above, ma_bodies, ma_trace, ms_trace, ma_sorts, ms_sorts, ma_lengths, ms_lengths, ma_items, ms_items, ma_moved, ms_moved, mcv, cl_0, cl_1, cl_2, cl_3, cl_4, cl_5, cl_6, cl_7, cl_8, cl_9, cl_10, cl_11, cl_12, cl_13, cl_14, cl_15, cl_16, cl_17, cl_18, cl_19, cl_20, cl_21, cl_22, cl_23, cl_24, cl_25, cl_26, cl_27, cl_28, cl_29, cl_30, cl_31, cl_68, cl_69, cl_70, cl_71, cl_82, cl_103, ix_0_120, ix_1_120, ix_2_120, ix_3_120, ix_4_120, ix_5_120, ix_6_120, ix_7_120, ix_8_120, ix_9_120, ix_10_120, ix_11_120, ix_12_120, ix_13_120, ix_68_120, ix_69_120, ix_70_120, ix_71_120, ix_82_120, ix_103_120, ix_0_6, ix_1_6, ix_2_6, ix_3_6, ix_4_6, ix_5_6, ix_0_12, ix_1_12, ix_2_12, ix_3_12, ix_4_12, ix_5_12, ix_6_12, ix_7_12, ix_8_12, ix_9_12, ix_10_12, ix_11_12, h68, hle]
    refine H _ _ ?_
    rw [← h1, va_us]
    exact SE_refl h8
  | succ m ih =>
    intro j hj sc ar N hc h8 hr h1 H
    have hc6 := hc.2
    have h68 : ar 1 68 = nI c := by
      rw [h1, gosF_out j (fun i hi => by omega) (by decide) (by decide)]
      exact hc.1
    have hlt : (nI c ≤ nI j) = False := eq_false (nI_ge (by omega) (by omega))
    rw [s_161_2]
    simp only [s_161_0, s_161_1, s_161_3, s_161_3_n, s_161_4, s_161_7, s_161_9, s_161_10, s_161_13, s_161_13_n, s_161_14, s_161_15, s_161_18, s_161_21, s_161_25, s_161_28, s_161_29, s_161_30, s_161_33, s_161_33_n, s_161_34, s_161_37, s_161_39, s_161_40, s_161_41, s_161_42, s_161_45, s_161_45_n, s_161_46, s_161_49, s_161_51, s_161_52, s_161_55, s_161_56, s_161_58, s_161_61, s_161_63, s_161_64, s_161_65, s_161_66, s_161_67, s_161_68, s_161_71, s_161_74, s_161_78, s_161_79, s_161_83, s_161_86, s_161_88, s_161_89, s_161_90, s_161_91, s_161_92, s_161_93, ↓reduceIte, eq_self, rts_some, rts_none, nq_int, nq_ref, nq_null, nq_none, okr1_0, okr1_1, okr_b, List.length_nil, List.length_cons, Nat.zero_le, Nat.reduceAdd, Nat.reduceLeDiff, b2i_0, b2i_n0, b2i_1, b2i_n1, ite_not, if_true, if_false, not_true_eq_false, not_false_eq_true, true_and, and_true, false_and, and_false, mg_now, mg_mind, mg_then, mp_kept, mg_kept, mg_text, mp_texted, mg_texted, mg_rules, mg_sizes, mp_ruled, mg_ruled, mg_read, mp_size, mg_size, mp_at, mg_at, mp_well, mg_well, mp_within, mg_within, mp_sum, mg_sum, mp_free, mg_free, mg_names, mg_letters, mg_begins, mg_words, mg_sums, mg_above, mg_bodies, mg_trace, mp_ran, mg_ran, mg_sorts, mg_lengths, mg_items, mg_moved, ma_now, ms_now, ma_mind, ms_mind, ma_then, ms_then, ma_text, ms_text, ma_rules, ms_rules, ma_sizes, ms_sizes, ma_read, ms_read, ma_names, ms_names, ma_letters, ma_begins, ma_words, ma_sums, ms_sums, ma_above, ma_bodies, ma_trace, ms_trace, ma_sorts, ms_sorts, ma_lengths, ms_lengths, ma_items, ms_items, ma_moved, ms_moved, mcv, cl_0, cl_1, cl_2, cl_3, cl_4, cl_5, cl_6, cl_7, cl_8, cl_9, cl_10, cl_11, cl_12, cl_13, cl_14, cl_15, cl_16, cl_17, cl_18, cl_19, cl_20, cl_21, cl_22, cl_23, cl_24, cl_25, cl_26, cl_27, cl_28, cl_29, cl_30, cl_31, cl_68, cl_69, cl_70, cl_71, cl_82, cl_103, ix_0_120, ix_1_120, ix_2_120, ix_3_120, ix_4_120, ix_5_120, ix_6_120, ix_7_120, ix_8_120, ix_9_120, ix_10_120, ix_11_120, ix_12_120, ix_13_120, ix_68_120, ix_69_120, ix_70_120, ix_71_120, ix_82_120, ix_103_120, ix_0_6, ix_1_6, ix_2_6, ix_3_6, ix_4_6, ix_5_6, ix_0_12, ix_1_12, ix_2_12, ix_3_12, ix_4_12, ix_5_12, ix_6_12, ix_7_12, ix_8_12, ix_9_12, ix_10_12, ix_11_12, h68, hlt]
    refine m_goes (d := d) (show j < 6 by omega) h8 hr (fun sc' ar' hse => ?_)
    simp only [s_161_0, s_161_1, s_161_3, s_161_3_n, s_161_4, s_161_7, s_161_9, s_161_10, s_161_13, s_161_13_n, s_161_14, s_161_15, s_161_18, s_161_21, s_161_25, s_161_28, s_161_29, s_161_30, s_161_33, s_161_33_n, s_161_34, s_161_37, s_161_39, s_161_40, s_161_41, s_161_42, s_161_45, s_161_45_n, s_161_46, s_161_49, s_161_51, s_161_52, s_161_55, s_161_56, s_161_58, s_161_61, s_161_63, s_161_64, s_161_65, s_161_66, s_161_67, s_161_68, s_161_71, s_161_74, s_161_78, s_161_79, s_161_83, s_161_86, s_161_88, s_161_89, s_161_90, s_161_91, s_161_92, s_161_93, ↓reduceIte, eq_self, rts_some, rts_none, nq_int, nq_ref, nq_null, nq_none, okr1_0, okr1_1, okr_b, List.length_nil, List.length_cons, Nat.zero_le, Nat.reduceAdd, Nat.reduceLeDiff, b2i_0, b2i_n0, b2i_1, b2i_n1, ite_not, if_true, if_false, not_true_eq_false, not_false_eq_true, true_and, and_true, false_and, and_false, nI_1]
    have e1 : ar' 1 = goF (ar 1) cl j := SE_1 hse
    refine ih (j + 1) (by omega) sc' ar' N hc (SE_8 hse) ?_ ?_ (fun sc2 ar2 hse2 => ?_)
    · refine SE_r hse (RuleOK_up ?_ hr)
      exact goF_out (by omega) (by omega) (by omega) (by decide) (by decide)
    · rw [e1, h1]
      rfl
    · exact H _ _ (SE_trans (SE_set hse _) hse2)
theorem m_lst {sc : Nat → Int32} {ar : Nat → Nat → Int32} {l1 : Option Value} (h1 : nl l1 = true) : ∀ f k, k + f = 12 → bt (ar 1 12) (lsb (ar 1 12) f k) = 1 → wp V (cdT Ev) mx d 161 57 [some (.ref b), l1, some (.int (nI k))] [] (MH b sc ar lg G z) Q = wp V (cdT Ev) mx d 161 77 [some (.ref b), l1, some (.int (nI (lsb (ar 1 12) f k)))] [] (MH b sc ar lg G z) Q := by
  intro f
  induction f with
  | zero =>
    intro k hk hb
    have hb' : (((ar 1 12 >>> (nI k &&& 31)) &&& 1) = 0) = False := eq_false (by
      rw [show (ar 1 12 >>> (nI k &&& 31)) &&& 1 = bt (ar 1 12) k from rfl, show bt (ar 1 12) k = 1 from hb]
      decide)
    rw [s_161_57]
    simp only [s_161_0, s_161_1, s_161_3, s_161_3_n, s_161_4, s_161_7, s_161_9, s_161_10, s_161_13, s_161_13_n, s_161_14, s_161_15, s_161_18, s_161_21, s_161_25, s_161_28, s_161_29, s_161_30, s_161_33, s_161_33_n, s_161_34, s_161_37, s_161_39, s_161_40, s_161_41, s_161_42, s_161_45, s_161_45_n, s_161_46, s_161_49, s_161_51, s_161_52, s_161_55, s_161_56, s_161_58, s_161_61, s_161_63, s_161_64, s_161_65, s_161_66, s_161_67, s_161_68, s_161_71, s_161_74, s_161_78, s_161_79, s_161_83, s_161_86, s_161_88, s_161_89, s_161_90, s_161_91, s_161_92, s_161_93, ↓reduceIte, eq_self, rts_some, rts_none, nq_int, nq_ref, nq_null, nq_none, okr1_0, okr1_1, okr_b, List.length_nil, List.length_cons, Nat.zero_le, Nat.reduceAdd, Nat.reduceLeDiff, b2i_0, b2i_n0, b2i_1, b2i_n1, ite_not, if_true, if_false, not_true_eq_false, not_false_eq_true, true_and, and_true, false_and, and_false, mg_now, mg_mind, mg_then, mp_kept, mg_kept, mg_text, mp_texted, mg_texted, mg_rules, mg_sizes, mp_ruled, mg_ruled, mg_read, mp_size, mg_size, mp_at, mg_at, mp_well, mg_well, mp_within, mg_within, mp_sum, mg_sum, mp_free, mg_free, mg_names, mg_letters, mg_begins, mg_words, mg_sums, mg_above, mg_bodies, mg_trace, mp_ran, mg_ran, mg_sorts, mg_lengths, mg_items, mg_moved, ma_now, ms_now, ma_mind, ms_mind, ma_then, ms_then, ma_text, ms_text, ma_rules, ms_rules, ma_sizes, ms_sizes, ma_read, ms_read, ma_names, ms_names, ma_letters, ma_begins, ma_words, ma_sums, ms_sums, ma_above, ma_bodies, ma_trace, ms_trace, ma_sorts, ms_sorts, ma_lengths, ms_lengths, ma_items, ms_items, ma_moved, ms_moved, mcv, cl_0, cl_1, cl_2, cl_3, cl_4, cl_5, cl_6, cl_7, cl_8, cl_9, cl_10, cl_11, cl_12, cl_13, cl_14, cl_15, cl_16, cl_17, cl_18, cl_19, cl_20, cl_21, cl_22, cl_23, cl_24, cl_25, cl_26, cl_27, cl_28, cl_29, cl_30, cl_31, cl_68, cl_69, cl_70, cl_71, cl_82, cl_103, ix_0_120, ix_1_120, ix_2_120, ix_3_120, ix_4_120, ix_5_120, ix_6_120, ix_7_120, ix_8_120, ix_9_120, ix_10_120, ix_11_120, ix_12_120, ix_13_120, ix_68_120, ix_69_120, ix_70_120, ix_71_120, ix_82_120, ix_103_120, ix_0_6, ix_1_6, ix_2_6, ix_3_6, ix_4_6, ix_5_6, ix_0_12, ix_1_12, ix_2_12, ix_3_12, ix_4_12, ix_5_12, ix_6_12, ix_7_12, ix_8_12, ix_9_12, ix_10_12, ix_11_12, hb']
    rfl
  | succ f ih =>
    intro k hk hb
    rw [s_161_57]
    by_cases h0 : bt (ar 1 12) k = 0
    · have hb' : (((ar 1 12 >>> (nI k &&& 31)) &&& 1) = 0) = True := eq_true h0
      have e : lsb (ar 1 12) (f + 1) k = lsb (ar 1 12) f (k + 1) := by rw [lsb, if_pos h0]
      rw [e] at hb ⊢
      simp only [s_161_0, s_161_1, s_161_3, s_161_3_n, s_161_4, s_161_7, s_161_9, s_161_10, s_161_13, s_161_13_n, s_161_14, s_161_15, s_161_18, s_161_21, s_161_25, s_161_28, s_161_29, s_161_30, s_161_33, s_161_33_n, s_161_34, s_161_37, s_161_39, s_161_40, s_161_41, s_161_42, s_161_45, s_161_45_n, s_161_46, s_161_49, s_161_51, s_161_52, s_161_55, s_161_56, s_161_58, s_161_61, s_161_63, s_161_64, s_161_65, s_161_66, s_161_67, s_161_68, s_161_71, s_161_74, s_161_78, s_161_79, s_161_83, s_161_86, s_161_88, s_161_89, s_161_90, s_161_91, s_161_92, s_161_93, ↓reduceIte, eq_self, rts_some, rts_none, nq_int, nq_ref, nq_null, nq_none, okr1_0, okr1_1, okr_b, List.length_nil, List.length_cons, Nat.zero_le, Nat.reduceAdd, Nat.reduceLeDiff, b2i_0, b2i_n0, b2i_1, b2i_n1, ite_not, if_true, if_false, not_true_eq_false, not_false_eq_true, true_and, and_true, false_and, and_false, mg_now, mg_mind, mg_then, mp_kept, mg_kept, mg_text, mp_texted, mg_texted, mg_rules, mg_sizes, mp_ruled, mg_ruled, mg_read, mp_size, mg_size, mp_at, mg_at, mp_well, mg_well, mp_within, mg_within, mp_sum, mg_sum, mp_free, mg_free, mg_names, mg_letters, mg_begins, mg_words, mg_sums, mg_above, mg_bodies, mg_trace, mp_ran, mg_ran, mg_sorts, mg_lengths, mg_items, mg_moved, ma_now, ms_now, ma_mind, ms_mind, ma_then, ms_then, ma_text, ms_text, ma_rules, ms_rules, ma_sizes, ms_sizes, ma_read, ms_read, ma_names, ms_names, ma_letters, ma_begins, ma_words, ma_sums, ms_sums, ma_above, ma_bodies, ma_trace, ms_trace, ma_sorts, ms_sorts, ma_lengths, ms_lengths, ma_items, ms_items, ma_moved, ms_moved, mcv, cl_0, cl_1, cl_2, cl_3, cl_4, cl_5, cl_6, cl_7, cl_8, cl_9, cl_10, cl_11, cl_12, cl_13, cl_14, cl_15, cl_16, cl_17, cl_18, cl_19, cl_20, cl_21, cl_22, cl_23, cl_24, cl_25, cl_26, cl_27, cl_28, cl_29, cl_30, cl_31, cl_68, cl_69, cl_70, cl_71, cl_82, cl_103, ix_0_120, ix_1_120, ix_2_120, ix_3_120, ix_4_120, ix_5_120, ix_6_120, ix_7_120, ix_8_120, ix_9_120, ix_10_120, ix_11_120, ix_12_120, ix_13_120, ix_68_120, ix_69_120, ix_70_120, ix_71_120, ix_82_120, ix_103_120, ix_0_6, ix_1_6, ix_2_6, ix_3_6, ix_4_6, ix_5_6, ix_0_12, ix_1_12, ix_2_12, ix_3_12, ix_4_12, ix_5_12, ix_6_12, ix_7_12, ix_8_12, ix_9_12, ix_10_12, ix_11_12, hb', nI_1]
      exact ih (k + 1) (by omega) hb
    · have hb' : (((ar 1 12 >>> (nI k &&& 31)) &&& 1) = 0) = False := eq_false h0
      have e : lsb (ar 1 12) (f + 1) k = k := by rw [lsb, if_neg h0]
      rw [e]
      simp only [s_161_0, s_161_1, s_161_3, s_161_3_n, s_161_4, s_161_7, s_161_9, s_161_10, s_161_13, s_161_13_n, s_161_14, s_161_15, s_161_18, s_161_21, s_161_25, s_161_28, s_161_29, s_161_30, s_161_33, s_161_33_n, s_161_34, s_161_37, s_161_39, s_161_40, s_161_41, s_161_42, s_161_45, s_161_45_n, s_161_46, s_161_49, s_161_51, s_161_52, s_161_55, s_161_56, s_161_58, s_161_61, s_161_63, s_161_64, s_161_65, s_161_66, s_161_67, s_161_68, s_161_71, s_161_74, s_161_78, s_161_79, s_161_83, s_161_86, s_161_88, s_161_89, s_161_90, s_161_91, s_161_92, s_161_93, ↓reduceIte, eq_self, rts_some, rts_none, nq_int, nq_ref, nq_null, nq_none, okr1_0, okr1_1, okr_b, List.length_nil, List.length_cons, Nat.zero_le, Nat.reduceAdd, Nat.reduceLeDiff, b2i_0, b2i_n0, b2i_1, b2i_n1, ite_not, if_true, if_false, not_true_eq_false, not_false_eq_true, true_and, and_true, false_and, and_false, mg_now, mg_mind, mg_then, mp_kept, mg_kept, mg_text, mp_texted, mg_texted, mg_rules, mg_sizes, mp_ruled, mg_ruled, mg_read, mp_size, mg_size, mp_at, mg_at, mp_well, mg_well, mp_within, mg_within, mp_sum, mg_sum, mp_free, mg_free, mg_names, mg_letters, mg_begins, mg_words, mg_sums, mg_above, mg_bodies, mg_trace, mp_ran, mg_ran, mg_sorts, mg_lengths, mg_items, mg_moved, ma_now, ms_now, ma_mind, ms_mind, ma_then, ms_then, ma_text, ms_text, ma_rules, ms_rules, ma_sizes, ms_sizes, ma_read, ms_read, ma_names, ms_names, ma_letters, ma_begins, ma_words, ma_sums, ms_sums, ma_above, ma_bodies, ma_trace, ms_trace, ma_sorts, ms_sorts, ma_lengths, ms_lengths, ma_items, ms_items, ma_moved, ms_moved, mcv, cl_0, cl_1, cl_2, cl_3, cl_4, cl_5, cl_6, cl_7, cl_8, cl_9, cl_10, cl_11, cl_12, cl_13, cl_14, cl_15, cl_16, cl_17, cl_18, cl_19, cl_20, cl_21, cl_22, cl_23, cl_24, cl_25, cl_26, cl_27, cl_28, cl_29, cl_30, cl_31, cl_68, cl_69, cl_70, cl_71, cl_82, cl_103, ix_0_120, ix_1_120, ix_2_120, ix_3_120, ix_4_120, ix_5_120, ix_6_120, ix_7_120, ix_8_120, ix_9_120, ix_10_120, ix_11_120, ix_12_120, ix_13_120, ix_68_120, ix_69_120, ix_70_120, ix_71_120, ix_82_120, ix_103_120, ix_0_6, ix_1_6, ix_2_6, ix_3_6, ix_4_6, ix_5_6, ix_0_12, ix_1_12, ix_2_12, ix_3_12, ix_4_12, ix_5_12, ix_6_12, ix_7_12, ix_8_12, ix_9_12, ix_10_12, ix_11_12, hb']
theorem m_day82 {sc : Nat → Int32} {ar : Nat → Nat → Int32} {l1 l2 : Option Value} : wp V (cdT Ev) mx d 161 82 [some (.ref b), l1, l2] [] (MH b sc ar lg G z) Q = Q none (MH b sc (va_up ar 1 (upd (ar 1) 69 (ar 1 69 + 1))) lg G z) := by
  simp only [s_161_0, s_161_1, s_161_3, s_161_3_n, s_161_4, s_161_7, s_161_9, s_161_10, s_161_13, s_161_13_n, s_161_14, s_161_15, s_161_18, s_161_21, s_161_25, s_161_28, s_161_29, s_161_30, s_161_33, s_161_33_n, s_161_34, s_161_37, s_161_39, s_161_40, s_161_41, s_161_42, s_161_45, s_161_45_n, s_161_46, s_161_49, s_161_51, s_161_52, s_161_55, s_161_56, s_161_58, s_161_61, s_161_63, s_161_64, s_161_65, s_161_66, s_161_67, s_161_68, s_161_71, s_161_74, s_161_78, s_161_79, s_161_82, s_161_82_n, s_161_83, s_161_86, s_161_88, s_161_89, s_161_90, s_161_91, s_161_92, s_161_93, ↓reduceIte, eq_self, rts_some, rts_none, nq_int, nq_ref, nq_null, nq_none, okr1_0, okr1_1, okr_b, List.length_nil, List.length_cons, Nat.zero_le, Nat.reduceAdd, Nat.reduceLeDiff, b2i_0, b2i_n0, b2i_1, b2i_n1, ite_not, if_true, if_false, not_true_eq_false, not_false_eq_true, true_and, and_true, false_and, and_false, mg_now, mg_mind, mg_then, mp_kept, mg_kept, mg_text, mp_texted, mg_texted, mg_rules, mg_sizes, mp_ruled, mg_ruled, mg_read, mp_size, mg_size, mp_at, mg_at, mp_well, mg_well, mp_within, mg_within, mp_sum, mg_sum, mp_free, mg_free, mg_names, mg_letters, mg_begins, mg_words, mg_sums, mg_above, mg_bodies, mg_trace, mp_ran, mg_ran, mg_sorts, mg_lengths, mg_items, mg_moved, ma_now, ms_now, ma_mind, ms_mind, ma_then, ms_then, ma_text, ms_text, ma_rules, ms_rules, ma_sizes, ms_sizes, ma_read, ms_read, ma_names, ms_names, ma_letters, ma_begins, ma_words, ma_sums, ms_sums, ma_above, ma_bodies, ma_trace, ms_trace, ma_sorts, ms_sorts, ma_lengths, ms_lengths, ma_items, ms_items, ma_moved, ms_moved, mcv, cl_0, cl_1, cl_2, cl_3, cl_4, cl_5, cl_6, cl_7, cl_8, cl_9, cl_10, cl_11, cl_12, cl_13, cl_14, cl_15, cl_16, cl_17, cl_18, cl_19, cl_20, cl_21, cl_22, cl_23, cl_24, cl_25, cl_26, cl_27, cl_28, cl_29, cl_30, cl_31, cl_68, cl_69, cl_70, cl_71, cl_82, cl_103, ix_0_120, ix_1_120, ix_2_120, ix_3_120, ix_4_120, ix_5_120, ix_6_120, ix_7_120, ix_8_120, ix_9_120, ix_10_120, ix_11_120, ix_12_120, ix_13_120, ix_68_120, ix_69_120, ix_70_120, ix_71_120, ix_82_120, ix_103_120, ix_0_6, ix_1_6, ix_2_6, ix_3_6, ix_4_6, ix_5_6, ix_0_12, ix_1_12, ix_2_12, ix_3_12, ix_4_12, ix_5_12, ix_6_12, ix_7_12, ix_8_12, ix_9_12, ix_10_12, ix_11_12, is1]
theorem m_day {c : Nat} {sc : Nat → Int32} {ar : Nat → Nat → Int32} (hc : c6 (ar 1) c) (hS : isS (ar 1 12)) (h8 : N8 ar) (hr : RuleOK ar cl) (H : ∀ sc' ar', SE sc (va_up ar 1 (dayF (ar 1) cl)) sc' ar' → Q none (MH b sc' ar' lg G z)) : WP V (cdT Ev) mx (d + 25) 161 [.ref b] (MH b sc ar lg G z) Q := by
  rw [e_161]
  simp only [s_161_0, s_161_1, ↓reduceIte, eq_self, rts_some, rts_none, nq_int, nq_ref, nq_null, nq_none, okr1_0, okr1_1, okr_b, List.length_nil, List.length_cons, Nat.zero_le, Nat.reduceAdd, Nat.reduceLeDiff, b2i_0, b2i_n0, b2i_1, b2i_n1, ite_not, if_true, if_false, not_true_eq_false, not_false_eq_true, true_and, and_true, false_and, and_false]
  refine m_day_g c 0 (by omega) sc ar (ar 1) hc h8 hr rfl (fun sc' ar' hse => ?_)
  have hc6 := hc.2
  have hN : ar' 1 = gosF (ar 1) cl c := SE_1 hse
  have hr' : RuleOK ar' cl := SE_r hse (RuleOK_up (gosF_out c (fun i hi => by omega) (by decide) (by decide)) hr)
  simp only [s_161_0, s_161_1, s_161_3, s_161_3_n, s_161_4, s_161_7, s_161_9, s_161_10, s_161_13, s_161_13_n, s_161_14, s_161_15, s_161_18, s_161_21, s_161_24, s_161_24_n, s_161_25, s_161_28, s_161_29, s_161_30, s_161_33, s_161_33_n, s_161_34, s_161_37, s_161_39, s_161_40, s_161_41, s_161_42, s_161_45, s_161_45_n, s_161_46, s_161_49, s_161_51, s_161_52, s_161_55, s_161_56, s_161_58, s_161_61, s_161_63, s_161_64, s_161_65, s_161_66, s_161_67, s_161_68, s_161_71, s_161_74, s_161_78, s_161_79, s_161_83, s_161_86, s_161_88, s_161_89, s_161_90, s_161_91, s_161_92, s_161_93, ↓reduceIte, eq_self, rts_some, rts_none, nq_int, nq_ref, nq_null, nq_none, okr1_0, okr1_1, okr_b, List.length_nil, List.length_cons, Nat.zero_le, Nat.reduceAdd, Nat.reduceLeDiff, b2i_0, b2i_n0, b2i_1, b2i_n1, ite_not, if_true, if_false, not_true_eq_false, not_false_eq_true, true_and, and_true, false_and, and_false, mg_now, mg_mind, mg_then, mp_kept, mg_kept, mg_text, mp_texted, mg_texted, mg_rules, mg_sizes, mp_ruled, mg_ruled, mg_read, mp_size, mg_size, mp_at, mg_at, mp_well, mg_well, mp_within, mg_within, mp_sum, mg_sum, mp_free, mg_free, mg_names, mg_letters, mg_begins, mg_words, mg_sums, mg_above, mg_bodies, mg_trace, mp_ran, mg_ran, mg_sorts, mg_lengths, mg_items, mg_moved, ma_now, ms_now, ma_mind, ms_mind, ma_then, ms_then, ma_text, ms_text, ma_rules, ms_rules, ma_sizes, ms_sizes, ma_read, ms_read, ma_names, ms_names, ma_letters, ma_begins, ma_words, ma_sums, ms_sums, ma_above, ma_bodies, ma_trace, ms_trace, ma_sorts, ms_sorts, ma_lengths, ms_lengths, ma_items, ms_items, ma_moved, ms_moved, mcv, cl_0, cl_1, cl_2, cl_3, cl_4, cl_5, cl_6, cl_7, cl_8, cl_9, cl_10, cl_11, cl_12, cl_13, cl_14, cl_15, cl_16, cl_17, cl_18, cl_19, cl_20, cl_21, cl_22, cl_23, cl_24, cl_25, cl_26, cl_27, cl_28, cl_29, cl_30, cl_31, cl_68, cl_69, cl_70, cl_71, cl_82, cl_103, ix_0_120, ix_1_120, ix_2_120, ix_3_120, ix_4_120, ix_5_120, ix_6_120, ix_7_120, ix_8_120, ix_9_120, ix_10_120, ix_11_120, ix_12_120, ix_13_120, ix_68_120, ix_69_120, ix_70_120, ix_71_120, ix_82_120, ix_103_120, ix_0_6, ix_1_6, ix_2_6, ix_3_6, ix_4_6, ix_5_6, ix_0_12, ix_1_12, ix_2_12, ix_3_12, ix_4_12, ix_5_12, ix_6_12, ix_7_12, ix_8_12, ix_9_12, ix_10_12, ix_11_12]
  refine m_freeNow (d := d + 2) (SE_8 hse) hr' (fun sc2 ar2 hse2 => ?_)
  have hN2 : ar2 1 = gosF (ar 1) cl c := (SE_1 hse2).trans hN
  have hse3 := SE_trans hse hse2
  have eday : dayF (ar 1) cl = upd (evF (ar2 1) (freeC 0 cl)) 69 (evF (ar2 1) (freeC 0 cl) 69 + 1) := by
    unfold dayF
    rw [hc.1, nI_clamp (by omega), hN2]
  have fin : ∀ M, evF (ar2 1) (freeC 0 cl) = M → Q none (MH b sc2 (va_up ar2 1 (upd M 69 (M 69 + 1))) lg G z) := by
    intro M hM
    subst hM
    refine H _ _ ?_
    rw [← eday]
    exact SE_set hse3 _
  have hS2 : isS (ar2 1 12) := by
    rw [hN2]
    exact gosF_12 hS c
  by_cases hf : freeC 0 cl ≤ 0
  · simp only [s_161_0, s_161_1, s_161_3, s_161_3_n, s_161_4, s_161_7, s_161_9, s_161_10, s_161_13, s_161_13_n, s_161_14, s_161_15, s_161_18, s_161_21, s_161_24, s_161_24_n, s_161_25, s_161_28, s_161_29, s_161_30, s_161_33, s_161_33_n, s_161_34, s_161_37, s_161_39, s_161_40, s_161_41, s_161_42, s_161_45, s_161_45_n, s_161_46, s_161_49, s_161_51, s_161_52, s_161_55, s_161_56, s_161_58, s_161_61, s_161_63, s_161_64, s_161_65, s_161_66, s_161_67, s_161_68, s_161_71, s_161_74, s_161_78, s_161_79, s_161_83, s_161_86, s_161_88, s_161_89, s_161_90, s_161_91, s_161_92, s_161_93, ↓reduceIte, eq_self, rts_some, rts_none, nq_int, nq_ref, nq_null, nq_none, okr1_0, okr1_1, okr_b, List.length_nil, List.length_cons, Nat.zero_le, Nat.reduceAdd, Nat.reduceLeDiff, b2i_0, b2i_n0, b2i_1, b2i_n1, ite_not, if_true, if_false, not_true_eq_false, not_false_eq_true, true_and, and_true, false_and, and_false, mg_now, mg_mind, mg_then, mp_kept, mg_kept, mg_text, mp_texted, mg_texted, mg_rules, mg_sizes, mp_ruled, mg_ruled, mg_read, mp_size, mg_size, mp_at, mg_at, mp_well, mg_well, mp_within, mg_within, mp_sum, mg_sum, mp_free, mg_free, mg_names, mg_letters, mg_begins, mg_words, mg_sums, mg_above, mg_bodies, mg_trace, mp_ran, mg_ran, mg_sorts, mg_lengths, mg_items, mg_moved, ma_now, ms_now, ma_mind, ms_mind, ma_then, ms_then, ma_text, ms_text, ma_rules, ms_rules, ma_sizes, ms_sizes, ma_read, ms_read, ma_names, ms_names, ma_letters, ma_begins, ma_words, ma_sums, ms_sums, ma_above, ma_bodies, ma_trace, ms_trace, ma_sorts, ms_sorts, ma_lengths, ms_lengths, ma_items, ms_items, ma_moved, ms_moved, mcv, cl_0, cl_1, cl_2, cl_3, cl_4, cl_5, cl_6, cl_7, cl_8, cl_9, cl_10, cl_11, cl_12, cl_13, cl_14, cl_15, cl_16, cl_17, cl_18, cl_19, cl_20, cl_21, cl_22, cl_23, cl_24, cl_25, cl_26, cl_27, cl_28, cl_29, cl_30, cl_31, cl_68, cl_69, cl_70, cl_71, cl_82, cl_103, ix_0_120, ix_1_120, ix_2_120, ix_3_120, ix_4_120, ix_5_120, ix_6_120, ix_7_120, ix_8_120, ix_9_120, ix_10_120, ix_11_120, ix_12_120, ix_13_120, ix_68_120, ix_69_120, ix_70_120, ix_71_120, ix_82_120, ix_103_120, ix_0_6, ix_1_6, ix_2_6, ix_3_6, ix_4_6, ix_5_6, ix_0_12, ix_1_12, ix_2_12, ix_3_12, ix_4_12, ix_5_12, ix_6_12, ix_7_12, ix_8_12, ix_9_12, ix_10_12, ix_11_12, hf]
    rw [m_day82]
    refine fin _ ?_
    unfold evF
    rw [if_neg (fun h => absurd h.1 (Int32.not_lt.mpr hf))]
  · have hf' := Int32.not_le.mp hf
    have hf0 : (freeC 0 cl = 0) = False := eq_false (fun h => by rw [h] at hf'; exact absurd hf' (by decide))
    by_cases hm : ar2 1 69 - ar2 1 69 / freeC 0 cl * freeC 0 cl = 0
    · by_cases ht : ar2 1 12 = 0
      · simp only [s_161_0, s_161_1, s_161_3, s_161_3_n, s_161_4, s_161_7, s_161_9, s_161_10, s_161_13, s_161_13_n, s_161_14, s_161_15, s_161_18, s_161_21, s_161_24, s_161_24_n, s_161_25, s_161_28, s_161_29, s_161_30, s_161_33, s_161_33_n, s_161_34, s_161_37, s_161_39, s_161_40, s_161_41, s_161_42, s_161_45, s_161_45_n, s_161_46, s_161_49, s_161_51, s_161_52, s_161_55, s_161_56, s_161_58, s_161_61, s_161_63, s_161_64, s_161_65, s_161_66, s_161_67, s_161_68, s_161_71, s_161_74, s_161_78, s_161_79, s_161_83, s_161_86, s_161_88, s_161_89, s_161_90, s_161_91, s_161_92, s_161_93, ↓reduceIte, eq_self, rts_some, rts_none, nq_int, nq_ref, nq_null, nq_none, okr1_0, okr1_1, okr_b, List.length_nil, List.length_cons, Nat.zero_le, Nat.reduceAdd, Nat.reduceLeDiff, b2i_0, b2i_n0, b2i_1, b2i_n1, ite_not, if_true, if_false, not_true_eq_false, not_false_eq_true, true_and, and_true, false_and, and_false, mg_now, mg_mind, mg_then, mp_kept, mg_kept, mg_text, mp_texted, mg_texted, mg_rules, mg_sizes, mp_ruled, mg_ruled, mg_read, mp_size, mg_size, mp_at, mg_at, mp_well, mg_well, mp_within, mg_within, mp_sum, mg_sum, mp_free, mg_free, mg_names, mg_letters, mg_begins, mg_words, mg_sums, mg_above, mg_bodies, mg_trace, mp_ran, mg_ran, mg_sorts, mg_lengths, mg_items, mg_moved, ma_now, ms_now, ma_mind, ms_mind, ma_then, ms_then, ma_text, ms_text, ma_rules, ms_rules, ma_sizes, ms_sizes, ma_read, ms_read, ma_names, ms_names, ma_letters, ma_begins, ma_words, ma_sums, ms_sums, ma_above, ma_bodies, ma_trace, ms_trace, ma_sorts, ms_sorts, ma_lengths, ms_lengths, ma_items, ms_items, ma_moved, ms_moved, mcv, cl_0, cl_1, cl_2, cl_3, cl_4, cl_5, cl_6, cl_7, cl_8, cl_9, cl_10, cl_11, cl_12, cl_13, cl_14, cl_15, cl_16, cl_17, cl_18, cl_19, cl_20, cl_21, cl_22, cl_23, cl_24, cl_25, cl_26, cl_27, cl_28, cl_29, cl_30, cl_31, cl_68, cl_69, cl_70, cl_71, cl_82, cl_103, ix_0_120, ix_1_120, ix_2_120, ix_3_120, ix_4_120, ix_5_120, ix_6_120, ix_7_120, ix_8_120, ix_9_120, ix_10_120, ix_11_120, ix_12_120, ix_13_120, ix_68_120, ix_69_120, ix_70_120, ix_71_120, ix_82_120, ix_103_120, ix_0_6, ix_1_6, ix_2_6, ix_3_6, ix_4_6, ix_5_6, ix_0_12, ix_1_12, ix_2_12, ix_3_12, ix_4_12, ix_5_12, ix_6_12, ix_7_12, ix_8_12, ix_9_12, ix_10_12, ix_11_12, hf, hf0, hm, ht, eq_self]
        rw [m_day82]
        refine fin _ ?_
        unfold evF
        rw [if_neg (fun h => h.2.2 ht)]
      · simp only [s_161_0, s_161_1, s_161_3, s_161_3_n, s_161_4, s_161_7, s_161_9, s_161_10, s_161_13, s_161_13_n, s_161_14, s_161_15, s_161_18, s_161_21, s_161_24, s_161_24_n, s_161_25, s_161_28, s_161_29, s_161_30, s_161_33, s_161_33_n, s_161_34, s_161_37, s_161_39, s_161_40, s_161_41, s_161_42, s_161_45, s_161_45_n, s_161_46, s_161_49, s_161_51, s_161_52, s_161_55, s_161_56, s_161_58, s_161_61, s_161_63, s_161_64, s_161_65, s_161_66, s_161_67, s_161_68, s_161_71, s_161_74, s_161_78, s_161_79, s_161_83, s_161_86, s_161_88, s_161_89, s_161_90, s_161_91, s_161_92, s_161_93, ↓reduceIte, eq_self, rts_some, rts_none, nq_int, nq_ref, nq_null, nq_none, okr1_0, okr1_1, okr_b, List.length_nil, List.length_cons, Nat.zero_le, Nat.reduceAdd, Nat.reduceLeDiff, b2i_0, b2i_n0, b2i_1, b2i_n1, ite_not, if_true, if_false, not_true_eq_false, not_false_eq_true, true_and, and_true, false_and, and_false, mg_now, mg_mind, mg_then, mp_kept, mg_kept, mg_text, mp_texted, mg_texted, mg_rules, mg_sizes, mp_ruled, mg_ruled, mg_read, mp_size, mg_size, mp_at, mg_at, mp_well, mg_well, mp_within, mg_within, mp_sum, mg_sum, mp_free, mg_free, mg_names, mg_letters, mg_begins, mg_words, mg_sums, mg_above, mg_bodies, mg_trace, mp_ran, mg_ran, mg_sorts, mg_lengths, mg_items, mg_moved, ma_now, ms_now, ma_mind, ms_mind, ma_then, ms_then, ma_text, ms_text, ma_rules, ms_rules, ma_sizes, ms_sizes, ma_read, ms_read, ma_names, ms_names, ma_letters, ma_begins, ma_words, ma_sums, ms_sums, ma_above, ma_bodies, ma_trace, ms_trace, ma_sorts, ms_sorts, ma_lengths, ms_lengths, ma_items, ms_items, ma_moved, ms_moved, mcv, cl_0, cl_1, cl_2, cl_3, cl_4, cl_5, cl_6, cl_7, cl_8, cl_9, cl_10, cl_11, cl_12, cl_13, cl_14, cl_15, cl_16, cl_17, cl_18, cl_19, cl_20, cl_21, cl_22, cl_23, cl_24, cl_25, cl_26, cl_27, cl_28, cl_29, cl_30, cl_31, cl_68, cl_69, cl_70, cl_71, cl_82, cl_103, ix_0_120, ix_1_120, ix_2_120, ix_3_120, ix_4_120, ix_5_120, ix_6_120, ix_7_120, ix_8_120, ix_9_120, ix_10_120, ix_11_120, ix_12_120, ix_13_120, ix_68_120, ix_69_120, ix_70_120, ix_71_120, ix_82_120, ix_103_120, ix_0_6, ix_1_6, ix_2_6, ix_3_6, ix_4_6, ix_5_6, ix_0_12, ix_1_12, ix_2_12, ix_3_12, ix_4_12, ix_5_12, ix_6_12, ix_7_12, ix_8_12, ix_9_12, ix_10_12, ix_11_12, hf, hf0, hm, ht, eq_self]
        obtain ⟨k, hk, hkx⟩ := isS_of hS2
        have hl := lsb_k k hk
        rw [← hkx] at hl
        rcases hl with h0 | ⟨hl1, hl2, -⟩
        · exfalso
          apply ht
          rw [hkx, h0]
          rfl
        · refine Eq.mpr (m_lst nq_int 12 0 rfl hl2) ?_
          simp only [s_161_77, s_161_78, s_161_79, ↓reduceIte, eq_self, rts_some, rts_none, nq_int, nq_ref, nq_null, nq_none, okr1_0, okr1_1, okr_b, List.length_nil, List.length_cons, Nat.zero_le, Nat.reduceAdd, Nat.reduceLeDiff, b2i_0, b2i_n0, b2i_1, b2i_n1, ite_not, if_true, if_false, not_true_eq_false, not_false_eq_true, true_and, and_true, false_and, and_false, mg_now, mg_mind, mg_then, mp_kept, mg_kept, mg_text, mp_texted, mg_texted, mg_rules, mg_sizes, mp_ruled, mg_ruled, mg_read, mp_size, mg_size, mp_at, mg_at, mp_well, mg_well, mp_within, mg_within, mp_sum, mg_sum, mp_free, mg_free, mg_names, mg_letters, mg_begins, mg_words, mg_sums, mg_above, mg_bodies, mg_trace, mp_ran, mg_ran, mg_sorts, mg_lengths, mg_items, mg_moved, ma_now, ms_now, ma_mind, ms_mind, ma_then, ms_then, ma_text, ms_text, ma_rules, ms_rules, ma_sizes, ms_sizes, ma_read, ms_read, ma_names, ms_names, ma_letters, ma_begins, ma_words, ma_sums, ms_sums, ma_above, ma_bodies, ma_trace, ms_trace, ma_sorts, ms_sorts, ma_lengths, ms_lengths, ma_items, ms_items, ma_moved, ms_moved, mcv, m_hears hl1]
          rw [m_day82, va_uu, va_up1]
          refine fin _ ?_
          unfold evF
          rw [if_pos ⟨hf', hm, ht⟩]
    · simp only [s_161_0, s_161_1, s_161_3, s_161_3_n, s_161_4, s_161_7, s_161_9, s_161_10, s_161_13, s_161_13_n, s_161_14, s_161_15, s_161_18, s_161_21, s_161_24, s_161_24_n, s_161_25, s_161_28, s_161_29, s_161_30, s_161_33, s_161_33_n, s_161_34, s_161_37, s_161_39, s_161_40, s_161_41, s_161_42, s_161_45, s_161_45_n, s_161_46, s_161_49, s_161_51, s_161_52, s_161_55, s_161_56, s_161_58, s_161_61, s_161_63, s_161_64, s_161_65, s_161_66, s_161_67, s_161_68, s_161_71, s_161_74, s_161_78, s_161_79, s_161_83, s_161_86, s_161_88, s_161_89, s_161_90, s_161_91, s_161_92, s_161_93, ↓reduceIte, eq_self, rts_some, rts_none, nq_int, nq_ref, nq_null, nq_none, okr1_0, okr1_1, okr_b, List.length_nil, List.length_cons, Nat.zero_le, Nat.reduceAdd, Nat.reduceLeDiff, b2i_0, b2i_n0, b2i_1, b2i_n1, ite_not, if_true, if_false, not_true_eq_false, not_false_eq_true, true_and, and_true, false_and, and_false, mg_now, mg_mind, mg_then, mp_kept, mg_kept, mg_text, mp_texted, mg_texted, mg_rules, mg_sizes, mp_ruled, mg_ruled, mg_read, mp_size, mg_size, mp_at, mg_at, mp_well, mg_well, mp_within, mg_within, mp_sum, mg_sum, mp_free, mg_free, mg_names, mg_letters, mg_begins, mg_words, mg_sums, mg_above, mg_bodies, mg_trace, mp_ran, mg_ran, mg_sorts, mg_lengths, mg_items, mg_moved, ma_now, ms_now, ma_mind, ms_mind, ma_then, ms_then, ma_text, ms_text, ma_rules, ms_rules, ma_sizes, ms_sizes, ma_read, ms_read, ma_names, ms_names, ma_letters, ma_begins, ma_words, ma_sums, ms_sums, ma_above, ma_bodies, ma_trace, ms_trace, ma_sorts, ms_sorts, ma_lengths, ms_lengths, ma_items, ms_items, ma_moved, ms_moved, mcv, cl_0, cl_1, cl_2, cl_3, cl_4, cl_5, cl_6, cl_7, cl_8, cl_9, cl_10, cl_11, cl_12, cl_13, cl_14, cl_15, cl_16, cl_17, cl_18, cl_19, cl_20, cl_21, cl_22, cl_23, cl_24, cl_25, cl_26, cl_27, cl_28, cl_29, cl_30, cl_31, cl_68, cl_69, cl_70, cl_71, cl_82, cl_103, ix_0_120, ix_1_120, ix_2_120, ix_3_120, ix_4_120, ix_5_120, ix_6_120, ix_7_120, ix_8_120, ix_9_120, ix_10_120, ix_11_120, ix_12_120, ix_13_120, ix_68_120, ix_69_120, ix_70_120, ix_71_120, ix_82_120, ix_103_120, ix_0_6, ix_1_6, ix_2_6, ix_3_6, ix_4_6, ix_5_6, ix_0_12, ix_1_12, ix_2_12, ix_3_12, ix_4_12, ix_5_12, ix_6_12, ix_7_12, ix_8_12, ix_9_12, ix_10_12, ix_11_12, hf, hf0, hm]
      rw [m_day82]
      refine fin _ ?_
      unfold evF
      rw [if_neg (fun h => hm h.2.1)]
end
