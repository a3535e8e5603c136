/-! Fractions, odds, what is on a day, means: the reference. -/
def frF (a b : Nat) (p : Int32) : Int64 := if p = 0 then lN (a / Nat.gcd a b) else lN (b / Nat.gcd a b)
def pcL (k : Nat) : Nat → Nat
  | 0 => 0
  | s + 1 => pcL k s + k / 2 ^ s % 2
theorem mnL_pc {k : Nat} (hk : k < 2 ^ 31) : ∀ s, s ≤ 12 → mnL (nI k) s = nI (pcL k s) := by
  intro s
  induction s with
  | zero =>
    intro _
    rfl
  | succ s ih =>
    intro h
    rw [mnL, ih (by omega), bt_nI hk (by omega), nI_add]
    rfl
theorem mn_pc {k : Nat} (hk : k < 2 ^ 31) : mn (nI k) = nI (pcL k 12) := mnL_pc hk 12 (by omega)
theorem pcL_le (k : Nat) : ∀ s, pcL k s ≤ s := by
  intro s
  induction s with
  | zero => exact Nat.le_refl _
  | succ s ih =>
    have := Nat.mod_lt (k / 2 ^ s) (show 0 < 2 by decide)
    simp only [pcL]
    omega
theorem pcL_pos {k : Nat} : ∀ s, 0 < k → k < 2 ^ s → 0 < pcL k s := by
  intro s
  induction s with
  | zero =>
    intro h0 h1
    simp at h1
    omega
  | succ s ih =>
    intro h0 h1
    simp only [pcL]
    by_cases h2 : k < 2 ^ s
    · have := ih h0 h2
      omega
    · have h3 : k / 2 ^ s = 1 := by
        apply Nat.div_eq_of_lt_le
        · omega
        · rw [Nat.pow_succ] at h1
          omega
      rw [h3]
      omega
def odN (N : Nat → Int32) (cl : List Cls) (i : Nat) : Nat → Nat
  | 0 => 0
  | s + 1 => odN N cl i s + (if tipF N cl i (N (14 + 9 * i + 2) ||| on1 s) = -1 ∨ tipF N cl i (N (14 + 9 * i + 2) ||| on1 s) = tipF N cl i (N (14 + 9 * i + 2)) then 0 else 1)
theorem odN_le (N : Nat → Int32) (cl : List Cls) (i : Nat) : ∀ s, odN N cl i s ≤ s := by
  intro s
  induction s with
  | zero => exact Nat.le_refl _
  | succ s ih =>
    simp only [odN]
    split <;> omega
/-- worths -/
def WO (N : Nat → Int32) : Prop := ∀ s, s < 12 → ∃ v, v ≤ 20 ∧ N s = nI v
def meN (N : Nat → Int32) (h : Int32) : Nat → Nat
  | 0 => 0
  | s + 1 => meN N h s + (if bt h s = 1 then (N s).toNatClampNeg else 0)
theorem meN_le {N : Nat → Int32} (hW : WO N) (h : Int32) : ∀ s, s ≤ 12 → meN N h s ≤ 20 * s := by
  intro s
  induction s with
  | zero =>
    intro _
    exact Nat.le_refl _
  | succ s ih =>
    intro hs
    have := ih (by omega)
    obtain ⟨v, hv, e⟩ := hW s (by omega)
    simp only [meN]
    rw [e, nI_clamp (by omega)]
    split <;> omega
theorem goF_13 {N : Nat → Int32} {cl : List Cls} {i : Nat} (h : isS (N 13)) : isS (goF N cl i 13) := by
  unfold goF
  split
  · rw [pk_un (by omega)]
    exact h
  · rename_i ht
    rw [pk_un (by omega)]
    split
    · rw [pk_us]
      rcases tipF_k N cl i (N (14 + 9 * i + 2)) with h1 | ⟨s, hs, h1, -⟩
      · exact absurd h1 ht
      · rw [h1]
        exact isS_or h (isS_on1 hs)
    · rw [pk_un (by omega), pk_un (by omega)]
      exact h
theorem gosF_13 {N : Nat → Int32} {cl : List Cls} (h : isS (N 13)) : ∀ j, isS (gosF N cl j 13) := by
  intro j
  induction j with
  | zero => exact h
  | succ j ih => exact goF_13 ih
theorem dayF_13 {N : Nat → Int32} {cl : List Cls} (h12 : isS (N 12)) (h : isS (N 13)) : isS (dayF N cl 13) := by
  unfold dayF
  rw [pk_un (by decide)]
  have h1 := gosF_13 (cl := cl) h (N 68).toNatClampNeg
  have h2 := gosF_12 (cl := cl) h12 (N 68).toNatClampNeg
  unfold evF
  split
  · rename_i hc
    unfold heF
    split
    · rw [pk_us]
      refine isS_or h1 (isS_on1 ?_)
      obtain ⟨k, hk, hkx⟩ := isS_of h2
      have hl := lsb_k k hk
      rw [← hkx] at hl
      rcases hl with h0 | ⟨hl1, -, -⟩
      · exfalso
        apply hc.2.2
        rw [hkx, h0]
        rfl
      · exact hl1
    · exact h1
  · exact h1
theorem daysF_13 {N : Nat → Int32} {cl : List Cls} (h12 : isS (N 12)) (h : isS (N 13)) : ∀ n, isS (daysF N cl n 13) := by
  intro n
  induction n with
  | zero => exact h
  | succ n ih => exact dayF_13 (daysF_12 h12 n) ih
/-- a decoy: from the empty set on -/
def dcF (N : Nat → Int32) (cl : List Cls) (i : Nat) (has t : Int32) : Nat → Int32
  | 0 => -5
  | n + 1 => if nI n &&& has = 0 ∧ (dcF N cl i has t n = -5 ∨ mn (nI n) < mn (dcF N cl i has t n)) ∧ ¬ tipF N cl i (has ||| nI n) = -1 ∧ ¬ tipF N cl i (has ||| nI n) = t then nI n else dcF N cl i has t n
section
variable {V : Nat → Option AE} {Ev : Nat → Value} {d : Nat} {Q : Option Value → HS → Prop} {h : HS}
variable {b : Nat} {lg : Nat → Nat → Int64} {G : Nat → Option AE} {z : Nat × Nat} {cl : List Cls}
theorem m_fr_l {A B : Int64} {p : Int32} : ∀ (y x : Nat), x < 2 ^ 31 → y < 2 ^ 31 → 0 < Nat.gcd x y → ∀ l9, wp V (cdT Ev) mx d 175 6 [some (.long A), none, some (.long B), none, some (.int p), some (.long (lN x)), none, some (.long (lN y)), none, l9, none] [] h Q = Q (some (.long (if p = 0 then A / lN (Nat.gcd x y) else B / lN (Nat.gcd x y)))) h := by
  intro y
  induction y using Nat.strongRecOn with
  | ind y ih =>
    intro x hx hy hg l9
    have h0 : (lN 0 : Int64) = 0 := rfl
    rcases Nat.eq_zero_or_pos y with rfl | hp
    · have hc : (lg_cmp (lN 0) 0 = 0) = True := by decide
      rw [Nat.gcd_zero_right] at hg ⊢
      have hz : (lN x = 0) = False := eq_false (fun e => by
        rw [← h0] at e
        have := (pk_lEQ (a := x) (b := 0) (by omega) (by decide)).mp e
        omega)
      rw [s_175_6]
      by_cases hp0 : p = 0
      · rw [if_pos hp0]
        simp only [s_175_0, s_175_1, s_175_3, s_175_4, s_175_8, s_175_9, s_175_10, s_175_13, s_175_15, s_175_17, s_175_18, s_175_20, s_175_22, s_175_24, s_175_26, s_175_28, s_175_31, s_175_33, s_175_36, s_175_37, s_175_39, s_175_40, s_175_43, s_175_44, s_175_46, s_175_47, ↓reduceIte, eq_self, rts_some, rts_none, nq_int, nq_ref, nq_null, nq_none, okr1_0, okr1_1, okr_b, List.length_nil, List.length_cons, Nat.zero_le, Nat.reduceAdd, Nat.reduceLeDiff, b2i_0, b2i_n0, b2i_1, b2i_n1, ite_not, if_true, if_false, not_true_eq_false, not_false_eq_true, true_and, and_true, false_and, and_false, hc, hp0, hz]
      · rw [if_neg hp0]
        simp only [s_175_0, s_175_1, s_175_3, s_175_4, s_175_8, s_175_9, s_175_10, s_175_13, s_175_15, s_175_17, s_175_18, s_175_20, s_175_22, s_175_24, s_175_26, s_175_28, s_175_31, s_175_33, s_175_36, s_175_37, s_175_39, s_175_40, s_175_43, s_175_44, s_175_46, s_175_47, ↓reduceIte, eq_self, rts_some, rts_none, nq_int, nq_ref, nq_null, nq_none, okr1_0, okr1_1, okr_b, List.length_nil, List.length_cons, Nat.zero_le, Nat.reduceAdd, Nat.reduceLeDiff, b2i_0, b2i_n0, b2i_1, b2i_n1, ite_not, if_true, if_false, not_true_eq_false, not_false_eq_true, true_and, and_true, false_and, and_false, hc, hp0, hz]
    · have hz : (lN y = 0) = False := eq_false (fun e => by
        rw [← h0] at e
        have := (pk_lEQ (a := y) (b := 0) (by omega) (by decide)).mp e
        omega)
      have hc : (lg_cmp (lN y) 0 = 0) = False := by
        rw [propext (lg_cmp_eq (lN y) 0)]
        exact hz
      have hm := Nat.mod_lt x hp
      have eg : Nat.gcd x y = Nat.gcd y (x % y) := by
        rw [Nat.gcd_comm x y, Nat.gcd_rec y x, Nat.gcd_comm]
      rw [eg] at hg ⊢
      rw [s_175_6]
      simp only [s_175_0, s_175_1, s_175_3, s_175_4, s_175_8, s_175_9, s_175_10, s_175_13, s_175_15, s_175_17, s_175_18, s_175_20, s_175_22, s_175_24, s_175_26, s_175_28, s_175_31, s_175_33, s_175_36, s_175_37, s_175_39, s_175_40, s_175_43, s_175_44, s_175_46, s_175_47, ↓reduceIte, eq_self, rts_some, rts_none, nq_int, nq_ref, nq_null, nq_none, okr1_0, okr1_1, okr_b, List.length_nil, List.length_cons, Nat.zero_le, Nat.reduceAdd, Nat.reduceLeDiff, b2i_0, b2i_n0, b2i_1, b2i_n1, ite_not, if_true, if_false, not_true_eq_false, not_false_eq_true, true_and, and_true, false_and, and_false, hc, hz, pk_lRem (show x < 2 ^ 63 by omega) hp (show y < 2 ^ 63 by omega)]
      exact ih (x % y) hm y hy (by omega) hg _
theorem m_fraction {x y : Nat} {p : Int32} (hx : x < 2 ^ 31) (hy : y < 2 ^ 31) (hp : 0 < y) : WP V (cdT Ev) mx (d + 1) 175 [.long (lN x), .long (lN y), .int p] h Q = Q (some (.long (frF x y p))) h := by
  have hg : 0 < Nat.gcd x y := Nat.gcd_pos_of_pos_right x hp
  have hgx : Nat.gcd x y < 2 ^ 31 := Nat.lt_of_le_of_lt (Nat.gcd_le_right x hp) hy
  rw [e_175]
  simp only [s_175_0, s_175_1, s_175_3, s_175_4, s_175_8, s_175_9, s_175_10, s_175_13, s_175_15, s_175_17, s_175_18, s_175_20, s_175_22, s_175_24, s_175_26, s_175_28, s_175_31, s_175_33, s_175_36, s_175_37, s_175_39, s_175_40, s_175_43, s_175_44, s_175_46, s_175_47, ↓reduceIte, eq_self, rts_some, rts_none, nq_int, nq_ref, nq_null, nq_none, okr1_0, okr1_1, okr_b, List.length_nil, List.length_cons, Nat.zero_le, Nat.reduceAdd, Nat.reduceLeDiff, b2i_0, b2i_n0, b2i_1, b2i_n1, ite_not, if_true, if_false, not_true_eq_false, not_false_eq_true, true_and, and_true, false_and, and_false]
  rw [m_fr_l y x hx hy hg none, pk_lDiv (by omega) hg (by omega), pk_lDiv (by omega) hg (by omega)]
  rfl
theorem m_odds_l {i : Nat} {w t : Int32} (hi : i < 6) {sc : Nat → Int32} {ar : Nat → Nat → Int32} (hs : ∀ s, s < 12 → ar 12 s = smF (ar 1) cl i s) (ht : t = tipF (ar 1) cl i (ar 1 (14 + 9 * i + 2))) : ∀ m j, j + m = 12 → ∀ l6, nl l6 = true → wp V (cdT Ev) mx (d + 3) 176 33 [some (.ref b), some (.int (nI i)), some (.int w), some (.int t), some (.int (nI (odN (ar 1) cl i j))), some (.int (nI j)), l6] [] (MH b sc ar lg G z) Q = Q (some (.long (frF (odN (ar 1) cl i 12) 12 w))) (MH b sc ar lg G z) := by
  intro m
  induction m with
  | zero =>
    intro j hj l6 h6
    obtain rfl : j = 12 := by omega
    have hle : ((12 : Int32) ≤ nI 12) = True := by decide
    have hod := odN_le (ar 1) cl i 12
    rw [s_176_33]
    simp only [s_176_0, s_176_0_n, s_176_1, s_176_2, s_176_5, s_176_8, s_176_9, s_176_10, s_176_11, s_176_14, s_176_17, s_176_20, s_176_21, s_176_21_n, s_176_22, s_176_23, s_176_26, s_176_27, s_176_28, s_176_30, s_176_31, s_176_35, s_176_37, s_176_40, s_176_40_n, s_176_41, s_176_42, s_176_42_n, s_176_43, s_176_44, s_176_45, s_176_48, s_176_49, s_176_51, s_176_52, s_176_53, s_176_56, s_176_58, s_176_60, s_176_62, s_176_63, s_176_66, s_176_68, s_176_69, s_176_72, s_176_73, s_176_76, s_176_77, s_176_78, s_176_80, s_176_83, s_176_86, s_176_88, s_176_89, s_176_92, s_176_93, s_176_96, ↓reduceIte, eq_self, rts_some, rts_none, nq_int, nq_ref, nq_null, nq_none, okr1_0, okr1_1, okr_b, List.length_nil, List.length_cons, Nat.zero_le, Nat.reduceAdd, Nat.reduceLeDiff, b2i_0, b2i_n0, b2i_1, b2i_n1, ite_not, if_true, if_false, not_true_eq_false, not_false_eq_true, true_and, and_true, false_and, and_false, hle, nI_l (show odN (ar 1) cl i 12 < 2 ^ 31 by omega)]
    refine Eq.trans (m_fraction (x := odN (ar 1) cl i 12) (y := 12) (by omega) (by decide) (by decide)) ?_
    simp only [s_176_0, s_176_0_n, s_176_1, s_176_2, s_176_5, s_176_8, s_176_9, s_176_10, s_176_11, s_176_14, s_176_17, s_176_20, s_176_21, s_176_21_n, s_176_22, s_176_23, s_176_26, s_176_27, s_176_28, s_176_30, s_176_31, s_176_35, s_176_37, s_176_40, s_176_40_n, s_176_41, s_176_42, s_176_42_n, s_176_43, s_176_44, s_176_45, s_176_48, s_176_49, s_176_51, s_176_52, s_176_53, s_176_56, s_176_58, s_176_60, s_176_62, s_176_63, s_176_66, s_176_68, s_176_69, s_176_72, s_176_73, s_176_76, s_176_77, s_176_78, s_176_80, s_176_83, s_176_86, s_176_88, s_176_89, s_176_92, s_176_93, s_176_96, ↓reduceIte, eq_self, rts_some, rts_none, nq_int, nq_ref, nq_null, nq_none, okr1_0, okr1_1, okr_b, List.length_nil, List.length_cons, Nat.zero_le, Nat.reduceAdd, Nat.reduceLeDiff, b2i_0, b2i_n0, b2i_1, b2i_n1, ite_not, if_true, if_false, not_true_eq_false, not_false_eq_true, true_and, and_true, false_and, and_false]
  | succ m ih =>
    intro j hj l6 h6
    have hlt : ((12 : Int32) ≤ nI j) = False := eq_false (nI_ge (a := j) (b := 12) (by omega) (by decide))
    have e : ∀ has, tp (fun s => urg (ar 1) i s (ar 12 s) (mn has)) has = tipF (ar 1) cl i has := fun has => tp_cg (fun s hs2 => by simp only [hs s hs2])
    have hgo : ∀ (y : Nat) (l6 : Option Value), nl l6 = true → (if tipF (ar 1) cl i (ar 1 (14 + 9 * i + 2) ||| on1 j) = -1 ∨ tipF (ar 1) cl i (ar 1 (14 + 9 * i + 2) ||| on1 j) = tipF (ar 1) cl i (ar 1 (14 + 9 * i + 2)) then 0 else 1) = y → wp V (cdT Ev) mx (d + 3) 176 77 [some (.ref b), some (.int (nI i)), some (.int w), some (.int t), some (.int (nI (odN (ar 1) cl i j))), some (.int (nI j)), l6] [.int (nI y), .int (nI (odN (ar 1) cl i j))] (MH b sc ar lg G z) Q = Q (some (.long (frF (odN (ar 1) cl i 12) 12 w))) (MH b sc ar lg G z) := by
      intro y l6 h6 hy
      subst hy
      simp only [s_176_0, s_176_0_n, s_176_1, s_176_2, s_176_5, s_176_8, s_176_9, s_176_10, s_176_11, s_176_14, s_176_17, s_176_20, s_176_21, s_176_21_n, s_176_22, s_176_23, s_176_26, s_176_27, s_176_28, s_176_30, s_176_31, s_176_35, s_176_37, s_176_40, s_176_40_n, s_176_41, s_176_42, s_176_42_n, s_176_43, s_176_44, s_176_45, s_176_48, s_176_49, s_176_51, s_176_52, s_176_53, s_176_56, s_176_58, s_176_60, s_176_62, s_176_63, s_176_66, s_176_68, s_176_69, s_176_72, s_176_73, s_176_76, s_176_77, s_176_78, s_176_80, s_176_83, s_176_86, s_176_88, s_176_89, s_176_92, s_176_93, s_176_96, ↓reduceIte, eq_self, rts_some, rts_none, nq_int, nq_ref, nq_null, nq_none, okr1_0, okr1_1, okr_b, List.length_nil, List.length_cons, Nat.zero_le, Nat.reduceAdd, Nat.reduceLeDiff, b2i_0, b2i_n0, b2i_1, b2i_n1, ite_not, if_true, if_false, not_true_eq_false, not_false_eq_true, true_and, and_true, false_and, and_false, nI_1, nI_add]
      exact ih (j + 1) (by omega) l6 h6
    rw [s_176_33]
    simp only [s_176_0, s_176_0_n, s_176_1, s_176_2, s_176_5, s_176_8, s_176_9, s_176_10, s_176_11, s_176_14, s_176_17, s_176_20, s_176_21, s_176_21_n, s_176_22, s_176_23, s_176_26, s_176_27, s_176_28, s_176_30, s_176_31, s_176_35, s_176_37, s_176_40, s_176_40_n, s_176_41, s_176_42, s_176_42_n, s_176_43, s_176_44, s_176_45, s_176_48, s_176_49, s_176_51, s_176_52, s_176_53, s_176_56, s_176_58, s_176_60, s_176_62, s_176_63, s_176_66, s_176_68, s_176_69, s_176_72, s_176_73, s_176_76, s_176_78, s_176_80, s_176_83, s_176_86, s_176_88, s_176_89, s_176_92, s_176_93, s_176_96, ↓reduceIte, eq_self, rts_some, rts_none, nq_int, nq_ref, nq_null, nq_none, okr1_0, okr1_1, okr_b, List.length_nil, List.length_cons, Nat.zero_le, Nat.reduceAdd, Nat.reduceLeDiff, b2i_0, b2i_n0, b2i_1, b2i_n1, ite_not, if_true, if_false, not_true_eq_false, not_false_eq_true, true_and, and_true, false_and, and_false, mg_now, mg_mind, mg_then, mp_kept, mg_kept, mg_text, mp_texted, mg_texted, mg_rules, mg_sizes, mp_ruled, mg_ruled, mg_read, mp_size, mg_size, mp_at, mg_at, mp_well, mg_well, mp_within, mg_within, mp_sum, mg_sum, mp_free, mg_free, mg_names, mg_letters, mg_begins, mg_words, mg_sums, mg_above, mg_bodies, mg_trace, mp_ran, mg_ran, mg_sorts, mg_lengths, mg_items, mg_moved, ma_now, ms_now, ma_mind, ms_mind, ma_then, ms_then, ma_text, ms_text, ma_rules, ms_rules, ma_sizes, ms_sizes, ma_read, ms_read, ma_names, ms_names, ma_letters, ma_begins, ma_words, ma_sums, ms_sums, ma_above, ma_bodies, ma_trace, ms_trace, ma_sorts, ms_sorts, ma_lengths, ms_lengths, ma_items, ms_items, ma_moved, ms_moved, mcv, hlt, q_number_2 hi, m_tipBy hi, e, h6]
    by_cases h1 : tipF (ar 1) cl i (ar 1 (14 + 9 * i + 2) ||| on1 j) = -1
    · have h1' : (tipF (ar 1) cl i (ar 1 (14 + 9 * i + 2) ||| ((1 : Int32) <<< (nI j &&& 31))) = -1) = True := eq_true h1
      simp only [h1', if_true]
      exact hgo 0 _ nq_int (if_pos (Or.inl h1))
    · have h1' : (tipF (ar 1) cl i (ar 1 (14 + 9 * i + 2) ||| ((1 : Int32) <<< (nI j &&& 31))) = -1) = False := eq_false h1
      by_cases h2 : tipF (ar 1) cl i (ar 1 (14 + 9 * i + 2) ||| on1 j) = t
      · have h2' : (tipF (ar 1) cl i (ar 1 (14 + 9 * i + 2) ||| ((1 : Int32) <<< (nI j &&& 31))) = t) = True := eq_true h2
        simp only [h1', h2', if_true, if_false]
        exact hgo 0 _ nq_int (if_pos (Or.inr (by rw [← ht]; exact h2)))
      · have h2' : (tipF (ar 1) cl i (ar 1 (14 + 9 * i + 2) ||| ((1 : Int32) <<< (nI j &&& 31))) = t) = False := eq_false h2
        simp only [h1', h2', if_false]
        exact hgo 1 _ nq_int (if_neg (by rw [← ht]; exact fun h => h.elim h1 h2))
theorem m_odds {c : Nat} {p w : Int32} {sc : Nat → Int32} {ar : Nat → Nat → Int32} (hc : c6 (ar 1) c) (h8 : N8 ar) (hr : RuleOK ar cl) (H : ∀ sc' ar', SW sc ar sc' ar' → Q (some (.long (if oneQ (ar 1) p ∧ (0 ≤ w ∧ w ≤ 1) then frF (odN (ar 1) cl p.toNatClampNeg 12) 12 w else -9223372036854775808))) (MH b sc' ar' lg G z)) : WP V (cdT Ev) mx (d + 24) 176 [.ref b, .int p, .int w] (MH b sc ar lg G z) Q := by
  rw [e_176]
  simp only [s_176_0, s_176_0_n, s_176_1, s_176_2, s_176_5, s_176_8, s_176_9, s_176_10, s_176_11, s_176_14, s_176_17, s_176_20, s_176_22, s_176_23, s_176_26, s_176_27, s_176_28, s_176_30, s_176_31, s_176_33, s_176_35, s_176_37, s_176_40, s_176_40_n, s_176_41, s_176_42, s_176_42_n, s_176_43, s_176_44, s_176_45, s_176_48, s_176_49, s_176_51, s_176_52, s_176_53, s_176_56, s_176_58, s_176_60, s_176_62, s_176_63, s_176_66, s_176_68, s_176_69, s_176_72, s_176_73, s_176_76, s_176_77, s_176_78, s_176_80, s_176_83, s_176_86, s_176_88, s_176_89, s_176_92, s_176_93, s_176_96, ↓reduceIte, eq_self, rts_some, rts_none, nq_int, nq_ref, nq_null, nq_none, okr1_0, okr1_1, okr_b, List.length_nil, List.length_cons, Nat.zero_le, Nat.reduceAdd, Nat.reduceLeDiff, b2i_0, b2i_n0, b2i_1, b2i_n1, ite_not, if_true, if_false, not_true_eq_false, not_false_eq_true, true_and, and_true, false_and, and_false, mg_now, mg_mind, mg_then, mp_kept, mg_kept, mg_text, mp_texted, mg_texted, mg_rules, mg_sizes, mp_ruled, mg_ruled, mg_read, mp_size, mg_size, mp_at, mg_at, mp_well, mg_well, mp_within, mg_within, mp_sum, mg_sum, mp_free, mg_free, mg_names, mg_letters, mg_begins, mg_words, mg_sums, mg_above, mg_bodies, mg_trace, mp_ran, mg_ran, mg_sorts, mg_lengths, mg_items, mg_moved, ma_now, ms_now, ma_mind, ms_mind, ma_then, ms_then, ma_text, ms_text, ma_rules, ms_rules, ma_sizes, ms_sizes, ma_read, ms_read, ma_names, ms_names, ma_letters, ma_begins, ma_words, ma_sums, ms_sums, ma_above, ma_bodies, ma_trace, ms_trace, ma_sorts, ms_sorts, ma_lengths, ms_lengths, ma_items, ms_items, ma_moved, ms_moved, mcv, m_isOne, m_isIn]
  by_cases h1 : oneQ (ar 1) p
  · by_cases h2 : 0 ≤ w ∧ w ≤ 1
    · obtain ⟨i, hi, rfl⟩ := oneQ_k hc h1
      have hc6 := hc.2
      rw [if_pos ⟨h1, h2⟩] at H
      simp only [oneQ] at h1
      simp only [h1, h2, and_self, if_true, s_176_0, s_176_0_n, s_176_1, s_176_2, s_176_5, s_176_8, s_176_9, s_176_10, s_176_11, s_176_14, s_176_17, s_176_20, s_176_21, s_176_21_n, s_176_22, s_176_23, s_176_26, s_176_27, s_176_28, s_176_30, s_176_31, s_176_35, s_176_37, s_176_40, s_176_40_n, s_176_41, s_176_42, s_176_42_n, s_176_43, s_176_44, s_176_45, s_176_48, s_176_49, s_176_51, s_176_52, s_176_53, s_176_56, s_176_58, s_176_60, s_176_62, s_176_63, s_176_66, s_176_68, s_176_69, s_176_72, s_176_73, s_176_76, s_176_77, s_176_78, s_176_80, s_176_83, s_176_86, s_176_88, s_176_89, s_176_92, s_176_93, s_176_96, ↓reduceIte, eq_self, rts_some, rts_none, nq_int, nq_ref, nq_null, nq_none, okr1_0, okr1_1, okr_b, List.length_nil, List.length_cons, Nat.zero_le, Nat.reduceAdd, Nat.reduceLeDiff, b2i_0, b2i_n0, b2i_1, b2i_n1, ite_not, if_true, if_false, not_true_eq_false, not_false_eq_true, true_and, and_true, false_and, and_false, mg_now, mg_mind, mg_then, mp_kept, mg_kept, mg_text, mp_texted, mg_texted, mg_rules, mg_sizes, mp_ruled, mg_ruled, mg_read, mp_size, mg_size, mp_at, mg_at, mp_well, mg_well, mp_within, mg_within, mp_sum, mg_sum, mp_free, mg_free, mg_names, mg_letters, mg_begins, mg_words, mg_sums, mg_above, mg_bodies, mg_trace, mp_ran, mg_ran, mg_sorts, mg_lengths, mg_items, mg_moved, ma_now, ms_now, ma_mind, ms_mind, ma_then, ms_then, ma_text, ms_text, ma_rules, ms_rules, ma_sizes, ms_sizes, ma_read, ms_read, ma_names, ms_names, ma_letters, ma_begins, ma_words, ma_sums, ms_sums, ma_above, ma_bodies, ma_trace, ms_trace, ma_sorts, ms_sorts, ma_lengths, ms_lengths, ma_items, ms_items, ma_moved, ms_moved, mcv]
      rw [nI_clamp (by omega)] at H
      refine m_tip (d := d) (show i < 6 by omega) h8 hr (fun sc' ar' hse hd => ?_)
      have e1 := SE_1 hse
      simp only [s_176_0, s_176_0_n, s_176_1, s_176_2, s_176_5, s_176_8, s_176_9, s_176_10, s_176_11, s_176_14, s_176_17, s_176_20, s_176_21, s_176_21_n, s_176_22, s_176_23, s_176_26, s_176_27, s_176_28, s_176_30, s_176_31, s_176_35, s_176_37, s_176_40, s_176_40_n, s_176_41, s_176_42, s_176_42_n, s_176_43, s_176_44, s_176_45, s_176_48, s_176_49, s_176_51, s_176_52, s_176_53, s_176_56, s_176_58, s_176_60, s_176_62, s_176_63, s_176_66, s_176_68, s_176_69, s_176_72, s_176_73, s_176_76, s_176_77, s_176_78, s_176_80, s_176_83, s_176_86, s_176_88, s_176_89, s_176_92, s_176_93, s_176_96, ↓reduceIte, eq_self, rts_some, rts_none, nq_int, nq_ref, nq_null, nq_none, okr1_0, okr1_1, okr_b, List.length_nil, List.length_cons, Nat.zero_le, Nat.reduceAdd, Nat.reduceLeDiff, b2i_0, b2i_n0, b2i_1, b2i_n1, ite_not, if_true, if_false, not_true_eq_false, not_false_eq_true, true_and, and_true, false_and, and_false]
      have := m_odds_l (V := V) (Ev := Ev) (d := d + 20) (Q := Q) (b := b) (lg := lg) (G := G) (z := z) (cl := cl) (sc := sc') (ar := ar') (w := w) (t := tipF (ar 1) cl i (ar 1 (14 + 9 * i + 2))) (show i < 6 by omega) (by rw [e1]; exact hd) (by rw [e1]) 12 0 rfl none nq_none
      refine Eq.mpr this ?_
      rw [e1]
      exact H _ _ (SE_SW hse)
    · rw [if_neg (fun h => h2 h.2)] at H
      simp only [oneQ] at h1
      simp only [h1, h2, and_self, if_true, if_false]
      exact H _ _ (SW_refl h8)
  · rw [if_neg (fun h => h1 h.1)] at H
    simp only [oneQ] at h1
    simp only [h1, if_false]
    exact H _ _ (SW_refl h8)
end
