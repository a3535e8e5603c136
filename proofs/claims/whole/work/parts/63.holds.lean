/-! A bridge that was read: its codes worked off, what it presses. -/
/-- the answers that wait, as a number: the newest lowest -/
def bb : List Bool → Nat
  | [] => 0
  | x :: r => 2 * bb r + (if x = true then 1 else 0)
theorem bb_lt : ∀ st : List Bool, bb st < 2 ^ st.length := by
  intro st
  induction st with
  | nil => decide
  | cons x r ih =>
    simp only [bb, List.length_cons, Nat.pow_succ]
    split <;> omega
theorem bb_4096 {st : List Bool} (h : st.length ≤ 12) : bb st < 4096 := Nat.lt_of_lt_of_le (bb_lt st) (Nat.le_trans (Nat.pow_le_pow_right (by decide) h) (by decide))
/-- how many answers wait behind codes; none: too few or too many wait on the way -/
def okR : List Int32 → Nat → Option Nat
  | [], n => some n
  | c :: cs, n => if c = -1 then (if 1 ≤ n then okR cs n else none) else if c = -2 ∨ c = -3 then (if 2 ≤ n then okR cs (n - 1) else none) else if c.toNatClampNeg < 1800 ∧ 0 ≤ c ∧ n < 12 then okR cs (n + 1) else none
theorem okR_app : ∀ (a b : List Int32) (n : Nat), okR (a ++ b) n = (okR a n).bind (okR b) := by
  intro a
  induction a with
  | nil =>
    intro b n
    rfl
  | cons c a ih =>
    intro b n
    simp only [List.cons_append, okR]
    repeat' split
    all_goals first | rfl | exact ih b _
theorem okR_ev {nm nm' : Nat → Int32} (h : ∀ k, k < 6 → nm k = nm' k) : ∀ (cs : List Int32) (st : List Bool) (m : Nat), okR cs st.length = some m → evR nm cs st = evR nm' cs st := by
  intro cs
  induction cs with
  | nil =>
    intro st m _
    rfl
  | cons c cs ih =>
    intro st m ho
    simp only [okR] at ho
    simp only [evR]
    by_cases h1 : c = -1
    · rw [if_pos h1] at ho
      match st, ho with
      | [], ho => simp at ho
      | x :: r, ho =>
        rw [if_pos (by simp)] at ho
        have : evC nm c (x :: r) = evC nm' c (x :: r) := by
          unfold evC
          rw [if_pos h1, if_pos h1]
        rw [this]
        refine ih _ m ?_
        have e2 : evC nm' c (x :: r) = (!x) :: r := by
          unfold evC
          rw [if_pos h1]
        rw [e2]
        exact ho
    · rw [if_neg h1] at ho
      by_cases h2 : c = -2 ∨ c = -3
      · rw [if_pos h2] at ho
        match st, ho with
        | [], ho => simp at ho
        | [x], ho => simp at ho
        | y :: x :: r, ho =>
          rw [if_pos (by simp)] at ho
          have e1 : ∀ nm, evC nm c (y :: x :: r) = (if c = -2 then (x && y) else (x || y)) :: r := by
            intro nm
            unfold evC
            rw [if_neg h1]
            by_cases h3 : c = -2
            · rw [if_pos h3, if_pos h3]
            · rw [if_neg h3, if_neg h3, if_pos (h2.resolve_left h3)]
          rw [e1 nm, e1 nm']
          exact ih _ m ho
      · rw [if_neg h2] at ho
        by_cases h3 : c.toNatClampNeg < 1800 ∧ 0 ≤ c ∧ st.length < 12
        · rw [if_pos h3] at ho
          have e1 : evC nm c st = evC nm' c st := by
            unfold evC
            rw [if_neg h1, if_neg h1, if_neg (fun e => h2 (Or.inl e)), if_neg (fun e => h2 (Or.inl e)), if_neg (fun e => h2 (Or.inr e)), if_neg (fun e => h2 (Or.inr e))]
            simp only [h (c.toNatClampNeg / 300) (by omega)]
          rw [e1]
          refine ih _ m ?_
          have e2 : (evC nm' c st).length = st.length + 1 := by
            unfold evC
            rw [if_neg h1, if_neg (fun e => h2 (Or.inl e)), if_neg (fun e => h2 (Or.inr e))]
            rfl
          rw [e2]
          exact ho
        · rw [if_neg h3] at ho
          cases ho
theorem bx_xor : ∀ k, k < 4096 → nI k ^^^ 1 = nI (k / 2 * 2 + (1 - k % 2)) := all64 (by decide +kernel)
theorem bx_shr : ∀ k, k < 4096 → nI k >>> ((1 : Int32) &&& 31) = nI (k / 2) := all64 (by decide +kernel)
theorem bx_an2 : ∀ k, k < 4096 → nI k >>> ((1 : Int32) &&& 31) &&& (-2) = nI (k / 2 / 2 * 2) := all64 (by decide +kernel)
theorem bx_b0 : ∀ k, k < 4096 → nI k &&& 1 = nI (k % 2) := all64 (by decide +kernel)
theorem bx_or : ∀ k, k < 4096 → nI k >>> ((1 : Int32) &&& 31) ||| nI k &&& 1 = nI (k / 2 / 2 * 2 + (if k / 2 % 2 = 1 ∨ k % 2 = 1 then 1 else 0)) := all64 (by decide +kernel)
theorem bx_s0 : ∀ k, k < 4096 → nI k <<< ((1 : Int32) &&& 31) ||| 0 = nI (2 * k) := all64 (by decide +kernel)
theorem bx_s1 : ∀ k, k < 4096 → nI k <<< ((1 : Int32) &&& 31) ||| 1 = nI (2 * k + 1) := all64 (by decide +kernel)
def bI (b : Bool) : Int32 := if b = true then 1 else 0
/-- what a clause weighs -/
def cW (c : Cls) : Int32 := if c.1 = 2 then 0 else if c.1 = 0 then c.2.1 else -c.2.1
/-- the clauses as a bridge keeps them: from clause i on, from code p on -/
def cOK (code wt en : Nat → Int32) : List Cls → Nat → Nat → Prop
  | [], _, _ => True
  | c :: l, i, p => wt i = cW c ∧ en i = nI (p + c.2.2.length) ∧ p + c.2.2.length ≤ 100 ∧ (∀ k x, c.2.2[k]? = some x → code (p + k) = x) ∧ (∃ n, okR c.2.2 0 = some n) ∧ cOK code wt en l (i + 1) (p + c.2.2.length)
def BrC (LG : Nat → Nat) (C : Nat → Option AE) (r : Nat) (cl : List Cls) : Prop := ∃ (x1 x2 x4 : Int32) (code wt en : Nat → Int32), C r = some (.inr (0, [.ref (LG (r + 1)), .int x1, .int x2, .ref (LG (r + 2)), .int x4, .ref (LG (r + 3)), .ref (LG (r + 4)), .int (nI cl.length), .int (freeC 0 cl)])) ∧ C (r + 2) = some (.inl (2, 100, .inl code)) ∧ C (r + 3) = some (.inl (2, 10, .inl wt)) ∧ C (r + 4) = some (.inl (2, 10, .inl en)) ∧ cl.length ≤ 10 ∧ cOK code wt en cl 0 0
/-- the bridge that holds in the world at B -/
def HB (LG : Nat → Nat) (C : Nat → Option AE) (B : Nat) (hd : Option Nat) (cl : List Cls) : Prop := match hd with
  | none => cl = []
  | some r => (r + 5 ≤ B ∨ B + 25 ≤ r) ∧ BrC LG C r cl
theorem sumC_nil {nm : Nat → Int32} {s : Int32} : sumC nm s [] = s := rfl
theorem sumC_cons {nm : Nat → Int32} {s : Int32} {c : Cls} {l : List Cls} : sumC nm s (c :: l) = sumC nm (s + cSum nm c) l := rfl
theorem sumC_add {nm : Nat → Int32} {a : Int32} : ∀ (l : List Cls) (b : Int32), sumC nm (a + b) l = a + sumC nm b l := by
  intro l
  induction l with
  | nil =>
    intro b
    rfl
  | cons c l ih =>
    intro b
    show sumC nm (a + b + cSum nm c) l = a + sumC nm (b + cSum nm c) l
    rw [Int32.add_assoc, ih]
theorem cSum_cg {nm nm' : Nat → Int32} (h : ∀ k, k < 6 → nm k = nm' k) {c : Cls} {n : Nat} (hn : okR c.2.2 0 = some n) : cSum nm c = cSum nm' c := by
  have e := okR_ev h c.2.2 [] n hn
  unfold cSum
  rw [e]
theorem cOK_1 {code wt en : Nat → Int32} {c : Cls} {l : List Cls} {i p : Nat} (h : cOK code wt en (c :: l) i p) : (∃ n, okR c.2.2 0 = some n) ∧ cOK code wt en l (i + 1) (p + c.2.2.length) := ⟨h.2.2.2.2.1, h.2.2.2.2.2⟩
theorem sumC_cg {nm nm' : Nat → Int32} (h : ∀ k, k < 6 → nm k = nm' k) {code wt en : Nat → Int32} : ∀ (l : List Cls) (i p : Nat) (s : Int32), cOK code wt en l i p → sumC nm s l = sumC nm' s l := by
  intro l
  induction l with
  | nil =>
    intro i p s _
    rw [sumC_nil, sumC_nil]
  | cons c l ih =>
    intro i p s ho
    obtain ⟨⟨n, hn⟩, h6⟩ := cOK_1 ho
    rw [sumC_cons, sumC_cons, cSum_cg h hn]
    exact ih _ _ _ h6
theorem cSum_w {nm : Nat → Int32} {c : Cls} : cSum nm c = if (evR nm c.2.2 []).headD false = true then cW c else 0 := by
  unfold cSum cW
  by_cases h : c.1 = 2
  · rw [if_pos h, if_pos h]
    split <;> rfl
  · rw [if_neg h, if_neg h]
section
variable {V : Nat → Option AE} {Ev : Nat → Value} {Q : Option Value → HS → Prop}
variable {LG gr : Nat → Nat} {C G : Nat → Option AE} {z : Nat × Nat}
theorem c_holds_l (hg : ∀ r, gr (LG r) = r) {d r rc rf e : Nat} {vs : List Value} {code nm : Nat → Int32} (h1 : C r = some (.inr (0, vs))) (h2 : vs[3]? = some (.ref (LG rc))) (h3 : C rc = some (.inl (2, 100, .inl code))) (h4 : C rf = some (.inl (2, 6, .inl nm))) (he : e ≤ 100) {l1 : Option Value} : ∀ (cs : List Int32) (j m : Nat) (st : List Bool), (∀ k x, cs[k]? = some x → code (j + k) = x) → j + cs.length = e → okR cs st.length = some m → st.length ≤ 12 → ∀ l6 l7 l8 l9, nl l6 = true → nl l7 = true → nl l8 = true → wp V (cdT Ev) mx d 14 6 [some (.ref (LG r)), l1, some (.int (nI e)), some (.ref (LG rf)), some (.int (nI (bb st))), some (.int (nI j)), l6, l7, l8, l9] [] (GH LG gr C G z) Q = Q (some (.int (bI ((evR nm cs st).headD false)))) (GH LG gr C G z) := by
  have gc : ∀ K : Value → Prop, gf [0] 3 (GH LG gr C G z) (LG r) K = K (.ref (LG rc)) := fun K => r_gf hg h1 (by decide) h2
  have ac : ∀ (i : Int32) (K : Int32 → Prop), ai 2 i V (GH LG gr C G z) (LG rc) K = (ix i 100 ∧ K (code i.toNatClampNeg)) := fun i K => r_ai hg h3
  have af : ∀ (i : Int32) (K : Int32 → Prop), ai 2 i V (GH LG gr C G z) (LG rf) K = (ix i 6 ∧ K (nm i.toNatClampNeg)) := fun i K => r_ai hg h4
  intro cs
  induction cs with
  | nil =>
    intro j m st _ hj _ hst l6 l7 l8 l9 n6 n7 n8
    have hj' : j = e := by simpa using hj
    subst hj'
    have hk := bb_4096 hst
    have hh : (nI (bb st % 2) = 1) = (st.headD false = true) := by
      match st with
      | [] => decide
      | true :: r =>
        have : (bb (true :: r)) % 2 = 1 := by
          simp only [bb, if_true]
          omega
        rw [this]
        simp
        decide
      | false :: r =>
        have : (bb (false :: r)) % 2 = 0 := by
          simp only [bb]
          simp
        rw [this]
        simp
        decide
    rw [s_14_6]
    simp only [s_14_0, s_14_1, s_14_3, s_14_4, s_14_8, s_14_9, s_14_12, s_14_12_n, s_14_13, s_14_16, s_14_18, s_14_19, s_14_21, s_14_23, s_14_24, s_14_27, s_14_29, s_14_30, s_14_31, s_14_33, s_14_36, s_14_38, s_14_40, s_14_43, s_14_45, s_14_46, s_14_47, s_14_48, s_14_51, s_14_53, s_14_54, s_14_55, s_14_58, s_14_60, s_14_61, s_14_62, s_14_64, s_14_65, s_14_67, s_14_70, s_14_72, s_14_74, s_14_77, s_14_79, s_14_80, s_14_81, s_14_83, s_14_84, s_14_85, s_14_86, s_14_88, s_14_91, s_14_91_n, s_14_92, s_14_94, s_14_97, s_14_98, s_14_99, s_14_101, s_14_103, s_14_105, s_14_106, s_14_108, s_14_110, s_14_112, s_14_115, s_14_116, s_14_119, s_14_121, s_14_123, s_14_126, s_14_127, s_14_130, s_14_131, s_14_133, s_14_135, s_14_136, s_14_137, s_14_139, s_14_141, s_14_143, s_14_144, s_14_145, s_14_146, s_14_149, s_14_150, s_14_153, s_14_154, s_14_155, s_14_157, s_14_160, s_14_163, s_14_165, s_14_166, s_14_167, s_14_168, s_14_171, s_14_172, s_14_175, s_14_176, ↓reduceIte, eq_self, rts_some, rts_none, nq_int, nq_ref, nq_null, nq_none, okr1_0, okr1_1, okr_b, List.length_nil, List.length_cons, Nat.zero_le, Nat.reduceAdd, Nat.reduceLeDiff, b2i_0, b2i_n0, b2i_1, b2i_n1, ite_not, if_true, if_false, not_true_eq_false, not_false_eq_true, true_and, and_true, false_and, and_false, Int32.le_refl, bx_b0 _ hk, hh, evR]
    by_cases hb : st.headD false = true
    · rw [if_pos hb, hb]
      rfl
    · rw [if_neg hb, Bool.eq_false_iff.mpr hb]
      rfl
  | cons c cs ih =>
    intro j m st hcs hj ho hst l6 l7 l8 l9 n6 n7 n8
    have hj2 : j < e := by
      simp at hj
      omega
    have hc : code j = c := by
      have := hcs 0 c rfl
      simpa using this
    have hcs' : ∀ k x, cs[k]? = some x → code (j + 1 + k) = x := by
      intro k x hx
      have := hcs (k + 1) x (by simpa using hx)
      rwa [show j + (k + 1) = j + 1 + k by omega] at this
    have hj' : j + 1 + cs.length = e := by
      simp at hj
      omega
    have hk := bb_4096 hst
    simp only [okR] at ho
    simp only [evR]
    have hlt : (nI e ≤ nI j) = False := eq_false (nI_ge hj2 (by omega))
    have hx1 : ix (nI j) 100 = True := ix_nIT (by omega) (by decide)
    have n_ : ∀ {x : Int32}, nl (some (.int x)) = true := id rfl
    by_cases c1 : c = -1
    · rw [if_pos c1] at ho
      match st, ho with
      | [], ho => simp at ho
      | x :: r, ho =>
        rw [if_pos (by simp)] at ho
        have ee : evC nm c (x :: r) = (!x) :: r := by
          unfold evC
          rw [if_pos c1]
        have eb : bb (x :: r) / 2 * 2 + (1 - bb (x :: r) % 2) = bb ((!x) :: r) := by
          cases x <;> simp [bb] <;> omega
        rw [ee]
        rw [s_14_6]
        simp only [s_14_0, s_14_1, s_14_3, s_14_4, s_14_8, s_14_9, s_14_12, s_14_12_n, s_14_13, s_14_16, s_14_18, s_14_19, s_14_21, s_14_23, s_14_24, s_14_27, s_14_29, s_14_30, s_14_31, s_14_33, s_14_36, s_14_38, s_14_40, s_14_43, s_14_45, s_14_46, s_14_47, s_14_48, s_14_51, s_14_53, s_14_54, s_14_55, s_14_58, s_14_60, s_14_61, s_14_62, s_14_64, s_14_65, s_14_67, s_14_70, s_14_72, s_14_74, s_14_77, s_14_79, s_14_80, s_14_81, s_14_83, s_14_84, s_14_85, s_14_86, s_14_88, s_14_91, s_14_91_n, s_14_92, s_14_94, s_14_97, s_14_98, s_14_99, s_14_101, s_14_103, s_14_105, s_14_106, s_14_108, s_14_110, s_14_112, s_14_115, s_14_116, s_14_119, s_14_121, s_14_123, s_14_126, s_14_127, s_14_130, s_14_131, s_14_133, s_14_135, s_14_136, s_14_137, s_14_139, s_14_141, s_14_143, s_14_144, s_14_145, s_14_146, s_14_149, s_14_150, s_14_153, s_14_154, s_14_155, s_14_157, s_14_160, s_14_163, s_14_165, s_14_166, s_14_167, s_14_168, s_14_171, s_14_172, s_14_175, s_14_176, ↓reduceIte, eq_self, rts_some, rts_none, nq_int, nq_ref, nq_null, nq_none, okr1_0, okr1_1, okr_b, List.length_nil, List.length_cons, Nat.zero_le, Nat.reduceAdd, Nat.reduceLeDiff, b2i_0, b2i_n0, b2i_1, b2i_n1, ite_not, if_true, if_false, not_true_eq_false, not_false_eq_true, true_and, and_true, false_and, and_false, hlt, gc, ac, hx1, nI_clamp (show j < 2 ^ 31 by omega), hc, c1, bx_xor _ hk, eb, nI_1, n6, n7, n8]
        exact ih (j + 1) m ((!x) :: r) hcs' hj' ho hst _ _ _ _ n_ n7 n8
    · rw [if_neg c1] at ho
      have c1' : (c = -1) = False := eq_false c1
      by_cases c2 : c = -2
      · rw [if_pos (Or.inl c2)] at ho
        match st, ho with
        | [], ho => simp at ho
        | [x], ho => simp at ho
        | y :: x :: r, ho =>
          rw [if_pos (by simp)] at ho
          have ee : evC nm c (y :: x :: r) = (x && y) :: r := by
            unfold evC
            rw [if_neg c1, if_pos c2]
          rw [ee]
          have z21 : ((-2 : Int32) = -1) = False := by decide
          have z01 : (nI 0 = 1) = False := by decide
          have z11 : (nI 1 = 1) = True := by decide
          have hst' : ((x && y) :: r).length ≤ 12 := by
            simp at hst ⊢
            omega
          cases y with
          | true =>
            have e1 : bb (true :: x :: r) % 2 = 1 := by
              simp only [bb, if_true]
              omega
            have e2 : bb (true :: x :: r) / 2 = bb ((x && true) :: r) := by
              simp only [bb, if_true, Bool.and_true]
              omega
            rw [s_14_6]
            simp only [s_14_0, s_14_1, s_14_3, s_14_4, s_14_8, s_14_9, s_14_12, s_14_12_n, s_14_13, s_14_16, s_14_18, s_14_19, s_14_21, s_14_23, s_14_24, s_14_27, s_14_29, s_14_30, s_14_31, s_14_33, s_14_36, s_14_38, s_14_40, s_14_43, s_14_45, s_14_46, s_14_47, s_14_48, s_14_51, s_14_53, s_14_54, s_14_55, s_14_58, s_14_60, s_14_61, s_14_62, s_14_64, s_14_65, s_14_67, s_14_70, s_14_72, s_14_74, s_14_77, s_14_79, s_14_80, s_14_81, s_14_83, s_14_84, s_14_85, s_14_86, s_14_88, s_14_91, s_14_91_n, s_14_92, s_14_94, s_14_97, s_14_98, s_14_99, s_14_101, s_14_103, s_14_105, s_14_106, s_14_108, s_14_110, s_14_112, s_14_115, s_14_116, s_14_119, s_14_121, s_14_123, s_14_126, s_14_127, s_14_130, s_14_131, s_14_133, s_14_135, s_14_136, s_14_137, s_14_139, s_14_141, s_14_143, s_14_144, s_14_145, s_14_146, s_14_149, s_14_150, s_14_153, s_14_154, s_14_155, s_14_157, s_14_160, s_14_163, s_14_165, s_14_166, s_14_167, s_14_168, s_14_171, s_14_172, s_14_175, s_14_176, ↓reduceIte, eq_self, rts_some, rts_none, nq_int, nq_ref, nq_null, nq_none, okr1_0, okr1_1, okr_b, List.length_nil, List.length_cons, Nat.zero_le, Nat.reduceAdd, Nat.reduceLeDiff, b2i_0, b2i_n0, b2i_1, b2i_n1, ite_not, if_true, if_false, not_true_eq_false, not_false_eq_true, true_and, and_true, false_and, and_false, hlt, gc, ac, hx1, nI_clamp (show j < 2 ^ 31 by omega), hc, c2, z21, bx_b0 _ hk, bx_shr _ hk, e1, e2, z11, nI_1, n6, n7, n8]
            exact ih (j + 1) m ((x && true) :: r) hcs' hj' ho hst' _ _ _ _ n_ n7 n8
          | false =>
            have e1 : bb (false :: x :: r) % 2 = 0 := by
              simp [bb]
            have e2 : bb (false :: x :: r) / 2 / 2 * 2 = bb ((x && false) :: r) := by
              cases x <;> simp [bb] <;> omega
            rw [s_14_6]
            simp only [s_14_0, s_14_1, s_14_3, s_14_4, s_14_8, s_14_9, s_14_12, s_14_12_n, s_14_13, s_14_16, s_14_18, s_14_19, s_14_21, s_14_23, s_14_24, s_14_27, s_14_29, s_14_30, s_14_31, s_14_33, s_14_36, s_14_38, s_14_40, s_14_43, s_14_45, s_14_46, s_14_47, s_14_48, s_14_51, s_14_53, s_14_54, s_14_55, s_14_58, s_14_60, s_14_61, s_14_62, s_14_64, s_14_65, s_14_67, s_14_70, s_14_72, s_14_74, s_14_77, s_14_79, s_14_80, s_14_81, s_14_83, s_14_84, s_14_85, s_14_86, s_14_88, s_14_91, s_14_91_n, s_14_92, s_14_94, s_14_97, s_14_98, s_14_99, s_14_101, s_14_103, s_14_105, s_14_106, s_14_108, s_14_110, s_14_112, s_14_115, s_14_116, s_14_119, s_14_121, s_14_123, s_14_126, s_14_127, s_14_130, s_14_131, s_14_133, s_14_135, s_14_136, s_14_137, s_14_139, s_14_141, s_14_143, s_14_144, s_14_145, s_14_146, s_14_149, s_14_150, s_14_153, s_14_154, s_14_155, s_14_157, s_14_160, s_14_163, s_14_165, s_14_166, s_14_167, s_14_168, s_14_171, s_14_172, s_14_175, s_14_176, ↓reduceIte, eq_self, rts_some, rts_none, nq_int, nq_ref, nq_null, nq_none, okr1_0, okr1_1, okr_b, List.length_nil, List.length_cons, Nat.zero_le, Nat.reduceAdd, Nat.reduceLeDiff, b2i_0, b2i_n0, b2i_1, b2i_n1, ite_not, if_true, if_false, not_true_eq_false, not_false_eq_true, true_and, and_true, false_and, and_false, hlt, gc, ac, hx1, nI_clamp (show j < 2 ^ 31 by omega), hc, c2, z21, bx_b0 _ hk, bx_an2 _ hk, e1, e2, z01, nI_1, n6, n7, n8]
            exact ih (j + 1) m ((x && false) :: r) hcs' hj' ho hst' _ _ _ _ n_ n7 n8
      · have c2' : (c = -2) = False := eq_false c2
        by_cases c3 : c = -3
        · rw [if_pos (Or.inr c3)] at ho
          match st, ho with
          | [], ho => simp at ho
          | [x], ho => simp at ho
          | y :: x :: r, ho =>
            rw [if_pos (by simp)] at ho
            have ee : evC nm c (y :: x :: r) = (x || y) :: r := by
              unfold evC
              rw [if_neg c1, if_neg c2, if_pos c3]
            rw [ee]
            have z31 : ((-3 : Int32) = -1) = False := by decide
            have z32 : ((-3 : Int32) = -2) = False := by decide
            have hst' : ((x || y) :: r).length ≤ 12 := by
              simp at hst ⊢
              omega
            have e1 : bb (y :: x :: r) / 2 / 2 * 2 + (if bb (y :: x :: r) / 2 % 2 = 1 ∨ bb (y :: x :: r) % 2 = 1 then 1 else 0) = bb ((x || y) :: r) := by
              cases x <;> cases y <;> simp [bb] <;> omega
            rw [s_14_6]
            simp only [s_14_0, s_14_1, s_14_3, s_14_4, s_14_8, s_14_9, s_14_12, s_14_12_n, s_14_13, s_14_16, s_14_18, s_14_19, s_14_21, s_14_23, s_14_24, s_14_27, s_14_29, s_14_30, s_14_31, s_14_33, s_14_36, s_14_38, s_14_40, s_14_43, s_14_45, s_14_46, s_14_47, s_14_48, s_14_51, s_14_53, s_14_54, s_14_55, s_14_58, s_14_60, s_14_61, s_14_62, s_14_64, s_14_65, s_14_67, s_14_70, s_14_72, s_14_74, s_14_77, s_14_79, s_14_80, s_14_81, s_14_83, s_14_84, s_14_85, s_14_86, s_14_88, s_14_91, s_14_91_n, s_14_92, s_14_94, s_14_97, s_14_98, s_14_99, s_14_101, s_14_103, s_14_105, s_14_106, s_14_108, s_14_110, s_14_112, s_14_115, s_14_116, s_14_119, s_14_121, s_14_123, s_14_126, s_14_127, s_14_130, s_14_131, s_14_133, s_14_135, s_14_136, s_14_137, s_14_139, s_14_141, s_14_143, s_14_144, s_14_145, s_14_146, s_14_149, s_14_150, s_14_153, s_14_154, s_14_155, s_14_157, s_14_160, s_14_163, s_14_165, s_14_166, s_14_167, s_14_168, s_14_171, s_14_172, s_14_175, s_14_176, ↓reduceIte, eq_self, rts_some, rts_none, nq_int, nq_ref, nq_null, nq_none, okr1_0, okr1_1, okr_b, List.length_nil, List.length_cons, Nat.zero_le, Nat.reduceAdd, Nat.reduceLeDiff, b2i_0, b2i_n0, b2i_1, b2i_n1, ite_not, if_true, if_false, not_true_eq_false, not_false_eq_true, true_and, and_true, false_and, and_false, hlt, gc, ac, hx1, nI_clamp (show j < 2 ^ 31 by omega), hc, c3, z31, z32, bx_or _ hk, e1, nI_1, n6, n7, n8]
            exact ih (j + 1) m ((x || y) :: r) hcs' hj' ho hst' _ _ _ _ n_ n7 n8
        · have c3' : (c = -3) = False := eq_false c3
          rw [if_neg (fun h => h.elim c2 c3)] at ho
          by_cases c4 : c.toNatClampNeg < 1800 ∧ 0 ≤ c ∧ st.length < 12
          · rw [if_pos c4] at ho
            obtain ⟨q, hq, rfl⟩ : ∃ q, q < 1800 ∧ c = nI q := ⟨_, c4.1, (nI_cl c4.2.1).symm⟩
            have q1 : nI q / 300 = nI (q / 300) := pk_div (d := 300) (by omega) (by decide) (by decide)
            have q2 : nI q - nI q / 100 * 100 = nI (q % 100) := pk_rem (d := 100) (by omega) (by decide) (by decide)
            have q3 : nI q / 100 = nI (q / 100) := pk_div (d := 100) (by omega) (by decide) (by decide)
            have q4 : nI (q / 100) - nI (q / 100) / 3 * 3 = nI (q / 100 % 3) := pk_rem (d := 3) (by omega) (by decide) (by decide)
            have q2' : nI q - nI (q / 100) * 100 = nI (q % 100) := by rw [← q3]; exact q2
            have hx2 : ix (nI (q / 300)) 6 = True := ix_nIT (by omega) (by decide)
            have z300 : ((300 : Int32) = 0) = False := by decide
            have z100 : ((100 : Int32) = 0) = False := by decide
            have z3 : ((3 : Int32) = 0) = False := by decide
            have ee : ∃ t : Bool, evC nm (nI q) st = t :: st ∧ t = (if q / 100 % 3 = 0 then decide (nm (q / 300) < nI (q % 100)) else if q / 100 % 3 = 1 then decide (nm (q / 300) = nI (q % 100)) else decide (nI (q % 100) < nm (q / 300))) := by
              refine ⟨_, ?_, rfl⟩
              unfold evC
              rw [if_neg c1, if_neg c2, if_neg c3, nI_clamp (show q < 2 ^ 31 by omega)]
            obtain ⟨t, et, ht⟩ := ee
            rw [et]
            have hst' : (t :: st).length ≤ 12 := by
              simp
              omega
            have fin : ∀ l7 l8 l9, nl l7 = true → nl l8 = true → wp V (cdT Ev) mx d 14 155 [some (.ref (LG r)), l1, some (.int (nI e)), some (.ref (LG rf)), some (.int (nI (bb st))), some (.int (nI j)), some (.int (nI q)), l7, l8, l9] [.int (nI (bb (t :: st)))] (GH LG gr C G z) Q = Q (some (.int (bI ((evR nm cs (t :: st)).headD false)))) (GH LG gr C G z) := by
              intro l7 l8 l9 n7 n8
              simp only [s_14_155, s_14_157, s_14_160, ↓reduceIte, eq_self, rts_some, rts_none, nq_int, nq_ref, nq_null, nq_none, okr1_0, okr1_1, okr_b, List.length_nil, List.length_cons, Nat.zero_le, Nat.reduceAdd, Nat.reduceLeDiff, b2i_0, b2i_n0, b2i_1, b2i_n1, ite_not, if_true, if_false, not_true_eq_false, not_false_eq_true, true_and, and_true, false_and, and_false, nI_1]
              exact ih (j + 1) m (t :: st) hcs' hj' ho hst' _ _ _ _ n_ n7 n8
            have fi0 : t = false → ∀ l7 l8 l9, nl l7 = true → nl l8 = true → wp V (cdT Ev) mx d 14 155 [some (.ref (LG r)), l1, some (.int (nI e)), some (.ref (LG rf)), some (.int (nI (bb st))), some (.int (nI j)), some (.int (nI q)), l7, l8, l9] [.int (nI (2 * bb st))] (GH LG gr C G z) Q = Q (some (.int (bI ((evR nm cs (t :: st)).headD false)))) (GH LG gr C G z) := by
              intro h0 l7 l8 l9 n7 n8
              have := fin l7 l8 l9 n7 n8
              rw [h0] at this ⊢
              exact this
            have fi1 : t = true → ∀ l7 l8 l9, nl l7 = true → nl l8 = true → wp V (cdT Ev) mx d 14 155 [some (.ref (LG r)), l1, some (.int (nI e)), some (.ref (LG rf)), some (.int (nI (bb st))), some (.int (nI j)), some (.int (nI q)), l7, l8, l9] [.int (nI (2 * bb st + 1))] (GH LG gr C G z) Q = Q (some (.int (bI ((evR nm cs (t :: st)).headD false)))) (GH LG gr C G z) := by
              intro h0 l7 l8 l9 n7 n8
              have := fin l7 l8 l9 n7 n8
              rw [h0] at this ⊢
              exact this
            have y1 : (∀ x : Int32, nI (q / 100 % 3) = x → (q / 100 % 3 = 0 → x = 0) ∧ (q / 100 % 3 = 1 → x = 1) ∧ (q / 100 % 3 = 2 → x = 2)) := by
              intro x hx
              refine ⟨fun h => ?_, fun h => ?_, fun h => ?_⟩ <;> (rw [h] at hx; rw [← hx]; rfl)
            have y2 := y1 _ rfl
            have z01 : ((0 : Int32) = 1) = False := by decide
            have z02 : ((0 : Int32) = 2) = False := by decide
            have z10 : ((1 : Int32) = 0) = False := by decide
            have z12 : ((1 : Int32) = 2) = False := by decide
            have z20 : ((2 : Int32) = 0) = False := by decide
            have z21 : ((2 : Int32) = 1) = False := by decide
            by_cases k1 : nI (q % 100) ≤ nm (q / 300)
            · by_cases k2 : nm (q / 300) = nI (q % 100)
              · have k3 : ¬ nm (q / 300) < nI (q % 100) := Int32.not_lt.mpr k1
                have k4 : ¬ nI (q % 100) < nm (q / 300) := by
                  rw [k2]
                  exact Int32.lt_irrefl
                rcases (by omega : q / 100 % 3 = 0 ∨ q / 100 % 3 = 1 ∨ q / 100 % 3 = 2) with w | w | w
                · have h0 : t = false := by rw [ht, if_pos w]; exact decide_eq_false k3
                  rw [s_14_6]
                  simp only [s_14_0, s_14_1, s_14_3, s_14_4, s_14_8, s_14_9, s_14_12, s_14_12_n, s_14_13, s_14_16, s_14_18, s_14_19, s_14_21, s_14_23, s_14_24, s_14_27, s_14_29, s_14_30, s_14_31, s_14_33, s_14_36, s_14_38, s_14_40, s_14_43, s_14_45, s_14_46, s_14_47, s_14_48, s_14_51, s_14_53, s_14_54, s_14_55, s_14_58, s_14_60, s_14_61, s_14_62, s_14_64, s_14_65, s_14_67, s_14_70, s_14_72, s_14_74, s_14_77, s_14_79, s_14_80, s_14_81, s_14_83, s_14_84, s_14_85, s_14_86, s_14_88, s_14_91, s_14_91_n, s_14_92, s_14_94, s_14_97, s_14_98, s_14_99, s_14_101, s_14_103, s_14_105, s_14_106, s_14_108, s_14_110, s_14_112, s_14_115, s_14_116, s_14_119, s_14_121, s_14_123, s_14_126, s_14_127, s_14_130, s_14_131, s_14_133, s_14_135, s_14_136, s_14_137, s_14_139, s_14_141, s_14_143, s_14_144, s_14_145, s_14_146, s_14_149, s_14_150, s_14_153, s_14_154, s_14_163, s_14_165, s_14_166, s_14_167, s_14_168, s_14_171, s_14_172, s_14_175, s_14_176, ↓reduceIte, eq_self, rts_some, rts_none, nq_int, nq_ref, nq_null, nq_none, okr1_0, okr1_1, okr_b, List.length_nil, List.length_cons, Nat.zero_le, Nat.reduceAdd, Nat.reduceLeDiff, b2i_0, b2i_n0, b2i_1, b2i_n1, ite_not, if_true, if_false, not_true_eq_false, not_false_eq_true, true_and, and_true, false_and, and_false, hlt, gc, ac, af, hx1, hx2, nI_clamp (show j < 2 ^ 31 by omega), nI_clamp (show q / 300 < 2 ^ 31 by omega), hc, c1', c2', c3', q1, q2, q3, q2', q4, z300, z100, z3, k1, k2, Int32.le_refl, y2.1 w, z10, bx_s0 _ hk, nI_1, n6, n7, n8]
                  exact fi0 h0 _ _ _ n_ n_
                · have h0 : t = true := by rw [ht, if_neg (by omega), if_pos w]; exact decide_eq_true k2
                  rw [s_14_6]
                  simp only [s_14_0, s_14_1, s_14_3, s_14_4, s_14_8, s_14_9, s_14_12, s_14_12_n, s_14_13, s_14_16, s_14_18, s_14_19, s_14_21, s_14_23, s_14_24, s_14_27, s_14_29, s_14_30, s_14_31, s_14_33, s_14_36, s_14_38, s_14_40, s_14_43, s_14_45, s_14_46, s_14_47, s_14_48, s_14_51, s_14_53, s_14_54, s_14_55, s_14_58, s_14_60, s_14_61, s_14_62, s_14_64, s_14_65, s_14_67, s_14_70, s_14_72, s_14_74, s_14_77, s_14_79, s_14_80, s_14_81, s_14_83, s_14_84, s_14_85, s_14_86, s_14_88, s_14_91, s_14_91_n, s_14_92, s_14_94, s_14_97, s_14_98, s_14_99, s_14_101, s_14_103, s_14_105, s_14_106, s_14_108, s_14_110, s_14_112, s_14_115, s_14_116, s_14_119, s_14_121, s_14_123, s_14_126, s_14_127, s_14_130, s_14_131, s_14_133, s_14_135, s_14_136, s_14_137, s_14_139, s_14_141, s_14_143, s_14_144, s_14_145, s_14_146, s_14_149, s_14_150, s_14_153, s_14_154, s_14_163, s_14_165, s_14_166, s_14_167, s_14_168, s_14_171, s_14_172, s_14_175, s_14_176, ↓reduceIte, eq_self, rts_some, rts_none, nq_int, nq_ref, nq_null, nq_none, okr1_0, okr1_1, okr_b, List.length_nil, List.length_cons, Nat.zero_le, Nat.reduceAdd, Nat.reduceLeDiff, b2i_0, b2i_n0, b2i_1, b2i_n1, ite_not, if_true, if_false, not_true_eq_false, not_false_eq_true, true_and, and_true, false_and, and_false, hlt, gc, ac, af, hx1, hx2, nI_clamp (show j < 2 ^ 31 by omega), nI_clamp (show q / 300 < 2 ^ 31 by omega), hc, c1', c2', c3', q1, q2, q3, q2', q4, z300, z100, z3, k1, k2, Int32.le_refl, y2.2.1 w, bx_s1 _ hk, nI_1, n6, n7, n8]
                  exact fi1 h0 _ _ _ n_ n_
                · have h0 : t = false := by rw [ht, if_neg (by omega), if_neg (by omega)]; exact decide_eq_false k4
                  rw [s_14_6]
                  simp only [s_14_0, s_14_1, s_14_3, s_14_4, s_14_8, s_14_9, s_14_12, s_14_12_n, s_14_13, s_14_16, s_14_18, s_14_19, s_14_21, s_14_23, s_14_24, s_14_27, s_14_29, s_14_30, s_14_31, s_14_33, s_14_36, s_14_38, s_14_40, s_14_43, s_14_45, s_14_46, s_14_47, s_14_48, s_14_51, s_14_53, s_14_54, s_14_55, s_14_58, s_14_60, s_14_61, s_14_62, s_14_64, s_14_65, s_14_67, s_14_70, s_14_72, s_14_74, s_14_77, s_14_79, s_14_80, s_14_81, s_14_83, s_14_84, s_14_85, s_14_86, s_14_88, s_14_91, s_14_91_n, s_14_92, s_14_94, s_14_97, s_14_98, s_14_99, s_14_101, s_14_103, s_14_105, s_14_106, s_14_108, s_14_110, s_14_112, s_14_115, s_14_116, s_14_119, s_14_121, s_14_123, s_14_126, s_14_127, s_14_130, s_14_131, s_14_133, s_14_135, s_14_136, s_14_137, s_14_139, s_14_141, s_14_143, s_14_144, s_14_145, s_14_146, s_14_149, s_14_150, s_14_153, s_14_154, s_14_163, s_14_165, s_14_166, s_14_167, s_14_168, s_14_171, s_14_172, s_14_175, s_14_176, ↓reduceIte, eq_self, rts_some, rts_none, nq_int, nq_ref, nq_null, nq_none, okr1_0, okr1_1, okr_b, List.length_nil, List.length_cons, Nat.zero_le, Nat.reduceAdd, Nat.reduceLeDiff, b2i_0, b2i_n0, b2i_1, b2i_n1, ite_not, if_true, if_false, not_true_eq_false, not_false_eq_true, true_and, and_true, false_and, and_false, hlt, gc, ac, af, hx1, hx2, nI_clamp (show j < 2 ^ 31 by omega), nI_clamp (show q / 300 < 2 ^ 31 by omega), hc, c1', c2', c3', q1, q2, q3, q2', q4, z300, z100, z3, k1, k2, Int32.le_refl, y2.2.2 w, z12, bx_s0 _ hk, nI_1, n6, n7, n8]
                  exact fi0 h0 _ _ _ n_ n_
              · have k3 : ¬ nm (q / 300) < nI (q % 100) := Int32.not_lt.mpr k1
                have k4 : nI (q % 100) < nm (q / 300) := Int32.lt_of_le_of_ne k1 (fun h => k2 h.symm)
                rcases (by omega : q / 100 % 3 = 0 ∨ q / 100 % 3 = 1 ∨ q / 100 % 3 = 2) with w | w | w
                · have h0 : t = false := by rw [ht, if_pos w]; exact decide_eq_false k3
                  rw [s_14_6]
                  simp only [s_14_0, s_14_1, s_14_3, s_14_4, s_14_8, s_14_9, s_14_12, s_14_12_n, s_14_13, s_14_16, s_14_18, s_14_19, s_14_21, s_14_23, s_14_24, s_14_27, s_14_29, s_14_30, s_14_31, s_14_33, s_14_36, s_14_38, s_14_40, s_14_43, s_14_45, s_14_46, s_14_47, s_14_48, s_14_51, s_14_53, s_14_54, s_14_55, s_14_58, s_14_60, s_14_61, s_14_62, s_14_64, s_14_65, s_14_67, s_14_70, s_14_72, s_14_74, s_14_77, s_14_79, s_14_80, s_14_81, s_14_83, s_14_84, s_14_85, s_14_86, s_14_88, s_14_91, s_14_91_n, s_14_92, s_14_94, s_14_97, s_14_98, s_14_99, s_14_101, s_14_103, s_14_105, s_14_106, s_14_108, s_14_110, s_14_112, s_14_115, s_14_116, s_14_119, s_14_121, s_14_123, s_14_126, s_14_127, s_14_130, s_14_131, s_14_133, s_14_135, s_14_136, s_14_137, s_14_139, s_14_141, s_14_143, s_14_144, s_14_145, s_14_146, s_14_149, s_14_150, s_14_153, s_14_154, s_14_163, s_14_165, s_14_166, s_14_167, s_14_168, s_14_171, s_14_172, s_14_175, s_14_176, ↓reduceIte, eq_self, rts_some, rts_none, nq_int, nq_ref, nq_null, nq_none, okr1_0, okr1_1, okr_b, List.length_nil, List.length_cons, Nat.zero_le, Nat.reduceAdd, Nat.reduceLeDiff, b2i_0, b2i_n0, b2i_1, b2i_n1, ite_not, if_true, if_false, not_true_eq_false, not_false_eq_true, true_and, and_true, false_and, and_false, hlt, gc, ac, af, hx1, hx2, nI_clamp (show j < 2 ^ 31 by omega), nI_clamp (show q / 300 < 2 ^ 31 by omega), hc, c1', c2', c3', q1, q2, q3, q2', q4, z300, z100, z3, k1, k2, Int32.le_refl, y2.1 w, z20, bx_s0 _ hk, nI_1, n6, n7, n8]
                  exact fi0 h0 _ _ _ n_ n_
                · have h0 : t = false := by rw [ht, if_neg (by omega), if_pos w]; exact decide_eq_false k2
                  rw [s_14_6]
                  simp only [s_14_0, s_14_1, s_14_3, s_14_4, s_14_8, s_14_9, s_14_12, s_14_12_n, s_14_13, s_14_16, s_14_18, s_14_19, s_14_21, s_14_23, s_14_24, s_14_27, s_14_29, s_14_30, s_14_31, s_14_33, s_14_36, s_14_38, s_14_40, s_14_43, s_14_45, s_14_46, s_14_47, s_14_48, s_14_51, s_14_53, s_14_54, s_14_55, s_14_58, s_14_60, s_14_61, s_14_62, s_14_64, s_14_65, s_14_67, s_14_70, s_14_72, s_14_74, s_14_77, s_14_79, s_14_80, s_14_81, s_14_83, s_14_84, s_14_85, s_14_86, s_14_88, s_14_91, s_14_91_n, s_14_92, s_14_94, s_14_97, s_14_98, s_14_99, s_14_101, s_14_103, s_14_105, s_14_106, s_14_108, s_14_110, s_14_112, s_14_115, s_14_116, s_14_119, s_14_121, s_14_123, s_14_126, s_14_127, s_14_130, s_14_131, s_14_133, s_14_135, s_14_136, s_14_137, s_14_139, s_14_141, s_14_143, s_14_144, s_14_145, s_14_146, s_14_149, s_14_150, s_14_153, s_14_154, s_14_163, s_14_165, s_14_166, s_14_167, s_14_168, s_14_171, s_14_172, s_14_175, s_14_176, ↓reduceIte, eq_self, rts_some, rts_none, nq_int, nq_ref, nq_null, nq_none, okr1_0, okr1_1, okr_b, List.length_nil, List.length_cons, Nat.zero_le, Nat.reduceAdd, Nat.reduceLeDiff, b2i_0, b2i_n0, b2i_1, b2i_n1, ite_not, if_true, if_false, not_true_eq_false, not_false_eq_true, true_and, and_true, false_and, and_false, hlt, gc, ac, af, hx1, hx2, nI_clamp (show j < 2 ^ 31 by omega), nI_clamp (show q / 300 < 2 ^ 31 by omega), hc, c1', c2', c3', q1, q2, q3, q2', q4, z300, z100, z3, k1, k2, Int32.le_refl, y2.2.1 w, z21, bx_s0 _ hk, nI_1, n6, n7, n8]
                  exact fi0 h0 _ _ _ n_ n_
                · have h0 : t = true := by rw [ht, if_neg (by omega), if_neg (by omega)]; exact decide_eq_true k4
                  rw [s_14_6]
                  simp only [s_14_0, s_14_1, s_14_3, s_14_4, s_14_8, s_14_9, s_14_12, s_14_12_n, s_14_13, s_14_16, s_14_18, s_14_19, s_14_21, s_14_23, s_14_24, s_14_27, s_14_29, s_14_30, s_14_31, s_14_33, s_14_36, s_14_38, s_14_40, s_14_43, s_14_45, s_14_46, s_14_47, s_14_48, s_14_51, s_14_53, s_14_54, s_14_55, s_14_58, s_14_60, s_14_61, s_14_62, s_14_64, s_14_65, s_14_67, s_14_70, s_14_72, s_14_74, s_14_77, s_14_79, s_14_80, s_14_81, s_14_83, s_14_84, s_14_85, s_14_86, s_14_88, s_14_91, s_14_91_n, s_14_92, s_14_94, s_14_97, s_14_98, s_14_99, s_14_101, s_14_103, s_14_105, s_14_106, s_14_108, s_14_110, s_14_112, s_14_115, s_14_116, s_14_119, s_14_121, s_14_123, s_14_126, s_14_127, s_14_130, s_14_131, s_14_133, s_14_135, s_14_136, s_14_137, s_14_139, s_14_141, s_14_143, s_14_144, s_14_145, s_14_146, s_14_149, s_14_150, s_14_153, s_14_154, s_14_163, s_14_165, s_14_166, s_14_167, s_14_168, s_14_171, s_14_172, s_14_175, s_14_176, ↓reduceIte, eq_self, rts_some, rts_none, nq_int, nq_ref, nq_null, nq_none, okr1_0, okr1_1, okr_b, List.length_nil, List.length_cons, Nat.zero_le, Nat.reduceAdd, Nat.reduceLeDiff, b2i_0, b2i_n0, b2i_1, b2i_n1, ite_not, if_true, if_false, not_true_eq_false, not_false_eq_true, true_and, and_true, false_and, and_false, hlt, gc, ac, af, hx1, hx2, nI_clamp (show j < 2 ^ 31 by omega), nI_clamp (show q / 300 < 2 ^ 31 by omega), hc, c1', c2', c3', q1, q2, q3, q2', q4, z300, z100, z3, k1, k2, Int32.le_refl, y2.2.2 w, bx_s1 _ hk, nI_1, n6, n7, n8]
                  exact fi1 h0 _ _ _ n_ n_
            · have k3 : nm (q / 300) < nI (q % 100) := Int32.not_le.mp k1
              have k2 : ¬ nm (q / 300) = nI (q % 100) := fun h => k1 (by rw [h]; exact Int32.le_refl _)
              have k4 : ¬ nI (q % 100) < nm (q / 300) := Int32.lt_asymm k3
              rcases (by omega : q / 100 % 3 = 0 ∨ q / 100 % 3 = 1 ∨ q / 100 % 3 = 2) with w | w | w
              · have h0 : t = true := by rw [ht, if_pos w]; exact decide_eq_true k3
                rw [s_14_6]
                simp only [s_14_0, s_14_1, s_14_3, s_14_4, s_14_8, s_14_9, s_14_12, s_14_12_n, s_14_13, s_14_16, s_14_18, s_14_19, s_14_21, s_14_23, s_14_24, s_14_27, s_14_29, s_14_30, s_14_31, s_14_33, s_14_36, s_14_38, s_14_40, s_14_43, s_14_45, s_14_46, s_14_47, s_14_48, s_14_51, s_14_53, s_14_54, s_14_55, s_14_58, s_14_60, s_14_61, s_14_62, s_14_64, s_14_65, s_14_67, s_14_70, s_14_72, s_14_74, s_14_77, s_14_79, s_14_80, s_14_81, s_14_83, s_14_84, s_14_85, s_14_86, s_14_88, s_14_91, s_14_91_n, s_14_92, s_14_94, s_14_97, s_14_98, s_14_99, s_14_101, s_14_103, s_14_105, s_14_106, s_14_108, s_14_110, s_14_112, s_14_115, s_14_116, s_14_119, s_14_121, s_14_123, s_14_126, s_14_127, s_14_130, s_14_131, s_14_133, s_14_135, s_14_136, s_14_137, s_14_139, s_14_141, s_14_143, s_14_144, s_14_145, s_14_146, s_14_149, s_14_150, s_14_153, s_14_154, s_14_163, s_14_165, s_14_166, s_14_167, s_14_168, s_14_171, s_14_172, s_14_175, s_14_176, ↓reduceIte, eq_self, rts_some, rts_none, nq_int, nq_ref, nq_null, nq_none, okr1_0, okr1_1, okr_b, List.length_nil, List.length_cons, Nat.zero_le, Nat.reduceAdd, Nat.reduceLeDiff, b2i_0, b2i_n0, b2i_1, b2i_n1, ite_not, if_true, if_false, not_true_eq_false, not_false_eq_true, true_and, and_true, false_and, and_false, hlt, gc, ac, af, hx1, hx2, nI_clamp (show j < 2 ^ 31 by omega), nI_clamp (show q / 300 < 2 ^ 31 by omega), hc, c1', c2', c3', q1, q2, q3, q2', q4, z300, z100, z3, k1, y2.1 w, bx_s1 _ hk, nI_1, n6, n7, n8]
                exact fi1 h0 _ _ _ n_ n_
              · have h0 : t = false := by rw [ht, if_neg (by omega), if_pos w]; exact decide_eq_false k2
                rw [s_14_6]
                simp only [s_14_0, s_14_1, s_14_3, s_14_4, s_14_8, s_14_9, s_14_12, s_14_12_n, s_14_13, s_14_16, s_14_18, s_14_19, s_14_21, s_14_23, s_14_24, s_14_27, s_14_29, s_14_30, s_14_31, s_14_33, s_14_36, s_14_38, s_14_40, s_14_43, s_14_45, s_14_46, s_14_47, s_14_48, s_14_51, s_14_53, s_14_54, s_14_55, s_14_58, s_14_60, s_14_61, s_14_62, s_14_64, s_14_65, s_14_67, s_14_70, s_14_72, s_14_74, s_14_77, s_14_79, s_14_80, s_14_81, s_14_83, s_14_84, s_14_85, s_14_86, s_14_88, s_14_91, s_14_91_n, s_14_92, s_14_94, s_14_97, s_14_98, s_14_99, s_14_101, s_14_103, s_14_105, s_14_106, s_14_108, s_14_110, s_14_112, s_14_115, s_14_116, s_14_119, s_14_121, s_14_123, s_14_126, s_14_127, s_14_130, s_14_131, s_14_133, s_14_135, s_14_136, s_14_137, s_14_139, s_14_141, s_14_143, s_14_144, s_14_145, s_14_146, s_14_149, s_14_150, s_14_153, s_14_154, s_14_163, s_14_165, s_14_166, s_14_167, s_14_168, s_14_171, s_14_172, s_14_175, s_14_176, ↓reduceIte, eq_self, rts_some, rts_none, nq_int, nq_ref, nq_null, nq_none, okr1_0, okr1_1, okr_b, List.length_nil, List.length_cons, Nat.zero_le, Nat.reduceAdd, Nat.reduceLeDiff, b2i_0, b2i_n0, b2i_1, b2i_n1, ite_not, if_true, if_false, not_true_eq_false, not_false_eq_true, true_and, and_true, false_and, and_false, hlt, gc, ac, af, hx1, hx2, nI_clamp (show j < 2 ^ 31 by omega), nI_clamp (show q / 300 < 2 ^ 31 by omega), hc, c1', c2', c3', q1, q2, q3, q2', q4, z300, z100, z3, k1, y2.2.1 w, z01, bx_s0 _ hk, nI_1, n6, n7, n8]
                exact fi0 h0 _ _ _ n_ n_
              · have h0 : t = false := by rw [ht, if_neg (by omega), if_neg (by omega)]; exact decide_eq_false k4
                rw [s_14_6]
                simp only [s_14_0, s_14_1, s_14_3, s_14_4, s_14_8, s_14_9, s_14_12, s_14_12_n, s_14_13, s_14_16, s_14_18, s_14_19, s_14_21, s_14_23, s_14_24, s_14_27, s_14_29, s_14_30, s_14_31, s_14_33, s_14_36, s_14_38, s_14_40, s_14_43, s_14_45, s_14_46, s_14_47, s_14_48, s_14_51, s_14_53, s_14_54, s_14_55, s_14_58, s_14_60, s_14_61, s_14_62, s_14_64, s_14_65, s_14_67, s_14_70, s_14_72, s_14_74, s_14_77, s_14_79, s_14_80, s_14_81, s_14_83, s_14_84, s_14_85, s_14_86, s_14_88, s_14_91, s_14_91_n, s_14_92, s_14_94, s_14_97, s_14_98, s_14_99, s_14_101, s_14_103, s_14_105, s_14_106, s_14_108, s_14_110, s_14_112, s_14_115, s_14_116, s_14_119, s_14_121, s_14_123, s_14_126, s_14_127, s_14_130, s_14_131, s_14_133, s_14_135, s_14_136, s_14_137, s_14_139, s_14_141, s_14_143, s_14_144, s_14_145, s_14_146, s_14_149, s_14_150, s_14_153, s_14_154, s_14_163, s_14_165, s_14_166, s_14_167, s_14_168, s_14_171, s_14_172, s_14_175, s_14_176, ↓reduceIte, eq_self, rts_some, rts_none, nq_int, nq_ref, nq_null, nq_none, okr1_0, okr1_1, okr_b, List.length_nil, List.length_cons, Nat.zero_le, Nat.reduceAdd, Nat.reduceLeDiff, b2i_0, b2i_n0, b2i_1, b2i_n1, ite_not, if_true, if_false, not_true_eq_false, not_false_eq_true, true_and, and_true, false_and, and_false, hlt, gc, ac, af, hx1, hx2, nI_clamp (show j < 2 ^ 31 by omega), nI_clamp (show q / 300 < 2 ^ 31 by omega), hc, c1', c2', c3', q1, q2, q3, q2', q4, z300, z100, z3, k1, y2.2.2 w, z02, bx_s0 _ hk, nI_1, n6, n7, n8]
                exact fi0 h0 _ _ _ n_ n_
          · rw [if_neg c4] at ho
            cases ho
end
