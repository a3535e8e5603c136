/-! Cells are made, never taken away: by operation. -/
def Gw (op : Op) : Prop := ∀ (V : Nat → Option AE) (pc : Nat) (ls : Lc) (st : List Value) (h : HS) (pc' : Nat) (ls' : Lc) (st' : List Value) (h' : HS), op V pc ls st h = some (.inl (pc', ls', st', h')) → h.2.1 ≤ h'.2.1 ∧ h.2.2 ≤ h'.2.2
theorem gw_aald  : Gw (o_aald) := by
  intro V pc ls st h pc' ls' st' h' e
  unfold o_aald at e
  (repeat' split at e) <;> first | (cases e; done) | (cases e; exact ⟨Nat.le_refl _, Nat.le_refl _⟩) | (cases e; exact ⟨Nat.le_succ _, Nat.le_add_right _ _⟩)
theorem gw_aast {cs : List Nat} : Gw (o_aast cs) := by
  intro V pc ls st h pc' ls' st' h' e
  unfold o_aast at e
  (repeat' split at e) <;> first | (cases e; done) | (cases e; exact ⟨Nat.le_refl _, Nat.le_refl _⟩) | (cases e; exact ⟨Nat.le_succ _, Nat.le_add_right _ _⟩)
theorem gw_alen  : Gw (o_alen) := by
  intro V pc ls st h pc' ls' st' h' e
  unfold o_alen at e
  (repeat' split at e) <;> first | (cases e; done) | (cases e; exact ⟨Nat.le_refl _, Nat.le_refl _⟩) | (cases e; exact ⟨Nat.le_succ _, Nat.le_add_right _ _⟩)
theorem gw_aload {i len : Nat} : Gw (o_aload i len) := by
  intro V pc ls st h pc' ls' st' h' e
  unfold o_aload at e
  (repeat' split at e) <;> first | (cases e; done) | (cases e; exact ⟨Nat.le_refl _, Nat.le_refl _⟩) | (cases e; exact ⟨Nat.le_succ _, Nat.le_add_right _ _⟩)
theorem gw_astore {i len : Nat} : Gw (o_astore i len) := by
  intro V pc ls st h pc' ls' st' h' e
  unfold o_astore at e
  (repeat' split at e) <;> first | (cases e; done) | (cases e; exact ⟨Nat.le_refl _, Nat.le_refl _⟩) | (cases e; exact ⟨Nat.le_succ _, Nat.le_add_right _ _⟩)
theorem gw_bad  : Gw (o_bad) := by
  intro V pc ls st h pc' ls' st' h' e
  unfold o_bad at e
  (repeat' split at e) <;> first | (cases e; done) | (cases e; exact ⟨Nat.le_refl _, Nat.le_refl _⟩) | (cases e; exact ⟨Nat.le_succ _, Nat.le_add_right _ _⟩)
theorem gw_cast {ys : List Nat} : Gw (o_cast ys) := by
  intro V pc ls st h pc' ls' st' h' e
  unfold o_cast at e
  (repeat' split at e) <;> first | (cases e; done) | (cases e; exact ⟨Nat.le_refl _, Nat.le_refl _⟩) | (cases e; exact ⟨Nat.le_succ _, Nat.le_add_right _ _⟩)
theorem gw_ci {y n : Nat} : Gw (o_ci y n) := by
  intro V pc ls st h pc' ls' st' h' e
  unfold o_ci at e
  (repeat' split at e) <;> first | (cases e; done) | (cases e; exact ⟨Nat.le_refl _, Nat.le_refl _⟩) | (cases e; exact ⟨Nat.le_succ _, Nat.le_add_right _ _⟩)
theorem gw_cpyi  : Gw (o_cpyi) := by
  intro V pc ls st h pc' ls' st' h' e
  unfold o_cpyi at e
  (repeat' split at e) <;> first | (cases e; done) | (cases e; exact ⟨Nat.le_refl _, Nat.le_refl _⟩) | (cases e; exact ⟨Nat.le_succ _, Nat.le_add_right _ _⟩)
theorem gw_cpyl  : Gw (o_cpyl) := by
  intro V pc ls st h pc' ls' st' h' e
  unfold o_cpyl at e
  (repeat' split at e) <;> first | (cases e; done) | (cases e; exact ⟨Nat.le_refl _, Nat.le_refl _⟩) | (cases e; exact ⟨Nat.le_succ _, Nat.le_add_right _ _⟩)
theorem gw_cs {y n : Nat} : Gw (o_cs y n) := by
  intro V pc ls st h pc' ls' st' h' e
  unfold o_cs at e
  (repeat' split at e) <;> first | (cases e; done) | (cases e; exact ⟨Nat.le_refl _, Nat.le_refl _⟩) | (cases e; exact ⟨Nat.le_succ _, Nat.le_add_right _ _⟩)
theorem gw_cstr {y n : Nat} : Gw (o_cstr y n) := by
  intro V pc ls st h pc' ls' st' h' e
  unfold o_cstr at e
  (repeat' split at e) <;> first | (cases e; done) | (cases e; exact ⟨Nat.le_refl _, Nat.le_refl _⟩) | (cases e; exact ⟨Nat.le_succ _, Nat.le_add_right _ _⟩)
theorem gw_cv {tab : List (Nat × Nat)} {n : Nat} : Gw (o_cv tab n) := by
  intro V pc ls st h pc' ls' st' h' e
  unfold o_cv at e
  (repeat' split at e) <;> first | (cases e; done) | (cases e; exact ⟨Nat.le_refl _, Nat.le_refl _⟩) | (cases e; exact ⟨Nat.le_succ _, Nat.le_add_right _ _⟩)
theorem gw_dup  : Gw (o_dup) := by
  intro V pc ls st h pc' ls' st' h' e
  unfold o_dup at e
  (repeat' split at e) <;> first | (cases e; done) | (cases e; exact ⟨Nat.le_refl _, Nat.le_refl _⟩) | (cases e; exact ⟨Nat.le_succ _, Nat.le_add_right _ _⟩)
theorem gw_dup2  : Gw (o_dup2) := by
  intro V pc ls st h pc' ls' st' h' e
  unfold o_dup2 at e
  (repeat' split at e) <;> first | (cases e; done) | (cases e; exact ⟨Nat.le_refl _, Nat.le_refl _⟩) | (cases e; exact ⟨Nat.le_succ _, Nat.le_add_right _ _⟩)
theorem gw_getf {k : Nat} {cs : List Nat} : Gw (o_getf k cs) := by
  intro V pc ls st h pc' ls' st' h' e
  unfold o_getf at e
  (repeat' split at e) <;> first | (cases e; done) | (cases e; exact ⟨Nat.le_refl _, Nat.le_refl _⟩) | (cases e; exact ⟨Nat.le_succ _, Nat.le_add_right _ _⟩)
theorem gw_gets {k : Nat} : Gw (o_gets k) := by
  intro V pc ls st h pc' ls' st' h' e
  unfold o_gets at e
  (repeat' split at e) <;> first | (cases e; done) | (cases e; exact ⟨Nat.le_refl _, Nat.le_refl _⟩) | (cases e; exact ⟨Nat.le_succ _, Nat.le_add_right _ _⟩)
theorem gw_goto {tgt : Nat} : Gw (o_goto tgt) := by
  intro V pc ls st h pc' ls' st' h' e
  unfold o_goto at e
  (repeat' split at e) <;> first | (cases e; done) | (cases e; exact ⟨Nat.le_refl _, Nat.le_refl _⟩) | (cases e; exact ⟨Nat.le_succ _, Nat.le_add_right _ _⟩)
theorem gw_i2l  : Gw (o_i2l) := by
  intro V pc ls st h pc' ls' st' h' e
  unfold o_i2l at e
  (repeat' split at e) <;> first | (cases e; done) | (cases e; exact ⟨Nat.le_refl _, Nat.le_refl _⟩) | (cases e; exact ⟨Nat.le_succ _, Nat.le_add_right _ _⟩)
theorem gw_iald {k : Nat} : Gw (o_iald k) := by
  intro V pc ls st h pc' ls' st' h' e
  unfold o_iald at e
  (repeat' split at e) <;> first | (cases e; done) | (cases e; exact ⟨Nat.le_refl _, Nat.le_refl _⟩) | (cases e; exact ⟨Nat.le_succ _, Nat.le_add_right _ _⟩)
theorem gw_iast {k : Nat} {nw : Int32 → Int32} : Gw (o_iast k nw) := by
  intro V pc ls st h pc' ls' st' h' e
  unfold o_iast at e
  (repeat' split at e) <;> first | (cases e; done) | (cases e; exact ⟨Nat.le_refl _, Nat.le_refl _⟩) | (cases e; exact ⟨Nat.le_succ _, Nat.le_add_right _ _⟩)
theorem gw_ib {f : Int32 → Int32 → Int32} : Gw (o_ib f) := by
  intro V pc ls st h pc' ls' st' h' e
  unfold o_ib at e
  (repeat' split at e) <;> first | (cases e; done) | (cases e; exact ⟨Nat.le_refl _, Nat.le_refl _⟩) | (cases e; exact ⟨Nat.le_succ _, Nat.le_add_right _ _⟩)
theorem gw_ibz {f : Int32 → Int32 → Int32} : Gw (o_ibz f) := by
  intro V pc ls st h pc' ls' st' h' e
  unfold o_ibz at e
  (repeat' split at e) <;> first | (cases e; done) | (cases e; exact ⟨Nat.le_refl _, Nat.le_refl _⟩) | (cases e; exact ⟨Nat.le_succ _, Nat.le_add_right _ _⟩)
theorem gw_if1 {f : Int32 → Bool} {tgt : Nat} : Gw (o_if1 f tgt) := by
  intro V pc ls st h pc' ls' st' h' e
  unfold o_if1 at e
  (repeat' split at e) <;> first | (cases e; done) | (cases e; exact ⟨Nat.le_refl _, Nat.le_refl _⟩) | (cases e; exact ⟨Nat.le_succ _, Nat.le_add_right _ _⟩)
theorem gw_if2 {f : Int32 → Int32 → Bool} {tgt : Nat} : Gw (o_if2 f tgt) := by
  intro V pc ls st h pc' ls' st' h' e
  unfold o_if2 at e
  (repeat' split at e) <;> first | (cases e; done) | (cases e; exact ⟨Nat.le_refl _, Nat.le_refl _⟩) | (cases e; exact ⟨Nat.le_succ _, Nat.le_add_right _ _⟩)
theorem gw_ifnonnull {tgt : Nat} : Gw (o_ifnonnull tgt) := by
  intro V pc ls st h pc' ls' st' h' e
  unfold o_ifnonnull at e
  (repeat' split at e) <;> first | (cases e; done) | (cases e; exact ⟨Nat.le_refl _, Nat.le_refl _⟩) | (cases e; exact ⟨Nat.le_succ _, Nat.le_add_right _ _⟩)
theorem gw_ifnull {tgt : Nat} : Gw (o_ifnull tgt) := by
  intro V pc ls st h pc' ls' st' h' e
  unfold o_ifnull at e
  (repeat' split at e) <;> first | (cases e; done) | (cases e; exact ⟨Nat.le_refl _, Nat.le_refl _⟩) | (cases e; exact ⟨Nat.le_succ _, Nat.le_add_right _ _⟩)
theorem gw_iinc {i : Nat} {k : Int32} : Gw (o_iinc i k) := by
  intro V pc ls st h pc' ls' st' h' e
  unfold o_iinc at e
  (repeat' split at e) <;> first | (cases e; done) | (cases e; exact ⟨Nat.le_refl _, Nat.le_refl _⟩) | (cases e; exact ⟨Nat.le_succ _, Nat.le_add_right _ _⟩)
theorem gw_iload {i len : Nat} : Gw (o_iload i len) := by
  intro V pc ls st h pc' ls' st' h' e
  unfold o_iload at e
  (repeat' split at e) <;> first | (cases e; done) | (cases e; exact ⟨Nat.le_refl _, Nat.le_refl _⟩) | (cases e; exact ⟨Nat.le_succ _, Nat.le_add_right _ _⟩)
theorem gw_inst {ys ns : List Nat} : Gw (o_inst ys ns) := by
  intro V pc ls st h pc' ls' st' h' e
  unfold o_inst at e
  (repeat' split at e) <;> first | (cases e; done) | (cases e; exact ⟨Nat.le_refl _, Nat.le_refl _⟩) | (cases e; exact ⟨Nat.le_succ _, Nat.le_add_right _ _⟩)
theorem gw_istore {i len : Nat} : Gw (o_istore i len) := by
  intro V pc ls st h pc' ls' st' h' e
  unfold o_istore at e
  (repeat' split at e) <;> first | (cases e; done) | (cases e; exact ⟨Nat.le_refl _, Nat.le_refl _⟩) | (cases e; exact ⟨Nat.le_succ _, Nat.le_add_right _ _⟩)
theorem gw_iu {f : Int32 → Int32} : Gw (o_iu f) := by
  intro V pc ls st h pc' ls' st' h' e
  unfold o_iu at e
  (repeat' split at e) <;> first | (cases e; done) | (cases e; exact ⟨Nat.le_refl _, Nat.le_refl _⟩) | (cases e; exact ⟨Nat.le_succ _, Nat.le_add_right _ _⟩)
theorem gw_l2i  : Gw (o_l2i) := by
  intro V pc ls st h pc' ls' st' h' e
  unfold o_l2i at e
  (repeat' split at e) <;> first | (cases e; done) | (cases e; exact ⟨Nat.le_refl _, Nat.le_refl _⟩) | (cases e; exact ⟨Nat.le_succ _, Nat.le_add_right _ _⟩)
theorem gw_lald  : Gw (o_lald) := by
  intro V pc ls st h pc' ls' st' h' e
  unfold o_lald at e
  (repeat' split at e) <;> first | (cases e; done) | (cases e; exact ⟨Nat.le_refl _, Nat.le_refl _⟩) | (cases e; exact ⟨Nat.le_succ _, Nat.le_add_right _ _⟩)
theorem gw_last  : Gw (o_last) := by
  intro V pc ls st h pc' ls' st' h' e
  unfold o_last at e
  (repeat' split at e) <;> first | (cases e; done) | (cases e; exact ⟨Nat.le_refl _, Nat.le_refl _⟩) | (cases e; exact ⟨Nat.le_succ _, Nat.le_add_right _ _⟩)
theorem gw_lb {f : Int64 → Int64 → Int64} : Gw (o_lb f) := by
  intro V pc ls st h pc' ls' st' h' e
  unfold o_lb at e
  (repeat' split at e) <;> first | (cases e; done) | (cases e; exact ⟨Nat.le_refl _, Nat.le_refl _⟩) | (cases e; exact ⟨Nat.le_succ _, Nat.le_add_right _ _⟩)
theorem gw_lbz {f : Int64 → Int64 → Int64} : Gw (o_lbz f) := by
  intro V pc ls st h pc' ls' st' h' e
  unfold o_lbz at e
  (repeat' split at e) <;> first | (cases e; done) | (cases e; exact ⟨Nat.le_refl _, Nat.le_refl _⟩) | (cases e; exact ⟨Nat.le_succ _, Nat.le_add_right _ _⟩)
theorem gw_lcmp  : Gw (o_lcmp) := by
  intro V pc ls st h pc' ls' st' h' e
  unfold o_lcmp at e
  (repeat' split at e) <;> first | (cases e; done) | (cases e; exact ⟨Nat.le_refl _, Nat.le_refl _⟩) | (cases e; exact ⟨Nat.le_succ _, Nat.le_add_right _ _⟩)
theorem gw_lload {i len : Nat} : Gw (o_lload i len) := by
  intro V pc ls st h pc' ls' st' h' e
  unfold o_lload at e
  (repeat' split at e) <;> first | (cases e; done) | (cases e; exact ⟨Nat.le_refl _, Nat.le_refl _⟩) | (cases e; exact ⟨Nat.le_succ _, Nat.le_add_right _ _⟩)
theorem gw_lshl  : Gw (o_lshl) := by
  intro V pc ls st h pc' ls' st' h' e
  unfold o_lshl at e
  (repeat' split at e) <;> first | (cases e; done) | (cases e; exact ⟨Nat.le_refl _, Nat.le_refl _⟩) | (cases e; exact ⟨Nat.le_succ _, Nat.le_add_right _ _⟩)
theorem gw_lstore {i len : Nat} : Gw (o_lstore i len) := by
  intro V pc ls st h pc' ls' st' h' e
  unfold o_lstore at e
  (repeat' split at e) <;> first | (cases e; done) | (cases e; exact ⟨Nat.le_refl _, Nat.le_refl _⟩) | (cases e; exact ⟨Nat.le_succ _, Nat.le_add_right _ _⟩)
theorem gw_mna : Gw o_mna := by
  intro V pc ls st h pc' ls' st' h' e
  unfold o_mna at e
  split at e
  · split at e
    · cases e
    · cases e
      rw [(hrows_sz _ _ _).1, (hrows_sz _ _ _).2]
      exact ⟨by simp only [hnew]; omega, by simp only [hnew]; omega⟩
  · cases e
theorem gw_new {ci : Nat} {fs : List Value} : Gw (o_new ci fs) := by
  intro V pc ls st h pc' ls' st' h' e
  unfold o_new at e
  (repeat' split at e) <;> first | (cases e; done) | (cases e; exact ⟨Nat.le_refl _, Nat.le_refl _⟩) | (cases e; exact ⟨Nat.le_succ _, Nat.le_add_right _ _⟩)
theorem gw_newa {k : Nat} {z : (Nat → Int32) ⊕ (Nat → Int64) ⊕ (Nat → UInt32) ⊕ (Nat → UInt64) ⊕ (Nat → Option Nat)} {len : Nat} : Gw (o_newa k z len) := by
  intro V pc ls st h pc' ls' st' h' e
  unfold o_newa at e
  (repeat' split at e) <;> first | (cases e; done) | (cases e; exact ⟨Nat.le_refl _, Nat.le_refl _⟩) | (cases e; exact ⟨Nat.le_succ _, Nat.le_add_right _ _⟩)
theorem gw_oi  : Gw (o_oi) := by
  intro V pc ls st h pc' ls' st' h' e
  unfold o_oi at e
  (repeat' split at e) <;> first | (cases e; done) | (cases e; exact ⟨Nat.le_refl _, Nat.le_refl _⟩) | (cases e; exact ⟨Nat.le_succ _, Nat.le_add_right _ _⟩)
theorem gw_pop  : Gw (o_pop) := by
  intro V pc ls st h pc' ls' st' h' e
  unfold o_pop at e
  (repeat' split at e) <;> first | (cases e; done) | (cases e; exact ⟨Nat.le_refl _, Nat.le_refl _⟩) | (cases e; exact ⟨Nat.le_succ _, Nat.le_add_right _ _⟩)
theorem gw_push {v : Value} {len : Nat} : Gw (o_push v len) := by
  intro V pc ls st h pc' ls' st' h' e
  unfold o_push at e
  (repeat' split at e) <;> first | (cases e; done) | (cases e; exact ⟨Nat.le_refl _, Nat.le_refl _⟩) | (cases e; exact ⟨Nat.le_succ _, Nat.le_add_right _ _⟩)
theorem gw_putf {k : Nat} {cs : List Nat} {t : Nat} : Gw (o_putf k cs t) := by
  intro V pc ls st h pc' ls' st' h' e
  unfold o_putf at e
  (repeat' split at e) <;> first | (cases e; done) | (cases e; exact ⟨Nat.le_refl _, Nat.le_refl _⟩) | (cases e; exact ⟨Nat.le_succ _, Nat.le_add_right _ _⟩)
theorem gw_ret {t : Nat} : Gw (o_ret t) := by
  intro V pc ls st h pc' ls' st' h' e
  unfold o_ret at e
  (repeat' split at e) <;> first | (cases e; done) | (cases e; exact ⟨Nat.le_refl _, Nat.le_refl _⟩) | (cases e; exact ⟨Nat.le_succ _, Nat.le_add_right _ _⟩)
theorem gw_retv  : Gw (o_retv) := by
  intro V pc ls st h pc' ls' st' h' e
  unfold o_retv at e
  (repeat' split at e) <;> first | (cases e; done) | (cases e; exact ⟨Nat.le_refl _, Nat.le_refl _⟩) | (cases e; exact ⟨Nat.le_succ _, Nat.le_add_right _ _⟩)
theorem gw_sw {d : Nat} {l : List (Int32 × Nat)} : Gw (o_sw d l) := by
  intro V pc ls st h pc' ls' st' h' e
  unfold o_sw at e
  (repeat' split at e) <;> first | (cases e; done) | (cases e; exact ⟨Nat.le_refl _, Nat.le_refl _⟩) | (cases e; exact ⟨Nat.le_succ _, Nat.le_add_right _ _⟩)
