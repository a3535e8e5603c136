/-! A run of the small machine is a run of the JVM. -/
section SOUND
variable {mt : MT} {Ev : Nat → Value} {V : Nat → Option AE} {cd : Nat → Nat → Option Op}
/-- cells are made, never taken away -/
def Grow (cd : Nat → Nat → Option Op) (V : Nat → Option AE) : Prop := ∀ (y pc : Nat) (op : Op), cd y pc = some op → ∀ (ls : Lc) (st : List Value) (h : HS) (pc' : Nat) (ls' : Lc) (st' : List Value) (h' : HS), op V pc ls st h = some (.inl (pc', ls', st', h')) → h.2.1 ≤ h'.2.1 ∧ h.2.2 ≤ h'.2.2
theorem run_grow (hG : Grow cd V) {call : Nat → List Value → HS → Option Ou} (hc : ∀ y as h r h', call y as h = some (r, h') → h.2.1 ≤ h'.2.1 ∧ h.2.2 ≤ h'.2.2) {y : Nat} : ∀ (n pc : Nat) (ls : Lc) (st : List Value) (h : HS) (r : Option Value) (h' : HS), run V cd call y n pc ls st h = some (r, h') → h.2.1 ≤ h'.2.1 ∧ h.2.2 ≤ h'.2.2 := by
  intro n
  induction n with
  | zero =>
    intro pc ls st h r h' e
    simp [run] at e
  | succ n ih =>
    intro pc ls st h r h' e
    simp only [run] at e
    cases hcd : cd y pc with
    | none => rw [hcd] at e; cases e
    | some op =>
      rw [hcd] at e
      simp only at e
      cases hop : op V pc ls st h with
      | none => rw [hop] at e; cases e
      | some x =>
        rw [hop] at e
        rcases x with ⟨pc', ls', st', h1⟩ | v | ⟨y', as, rest⟩
        · have g1 := hG y pc op hcd _ _ _ _ _ _ _ hop
          have g2 := ih _ _ _ _ _ _ e
          omega
        · simp only at e
          cases e
          exact ⟨Nat.le_refl _, Nat.le_refl _⟩
        · simp only at e
          cases hca : call y' as h with
          | none => rw [hca] at e; cases e
          | some o1 =>
            rw [hca] at e
            obtain ⟨r1, h1⟩ := o1
            have g1 := hc _ _ _ _ _ hca
            have g2 := ih _ _ _ _ _ _ e
            omega
theorem ev_grow (hG : Grow cd V) {mx : Nat → Nat} {F : Nat} : ∀ (d y : Nat) (as : List Value) (h : HS) (r : Option Value) (h' : HS), ev V cd mx F d y as h = some (r, h') → h.2.1 ≤ h'.2.1 ∧ h.2.2 ≤ h'.2.2 := by
  intro d
  induction d with
  | zero =>
    intro y as h r h' e
    simp [ev] at e
  | succ d ih =>
    intro y as h r h' e
    simp only [ev] at e
    split at e
    · exact run_grow hG (fun y as h r h' => ih y as h r h') _ _ _ _ _ _ _ e
    · cases e
/-- a run, with what is to hold at its end -/
theorem run_go (hok : ∀ y pc op, cd y pc = some op → OkOp mt Ev y pc op) (hG : Grow cd V) {D : va_G} {cy : Nat → ClassId} {l : Launch} {d : Nat} {call : Nat → List Value → HS → Option Ou} (hcall : ∀ y as h r h', call y as h = some (r, h') → CM mt V Ev D cy l d y as h r h')
    {y : Nat} {p : Program} {e : Env} {R : Room} {s : State} {m : MethodId} {args : Array Value} {below : List Frame} {meth : Method} {c : Code} {Q : State → Prop} {A : Nat → Prop} {H0 : Heap} {sz0 sl0 : Nat} (C : Cx mt y p s m args meth c) (hA : ∀ q, H0.size ≤ q → A q) (hf : d + 1 ≤ R.frames) (hlo : 100 * (d + 1) ≤ R.locals)
    {r : Option Value} {h' : HS} (hz1 : h'.2.1 ≤ R.cells + sz0) (hz2 : h'.2.2 ≤ R.slots + sl0)
    (hend : ∀ (pc : Nat) (la : Array Slot) (ls : Lc) (st : List Value) (H : Heap) (locs : List Loc) (cells slots : Nat), Ps mt Ev V y s D cy A H0 sz0 sl0 la ls h' H locs cells slots → RetOk mt y pc st r → W p l e R s m args below meth c H locs cells slots Q (F0 m pc la st)) :
    ∀ (n pc : Nat) (ls : Lc) (st : List Value) (h : HS), run V cd call y n pc ls st h = some (r, h') → ∀ (la : Array Slot) (H : Heap) (locs : List Loc) (cells slots : Nat), Ps mt Ev V y s D cy A H0 sz0 sl0 la ls h H locs cells slots → W p l e R s m args below meth c H locs cells slots Q (F0 m pc la st) := by
  have hcg : ∀ y as h r h', call y as h = some (r, h') → h.2.1 ≤ h'.2.1 ∧ h.2.2 ≤ h'.2.2 := fun y as h r h' hh => ⟨(hcall y as h r h' hh).1, (hcall y as h r h' hh).2.1⟩
  intro n
  induction n with
  | zero =>
    intro pc ls st h e1
    simp [run] at e1
  | succ n ih =>
    intro pc ls st h e1 la H locs cells slots P
    simp only [run] at e1
    cases hcd : cd y pc with
    | none => rw [hcd] at e1; cases e1
    | some op =>
      rw [hcd] at e1
      simp only at e1
      cases hop : op V pc ls st h with
      | none => rw [hop] at e1; cases e1
      | some x =>
        rw [hop] at e1
        have hgl := hok y pc op hcd V p l e R s m args below meth c Q D cy A H0 sz0 sl0 H locs cells slots la ls st h C hA P ⟨by omega, by omega⟩ x hop
        rcases x with ⟨pc', ls', st', h1⟩ | v | ⟨y', as, rest⟩
        · simp only at e1
          have g := run_grow hG hcg _ _ _ _ _ _ _ e1
          exact hgl (by omega) (by omega) (fun la' H' locs' cells' slots' P' => ih _ _ _ _ e1 _ _ _ _ _ P')
        · simp only at e1
          cases e1
          exact hend _ _ _ _ _ _ _ _ P hgl
        · simp only at e1
          cases hca : call y' as h with
          | none => rw [hca] at e1; cases e1
          | some o1 =>
            rw [hca] at e1
            obtain ⟨r1, h1⟩ := o1
            simp only at e1
            have g := run_grow hG hcg _ _ _ _ _ _ _ e1
            exact hgl r1 h1 d (hcall _ _ _ _ _ hca) hf hlo (by omega) (by omega) (fun la' H' locs' cells' slots' P' => ih _ _ _ _ e1 _ _ _ _ _ P')
theorem lay_len (as : List Value) : (lay as).length = (lg_sl as).length := by
  induction as with
  | nil => rfl
  | cons v vs ih =>
    by_cases h : v.category = 2
    · simp [lay, lg_sl, h] at ih ⊢
      omega
    · simp [lay, lg_sl, h] at ih ⊢
      omega
theorem lay_at (as : List Value) : ∀ (k i : Nat) (v : Value), (lay as)[i]? = some (some v) → (k + i, v) ∈ lv_args k as := by
  induction as with
  | nil =>
    intro k i v h
    simp [lay] at h
  | cons w vs ih =>
    intro k i v h
    by_cases hc : w.category = 2
    · simp only [lay, if_pos hc] at h
      simp only [lv_args, if_pos hc]
      match i, h with
      | 0, h =>
        simp at h
        subst h
        exact List.mem_cons_self
      | 1, h => simp at h
      | i + 2, h =>
        simp at h
        have := ih (k + 2) i v h
        rw [show k + (i + 2) = k + 2 + i by omega]
        exact List.mem_cons_of_mem _ this
    · simp only [lay, if_neg hc] at h
      simp only [lv_args, if_neg hc]
      match i, h with
      | 0, h =>
        simp at h
        subst h
        exact List.mem_cons_self
      | i + 1, h =>
        simp at h
        have := ih (k + 1) i v h
        rw [show k + (i + 1) = k + 1 + i by omega]
        exact List.mem_cons_of_mem _ this
theorem entry_LR {mx : Nat} {as : List Value} (hl : (lay as).length ≤ mx) : LR ((lg_sl as ++ List.replicate (mx - (lg_sl as).length) Slot.unset).toArray) mx (entry mx as) := by
  have h := lv_entry as (n := mx) (by rw [← lay_len]; exact hl)
  refine ⟨h.1, h.2.1, by unfold entry; simp; omega, fun i v hv => ?_⟩
  unfold entry at hv
  by_cases hi : i < (lay as).length
  · rw [List.getElem?_append_left hi] at hv
    have := lay_at as 0 i v hv
    rw [Nat.zero_add] at this
    exact h.2.2 _ this
  · rw [List.getElem?_append_right (by omega)] at hv
    have := List.eq_of_mem_replicate (List.mem_of_getElem? hv)
    cases this
/-- the table's methods: a plain class, few locals -/
def MtOk (mt : MT) (cd : Nat → Nat → Option Op) : Prop := ∀ y pc op, cd y pc = some op → plainName (mt y).1.cls = true ∧ (mt y).2.2.1 ≤ 60
theorem ev_sound (hok : ∀ y pc op, cd y pc = some op → OkOp mt Ev y pc op) (hG : Grow cd V) (hmt : MtOk mt cd) {D : va_G} {cy : Nat → ClassId} {l : Launch} {F : Nat} : ∀ (d y : Nat) (as : List Value) (h : HS) (r : Option Value) (h' : HS), ev V cd (fun y => (mt y).2.2.1) F d y as h = some (r, h') → CM mt V Ev D cy l d y as h r h' := by
  intro d
  induction d with
  | zero =>
    intro y as h r h' e
    simp [ev] at e
  | succ d ih =>
    intro y as h r h' e
    have hgr := ev_grow hG _ _ _ _ _ _ e
    simp only [ev] at e
    split at e
    · rename_i hl
      have hcd0 : ∃ op, cd y 0 = some op := by
        cases F with
        | zero => simp [run] at e
        | succ F =>
          simp only [run] at e
          cases hcd : cd y 0 with
          | none => rw [hcd] at e; cases e
          | some op => exact ⟨op, rfl⟩
      obtain ⟨op0, hop0⟩ := hcd0
      obtain ⟨hpl, hmx⟩ := hmt y 0 op0 hop0
      refine ⟨hgr.1, hgr.2, hmx, ?_⟩
      refine Met.ofW (cc := (mt y).2.1) (maxL := (mt y).2.2.1) (ret := (mt y).2.2.2) hpl rfl ?_
      intro p e0 s m args below meth c s₁ B hml hv
      obtain ⟨rfl, hR⟩ := hv
      have hts : ∀ w ∈ wsM mt y, w.before as.toArray s = true := atoms_spec (ws := wsM mt y) B.pre
      have C : Cx mt y p s m as.toArray meth c := ⟨B.exec, B.bytes, hml, findClass_of_methodNamed B.named, fun w hw => hts w (List.mem_cons_of_mem _ hw), B.returns, B.notSynchronized, fun hi => (name_of_methodNamed B.named B.method).1.trans hi⟩
      have hlocks := B.notSynchronized
      rw [lg_entry_eq]
      have hP : Ps mt Ev V y s D cy (frH h) s.heap h.2.1 h.2.2 ((lg_sl as ++ List.replicate ((mt y).2.2.1 - (lg_sl as).length) Slot.unset).toArray) (entry (mt y).2.2.1 as) h s.heap [] 0 0 := ⟨entry_LR hl, hR, va_S.rf, by omega, by omega⟩
      refine run_go (Q := MQ below (QcH D cy h r h') as.toArray s (h'.2.1 - h.2.1) (h'.2.2 - h.2.2) (frH h)) hok hG (d := d) (fun y as h r h' hh => ih y as h r h' hh) C (fun q hq => Or.inr (by rw [← hR.1]; exact hq)) (Nat.le_refl _) (Nat.le_refl _) (sz0 := h.2.1) (sl0 := h.2.2) (by show h'.2.1 ≤ h'.2.1 - h.2.1 + h.2.1; omega) (by show h'.2.2 ≤ h'.2.2 - h.2.2 + h.2.2; omega) ?_ F 0 _ [] h e _ _ _ _ _ hP
      intro pc la ls st H locs cells slots P hret
      obtain ⟨-, hR', hS, c1, c2⟩ := P
      have ec : h'.2.1 - h.2.1 = cells := by omega
      have es : h'.2.2 - h.2.2 = slots := by omega
      rw [ec, es]
      have hq : ∀ t : State, t.heap = H → QcH D cy h r h' as.toArray s (.returned r) t := by
        intro t ht
        exact ⟨rfl, by rw [ht]; exact hR'.1, fun a x ha => by rw [ht]; exact hR'.2.2.2.1 a x ha, hS.F ht⟩
      rcases hret with ⟨x, ty, rfl, rfl, hd, hty, hn⟩ | ⟨x, rfl, rfl, hd, hty⟩ | ⟨w, rt, rfl, rfl, hw, hd, hty, hrt⟩ | ⟨rfl, rfl, hd, hty⟩
      · exact W.zret B.exec B.bytes (B.returns.trans hty) hn (fun t ht _ => hq t ht) hS.2.2 hd
      · exact W.lret B.exec B.bytes (B.returns.trans hty) (fun t ht _ => hq t ht) hS.2.2 hd
      · exact W.aret B.exec B.bytes (B.returns.trans hty) hrt hw (fun t ht _ => hq t ht) hS.2.2 hd
      · exact W.vret B.exec B.bytes (B.returns.trans hty) (fun t ht _ => hq t ht) hS.2.2 hd
    · cases e
end SOUND
