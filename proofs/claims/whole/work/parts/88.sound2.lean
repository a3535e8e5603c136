/-! As part 13's end, for methods of classes some of whose methods have an entry of the natives (Math), where this one has none. -/
theorem met_ofW2 {l : Launch} {y : MethodName} {ws ws' : List Cond} {rm : Room} {Pc : Array Value → State → Prop} {Qc : Array Value → State → Outcome → State → Prop} {mc ms : Nat} {free : Addr → Prop} {cc : ByteArray} {maxL : Nat} {ret : Option FieldType} (hy : plainFor y = true) (hw : ws = Cond.code y cc maxL ret :: ws') (body : ∀ p e s m args below meth c s₁, BodyLoose p l y (headSpec ws rm) cc maxL ret e s m args below meth c s₁ → c.maxLocals = maxL → Pc args s → W p l e (headSpec ws rm).room s m args below meth c s.heap [] 0 0 (MQ below Qc args s mc ms free) (entryFrame m args maxL)) : Met l y ws rm Pc Qc mc ms free := by
  refine MetFree.of_bodySF (code := cc) (maxLocals := maxL) (ret := ret) hy ?_ ?_
  · intro args s m h hn
    have hm : Cond.code y cc maxL ret ∈ ws := by rw [hw]; exact List.mem_cons_self
    have h9 := Cond.code_spec hn (atoms_spec (ws := ws) h _ hm)
    obtain ⟨meth, c, h1, h2, h3, h4, h5, h6, -⟩ := h9
    exact ⟨meth, c, h1, h2, h3, h4, h5, h6⟩
  · intro p e s m args below meth c s₁ B hml hP _
    have hh : s₁.heap = s.heap := (congrArg State.heap B.state).trans rfl
    obtain ⟨t, st, o, q1, q2, q3⟩ := body p e s m args below meth c s₁ B hml hP s₁ hh (Stand.of_body B)
    exact ⟨t, o, st, q1, q2, q3.1, q3.2⟩
section SOUND2
variable {mt : MT} {Ev : Nat → Value} {V : Nat → Option AE} {cd : Nat → Nat → Option Op}
/-- the table's methods: no entry of the natives in its place, few locals -/
def MtOk2 (mt : MT) (cd : Nat → Nat → Option Op) : Prop := ∀ y pc op, cd y pc = some op → plainFor (mt y).1 = true ∧ (mt y).2.2.1 ≤ 60
theorem ev_sound2 (hok : ∀ y pc op, cd y pc = some op → OkOp mt Ev y pc op) (hG : Grow cd V) (hmt : MtOk2 mt cd) {D : va_G} {cy : Nat → ClassId} {l : Launch} {F : Nat} : ∀ (d y : Nat) (as : List Value) (h : HS) (r : Option Value) (h' : HS), ev V cd (fun y => (mt y).2.2.1) F d y as h = some (r, h') → CM mt V Ev D cy l d y as h r h' := by
  intro d
  induction d with
  | zero =>
    intro y as h r h' e
    simp [ev] at e
  | succ d ih =>
    intro y as h r h' e
    have hgr := ev_grow hG _ _ _ _ _ _ e
    simp only [ev] at e
    split at e
    · rename_i hl
      have hcd0 : ∃ op, cd y 0 = some op := by
        cases F with
        | zero => simp [run] at e
        | succ F =>
          simp only [run] at e
          cases hcd : cd y 0 with
          | none => rw [hcd] at e; cases e
          | some op => exact ⟨op, rfl⟩
      obtain ⟨op0, hop0⟩ := hcd0
      obtain ⟨hpl, hmx⟩ := hmt y 0 op0 hop0
      refine ⟨hgr.1, hgr.2, hmx, ?_⟩
      refine met_ofW2 (cc := (mt y).2.1) (maxL := (mt y).2.2.1) (ret := (mt y).2.2.2) hpl rfl ?_
      intro p e0 s m args below meth c s₁ B hml hv
      obtain ⟨rfl, hR⟩ := hv
      have hts : ∀ w ∈ wsM mt y, w.before as.toArray s = true := atoms_spec (ws := wsM mt y) B.pre
      have C : Cx mt y p s m as.toArray meth c := ⟨B.exec, B.bytes, hml, findClass_of_methodNamed B.named, fun w hw => hts w (List.mem_cons_of_mem _ hw), B.returns, B.notSynchronized, fun hi => (name_of_methodNamed B.named B.method).1.trans hi⟩
      have hlocks := B.notSynchronized
      rw [lg_entry_eq]
      have hP : Ps mt Ev V y s D cy (frH h) s.heap h.2.1 h.2.2 ((lg_sl as ++ List.replicate ((mt y).2.2.1 - (lg_sl as).length) Slot.unset).toArray) (entry (mt y).2.2.1 as) h s.heap [] 0 0 := ⟨entry_LR hl, hR, va_S.rf, by omega, by omega⟩
      refine run_go (Q := MQ below (QcH D cy h r h') as.toArray s (h'.2.1 - h.2.1) (h'.2.2 - h.2.2) (frH h)) hok hG (d := d) (fun y as h r h' hh => ih y as h r h' hh) C (fun q hq => Or.inr (by rw [← hR.1]; exact hq)) (Nat.le_refl _) (Nat.le_refl _) (sz0 := h.2.1) (sl0 := h.2.2) (by show h'.2.1 ≤ h'.2.1 - h.2.1 + h.2.1; omega) (by show h'.2.2 ≤ h'.2.2 - h.2.2 + h.2.2; omega) ?_ F 0 _ [] h e _ _ _ _ _ hP
      intro pc la ls st H locs cells slots P hret
      obtain ⟨-, hR', hS, c1, c2⟩ := P
      have ec : h'.2.1 - h.2.1 = cells := by omega
      have es : h'.2.2 - h.2.2 = slots := by omega
      rw [ec, es]
      have hq : ∀ t : State, t.heap = H → QcH D cy h r h' as.toArray s (.returned r) t := by
        intro t ht
        exact ⟨rfl, by rw [ht]; exact hR'.1, fun a x ha => by rw [ht]; exact hR'.2.2.2.1 a x ha, hS.F ht⟩
      rcases hret with ⟨x, ty, rfl, rfl, hd, hty, hn⟩ | ⟨x, rfl, rfl, hd, hty⟩ | ⟨w, rt, rfl, rfl, hw, hd, hty, hrt⟩ | ⟨rfl, rfl, hd, hty⟩
      · exact W.zret B.exec B.bytes (B.returns.trans hty) hn (fun t ht _ => hq t ht) hS.2.2 hd
      · exact W.lret B.exec B.bytes (B.returns.trans hty) (fun t ht _ => hq t ht) hS.2.2 hd
      · exact W.aret B.exec B.bytes (B.returns.trans hty) hrt hw (fun t ht _ => hq t ht) hS.2.2 hd
      · exact W.vret B.exec B.bytes (B.returns.trans hty) (fun t ht _ => hq t ht) hS.2.2 hd
    · cases e
end SOUND2
