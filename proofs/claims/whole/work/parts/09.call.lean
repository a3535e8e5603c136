/-! Calls. -/
theorem cat_sum (l : List Value) : (l.map fun v => v.category).sum ≤ 2 * l.length := by
  induction l with
  | nil => simp
  | cons v l ih =>
    have : v.category ≤ 2 := by rcases lv_cat v with h | h <;> omega
    simp only [List.map_cons, List.sum_cons, List.length_cons]
    omega
theorem gd_in {mt : MT} {y : Nat} (hc : Cond.code (mt y).1 (mt y).2.1 (mt y).2.2.1 (mt y).2.2.2 ∈ lw_gd) : GoodIn lw_gd (wsM mt y) := by
  intro w hw
  have hm : w ∈ lw_gd := by
    rcases List.mem_cons.mp hw with rfl | h
    · exact hc
    · exact h
  exact ⟨hm, good_of_word (List.mem_filter.mp hm).2⟩
section CALL
variable {mt : MT} {Ev : Nat → Value} {V : Nat → Option AE} {D : va_G} {cy : Nat → ClassId}
theorem Rp.less {A : Nat → Prop} {h : HS} {s U : State} {H : Heap} (hR : Rp V Ev D cy A h s H) (hW : s.vm.Alike U.vm) (hSF : SF Ev U) : Rp V Ev D cy (frH h) h U H := by
  obtain ⟨h1, h2, h3, h4, h5, h6⟩ := hR
  have hfr : ∀ a, a < H.size → ¬ A a → ¬ frH h a := by
    intro a ha hn hf
    rcases hf with ⟨e, he⟩ | hf
    · exact hn (h4 a e he).2
    · omega
  refine ⟨h1, h2.moved hW, hSF, fun a e ha => ⟨(h4 a e ha).1, Or.inl ⟨e, ha⟩⟩, fun a e ha => ⟨(h5 a e ha).1.moved hW, hfr a (h5 a e ha).1.lt (h5 a e ha).2⟩, fun q hq => ?_⟩
  obtain ⟨cf, kf, fi, f, a, cell, g1, g2, g3, g4, g5, g6, g7, g8⟩ := (h6 q hq).moved hW
  exact ⟨cf, kf, fi, f, a, cell, g1, g2, g3, g4, g5, g6, g7, hfr a (Array.getElem?_eq_some_iff.mp g5).1 g8⟩
theorem pre_blind {h : HS} {as : List Value} : FrameBlind (PcH V Ev D cy h as) := by
  intro a U g mk q
  obtain ⟨q1, h1, h2, h3, h4, h5, h6⟩ := q
  exact ⟨q1, h1, va_K.moved (u := U) (U := U.calling g mk a) (Vm.Alike.refl U.vm) h2, SF.same (s := U) (U := U.calling g mk a) rfl h3, h4, fun b e hb => ⟨roAt.moved (s := U) (U := U.calling g mk a) (Vm.Alike.refl U.vm) (h5 b e hb).1, (h5 b e hb).2⟩, fun z hz => va_Z.moved (u := U) (U := U.calling g mk a) (Vm.Alike.refl U.vm) (h6 z hz)⟩
theorem pre_at {A : Nat → Prop} {h : HS} {s : State} {H : Heap} {as : List Value} (hR : Rp V Ev D cy A h s H) (U : State) (hU : U.heap = H) (hW : s.WarmedH U.vm) : PcH V Ev D cy h as as.toArray U := by
  refine ⟨rfl, ?_⟩
  show Rp V Ev D cy (frH h) h U U.heap
  rw [hU]
  exact hR.less hW.alike (hR.2.2.1.moved hW)
variable {y : Nat} {p : Program} {l : Launch} {e : Env} {R : Room} {s : State} {m : MethodId} {args : Array Value} {below : List Frame} {meth : Method} {c : Code} {Q : State → Prop} {A : Nat → Prop} {H0 : Heap} {sz0 sl0 : Nat} {H : Heap} {locs : List Loc} {cells slots : Nat} {la : Array Slot} {ls : Lc} {st : List Value} {h : HS} {pc : Nat}
/-- behind a call -/
theorem call_go {r : Option Value} {h' : HS} {rest : List Value} {aa : Array Value} (hA : ∀ q, H0.size ≤ q → A q) (P : Ps mt Ev V y s D cy A H0 sz0 sl0 la ls h H locs cells slots) (hm1 : h.2.1 ≤ h'.2.1) (hm2 : h.2.2 ≤ h'.2.2)
    (hr : va_Run p l e R s m args below meth c H locs cells slots (h'.2.1 - h.2.1) (h'.2.2 - h.2.2) (F0 m pc la st) rest (QcH D cy h r h' aa) (frH h))
    (kk : ∀ (la' : Array Slot) (H' : Heap) (locs' : List Loc) (cells' slots' : Nat), Ps mt Ev V y s D cy A H0 sz0 sl0 la' ls h' H' locs' cells' slots' → W p l e R s m args below meth c H' locs' cells' slots' Q (F0 m (pc + 3) la' (r.toList ++ rest))) : W p l e R s m args below meth c H locs cells slots Q (F0 m pc la st) := by
  obtain ⟨hL, hR, hS, hc, hs⟩ := P
  have hfA : ∀ q, frH h q → A q := by
    intro q hq
    rcases hq with ⟨x, hx⟩ | hq
    · exact (hR.2.2.2.1 q x hx).2
    · exact hA q (Nat.le_trans (by rw [← hR.1]; exact hS.1) hq)
  intro T hT X
  obtain ⟨v, st₀, t, T', L, h0, X', hLf, e1, e2, ⟨hv, hz, hcl, hF1, hF2⟩, stp⟩ := hr T hT X
  cases hv
  rw [h0] at hF1 hF2
  have hold : ∀ q, q < H.size → ¬ A q → t.heap[q]? = H[q]? := fun q h1 h2 => hF2 q h1 (fun z => h2 (hfA q z))
  have hP : Ps mt Ev V y s D cy A H0 sz0 sl0 la ls h' T'.heap (locs ++ L) (cells + (h'.2.1 - h.2.1)) (slots + (h'.2.2 - h.2.2)) := by
    rw [e1]
    refine ⟨hL, ⟨hz, hR.2.1, hR.2.2.1, fun a x ha => ⟨(hcl a x ha).1, hfA a (hcl a x ha).2⟩, fun a x ha => ?_, fun q hq => (hR.2.2.2.2.2 q hq).kept hold⟩, ⟨Nat.le_trans hS.1 hF1, fun q h1 h2 => ?_, fun q hq => ?_⟩, by omega, by omega⟩
    · obtain ⟨g1, g2⟩ := hR.2.2.2.2.1 a x ha
      exact ⟨g1.kept (hold a g1.lt g2), g2⟩
    · rw [hold q (Nat.lt_of_lt_of_le h1 hS.1) h2]
      exact hS.2.1 q h1 h2
    · rcases List.mem_append.mp hq with h9 | h9
      · exact hS.2.2 q h9
      · exact hfA _ (hLf q h9)
  obtain ⟨t2, a1, b1⟩ := kk la T'.heap _ _ _ hP T' rfl X'
  exact ⟨t2, stp t2 a1, b1⟩
theorem room_go {d : Nat} {mx : Nat} (hmx : mx ≤ 60) (hf : d + 1 ≤ R.frames) (hlo : 100 * (d + 1) ≤ R.locals) (mc ms : Nat) : (rmD d mc ms).frames + 1 ≤ R.frames ∧ 8 + (mx + 11) + (rmD d mc ms).locals ≤ R.locals := by
  refine ⟨hf, ?_⟩
  show 8 + (mx + 11) + 100 * d ≤ R.locals
  omega
/-- super.m(..), also where the class above has it from one above that -/
theorem sv_runSU {x : MethodName} {owner : String} {bytes cc : ByteArray} {maxL nL mc ms n index : Nat} {ret : Option FieldType} {ws : List Cond} {rm : Room} {Pc : Array Value → State → Prop} {Qc : Array Value → State → Outcome → State → Prop} {free : Addr → Prop} {Ts : List Cond} {own K : String} {cC : ClassId} {b : Addr} {As rest : List Value} {g : JFrame}
    (hat : ClassAt s K cC) (S : CallFix p m c cc nL s args Ts own) (hM : Met l ⟨owner, x.name, x.desc⟩ ws rm Pc Qc mc ms free) (hrc : rm.cells = mc) (hrs : rm.slots = ms) (hRm : rm.frames + 1 ≤ R.frames ∧ 8 + (maxL + 11) + rm.locals ≤ R.locals) (hG : GoodIn Ts ws) (hcw : Cond.code ⟨owner, x.name, x.desc⟩ bytes maxL ret ∈ ws)
    (hlink : (Cond.methodLink own index x).before args s = true) (hsame : (Cond.sameMethod x.cls owner x.name x.desc).before args s = true) (hsup : (Cond.superclass own x.cls).before args s = true) (hsup2 : x.cls = owner ∨ (Cond.superclass x.cls owner).before args s = true) (hinst : (Cond.instanceMethod ⟨owner, x.name, x.desc⟩).before args s = true) (hini : (Cond.initialized owner).before args s = true) (hno : x.name ≠ "<init>") (hlen : (parseMethodDescriptor x.desc).map (fun d => d.parameters.length) = some n) (hp : PreV s H K b Pc As)
    (hg : g.method = m) (hn : As.length = n) (hsize : g.locals.size = nL) (hstack : g.stack = As.reverse ++ .ref b :: rest) (hW : 2 * g.monitorRoom + (rest.map fun v => v.category).sum ≤ 8) (hdg : decode cc g.pc = .ok (.invokespecial index, 3)) (hf : cells + mc ≤ R.cells ∧ slots + ms ≤ R.slots) :
    va_Run p l e R s m args below meth c H locs cells slots mc ms g rest (Qc (Value.ref b :: As).toArray) (free) := by
  obtain ⟨hx, hb, hml, ho, hts⟩ := S
  have hcode : (Cond.code ⟨owner, x.name, x.desc⟩ bytes maxL ret).before args s = true := hts _ (hG _ hcw).1
  have hK : Back l R p e below s args ⟨owner, x.name, x.desc⟩ 3 8 (PreOf R mc ms Pc) (PostOf Qc mc ms free) := back_of (bytes := bytes) (maxL := maxL) (ret := ret) hM hp.1 hrc hrs hRm.1 hRm.2 (pay_in hts hG) hcw (fun a' U hW => word_at hW (Or.inl (by first | rfl | simp [Cond.onTables, Cond.keeps, Cond.steady])) hini)
  obtain ⟨-, ⟨cellB, hcB, hoB, hclB⟩, hPc⟩ := hp
  obtain ⟨hfc, kB, hkB, -⟩ := hat
  cases hfc.symm.trans hclB
  intro T hT X
  obtain ⟨mk, methM, hnamed, hmethM, hstM, habM⟩ := Cond.instanceMethod_spec hinst
  obtain ⟨methM', cM, hmethM', -, -, -, -, -, -, hsigM⟩ := Cond.code_spec hnamed hcode
  cases hmethM.symm.trans hmethM'
  obtain ⟨ps, dk, kp, hps, hdk, hkp, hsuper, -, -, hnid⟩ := Cond.superclass_spec ho hsup
  have hmk : s.vm.findClass owner = some mk.cls := findClass_of_methodNamed hnamed
  have hsub : s.vm.isSubclass ps mk.cls = true := by
    rcases hsup2 with h2 | h2
    · rw [h2] at hps
      have hpm : ps = mk.cls := Option.some.inj (hps.symm.trans hmk)
      rw [hpm]; simp [Vm.isSubclass, Vm.isSubclassAux]
    · obtain ⟨ps2, dk2, kp2, hps2, hdk2, hkp2, hsuper2, -, -, -⟩ := Cond.superclass_spec hps h2
      have hpm : ps2 = mk.cls := Option.some.inj (hps2.symm.trans hmk)
      rw [← hpm]
      obtain ⟨k9, hk9⟩ : ∃ k9, s.vm.classes.size = k9 + 1 := ⟨s.vm.classes.size - 1, by have := (Array.getElem?_eq_some_iff.mp hdk2).1; omega⟩
      simp [Vm.isSubclass, Vm.isSubclassAux, hdk2, hsuper2, hk9]
  have hlen2 : As.length = methM.sig.parameters.length := by
    rw [hn]
    rw [hsigM] at hlen
    simpa using hlen.symm
  obtain ⟨vm₁, X₁, hstep₁⟩ := X.invokespecialUp hx ho hlink hsame hnamed hmethM hstM habM hno hdk hnid hps hsuper hsub (a := b) (cell := cellB) (by rw [hT]; exact hcB)
    (fun z h => by rw [h] at hoB; cases hoB) hkB (g := g) hg (argsL := As) (rest := rest) hlen2 hstack (by rw [hb]; exact hdg)
  obtain ⟨v, B, X', hpost, hsteps⟩ := hK m meth c ⟨T.setVm vm₁, locs, cells, slots⟩ { g with stack := rest } (.invokespecial index) mk (Value.ref b :: As).toArray X₁ hg (hsize.trans hml.symm) (by rw [hb]; exact hdg) hW (X₁.named hnamed) ⟨hf.1, hf.2, hPc (T.setVm vm₁) hT X₁.warmed⟩
  obtain ⟨U', l2, c2, s2⟩ := B
  obtain ⟨g', mk', t, L, e1, e2, hq, h1, hL, h2, h3⟩ := hpost
  dsimp only [Pt.U, Pt.locs, Pt.cells, Pt.slots] at X' e1 e2 h1 h2 h3 hsteps
  subst h1; subst h2; subst h3
  exact ⟨v, (T.setVm vm₁).calling g' mk' (Value.ref b :: As).toArray, t, U', L, hT, X', hL, e1, e2, hq, fun target h => hstep₁ _ (by rw [doInvoke_state]; exact hsteps.trans h)⟩
end CALL
