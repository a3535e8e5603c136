/-! Each operation held against its instruction. -/
def Cx (mt : MT) (y : Nat) (p : Program) (s : State) (m : MethodId) (args : Array Value) (meth : Method) (c : Code) : Prop :=
  p.tables.exec = Jvm.exec ∧ c.code = (mt y).2.1 ∧ c.maxLocals = (mt y).2.2.1 ∧ s.vm.findClass (mt y).1.cls = some m.cls ∧ (∀ w ∈ lw_gd, w.before args s = true) ∧ meth.sig.returnType = (mt y).2.2.2 ∧ meth.locks = false ∧ ((mt y).1.name = "<init>" → meth.name = "<init>")
def Ps (mt : MT) (Ev : Nat → Value) (V : Nat → Option AE) (y : Nat) (s : State) (D : va_G) (cy : Nat → ClassId) (A : Nat → Prop) (H0 : Heap) (sz0 sl0 : Nat) (la : Array Slot) (ls : Lc) (h : HS) (H : Heap) (locs : List Loc) (cells slots : Nat) : Prop :=
  LR la (mt y).2.2.1 ls ∧ Rp V Ev D cy A h s H ∧ va_S A H0 H locs ∧ cells + sz0 = h.2.1 ∧ slots + sl0 = h.2.2
/-- a way to end: the instruction that returns v, with nothing else on the stack -/
def RetOk (mt : MT) (y pc : Nat) (st : List Value) (v : Option Value) : Prop :=
  (∃ (x : Int32) (ty : FieldType), st = [.int x] ∧ v = some (.int x) ∧ decode (mt y).2.1 pc = .ok (.ireturn, 1) ∧ (mt y).2.2.2 = some ty ∧ narrow ty (.int x) = .int x) ∨
  (∃ x : Int64, st = [.long x] ∧ v = some (.long x) ∧ decode (mt y).2.1 pc = .ok (.lreturn, 1) ∧ (mt y).2.2.2 = some .long) ∨
  (∃ (w : Value) (rt : FieldType), st = [w] ∧ v = some w ∧ (w = .null ∨ ∃ a, w = .ref a) ∧ decode (mt y).2.1 pc = .ok (.areturn, 1) ∧ (mt y).2.2.2 = some rt ∧ ((∃ n, rt = .object n) ∨ ∃ t, rt = .array t)) ∨
  (st = [] ∧ v = none ∧ decode (mt y).2.1 pc = .ok (.return_, 1) ∧ (mt y).2.2.2 = none)
section GL
variable (mt : MT) (Ev : Nat → Value) (V : Nat → Option AE) (y : Nat) (p : Program) (l : Launch) (e : Env) (R : Room) (s : State) (m : MethodId) (args : Array Value) (below : List Frame) (meth : Method) (c : Code) (Q : State → Prop) (D : va_G) (cy : Nat → ClassId) (A : Nat → Prop) (H0 : Heap) (sz0 sl0 : Nat)
/-- what a result of an operation has to give -/
def Gl (H : Heap) (locs : List Loc) (cells slots : Nat) (la : Array Slot) (ls : Lc) (st : List Value) (h : HS) (pc : Nat) : Rs → Prop
  | .inl (pc', ls', st', h') => h'.2.1 ≤ R.cells + sz0 → h'.2.2 ≤ R.slots + sl0 → (∀ (la' : Array Slot) (H' : Heap) (locs' : List Loc) (cells' slots' : Nat), Ps mt Ev V y s D cy A H0 sz0 sl0 la' ls' h' H' locs' cells' slots' → W p l e R s m args below meth c H' locs' cells' slots' Q (F0 m pc' la' st')) → W p l e R s m args below meth c H locs cells slots Q (F0 m pc la st)
  | .inr (.inl v) => RetOk mt y pc st v
  | .inr (.inr (y', as, rest)) => ∀ (r : Option Value) (h' : HS) (d : Nat), CM mt V Ev D cy l d y' as h r h' → d + 1 ≤ R.frames → 100 * (d + 1) ≤ R.locals → h'.2.1 ≤ R.cells + sz0 → h'.2.2 ≤ R.slots + sl0 → (∀ (la' : Array Slot) (H' : Heap) (locs' : List Loc) (cells' slots' : Nat), Ps mt Ev V y s D cy A H0 sz0 sl0 la' ls h' H' locs' cells' slots' → W p l e R s m args below meth c H' locs' cells' slots' Q (F0 m (pc + 3) la' (r.toList ++ rest))) → W p l e R s m args below meth c H locs cells slots Q (F0 m pc la st)
end GL
def OkOp (mt : MT) (Ev : Nat → Value) (y pc : Nat) (op : Op) : Prop :=
  ∀ (V : Nat → Option AE) (p : Program) (l : Launch) (e : Env) (R : Room) (s : State) (m : MethodId) (args : Array Value) (below : List Frame) (meth : Method) (c : Code) (Q : State → Prop) (D : va_G) (cy : Nat → ClassId) (A : Nat → Prop) (H0 : Heap) (sz0 sl0 : Nat) (H : Heap) (locs : List Loc) (cells slots : Nat) (la : Array Slot) (ls : Lc) (st : List Value) (h : HS),
    Cx mt y p s m args meth c → (∀ q, H0.size ≤ q → A q) → Ps mt Ev V y s D cy A H0 sz0 sl0 la ls h H locs cells slots → 1 ≤ R.frames ∧ 100 ≤ R.locals →
    ∀ r : Rs, op V pc ls st h = some r → Gl mt Ev V y p l e R s m args below meth c Q D cy A H0 sz0 sl0 H locs cells slots la ls st h pc r
section OK1
variable {mt : MT} {Ev : Nat → Value} {y pc : Nat}
theorem ok_iconst {n : Int} {v : Int32} (hd : decode (mt y).2.1 pc = .ok (.iconst n, 1)) (hv : Int32.ofInt n = v) : OkOp mt Ev y pc (o_push (.int v) 1) := by
  intro V p l e R s m args below meth c Q D cy A H0 sz0 sl0 H locs cells slots la ls st h C hA P hR r hr
  cases hr
  exact fun _ _ kk => lv_iconst C.1 C.2.1 hd hv (kk _ _ _ _ _ P)
theorem ok_bipush {n : Int} {v : Int32} (hd : decode (mt y).2.1 pc = .ok (.bipush n, 2)) (hv : (Int8.ofInt n).toInt32 = v) : OkOp mt Ev y pc (o_push (.int v) 2) := by
  intro V p l e R s m args below meth c Q D cy A H0 sz0 sl0 H locs cells slots la ls st h C hA P hR r hr
  cases hr
  exact fun _ _ kk => lv_bipush C.1 C.2.1 hd hv (kk _ _ _ _ _ P)
theorem ok_sipush {n : Int} {v : Int32} (hd : decode (mt y).2.1 pc = .ok (.sipush n, 3)) (hv : (Int16.ofInt n).toInt32 = v) : OkOp mt Ev y pc (o_push (.int v) 3) := by
  intro V p l e R s m args below meth c Q D cy A H0 sz0 sl0 H locs cells slots la ls st h C hA P hR r hr
  cases hr
  exact fun _ _ kk => lv_sipush C.1 C.2.1 hd hv (kk _ _ _ _ _ P)
theorem ok_lconst {n : Fin 2} {v : Int64} (hd : decode (mt y).2.1 pc = .ok (.lconst n, 1)) (hv : Int64.ofNat (n : Nat) = v) : OkOp mt Ev y pc (o_push (.long v) 1) := by
  intro V p l e R s m args below meth c Q D cy A H0 sz0 sl0 H locs cells slots la ls st h C hA P hR r hr
  cases hr
  exact fun _ _ kk => lv_lconst C.1 C.2.1 hd hv (kk _ _ _ _ _ P)
theorem ok_null (hd : decode (mt y).2.1 pc = .ok (.aconst_null, 1)) : OkOp mt Ev y pc (o_push .null 1) := by
  intro V p l e R s m args below meth c Q D cy A H0 sz0 sl0 H locs cells slots la ls st h C hA P hR r hr
  cases hr
  exact fun _ _ kk => lv_null C.1 C.2.1 hd (kk _ _ _ _ _ P)
theorem ok_ldc {i : Nat} {v : Int32} (hd : decode (mt y).2.1 pc = .ok (.ldc i, 2)) (hw : Cond.constant (mt y).1.cls i v ∈ lw_gd) : OkOp mt Ev y pc (o_push (.int v) 2) := by
  intro V p l e R s m args below meth c Q D cy A H0 sz0 sl0 H locs cells slots la ls st h C hA P hR r hr
  cases hr
  exact fun _ _ kk => lv_ldc C.1 C.2.1 C.2.2.2.1 (C.2.2.2.2.1 _ hw) hd (kk _ _ _ _ _ P)
theorem ok_ldcw {i : Nat} {v : Int32} (hd : decode (mt y).2.1 pc = .ok (.ldc_w i, 3)) (hw : Cond.constant (mt y).1.cls i v ∈ lw_gd) : OkOp mt Ev y pc (o_push (.int v) 3) := by
  intro V p l e R s m args below meth c Q D cy A H0 sz0 sl0 H locs cells slots la ls st h C hA P hR r hr
  cases hr
  exact fun _ _ kk => lv_ldcw C.1 C.2.1 C.2.2.2.1 (C.2.2.2.2.1 _ hw) hd (kk _ _ _ _ _ P)
theorem ok_ldc2 {i : Nat} {v : Int64} (hd : decode (mt y).2.1 pc = .ok (.ldc2_w i, 3)) (hw : Cond.constantLong (mt y).1.cls i v ∈ lw_gd) : OkOp mt Ev y pc (o_push (.long v) 3) := by
  intro V p l e R s m args below meth c Q D cy A H0 sz0 sl0 H locs cells slots la ls st h C hA P hR r hr
  cases hr
  exact fun _ _ kk => lv_ldc2 C.1 C.2.1 C.2.2.2.1 (C.2.2.2.2.1 _ hw) hd (kk _ _ _ _ _ P)
theorem ok_ldcS {i k : Nat} {tx : String} (hd : decode (mt y).2.1 pc = .ok (.ldc i, 2)) (ho : (mt y).1.cls = RX0) (hq : (i, tx, k) ∈ strL) : OkOp mt Ev y pc (o_push (Ev k) 2) := by
  intro V p l e R s m args below meth c Q D cy A H0 sz0 sl0 H locs cells slots la ls st h C hA P hR r hr
  cases hr
  obtain ⟨a, e1, e2⟩ := P.2.1.2.2.1.2.2.2 _ hq
  intro _ _ kk
  dsimp only at e1 kk
  rw [e1] at kk
  exact va_ldcS C.1 C.2.1 (own := RX0) (by rw [← ho]; exact C.2.2.2.1) e2 hd (kk _ _ _ _ _ P)
theorem ok_stat {i : Nat} {K n d : String} {v : Value} (hd : decode (mt y).2.1 pc = .ok (.getstatic i, 3)) (hq : (K, n, d, v) ∈ stL Ev) (hw : Cond.fieldLink (mt y).1.cls i K n d ∈ lw_gd) : OkOp mt Ev y pc (o_push v 3) := by
  intro V p l e R s m args below meth c Q D cy A H0 sz0 sl0 H locs cells slots la ls st h C hA P hR r hr
  cases hr
  have hZ := P.2.1.2.2.2.2.2 _ hq
  obtain ⟨cf, kf, fi, f, a, cell, h1, h2, h3, h4, h5, h6, h7, h8⟩ := hZ
  exact fun _ _ kk => W.gets C.1 C.2.1 C.2.2.2.1 (C.2.2.2.2.1 _ hw) h1 h2 h3 h4 h5 (fun e => by rw [e] at h6; cases h6) h7 rfl hd (kk _ _ _ _ _ P)
theorem ok_iload_n {k : Fin 4} {i : Nat} (hd : decode (mt y).2.1 pc = .ok (.iload_n k, 1)) (hi : (k : Nat) = i) : OkOp mt Ev y pc (o_iload i 1) := by
  intro V p l e R s m args below meth c Q D cy A H0 sz0 sl0 H locs cells slots la ls st h C hA P hR r hr
  unfold o_iload at hr
  split at hr
  · rename_i x hx
    cases hr
    exact fun _ _ kk => lv_iload_n C.1 C.2.1 hd hi (P.1.2.2.2 _ _ hx) (kk _ _ _ _ _ P)
  · cases hr
theorem ok_iload {i : Nat} (hd : decode (mt y).2.1 pc = .ok (.iload i, 2)) : OkOp mt Ev y pc (o_iload i 2) := by
  intro V p l e R s m args below meth c Q D cy A H0 sz0 sl0 H locs cells slots la ls st h C hA P hR r hr
  unfold o_iload at hr
  split at hr
  · rename_i x hx
    cases hr
    exact fun _ _ kk => lv_iload C.1 C.2.1 hd (P.1.2.2.2 _ _ hx) (kk _ _ _ _ _ P)
  · cases hr
theorem ok_lload_n {k : Fin 4} {i : Nat} (hd : decode (mt y).2.1 pc = .ok (.lload_n k, 1)) (hi : (k : Nat) = i) : OkOp mt Ev y pc (o_lload i 1) := by
  intro V p l e R s m args below meth c Q D cy A H0 sz0 sl0 H locs cells slots la ls st h C hA P hR r hr
  unfold o_lload at hr
  split at hr
  · rename_i x hx
    cases hr
    exact fun _ _ kk => lv_lload_n C.1 C.2.1 hd hi (P.1.2.2.2 _ _ hx) (kk _ _ _ _ _ P)
  · cases hr
theorem ok_lload {i : Nat} (hd : decode (mt y).2.1 pc = .ok (.lload i, 2)) : OkOp mt Ev y pc (o_lload i 2) := by
  intro V p l e R s m args below meth c Q D cy A H0 sz0 sl0 H locs cells slots la ls st h C hA P hR r hr
  unfold o_lload at hr
  split at hr
  · rename_i x hx
    cases hr
    exact fun _ _ kk => lv_lload C.1 C.2.1 hd (P.1.2.2.2 _ _ hx) (kk _ _ _ _ _ P)
  · cases hr
theorem ok_aload_n {k : Fin 4} {i : Nat} (hd : decode (mt y).2.1 pc = .ok (.aload_n k, 1)) (hi : (k : Nat) = i) : OkOp mt Ev y pc (o_aload i 1) := by
  intro V p l e R s m args below meth c Q D cy A H0 sz0 sl0 H locs cells slots la ls st h C hA P hR r hr
  unfold o_aload at hr
  split at hr
  · rename_i x hx
    cases hr
    exact fun _ _ kk => lv_aload_n C.1 C.2.1 hd hi (P.1.2.2.2 _ _ hx) (kk _ _ _ _ _ P)
  · rename_i hx
    cases hr
    exact fun _ _ kk => lv_aload_nN C.1 C.2.1 hd hi (P.1.2.2.2 _ _ hx) (kk _ _ _ _ _ P)
  · cases hr
theorem ok_aload {i : Nat} (hd : decode (mt y).2.1 pc = .ok (.aload i, 2)) : OkOp mt Ev y pc (o_aload i 2) := by
  intro V p l e R s m args below meth c Q D cy A H0 sz0 sl0 H locs cells slots la ls st h C hA P hR r hr
  unfold o_aload at hr
  split at hr
  · rename_i x hx
    cases hr
    exact fun _ _ kk => lv_aload C.1 C.2.1 hd (P.1.2.2.2 _ _ hx) (kk _ _ _ _ _ P)
  · rename_i hx
    cases hr
    exact fun _ _ kk => lv_aloadN C.1 C.2.1 hd (P.1.2.2.2 _ _ hx) (kk _ _ _ _ _ P)
  · cases hr
theorem ok_istore_n {k : Fin 4} {i : Nat} (hd : decode (mt y).2.1 pc = .ok (.istore_n k, 1)) (hi : (k : Nat) = i) : OkOp mt Ev y pc (o_istore i 1) := by
  intro V p l e R s m args below meth c Q D cy A H0 sz0 sl0 H locs cells slots la ls st h C hA P hR r hr
  unfold o_istore at hr
  split at hr
  · split at hr
    · rename_i hg
      cases hr
      exact fun _ _ kk => lv_istore_n C.1 C.2.1 hd hi P.1.has (by rw [← P.1.2.2.1]; exact hg.1) rfl (fun la' hl => kk _ _ _ _ _ ⟨P.1.store1 hg.2 hl, P.2⟩)
    · cases hr
  · cases hr
theorem ok_istore {i : Nat} (hd : decode (mt y).2.1 pc = .ok (.istore i, 2)) : OkOp mt Ev y pc (o_istore i 2) := by
  intro V p l e R s m args below meth c Q D cy A H0 sz0 sl0 H locs cells slots la ls st h C hA P hR r hr
  unfold o_istore at hr
  split at hr
  · split at hr
    · rename_i hg
      cases hr
      exact fun _ _ kk => lv_istore C.1 C.2.1 hd P.1.has (by rw [← P.1.2.2.1]; exact hg.1) rfl (fun la' hl => kk _ _ _ _ _ ⟨P.1.store1 hg.2 hl, P.2⟩)
    · cases hr
  · cases hr
theorem ok_astore_n {k : Fin 4} {i : Nat} (hd : decode (mt y).2.1 pc = .ok (.astore_n k, 1)) (hi : (k : Nat) = i) : OkOp mt Ev y pc (o_astore i 1) := by
  intro V p l e R s m args below meth c Q D cy A H0 sz0 sl0 H locs cells slots la ls st h C hA P hR r hr
  unfold o_astore at hr
  split at hr
  · split at hr
    · rename_i hg
      cases hr
      exact fun _ _ kk => lv_astore_n C.1 C.2.1 hd hi P.1.has (by rw [← P.1.2.2.1]; exact hg.1) rfl (fun la' hl => kk _ _ _ _ _ ⟨P.1.store1 hg.2 hl, P.2⟩)
    · cases hr
  · split at hr
    · rename_i hg
      cases hr
      exact fun _ _ kk => lv_astore_nN C.1 C.2.1 hd hi P.1.has (by rw [← P.1.2.2.1]; exact hg.1) rfl (fun la' hl => kk _ _ _ _ _ ⟨P.1.store1 hg.2 hl, P.2⟩)
    · cases hr
  · cases hr
theorem ok_astore {i : Nat} (hd : decode (mt y).2.1 pc = .ok (.astore i, 2)) : OkOp mt Ev y pc (o_astore i 2) := by
  intro V p l e R s m args below meth c Q D cy A H0 sz0 sl0 H locs cells slots la ls st h C hA P hR r hr
  unfold o_astore at hr
  split at hr
  · split at hr
    · rename_i hg
      cases hr
      exact fun _ _ kk => lv_astore C.1 C.2.1 hd P.1.has (by rw [← P.1.2.2.1]; exact hg.1) rfl (fun la' hl => kk _ _ _ _ _ ⟨P.1.store1 hg.2 hl, P.2⟩)
    · cases hr
  · split at hr
    · rename_i hg
      cases hr
      exact fun _ _ kk => lv_astoreN C.1 C.2.1 hd P.1.has (by rw [← P.1.2.2.1]; exact hg.1) rfl (fun la' hl => kk _ _ _ _ _ ⟨P.1.store1 hg.2 hl, P.2⟩)
    · cases hr
  · cases hr
theorem ok_lstore_n {k : Fin 4} {i : Nat} (hd : decode (mt y).2.1 pc = .ok (.lstore_n k, 1)) (hi : (k : Nat) = i) : OkOp mt Ev y pc (o_lstore i 1) := by
  intro V p l e R s m args below meth c Q D cy A H0 sz0 sl0 H locs cells slots la ls st h C hA P hR r hr
  unfold o_lstore at hr
  split at hr
  · split at hr
    · rename_i hg
      cases hr
      exact fun _ _ kk => lv_lstore_n C.1 C.2.1 hd hi P.1.has (by rw [← P.1.2.2.1]; exact hg.1) rfl (fun la' hl => kk _ _ _ _ _ ⟨P.1.store2 hg.2 hl, P.2⟩)
    · cases hr
  · cases hr
theorem ok_lstore {i : Nat} (hd : decode (mt y).2.1 pc = .ok (.lstore i, 2)) : OkOp mt Ev y pc (o_lstore i 2) := by
  intro V p l e R s m args below meth c Q D cy A H0 sz0 sl0 H locs cells slots la ls st h C hA P hR r hr
  unfold o_lstore at hr
  split at hr
  · split at hr
    · rename_i hg
      cases hr
      exact fun _ _ kk => lv_lstore C.1 C.2.1 hd P.1.has (by rw [← P.1.2.2.1]; exact hg.1) rfl (fun la' hl => kk _ _ _ _ _ ⟨P.1.store2 hg.2 hl, P.2⟩)
    · cases hr
  · cases hr
theorem ok_iinc {i : Nat} {n : Int} {k : Int32} (hd : decode (mt y).2.1 pc = .ok (.iinc i n, 3)) (hk : Int32.ofInt n = k) : OkOp mt Ev y pc (o_iinc i k) := by
  intro V p l e R s m args below meth c Q D cy A H0 sz0 sl0 H locs cells slots la ls st h C hA P hR r hr
  unfold o_iinc at hr
  split at hr
  · rename_i x hx
    cases hr
    obtain ⟨j, hj, hj2⟩ := List.getElem_of_mem (mem_asl.mpr hx)
    have hlt : i < ls.length := (List.getElem?_eq_some_iff.mp hx).1
    have hp : okp ls i = true := by
      cases i with
      | zero => rfl
      | succ i =>
        simp only [okp]
        split
        · rename_i w hw
          have := P.1.2.1.1 i _ (P.1.2.2.2 _ _ hw) rfl
          rw [P.1.2.2.2 _ _ hx] at this
          cases this
        · rename_i w hw
          have := P.1.2.1.1 i _ (P.1.2.2.2 _ _ hw) rfl
          rw [P.1.2.2.2 _ _ hx] at this
          cases this
        · rfl
    exact fun _ _ kk => lv_iinc (k := j) C.1 C.2.1 hd P.1.has (by rw [List.getElem?_eq_getElem hj, hj2]) (by rw [hk]) (by rw [← P.1.2.2.1]; exact hlt) rfl (fun la' hl => kk _ _ _ _ _ ⟨P.1.store1 hp hl, P.2⟩)
  · cases hr
end OK1
