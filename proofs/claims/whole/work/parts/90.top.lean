/-! THE CLAIM OUT OF ONE WALK OF THE LAW'S BODY. Your part is whole_start (and what it stands on); all else here is the same for every law, but numbers. -/
def R_law : String := "BridgeSentencesLaw"
def lw_P (b : Addr) (xs : List Int32) (args : Array Value) (s : State) : Prop := args = #[.ref b] ∧ s.IntsAt b xs ∧ xs.length ≤ 3072 ∧ (Jvm.Cond.and given_1 narrow_1).before args s = true
def lw_Q (_ : Array Value) (s : State) (o : Outcome) (t : State) : Prop := o = .returned (some (.int 1)) ∧ Framed s o t [] room_1.cells room_1.slots
def lw_Z (below : List Frame) (a : Array Value) (s : State) : State → Prop := fun t => ∃ o, t.status = .running ∧ Ended t below o ∧ lw_Q a s o t
/-- the law's own end, with 1 on the stack, nothing written that was there before, its room as the claim has it -/
theorem lw_ret {p : Program} {l : Launch} {e : Env} {s : State} {m : MethodId} {below : List Frame} {meth : Method} {c : Code} {b : Nat} (hx : p.tables.exec = Jvm.exec) (hb : c.code = code) (hr : meth.sig.returnType = ret) (hlocks : meth.locks = false) {pc : Nat} {H : Heap} {ls : Array Slot} (hdg : decode code pc = .ok (.ireturn, 1)) : W p l e room_1 s m #[Value.ref b] below meth c H [] room_1.cells room_1.slots (lw_Z below #[Value.ref b] s) (F0 m pc ls [.int 1]) := by
  intro T hT X
  obtain ⟨fs, hret, hrun, hended, hW, hframe⟩ := X.leave (v := some (.int 1)) (hlocks := hlocks) (fun h => by rw [hr] at h; cases h)
  have hmeth' : T.vm.method? m = some meth := X.method'
  refine ⟨T.setFrames fs, ?_, .returned (some (.int 1)), hrun, hended, rfl, ⟨_, rfl⟩, hW, hframe⟩
  jvm_step X.here [X.here.top, hx, hb, hdg, hmeth', hr, ret, narrow_b1]
  (try refine ⟨rfl, ?_⟩); (try refine ⟨rfl, ?_⟩)
  first | (intro acts; rw [hret _ acts rfl rfl rfl]) | rw [hret _ _ rfl rfl rfl]
  exact Steps.refl _
/-- what holds at the law's entry: the machine, the code, the tables' words (any of lw_tbl by 'hts w (by decide +kernel)'), the script of L ints xs at the cell b, what the Statement gives of the start (any of its parts by flat_of_before) -/
def lw_At (p : Program) (s : State) (m : MethodId) (meth : Method) (c : Code) (b L : Nat) (xs : Nat → Int32) : Prop :=
  p.tables.exec = Jvm.exec ∧ c.code = code ∧ meth.sig.returnType = ret ∧ c.maxLocals = 4 ∧ s.vm.findClass R_law = some m.cls ∧ (∀ w ∈ lw_tbl, w.before #[Value.ref b] s = true) ∧ va_X b L xs s s.heap ∧ b < s.heap.size ∧ meth.locks = false ∧ (Jvm.Cond.and given_1 narrow_1).before #[Value.ref b] s = true
theorem co_dec5 {P : Nat → Prop} (h0 : P 0) (h1 : P 1) (h2 : P 2) (h3 : P 3) (h4 : P 4) : ∀ i : Nat, i < 5 → P i := by
  intro i hi
  match i, hi with
  | 0, _ => exact h0
  | 1, _ => exact h1
  | 2, _ => exact h2
  | 3, _ => exact h3
  | 4, _ => exact h4
  | i + 5, h => exact absurd h (by omega)
theorem arr_one {s : State} {cell : Cell} {t1 t2 : FieldType} (h1 : s.isArrayOf cell t1) (h2 : s.isArrayOf cell t2) : t1 = t2 := by
  obtain ⟨-, k1, a1, c1, b1⟩ := h1
  obtain ⟨-, k2, a2, c2, b2⟩ := h2
  cases a1.symm.trans a2
  have := b1.symm.trans b2
  cases this
  rfl
set_option maxHeartbeats 4000000 in
set_option maxRecDepth 100000 in
/-- the law, from its entry, out of the pure part -/
theorem whole_of (hp : PureLaw) {p : Program} {e : Env} {s : State} {m : MethodId} {below : List Frame} {meth : Method} {c : Code} (l : Launch) {b L : Nat} {xs : Nat → Int32} (hL : L ≤ 3072) (C0 : lw_At p s m meth c b L xs) : W p l e room_1 s m #[Value.ref b] below meth c s.heap [] 0 0 (lw_Z below #[Value.ref b] s) (entryFrame m ([Value.ref b] : List Value).toArray 4) := by
  obtain ⟨hx, hb, hr, hml, hown, hts, hX, hbl, hlocks, hgv⟩ := id C0
  have hs := flat_of_before _ hgv
  have hAo : ∀ a : Nat, a < s.heap.size → ¬ (fun q : Nat => s.heap.size ≤ q) a := fun a h => Nat.not_le.mpr h
  have hgd : ∀ w ∈ lw_gd, w.before #[Value.ref b] s = true := fun w hw => hts w (List.mem_filter.mp hw).1
  obtain ⟨c0, iS0, hKn0⟩ := u_known (C := RX0) (T := TX0) (N := 9) (n := 9) hgd ci_0 (hts (.instantiable RX0 9) (by decide +kernel))
  obtain ⟨c1, iS1, hKn1⟩ := u_known (C := RX1) (T := TX1) (N := 6) (n := 6) hgd ci_1 (hts (.instantiable RX1 6) (by decide +kernel))
  obtain ⟨c2, iS2, hKn2⟩ := u_known (C := RX2) (T := TX2) (N := 6) (n := 6) hgd ci_2 (hts (.instantiable RX2 6) (by decide +kernel))
  obtain ⟨c3, iS3, hKn3⟩ := u_known (C := RX3) (T := TX3) (N := 6) (n := 6) hgd ci_3 (hts (.instantiable RX3 6) (by decide +kernel))
  obtain ⟨c4, iS4, hKn4⟩ := u_known (C := RX4) (T := TX4) (N := 6) (n := 6) hgd ci_4 (hts (.instantiable RX4 6) (by decide +kernel))
  obtain ⟨c5, iS5, hKn5⟩ := u_known (C := RX5) (T := TX5) (N := 6) (n := 6) hgd ci_5 (hts (.instantiable RX5 6) (by decide +kernel))
  obtain ⟨c6, iS6, hKn6⟩ := u_known (C := RX6) (T := TX6) (N := 6) (n := 6) hgd ci_6 (hts (.instantiable RX6 6) (by decide +kernel))
  obtain ⟨c7, iS7, hKn7⟩ := u_known (C := RX7) (T := TX7) (N := 3) (n := 3) hgd ci_7 (hts (.instantiable RX7 3) (by decide +kernel))
  obtain ⟨c8, iS8, hKn8⟩ := u_known (C := RX8) (T := TX8) (N := 7) (n := 7) hgd ci_8 (hts (.instantiable RX8 7) (by decide +kernel))
  obtain ⟨c9, iS9, hKn9⟩ := u_known (C := RX9) (T := TX9) (N := 2) (n := 2) hgd ci_9 (hts (.instantiable RX9 2) (by decide +kernel))
  obtain ⟨c10, iS10, hKn10⟩ := u_known (C := RX10) (T := TX10) (N := 11) (n := 11) hgd ci_10 (hts (.instantiable RX10 11) (by decide +kernel))
  obtain ⟨c11, iS11, hKn11⟩ := u_known (C := RX11) (T := TX11) (N := 10) (n := 10) hgd ci_11 (hts (.instantiable RX11 10) (by decide +kernel))
  obtain ⟨c12, iS12, hKn12⟩ := u_known (C := RX12) (T := TX12) (N := 29) (n := 29) hgd ci_12 (hts (.instantiable RX12 29) (by decide +kernel))
  obtain ⟨dC, dI, hKc⟩ : ∃ (dC : Nat → ClassId) (dI : Nat → Nat → Nat), ∀ (k : Nat) (q : vw_C), vwCl[k]? = some q → u_Kn s q.1 q.2.1 q.2.2 (dC k) (dI k) := by
    refine ⟨fun k => if k = 0 then c0 else if k = 1 then c1 else if k = 2 then c2 else if k = 3 then c3 else if k = 4 then c4 else if k = 5 then c5 else if k = 6 then c6 else if k = 7 then c7 else if k = 8 then c8 else if k = 9 then c9 else if k = 10 then c10 else if k = 11 then c11 else c12, fun k => if k = 0 then iS0 else if k = 1 then iS1 else if k = 2 then iS2 else if k = 3 then iS3 else if k = 4 then iS4 else if k = 5 then iS5 else if k = 6 then iS6 else if k = 7 then iS7 else if k = 8 then iS8 else if k = 9 then iS9 else if k = 10 then iS10 else if k = 11 then iS11 else iS12, ?_⟩
    intro k q hq
    match k, hq with
    | 0, hq => cases hq; exact hKn0
    | 1, hq => cases hq; exact hKn1
    | 2, hq => cases hq; exact hKn2
    | 3, hq => cases hq; exact hKn3
    | 4, hq => cases hq; exact hKn4
    | 5, hq => cases hq; exact hKn5
    | 6, hq => cases hq; exact hKn6
    | 7, hq => cases hq; exact hKn7
    | 8, hq => cases hq; exact hKn8
    | 9, hq => cases hq; exact hKn9
    | 10, hq => cases hq; exact hKn10
    | 11, hq => cases hq; exact hKn11
    | 12, hq => cases hq; exact hKn12
    | k + 13, hq => simp [vwCl] at hq
  -- the array classes
  have hac : ∀ ty, (Cond.arrayClass ty).before #[Value.ref b] s = true → ∃ cA : ClassId, ArrOfT s cA ty ∧ s.vm.findClass ("[" ++ ty.toString) = some cA := by
    intro ty h
    obtain ⟨cA, kA, comp, g1, g2, g3⟩ := Cond.arrayClass_spec h
    exact ⟨cA, fun n z => ⟨fun k h => (by cases h), kA, g2, comp, g3⟩, g1⟩
  obtain ⟨y0, a0, r0⟩ := hac .byte (hts (.arrayClass .byte) (by decide +kernel))
  obtain ⟨y1, a1, r1⟩ := hac .char (hts (.arrayClass .char) (by decide +kernel))
  obtain ⟨y2, a2, r2⟩ := hac .int (hts (.arrayClass .int) (by decide +kernel))
  obtain ⟨y3, a3, r3⟩ := hac .long (hts (.arrayClass .long) (by decide +kernel))
  obtain ⟨comp4, y4, k4, g41, -, g43, g44, g45⟩ := Cond.arrayOver_spec (hts (.arrayOver (.object RX4)) (by decide +kernel))
  obtain ⟨comp5, y5, k5, g51, -, g53, g54, g55⟩ := arrayOverA_spec (hts (.arrayOver (.array .long)) (by decide +kernel))
  have a4 : ArrOfT s y4 (.object RX4) := fun n z => ⟨fun k h => (by cases h), k4, g43, comp4, g44⟩
  have a5 : ArrOfT s y5 (.array .long) := fun n z => ⟨fun k h => (by cases h), k5, g53, comp5, g54⟩
  obtain ⟨cy, e0, e1, e2, e3, e4, e5⟩ : ∃ cy : Nat → ClassId, cy 0 = y0 ∧ cy 1 = y1 ∧ cy 2 = y2 ∧ cy 3 = y3 ∧ cy 4 = y4 ∧ cy 5 = y5 := ⟨fun k => if k = 0 then y0 else if k = 1 then y1 else if k = 2 then y2 else if k = 3 then y3 else if k = 4 then y4 else y5, rfl, rfl, rfl, rfl, rfl, rfl⟩
  have hK : va_K (dC, dI) vwCl (tysA cy) s := by
    refine ⟨hKc, fun k q hq => ?_⟩
    match k, hq with
    | 0, hq => cases hq; rw [e0]; exact ⟨a0, r0⟩
    | 1, hq => cases hq; rw [e1]; exact ⟨a1, r1⟩
    | 2, hq => cases hq; rw [e2]; exact ⟨a2, r2⟩
    | 3, hq => cases hq; rw [e3]; exact ⟨a3, r3⟩
    | 4, hq => cases hq; rw [e4]; exact ⟨a4, k4, comp4, g43, g44, g41, g45⟩
    | 5, hq => cases hq; rw [e5]; exact ⟨a5, g55⟩
    | k + 6, hq => simp [tysA] at hq
  -- the static row
  obtain ⟨tA, hA1, cellA, t1, t2, t3, t4, t5, t6, t7⟩ := va_Tof (tm := .static "BridgeSentences" "ABOVE" "[I") (ty := .int) (N := 7) (f := fun j => .int ([(-1 : Int32), 0, 0, 0, 1, 2, 3].getD j 0)) (A := fun q : Nat => s.heap.size ≤ q) (by decide) (hs _ (by decide +kernel)) (va_eqt (hs (.eq (.length (.static "BridgeSentences" "ABOVE" "[I")) (.int 7)) (by decide +kernel))) (fun j hj => by
    match j, hj with
    | 0, _ => exact va_eqt (hs (.eq (.elem (.static "BridgeSentences" "ABOVE" "[I") (.int 0)) (.int (-1))) (by decide +kernel))
    | 1, _ => exact va_eqt (hs (.eq (.elem (.static "BridgeSentences" "ABOVE" "[I") (.int 1)) (.int 0)) (by decide +kernel))
    | 2, _ => exact va_eqt (hs (.eq (.elem (.static "BridgeSentences" "ABOVE" "[I") (.int 2)) (.int 0)) (by decide +kernel))
    | 3, _ => exact va_eqt (hs (.eq (.elem (.static "BridgeSentences" "ABOVE" "[I") (.int 3)) (.int 0)) (by decide +kernel))
    | 4, _ => exact va_eqt (hs (.eq (.elem (.static "BridgeSentences" "ABOVE" "[I") (.int 4)) (.int 1)) (by decide +kernel))
    | 5, _ => exact va_eqt (hs (.eq (.elem (.static "BridgeSentences" "ABOVE" "[I") (.int 5)) (.int 2)) (by decide +kernel))
    | 6, _ => exact va_eqt (hs (.eq (.elem (.static "BridgeSentences" "ABOVE" "[I") (.int 6)) (.int 3)) (by decide +kernel))
    | j + 7, h => exact absurd h (by omega)) hAo
  have hbA : b ≠ tA := va_neR (hs (.not (.eq (.arg 0) (.static "BridgeSentences" "ABOVE" "[I"))) (by decide +kernel)) rfl hA1
  have hZ0 : va_Z RX11 "ABOVE" "[I" (.ref tA) (fun q : Nat => s.heap.size ≤ q) s s.heap := va_Zref (hts (.laysStatic "BridgeSentences" "ABOVE" "[I") (by decide +kernel)) (hts (.initialized "BridgeSentences") (by decide +kernel)) hA1 hAo
  have hZ1 : va_Z RJ0 "COMPACT_STRINGS" "Z" (.int 1) (fun q : Nat => s.heap.size ≤ q) s s.heap := va_Zof (hts (.laysStatic "java/lang/String" "COMPACT_STRINGS" "Z") (by decide +kernel)) (hts (.initialized "java/lang/String") (by decide +kernel)) (va_eqt (hs (.eq (.static "java/lang/String" "COMPACT_STRINGS" "Z") (.int 1)) (by decide +kernel))) hAo
  obtain ⟨fv, hfv, hZ2⟩ : ∃ fv : Value, (fv = .null ∨ ∃ a, fv = .ref a) ∧ va_Z "jdk/internal/util/Preconditions" "SIOOBE_FORMATTER" "Ljava/util/function/BiFunction;" fv (fun q : Nat => s.heap.size ≤ q) s s.heap := by
    rcases va_Zqof (hts (.laysStatic "jdk/internal/util/Preconditions" "SIOOBE_FORMATTER" "Ljava/util/function/BiFunction;") (by decide +kernel)) (hts (.initialized "jdk/internal/util/Preconditions") (by decide +kernel)) (hs (.isRef (.static "jdk/internal/util/Preconditions" "SIOOBE_FORMATTER" "Ljava/util/function/BiFunction;")) (by decide +kernel)) hAo with h | ⟨t, h⟩
    · exact ⟨_, Or.inl rfl, h⟩
    · exact ⟨_, Or.inr ⟨t, rfl⟩, h⟩
  -- the strings
  obtain ⟨adK, adV, hSk, hEv⟩ := vk_Sof (args := #[Value.ref b]) (s := s) (N := 5) (tm := fun i => .string "BridgeSentences$Bridge" ([49, 51, 53, 82, 90].getD i 0)) (len := [6, 5, 5, 6, 3]) (byt := [strB 0, strB 1, strB 2, strB 3, strB 4]) (A := fun q : Nat => s.heap.size ≤ q) (by decide)
    (co_dec5 (hs (.exactly (.string "BridgeSentences$Bridge" 49) "java/lang/String") (by decide +kernel)) (hs (.exactly (.string "BridgeSentences$Bridge" 51) "java/lang/String") (by decide +kernel)) (hs (.exactly (.string "BridgeSentences$Bridge" 53) "java/lang/String") (by decide +kernel)) (hs (.exactly (.string "BridgeSentences$Bridge" 82) "java/lang/String") (by decide +kernel)) (hs (.exactly (.string "BridgeSentences$Bridge" 90) "java/lang/String") (by decide +kernel)))
    (co_dec5 (hs (.eq (.field (.string "BridgeSentences$Bridge" 49) "java/lang/String" "coder" "B") (.int 0)) (by decide +kernel)) (hs (.eq (.field (.string "BridgeSentences$Bridge" 51) "java/lang/String" "coder" "B") (.int 0)) (by decide +kernel)) (hs (.eq (.field (.string "BridgeSentences$Bridge" 53) "java/lang/String" "coder" "B") (.int 0)) (by decide +kernel)) (hs (.eq (.field (.string "BridgeSentences$Bridge" 82) "java/lang/String" "coder" "B") (.int 0)) (by decide +kernel)) (hs (.eq (.field (.string "BridgeSentences$Bridge" 90) "java/lang/String" "coder" "B") (.int 0)) (by decide +kernel)))
    (co_dec5 (hs (.arrayOf (.field (.string "BridgeSentences$Bridge" 49) "java/lang/String" "value" "[B") .byte) (by decide +kernel)) (hs (.arrayOf (.field (.string "BridgeSentences$Bridge" 51) "java/lang/String" "value" "[B") .byte) (by decide +kernel)) (hs (.arrayOf (.field (.string "BridgeSentences$Bridge" 53) "java/lang/String" "value" "[B") .byte) (by decide +kernel)) (hs (.arrayOf (.field (.string "BridgeSentences$Bridge" 82) "java/lang/String" "value" "[B") .byte) (by decide +kernel)) (hs (.arrayOf (.field (.string "BridgeSentences$Bridge" 90) "java/lang/String" "value" "[B") .byte) (by decide +kernel)))
    (co_dec5 (hs (.eq (.length (.field (.string "BridgeSentences$Bridge" 49) "java/lang/String" "value" "[B")) (.int 6)) (by decide +kernel)) (hs (.eq (.length (.field (.string "BridgeSentences$Bridge" 51) "java/lang/String" "value" "[B")) (.int 5)) (by decide +kernel)) (hs (.eq (.length (.field (.string "BridgeSentences$Bridge" 53) "java/lang/String" "value" "[B")) (.int 5)) (by decide +kernel)) (hs (.eq (.length (.field (.string "BridgeSentences$Bridge" 82) "java/lang/String" "value" "[B")) (.int 6)) (by decide +kernel)) (hs (.eq (.length (.field (.string "BridgeSentences$Bridge" 90) "java/lang/String" "value" "[B")) (.int 3)) (by decide +kernel)))
    (co_dec5 (fun j hj => match j, hj with | 0, _ => hs (.eq (.elem (.field (.string "BridgeSentences$Bridge" 49) "java/lang/String" "value" "[B") (.int 0)) (.int 112)) (by decide +kernel) | 1, _ => hs (.eq (.elem (.field (.string "BridgeSentences$Bridge" 49) "java/lang/String" "value" "[B") (.int 1)) (.int 114)) (by decide +kernel) | 2, _ => hs (.eq (.elem (.field (.string "BridgeSentences$Bridge" 49) "java/lang/String" "value" "[B") (.int 2)) (.int 101)) (by decide +kernel) | 3, _ => hs (.eq (.elem (.field (.string "BridgeSentences$Bridge" 49) "java/lang/String" "value" "[B") (.int 3)) (.int 115)) (by decide +kernel) | 4, _ => hs (.eq (.elem (.field (.string "BridgeSentences$Bridge" 49) "java/lang/String" "value" "[B") (.int 4)) (.int 115)) (by decide +kernel) | 5, _ => hs (.eq (.elem (.field (.string "BridgeSentences$Bridge" 49) "java/lang/String" "value" "[B") (.int 5)) (.int 32)) (by decide +kernel) | j + 6, h => absurd h (by simp)) (fun j hj => match j, hj with | 0, _ => hs (.eq (.elem (.field (.string "BridgeSentences$Bridge" 51) "java/lang/String" "value" "[B") (.int 0)) (.int 104)) (by decide +kernel) | 1, _ => hs (.eq (.elem (.field (.string "BridgeSentences$Bridge" 51) "java/lang/String" "value" "[B") (.int 1)) (.int 111)) (by decide +kernel) | 2, _ => hs (.eq (.elem (.field (.string "BridgeSentences$Bridge" 51) "java/lang/String" "value" "[B") (.int 2)) (.int 108)) (by decide +kernel) | 3, _ => hs (.eq (.elem (.field (.string "BridgeSentences$Bridge" 51) "java/lang/String" "value" "[B") (.int 3)) (.int 100)) (by decide +kernel) | 4, _ => hs (.eq (.elem (.field (.string "BridgeSentences$Bridge" 51) "java/lang/String" "value" "[B") (.int 4)) (.int 32)) (by decide +kernel) | j + 5, h => absurd h (by simp)) (fun j hj => match j, hj with | 0, _ => hs (.eq (.elem (.field (.string "BridgeSentences$Bridge" 53) "java/lang/String" "value" "[B") (.int 0)) (.int 102)) (by decide +kernel) | 1, _ => hs (.eq (.elem (.field (.string "BridgeSentences$Bridge" 53) "java/lang/String" "value" "[B") (.int 1)) (.int 114)) (by decide +kernel) | 2, _ => hs (.eq (.elem (.field (.string "BridgeSentences$Bridge" 53) "java/lang/String" "value" "[B") (.int 2)) (.int 101)) (by decide +kernel) | 3, _ => hs (.eq (.elem (.field (.string "BridgeSentences$Bridge" 53) "java/lang/String" "value" "[B") (.int 3)) (.int 101)) (by decide +kernel) | 4, _ => hs (.eq (.elem (.field (.string "BridgeSentences$Bridge" 53) "java/lang/String" "value" "[B") (.int 4)) (.int 32)) (by decide +kernel) | j + 5, h => absurd h (by simp)) (fun j hj => match j, hj with | 0, _ => hs (.eq (.elem (.field (.string "BridgeSentences$Bridge" 82) "java/lang/String" "value" "[B") (.int 0)) (.int 112)) (by decide +kernel) | 1, _ => hs (.eq (.elem (.field (.string "BridgeSentences$Bridge" 82) "java/lang/String" "value" "[B") (.int 1)) (.int 107)) (by decide +kernel) | 2, _ => hs (.eq (.elem (.field (.string "BridgeSentences$Bridge" 82) "java/lang/String" "value" "[B") (.int 2)) (.int 118)) (by decide +kernel) | 3, _ => hs (.eq (.elem (.field (.string "BridgeSentences$Bridge" 82) "java/lang/String" "value" "[B") (.int 3)) (.int 115)) (by decide +kernel) | 4, _ => hs (.eq (.elem (.field (.string "BridgeSentences$Bridge" 82) "java/lang/String" "value" "[B") (.int 4)) (.int 119)) (by decide +kernel) | 5, _ => hs (.eq (.elem (.field (.string "BridgeSentences$Bridge" 82) "java/lang/String" "value" "[B") (.int 5)) (.int 100)) (by decide +kernel) | j + 6, h => absurd h (by simp)) (fun j hj => match j, hj with | 0, _ => hs (.eq (.elem (.field (.string "BridgeSentences$Bridge" 90) "java/lang/String" "value" "[B") (.int 0)) (.int 60)) (by decide +kernel) | 1, _ => hs (.eq (.elem (.field (.string "BridgeSentences$Bridge" 90) "java/lang/String" "value" "[B") (.int 1)) (.int 61)) (by decide +kernel) | 2, _ => hs (.eq (.elem (.field (.string "BridgeSentences$Bridge" 90) "java/lang/String" "value" "[B") (.int 2)) (.int 62)) (by decide +kernel) | j + 3, h => absurd h (by simp)))
    (fun i j hi hj hne => by
      match i, j, hi, hj, hne with
      | 0, 0, _, _, h => exact absurd rfl h
      | 0, 1, _, _, _ => exact Or.inl (hs (.not (.eq (.string "BridgeSentences$Bridge" 49) (.string "BridgeSentences$Bridge" 51))) (by decide +kernel))
      | 0, 2, _, _, _ => exact Or.inl (hs (.not (.eq (.string "BridgeSentences$Bridge" 49) (.string "BridgeSentences$Bridge" 53))) (by decide +kernel))
      | 0, 3, _, _, _ => exact Or.inl (hs (.not (.eq (.string "BridgeSentences$Bridge" 49) (.string "BridgeSentences$Bridge" 82))) (by decide +kernel))
      | 0, 4, _, _, _ => exact Or.inl (hs (.not (.eq (.string "BridgeSentences$Bridge" 49) (.string "BridgeSentences$Bridge" 90))) (by decide +kernel))
      | 1, 0, _, _, _ => exact Or.inr (hs (.not (.eq (.string "BridgeSentences$Bridge" 49) (.string "BridgeSentences$Bridge" 51))) (by decide +kernel))
      | 1, 1, _, _, h => exact absurd rfl h
      | 1, 2, _, _, _ => exact Or.inl (hs (.not (.eq (.string "BridgeSentences$Bridge" 51) (.string "BridgeSentences$Bridge" 53))) (by decide +kernel))
      | 1, 3, _, _, _ => exact Or.inl (hs (.not (.eq (.string "BridgeSentences$Bridge" 51) (.string "BridgeSentences$Bridge" 82))) (by decide +kernel))
      | 1, 4, _, _, _ => exact Or.inl (hs (.not (.eq (.string "BridgeSentences$Bridge" 51) (.string "BridgeSentences$Bridge" 90))) (by decide +kernel))
      | 2, 0, _, _, _ => exact Or.inr (hs (.not (.eq (.string "BridgeSentences$Bridge" 49) (.string "BridgeSentences$Bridge" 53))) (by decide +kernel))
      | 2, 1, _, _, _ => exact Or.inr (hs (.not (.eq (.string "BridgeSentences$Bridge" 51) (.string "BridgeSentences$Bridge" 53))) (by decide +kernel))
      | 2, 2, _, _, h => exact absurd rfl h
      | 2, 3, _, _, _ => exact Or.inl (hs (.not (.eq (.string "BridgeSentences$Bridge" 53) (.string "BridgeSentences$Bridge" 82))) (by decide +kernel))
      | 2, 4, _, _, _ => exact Or.inl (hs (.not (.eq (.string "BridgeSentences$Bridge" 53) (.string "BridgeSentences$Bridge" 90))) (by decide +kernel))
      | 3, 0, _, _, _ => exact Or.inr (hs (.not (.eq (.string "BridgeSentences$Bridge" 49) (.string "BridgeSentences$Bridge" 82))) (by decide +kernel))
      | 3, 1, _, _, _ => exact Or.inr (hs (.not (.eq (.string "BridgeSentences$Bridge" 51) (.string "BridgeSentences$Bridge" 82))) (by decide +kernel))
      | 3, 2, _, _, _ => exact Or.inr (hs (.not (.eq (.string "BridgeSentences$Bridge" 53) (.string "BridgeSentences$Bridge" 82))) (by decide +kernel))
      | 3, 3, _, _, h => exact absurd rfl h
      | 3, 4, _, _, _ => exact Or.inl (hs (.not (.eq (.string "BridgeSentences$Bridge" 82) (.string "BridgeSentences$Bridge" 90))) (by decide +kernel))
      | 4, 0, _, _, _ => exact Or.inr (hs (.not (.eq (.string "BridgeSentences$Bridge" 49) (.string "BridgeSentences$Bridge" 90))) (by decide +kernel))
      | 4, 1, _, _, _ => exact Or.inr (hs (.not (.eq (.string "BridgeSentences$Bridge" 51) (.string "BridgeSentences$Bridge" 90))) (by decide +kernel))
      | 4, 2, _, _, _ => exact Or.inr (hs (.not (.eq (.string "BridgeSentences$Bridge" 53) (.string "BridgeSentences$Bridge" 90))) (by decide +kernel))
      | 4, 3, _, _, _ => exact Or.inr (hs (.not (.eq (.string "BridgeSentences$Bridge" 82) (.string "BridgeSentences$Bridge" 90))) (by decide +kernel))
      | 4, 4, _, _, h => exact absurd rfl h
      | i + 5, _, h, _, _ => exact absurd h (by omega)
      | _, j + 5, _, h, _ => exact absurd h (by omega))
    hAo
  obtain ⟨Ev, v0, v1, v2, v3, v4, v5, v6⟩ : ∃ Ev : Nat → Value, Ev 0 = .ref tA ∧ Ev 1 = .ref (adK 0) ∧ Ev 2 = .ref (adK 1) ∧ Ev 3 = .ref (adK 2) ∧ Ev 4 = .ref (adK 3) ∧ Ev 5 = .ref (adK 4) ∧ Ev 6 = fv := ⟨fun k => if k = 0 then .ref tA else if k = 6 then fv else .ref (adK (k - 1)), rfl, rfl, rfl, rfl, rfl, rfl, rfl⟩
  have hAV : ∀ k, k < 5 → adV k ≠ b ∧ adV k ≠ tA := by
    intro k hk
    obtain ⟨cellV, q1, q2, -⟩ := (hSk.1 k hk).2.2.2
    constructor
    · intro ee
      obtain ⟨scr, w1, w2, -⟩ := hX
      rw [ee] at q1
      cases q1.symm.trans w1
      exact absurd (arr_one q2 w2) (by decide)
    · intro ee
      rw [ee] at q1
      cases q1.symm.trans t1
      exact absurd (arr_one q2 t2) (by decide)
  have hVV : ∀ j k, j < 5 → k < 5 → adV j = adV k → Int32.ofNat ([6, 5, 5, 6, 3].getD j 0) = Int32.ofNat ([6, 5, 5, 6, 3].getD k 0) ∧ ∀ i, i < [6, 5, 5, 6, 3].getD j 0 → i < [6, 5, 5, 6, 3].getD k 0 → ([strB 0, strB 1, strB 2, strB 3, strB 4].getD j []).getD i 0 = ([strB 0, strB 1, strB 2, strB 3, strB 4].getD k []).getD i 0 := by
    intro j k hj hk ee
    obtain ⟨c1, q1, -, -, -, q5, q6, -⟩ := (hSk.1 j hj).2.2.2
    obtain ⟨c2, w1, -, -, -, w5, w6, -⟩ := (hSk.1 k hk).2.2.2
    rw [ee] at q1
    cases q1.symm.trans w1
    refine ⟨q5.symm.trans w5, fun i hi1 hi2 => ?_⟩
    have := (q6 i hi1).symm.trans (w6 i hi2)
    simpa using this
  have hVn : ∀ j k, j < 5 → k < 5 → j ≠ k → adV j ≠ adV k := by
    intro j k hj hk hne ee
    obtain ⟨z1, z2⟩ := hVV j k hj hk ee
    match j, k, hj, hk, hne, z1, z2 with
    | 0, 0, _, _, h, _, _ => exact absurd rfl h
    | 0, 1, _, _, _, z1, _ => exact absurd z1 (by decide)
    | 0, 2, _, _, _, z1, _ => exact absurd z1 (by decide)
    | 0, 3, _, _, _, _, z2 => exact absurd (z2 1 (by decide) (by decide)) (by decide)
    | 0, 4, _, _, _, z1, _ => exact absurd z1 (by decide)
    | 1, 0, _, _, _, z1, _ => exact absurd z1 (by decide)
    | 1, 1, _, _, h, _, _ => exact absurd rfl h
    | 1, 2, _, _, _, _, z2 => exact absurd (z2 0 (by decide) (by decide)) (by decide)
    | 1, 3, _, _, _, z1, _ => exact absurd z1 (by decide)
    | 1, 4, _, _, _, z1, _ => exact absurd z1 (by decide)
    | 2, 0, _, _, _, z1, _ => exact absurd z1 (by decide)
    | 2, 1, _, _, _, _, z2 => exact absurd (z2 0 (by decide) (by decide)) (by decide)
    | 2, 2, _, _, h, _, _ => exact absurd rfl h
    | 2, 3, _, _, _, z1, _ => exact absurd z1 (by decide)
    | 2, 4, _, _, _, z1, _ => exact absurd z1 (by decide)
    | 3, 0, _, _, _, _, z2 => exact absurd (z2 1 (by decide) (by decide)) (by decide)
    | 3, 1, _, _, _, z1, _ => exact absurd z1 (by decide)
    | 3, 2, _, _, _, z1, _ => exact absurd z1 (by decide)
    | 3, 3, _, _, h, _, _ => exact absurd rfl h
    | 3, 4, _, _, _, z1, _ => exact absurd z1 (by decide)
    | 4, 0, _, _, _, z1, _ => exact absurd z1 (by decide)
    | 4, 1, _, _, _, z1, _ => exact absurd z1 (by decide)
    | 4, 2, _, _, _, z1, _ => exact absurd z1 (by decide)
    | 4, 3, _, _, _, z1, _ => exact absurd z1 (by decide)
    | 4, 4, _, _, h, _, _ => exact absurd rfl h
    | j + 5, _, h, _, _, _, _ => exact absurd h (by omega)
    | _, k + 5, _, h, _, _, _ => exact absurd h (by omega)
  generalize hVd : (fun n : Nat => if n % 2 = 0 then (if n / 2 = b then some (Sum.inl (2, L, Sum.inl xs)) else if n / 2 = tA then some (Sum.inl (2, 7, Sum.inl (fun j => [(-1 : Int32), 0, 0, 0, 1, 2, 3].getD j 0))) else if n / 2 = adV 0 then some (Sum.inl (0, 6, Sum.inl (fun j => (strB 0).getD j 0))) else if n / 2 = adV 1 then some (Sum.inl (0, 5, Sum.inl (fun j => (strB 1).getD j 0))) else if n / 2 = adV 2 then some (Sum.inl (0, 5, Sum.inl (fun j => (strB 2).getD j 0))) else if n / 2 = adV 3 then some (Sum.inl (0, 6, Sum.inl (fun j => (strB 3).getD j 0))) else if n / 2 = adV 4 then some (Sum.inl (0, 3, Sum.inl (fun j => (strB 4).getD j 0))) else none) else (if n / 2 = adK 0 then some (Sum.inr (100, [Value.ref (adV 0), .int 0])) else if n / 2 = adK 1 then some (Sum.inr (100, [Value.ref (adV 1), .int 0])) else if n / 2 = adK 2 then some (Sum.inr (100, [Value.ref (adV 2), .int 0])) else if n / 2 = adK 3 then some (Sum.inr (100, [Value.ref (adV 3), .int 0])) else if n / 2 = adK 4 then some (Sum.inr (100, [Value.ref (adV 4), .int 0])) else none) : Nat → Option AE) = V
  have hVe : ∀ a, V (2 * a) = (if a = b then some (Sum.inl (2, L, Sum.inl xs)) else if a = tA then some (Sum.inl (2, 7, Sum.inl (fun j => [(-1 : Int32), 0, 0, 0, 1, 2, 3].getD j 0))) else if a = adV 0 then some (Sum.inl (0, 6, Sum.inl (fun j => (strB 0).getD j 0))) else if a = adV 1 then some (Sum.inl (0, 5, Sum.inl (fun j => (strB 1).getD j 0))) else if a = adV 2 then some (Sum.inl (0, 5, Sum.inl (fun j => (strB 2).getD j 0))) else if a = adV 3 then some (Sum.inl (0, 6, Sum.inl (fun j => (strB 3).getD j 0))) else if a = adV 4 then some (Sum.inl (0, 3, Sum.inl (fun j => (strB 4).getD j 0))) else none : Option AE) := by
    intro a
    rw [← hVd]
    simp only [Nat.mul_mod_right, if_true, Nat.mul_div_cancel_left a (show 0 < 2 by decide)]
  have hVo : ∀ a, V (2 * a + 1) = (if a = adK 0 then some (Sum.inr (100, [Value.ref (adV 0), .int 0])) else if a = adK 1 then some (Sum.inr (100, [Value.ref (adV 1), .int 0])) else if a = adK 2 then some (Sum.inr (100, [Value.ref (adV 2), .int 0])) else if a = adK 3 then some (Sum.inr (100, [Value.ref (adV 3), .int 0])) else if a = adK 4 then some (Sum.inr (100, [Value.ref (adV 4), .int 0])) else none : Option AE) := by
    intro a
    rw [← hVd]
    have m1 : ¬ (2 * a + 1) % 2 = 0 := by omega
    have m2 : (2 * a + 1) / 2 = a := by omega
    simp only [m1, if_false, m2]
  have hT0 : ∀ k, k < 5 → roAt (.inl (0, [6, 5, 5, 6, 3].getD k 0, .inl (fun j => ([strB 0, strB 1, strB 2, strB 3, strB 4].getD k []).getD j 0))) (adV k) s s.heap := by
    intro k hk
    obtain ⟨c1, q1, q2, q3, q4, q5, q6, -⟩ := (hSk.1 k hk).2.2.2
    exact ⟨c1, q1, q2, q3, q4, q5, q6⟩
  have hb9 : b < s.heap.size := by
    obtain ⟨scr, w1, w2, w3, w4, w5⟩ := hX
    have r9 : roAt (.inl (2, L, .inl xs)) b s s.heap := ⟨scr, w1, w2, w3, Nat.le_of_eq w4.symm, by rw [w4], w5⟩
    exact r9.lt
  have ht9 : tA < s.heap.size := by
    have r9 : roAt (.inl (2, 7, .inl (fun j => [(-1 : Int32), 0, 0, 0, 1, 2, 3].getD j 0))) tA s s.heap := ⟨cellA, t1, t2, t3, t4, t5, t6⟩
    exact r9.lt
  have hEnv : LC V Ev s.heap.size b L xs := by
    refine ⟨by rw [hVe, if_pos rfl], hb9, hL, ⟨tA, ht9, v0, by rw [hVe, if_neg (Ne.symm hbA), if_pos rfl]⟩, ?_, by rw [v6]; exact hfv⟩
    have d1 := hVn 1 0 (by decide) (by decide) (by decide)
    have d2 := hVn 2 0 (by decide) (by decide) (by decide)
    have d3 := hVn 2 1 (by decide) (by decide) (by decide)
    have d4 := hVn 3 0 (by decide) (by decide) (by decide)
    have d5 := hVn 3 1 (by decide) (by decide) (by decide)
    have d6 := hVn 3 2 (by decide) (by decide) (by decide)
    have d7 := hVn 4 0 (by decide) (by decide) (by decide)
    have d8 := hVn 4 1 (by decide) (by decide) (by decide)
    have d9 := hVn 4 2 (by decide) (by decide) (by decide)
    have d10 := hVn 4 3 (by decide) (by decide) (by decide)
    have k1 : adK 1 ≠ adK 0 := fun q => absurd (hSk.2 1 0 (by decide) (by decide) q) (by decide)
    have k2 : adK 2 ≠ adK 0 := fun q => absurd (hSk.2 2 0 (by decide) (by decide) q) (by decide)
    have k3 : adK 2 ≠ adK 1 := fun q => absurd (hSk.2 2 1 (by decide) (by decide) q) (by decide)
    have k4 : adK 3 ≠ adK 0 := fun q => absurd (hSk.2 3 0 (by decide) (by decide) q) (by decide)
    have k5 : adK 3 ≠ adK 1 := fun q => absurd (hSk.2 3 1 (by decide) (by decide) q) (by decide)
    have k6 : adK 3 ≠ adK 2 := fun q => absurd (hSk.2 3 2 (by decide) (by decide) q) (by decide)
    have k7 : adK 4 ≠ adK 0 := fun q => absurd (hSk.2 4 0 (by decide) (by decide) q) (by decide)
    have k8 : adK 4 ≠ adK 1 := fun q => absurd (hSk.2 4 1 (by decide) (by decide) q) (by decide)
    have k9 : adK 4 ≠ adK 2 := fun q => absurd (hSk.2 4 2 (by decide) (by decide) q) (by decide)
    have k10 : adK 4 ≠ adK 3 := fun q => absurd (hSk.2 4 3 (by decide) (by decide) q) (by decide)
    have f0 := hAV 0 (by decide)
    have f1 := hAV 1 (by decide)
    have f2 := hAV 2 (by decide)
    have f3 := hAV 3 (by decide)
    have f4 := hAV 4 (by decide)
    refine co_dec5 ⟨adK 0, adV 0, (hT0 0 (by decide)).lt, v1, ?_, ?_⟩ ⟨adK 1, adV 1, (hT0 1 (by decide)).lt, v2, ?_, ?_⟩ ⟨adK 2, adV 2, (hT0 2 (by decide)).lt, v3, ?_, ?_⟩ ⟨adK 3, adV 3, (hT0 3 (by decide)).lt, v4, ?_, ?_⟩ ⟨adK 4, adV 4, (hT0 4 (by decide)).lt, v5, ?_, ?_⟩
    · rw [hVo, if_pos rfl]
    · rw [hVe, if_neg f0.1, if_neg f0.2, if_pos rfl]; rfl
    · rw [hVo, if_neg k1, if_pos rfl]
    · rw [hVe, if_neg f1.1, if_neg f1.2, if_neg d1, if_pos rfl]; rfl
    · rw [hVo, if_neg k2, if_neg k3, if_pos rfl]
    · rw [hVe, if_neg f2.1, if_neg f2.2, if_neg d2, if_neg d3, if_pos rfl]; rfl
    · rw [hVo, if_neg k4, if_neg k5, if_neg k6, if_pos rfl]
    · rw [hVe, if_neg f3.1, if_neg f3.2, if_neg d4, if_neg d5, if_neg d6, if_pos rfl]; rfl
    · rw [hVo, if_neg k7, if_neg k8, if_neg k9, if_neg k10, if_pos rfl]
    · rw [hVe, if_neg f4.1, if_neg f4.2, if_neg d7, if_neg d8, if_neg d9, if_neg d10, if_pos rfl]; rfl
  have hS0 : ∀ k, k < 5 → roAt (.inr (100, [Value.ref (adV k), .int 0])) (adK k) s s.heap := by
    intro k hk
    obtain ⟨⟨c1, q1, q2, q3, -⟩, ⟨cf, kf, i, f, c2, w1, w2, w3, w4, w5, -⟩, ⟨cf3, kf3, i3, f3, c3, u1, u2, u3, u4, u5, -⟩, -⟩ := hSk.1 k hk
    exact ⟨⟨c1, q1, q2, q3⟩, rfl, ⟨cf3, kf3, i3, f3, c3, u1, u2, u3, u4, u5, id⟩, ⟨cf, kf, i, f, c2, w1, w2, w3, w4, w5, id⟩⟩
  have hnA : ∀ (e : AE) (a : Nat), roAt e a s s.heap → roAt e a s s.heap ∧ ¬ s.heap.size ≤ a := fun e a h => ⟨h, Nat.not_le.mpr h.lt⟩
  have hRp : Rp V Ev (dC, dI) cy (fun q : Nat => s.heap.size ≤ q) (fun _ => none, s.heap.size, 0) s s.heap := by
    refine ⟨rfl, hK, ⟨fun w hw => va_Nw.of ?_ (hts w (List.mem_filter.mp hw).1), fun w hw => ?_, fun q hq => ?_, fun q hq => ?_⟩, fun a e h => (by cases h), fun a e h => ?_, fun q hq => ?_⟩
    · have h9 := (List.mem_filter.mp hw).2
      cases w <;> first | rfl | cases h9
    · simp only [aoL, List.mem_cons, List.not_mem_nil, or_false] at hw
      rcases hw with rfl | rfl
      · exact va_AO.of (hts (.arrayOver (.object RX4)) (by decide +kernel))
      · exact over_moved (Vm.Alike.refl _) (hts (.arrayOver (.array .long)) (by decide +kernel))
    · simp only [ncL, List.mem_cons, List.not_mem_nil, or_false] at hq
      rcases hq with rfl | rfl | rfl | rfl | rfl | rfl
      · exact va_Nc.of (hs (.not (.castable "BridgeSentences$One" "BridgeSentences$Told")) (by decide +kernel))
      · exact va_Nc.of (hs (.not (.castable "BridgeSentences$Poet" "BridgeSentences$Told")) (by decide +kernel))
      · exact va_Nc.of (hs (.not (.castable "BridgeSentences$Clerk" "BridgeSentences$Told")) (by decide +kernel))
      · exact va_Nc.of (hs (.not (.castable "BridgeSentences$Lover" "BridgeSentences$Told")) (by decide +kernel))
      · exact va_Nc.of (hs (.not (.castable "BridgeSentences$Orator" "BridgeSentences$Told")) (by decide +kernel))
      · exact va_Nc.of (hs (.not (.castable "BridgeSentences$Child" "BridgeSentences$Told")) (by decide +kernel))
    · simp only [strL, List.mem_cons, List.not_mem_nil, or_false] at hq
      rcases hq with rfl | rfl | rfl | rfl | rfl
      · exact ⟨_, v1, vk_R.of (A := #[Value.ref b]) (hts (.stringRef "BridgeSentences$Bridge" 49 "press ") (by decide +kernel)) (hEv 0 (by decide))⟩
      · exact ⟨_, v2, vk_R.of (A := #[Value.ref b]) (hts (.stringRef "BridgeSentences$Bridge" 51 "hold ") (by decide +kernel)) (hEv 1 (by decide))⟩
      · exact ⟨_, v3, vk_R.of (A := #[Value.ref b]) (hts (.stringRef "BridgeSentences$Bridge" 53 "free ") (by decide +kernel)) (hEv 2 (by decide))⟩
      · exact ⟨_, v4, vk_R.of (A := #[Value.ref b]) (hts (.stringRef "BridgeSentences$Bridge" 82 "pkvswd") (by decide +kernel)) (hEv 3 (by decide))⟩
      · exact ⟨_, v5, vk_R.of (A := #[Value.ref b]) (hts (.stringRef "BridgeSentences$Bridge" 90 "<=>") (by decide +kernel)) (hEv 4 (by decide))⟩
    · rcases h with h | h
      · rw [hVe] at h
        split at h
        · rename_i ea
          cases h
          rw [ea]
          obtain ⟨scr, w1, w2, w3, w4, w5⟩ := hX
          exact hnA _ _ ⟨scr, w1, w2, w3, Nat.le_of_eq w4.symm, by rw [w4], w5⟩
        · split at h
          · rename_i ea
            cases h
            rw [ea]
            exact hnA _ _ ⟨cellA, t1, t2, t3, t4, t5, t6⟩
          · split at h
            · rename_i ea
              cases h
              rw [ea]
              exact hnA _ _ (hT0 0 (by decide))
            · split at h
              · rename_i ea
                cases h
                rw [ea]
                exact hnA _ _ (hT0 1 (by decide))
              · split at h
                · rename_i ea
                  cases h
                  rw [ea]
                  exact hnA _ _ (hT0 2 (by decide))
                · split at h
                  · rename_i ea
                    cases h
                    rw [ea]
                    exact hnA _ _ (hT0 3 (by decide))
                  · split at h
                    · rename_i ea
                      cases h
                      rw [ea]
                      exact hnA _ _ (hT0 4 (by decide))
                    · cases h
      · rw [hVo] at h
        split at h
        · rename_i ea
          cases h
          rw [ea]
          exact hnA _ _ (hS0 0 (by decide))
        · split at h
          · rename_i ea
            cases h
            rw [ea]
            exact hnA _ _ (hS0 1 (by decide))
          · split at h
            · rename_i ea
              cases h
              rw [ea]
              exact hnA _ _ (hS0 2 (by decide))
            · split at h
              · rename_i ea
                cases h
                rw [ea]
                exact hnA _ _ (hS0 3 (by decide))
              · split at h
                · rename_i ea
                  cases h
                  rw [ea]
                  exact hnA _ _ (hS0 4 (by decide))
                · cases h
    · simp only [stL, List.mem_cons, List.not_mem_nil, or_false] at hq
      rcases hq with rfl | rfl | rfl
      · rw [v0]; exact hZ0
      · exact hZ1
      · rw [v6]; exact hZ2
  obtain ⟨F, n, r, h', hrun, hr1, hz1, hz2⟩ := hp V Ev b L xs s.heap.size hEnv
  have C : Cx mt 0 p s m #[Value.ref b] meth c := ⟨hx, hb, hml, hown, hgd, hr, hlocks, fun h => absurd h (by decide)⟩
  have hG : Grow (cdT Ev) V := fun y pc op h ls st h0 pc' ls' st' h' e9 => (okT y pc op h).1.2 V pc ls st h0 pc' ls' st' h' e9
  have hok : ∀ y pc op, cdT Ev y pc = some op → OkOp mt Ev y pc op := fun y pc op h => (okT y pc op h).1.1
  have hmt : MtOk2 mt (cdT Ev) := fun y pc op h => (okT (Ev := Ev) y pc op h).2
  have hP : Ps mt Ev V 0 s (dC, dI) cy (fun q : Nat => s.heap.size ≤ q) s.heap s.heap.size 0 ((lg_sl [Value.ref b] ++ List.replicate (4 - (lg_sl [Value.ref b]).length) Slot.unset).toArray) [some (.ref b), none, none, none] (fun _ => none, s.heap.size, 0) s.heap [] 0 0 := ⟨entry_LR (mx := 4) (as := [Value.ref b]) (Nat.le_of_ble_eq_true rfl), hRp, va_S.rf, Nat.zero_add _, rfl⟩
  rw [lg_entry_eq]
  refine run_go (Q := lw_Z below #[Value.ref b] s) hok hG (d := 800) (fun y as h r h' hh => ev_sound2 hok hG hmt 800 y as h r h' hh) C (fun q h => h) (by decide) (by decide) (sz0 := s.heap.size) (sl0 := 0) (Nat.le_trans hz1 (Nat.add_le_add_right (Nat.le_of_ble_eq_true rfl) _)) (Nat.le_trans hz2 (Nat.le_of_ble_eq_true rfl)) ?_ n 0 _ [] _ hrun _ _ _ _ _ hP
  intro pc la ls st H locs cells slots P hret
  obtain ⟨-, hR', hS, c1, c2⟩ := P
  rcases hret with ⟨x9, ty, rfl, e9, hd, -, -⟩ | ⟨x9, rfl, e9, -, -⟩ | ⟨w9, rt, rfl, e9, q9, -, -, -⟩ | ⟨rfl, e9, -, -⟩
  · cases hr1.symm.trans e9
    refine va_forget (fun q hq => hS.2.2 q hq) ?_
    have k1 : 20000 ≤ room_1.cells := Nat.le_of_ble_eq_true rfl
    have k2 : 200000 ≤ room_1.slots := Nat.le_of_ble_eq_true rfl
    refine W.widen (k := room_1.cells) (n := room_1.slots) (by omega) (by omega) ?_
    exact lw_ret hx hb hr hlocks hd
  · cases hr1.symm.trans e9
  · cases hr1.symm.trans e9
    rcases q9 with q9 | ⟨a9, q9⟩ <;> cases q9
  · cases hr1.symm.trans e9
