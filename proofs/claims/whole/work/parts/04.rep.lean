/-! The small machine's state held against the JVM's. -/
abbrev MT : Type := Nat → MethodName × ByteArray × Nat × Option FieldType
def lw_gd : List Cond := lw_tbl.filter goodWord
def wsM (mt : MT) (y : Nat) : List Cond := .code (mt y).1 (mt y).2.1 (mt y).2.2.1 (mt y).2.2.2 :: lw_gd
def tyS : Nat → FieldType
  | 0 => .byte
  | 1 => .char
  | 2 => .int
  | 3 => .long
  | 4 => .object RX4
  | _ => .array .long
abbrev tysA (cy : Nat → ClassId) : List (ClassId × FieldType) := [(cy 0, .byte), (cy 1, .char), (cy 2, .int), (cy 3, .long), (cy 4, .object RX4), (cy 5, .array .long)]
def conc (cy : Nat → ClassId) : AE → va_E
  | .inl (k, a) => .inl (cy k, a)
  | .inr o => .inr o
/-- words that are carried on their own: nest mates, declared methods, casts -/
def spw : Cond → Bool
  | .methodLinkNest .. => true
  | .declares _ => true
  | .castable .. => true
  | _ => false
def lw_sp : List Cond := lw_tbl.filter spw
/-- the classes that are not TOLD -/
def ncL : List (String × String) := [(RX4, RX8), (RX6, RX8), (RX2, RX8), (RX3, RX8), (RX5, RX8), (RX1, RX8)]
/-- the String constants: their entry, their text, their place among the environment's values -/
def strL : List (Nat × String × Nat) := [(49, "press ", 1), (51, "hold ", 2), (53, "free ", 3), (82, "pkvswd", 4), (90, "<=>", 5)]
/-- the statics that are read -/
def stL (Ev : Nat → Value) : List (String × String × String × Value) := [(RX11, "ABOVE", "[I", Ev 0), (RJ0, "COMPACT_STRINGS", "Z", .int 1), ("jdk/internal/util/Preconditions", "SIOOBE_FORMATTER", "Ljava/util/function/BiFunction;", Ev 6)]
def aoL : List Cond := [.arrayOver (.object RX4), .arrayOver (.array .long)]
def SF (Ev : Nat → Value) (U : State) : Prop := (∀ w ∈ lw_sp, va_Nw w U) ∧ (∀ w ∈ aoL, w.before #[] U = true) ∧ (∀ q ∈ ncL, va_Nc q.1 q.2 U) ∧ ∀ q ∈ strL, ∃ a : Nat, Ev q.2.2 = .ref a ∧ vk_R RX0 q.1 q.2.1 a U
def roAt (e : AE) (a : Nat) (U : State) (H : Heap) : Prop := match e with
  | .inl (k, n, .inl f) => ∃ cell : Cell, H[a]? = some cell ∧ U.isArrayOf cell (tyS k) ∧ cell.vm ≠ .unknown ∧ n ≤ cell.slots.size ∧ cell.slots.size.toInt32 = Int32.ofNat n ∧ ∀ j : Nat, j < n → cell.slots[j]? = some (.int (f j))
  | .inr (_, fs) => (∃ cell : Cell, H[a]? = some cell ∧ cell.vm.isStatics = false ∧ U.vm.findClass RJ0 = some cell.cls) ∧ fs.length = 2 ∧ va_OF RJ0 "value" "[B" (fs.getD 0 .null) a (fun _ => False) U H ∧ va_OF RJ0 "coder" "B" (fs.getD 1 .null) a (fun _ => False) U H
  | _ => False
theorem ao_moved {u U : State} (hvm : u.vm.Alike U.vm) (h : ∀ w ∈ aoL, w.before #[] u = true) : ∀ w ∈ aoL, w.before #[] U = true := by
  intro w hw
  have hk := h w hw
  simp only [aoL, List.mem_cons, List.not_mem_nil, or_false] at hw
  rcases hw with rfl | rfl
  · exact va_AO.moved hvm hk
  · exact over_moved hvm hk
theorem SF.moved {Ev : Nat → Value} {s U : State} (hW : s.WarmedH U.vm) (h : SF Ev s) : SF Ev U := by
  obtain ⟨h1, h2, h3, h4⟩ := h
  refine ⟨fun w hw => ?_, ao_moved hW.alike h2, fun q hq => (h3 q hq).moved hW.alike, fun q hq => ?_⟩
  · have hk := h1 w hw
    have hs : spw w = true := (List.mem_filter.mp hw).2
    cases w <;> first | exact va_Nw.warmM hW hk | exact va_Nw.warmD hW hk | exact va_Nw.warmC hW hk | cases hs
  · obtain ⟨a, e1, e2⟩ := h4 q hq
    exact ⟨a, e1, e2.warm hW⟩
theorem SF.same {Ev : Nat → Value} {s U : State} (hv : U.vm = s.vm) (h : SF Ev s) : SF Ev U := by
  obtain ⟨h1, h2, h3, h4⟩ := h
  refine ⟨fun w hw => ?_, ao_moved (by rw [hv]; exact Vm.Alike.refl _) h2, fun q hq => (h3 q hq).moved (by rw [hv]; exact Vm.Alike.refl _), fun q hq => ?_⟩
  · have hk := h1 w hw
    have hs : spw w = true := (List.mem_filter.mp hw).2
    cases w <;> first | exact va_Nw.same rfl hv.symm hk | cases hs
  · obtain ⟨a, e1, e2⟩ := h4 q hq
    exact ⟨a, e1, e2.same hv⟩
theorem roAt.kept {e : AE} {a : Nat} {U : State} {H H' : Heap} (h : roAt e a U H) (hq : H'[a]? = H[a]?) : roAt e a U H' := by
  rcases e with ⟨k, n, f | f | f | f | f⟩ | ⟨ci, fs⟩
  · obtain ⟨cell, h1, h2⟩ := h
    exact ⟨cell, hq.trans h1, h2⟩
  · exact h
  · exact h
  · exact h
  · exact h
  · obtain ⟨⟨cell, h1, h2⟩, hl, ⟨cf, k, i, f, c1, a1, a2, a3, a4⟩, ⟨cf2, k2, i2, f2, c2, b1, b2, b3, b4⟩⟩ := h
    exact ⟨⟨cell, hq.trans h1, h2⟩, hl, ⟨cf, k, i, f, c1, a1, a2, hq.trans a3, a4⟩, ⟨cf2, k2, i2, f2, c2, b1, b2, hq.trans b3, b4⟩⟩
theorem roAt.lt {e : AE} {a : Nat} {U : State} {H : Heap} (h : roAt e a U H) : a < H.size := by
  rcases e with ⟨k, n, f | f | f | f | f⟩ | ⟨ci, fs⟩
  · obtain ⟨cell, h1, h2⟩ := h
    exact (Array.getElem?_eq_some_iff.mp h1).1
  · exact h.elim
  · exact h.elim
  · exact h.elim
  · exact h.elim
  · obtain ⟨⟨cell, h1, h2⟩, -⟩ := h
    exact (Array.getElem?_eq_some_iff.mp h1).1
theorem roAt.moved {e : AE} {a : Nat} {s U : State} {H : Heap} (hvm : s.vm.Alike U.vm) (h : roAt e a s H) : roAt e a U H := by
  rcases e with ⟨k, n, f | f | f | f | f⟩ | ⟨ci, fs⟩
  · obtain ⟨cell, h1, h2, h3⟩ := h
    exact ⟨cell, h1, State.isArrayOf_alike hvm h2, h3⟩
  · exact h
  · exact h
  · exact h
  · exact h
  · obtain ⟨⟨cell, h1, h2, h3⟩, hl, o1, o2⟩ := h
    exact ⟨⟨cell, h1, h2, by rw [hvm.findClass]; exact h3⟩, hl, o1.moved hvm, o2.moved hvm⟩
/-- locals -/
def LR (la : Array Slot) (n : Nat) (ls : Lc) : Prop := la.size = n ∧ lv_wf la ∧ ls.length = n ∧ ∀ (i : Nat) (v : Value), ls[i]? = some (some v) → la[i]? = some (.val v)
def asl (ls : Lc) : List (Nat × Value) := (List.range ls.length).filterMap (fun j => match ls[j]? with
  | some (some v) => some (j, v)
  | _ => none)
theorem mem_asl {ls : Lc} {j : Nat} {v : Value} : (j, v) ∈ asl ls ↔ ls[j]? = some (some v) := by
  unfold asl
  rw [List.mem_filterMap]
  constructor
  · rintro ⟨i, -, h⟩
    split at h
    · rename_i w hw
      cases h
      exact hw
    · cases h
  · intro h
    refine ⟨j, List.mem_range.mpr (List.getElem?_eq_some_iff.mp h).1, ?_⟩
    rw [h]
theorem LR.has {la : Array Slot} {n : Nat} {ls : Lc} (h : LR la n ls) : lv_has la n (asl ls) := ⟨h.1, h.2.1, fun q hq => h.2.2.2 q.1 q.2 (mem_asl.mp hq)⟩
theorem okp_cat {ls : Lc} {i j : Nat} {v : Value} (hp : okp ls i = true) (hj : ls[j]? = some (some v)) (hi : j + 1 = i) : ¬ v.category = 2 := by
  subst hi
  simp only [okp, hj] at hp
  cases v <;> simp_all [Value.category]
theorem LR.store1 {la la' : Array Slot} {n i : Nat} {ls : Lc} {v : Value} (h : LR la n ls) (hp : okp ls i = true) (h2 : lv_has la' n ((i, v) :: (asl ls).filter (fun q => !(q.1 == i) && !(q.1 + 1 == i && q.2.category == 2)))) : LR la' n (ls.set i (some v)) := by
  refine ⟨h2.1, h2.2.1, by rw [List.length_set]; exact h.2.2.1, fun j w hj => ?_⟩
  by_cases e : j = i
  · subst e
    rw [List.getElem?_set] at hj
    simp only [if_true] at hj
    split at hj
    · cases hj
      exact h2.2.2 (j, v) List.mem_cons_self
    · cases hj
  · rw [List.getElem?_set_ne (Ne.symm e)] at hj
    refine h2.2.2 (j, w) (List.mem_cons_of_mem _ (List.mem_filter.mpr ⟨mem_asl.mpr hj, ?_⟩))
    have := okp_cat hp hj
    by_cases e2 : j + 1 = i
    · simp [e, this e2]
    · simp [e, e2]
theorem LR.store2 {la la' : Array Slot} {n i : Nat} {ls : Lc} {v : Value} (h : LR la n ls) (hp : okp ls i = true) (h2 : lv_has la' n ((i, v) :: (asl ls).filter (fun q => !(q.1 == i) && (!(q.1 == i + 1) && !(q.1 + 1 == i && q.2.category == 2))))) : LR la' n ((ls.set i (some v)).set (i + 1) none) := by
  refine ⟨h2.1, h2.2.1, by rw [List.length_set, List.length_set]; exact h.2.2.1, fun j w hj => ?_⟩
  by_cases e1 : j = i + 1
  · subst e1
    rw [List.getElem?_set] at hj
    simp only [if_true] at hj
    split at hj
    · cases hj
    · cases hj
  · rw [List.getElem?_set_ne (Ne.symm e1)] at hj
    by_cases e : j = i
    · subst e
      rw [List.getElem?_set] at hj
      simp only [if_true] at hj
      split at hj
      · cases hj
        exact h2.2.2 (j, v) List.mem_cons_self
      · cases hj
    · rw [List.getElem?_set_ne (Ne.symm e)] at hj
      refine h2.2.2 (j, w) (List.mem_cons_of_mem _ (List.mem_filter.mpr ⟨mem_asl.mpr hj, ?_⟩))
      have := okp_cat hp hj
      by_cases e2 : j + 1 = i
      · simp [e, e1, this e2]
      · simp [e, e1, e2]
/-- the small machine's heap h is what the JVM's heap H holds, as far as the program goes -/
def Rp (V : Nat → Option AE) (Ev : Nat → Value) (D : va_G) (cy : Nat → ClassId) (A : Nat → Prop) (h : HS) (U : State) (H : Heap) : Prop :=
  H.size = h.2.1 ∧ va_K D vwCl (tysA cy) U ∧ SF Ev U ∧ (∀ (a : Nat) (e : AE), h.1 a = some e → va_at D vwCl (a, conc cy e) H ∧ A a) ∧ (∀ (a : Nat) (e : AE), V (2 * a) = some e ∨ V (2 * a + 1) = some e → roAt e a U H ∧ ¬ A a) ∧ ∀ q ∈ stL Ev, va_Z q.1 q.2.1 q.2.2.1 q.2.2.2 A U H
theorem Rp.put {V : Nat → Option AE} {Ev : Nat → Value} {D : va_G} {cy : Nat → ClassId} {A : Nat → Prop} {h : HS} {U : State} {H H' : Heap} {a : Nat} {e e' : AE} (hR : Rp V Ev D cy A h U H) (ha : h.1 a = some e) (hat : va_at D vwCl (a, conc cy e') H') (z : H'.size = H.size) (oq : ∀ q : Nat, q ≠ a → H'[q]? = H[q]?) : Rp V Ev D cy A (hput h a e') U H' := by
  obtain ⟨h1, h2, h3, h4, h5, h6⟩ := hR
  have hAa := (h4 a e ha).2
  refine ⟨z.trans h1, h2, h3, fun b x hb => ?_, fun b x hb => ?_, fun q hq => (h6 q hq).kept (fun b _ hb => oq b (fun e => hb (by rw [e]; exact hAa)))⟩
  · by_cases eb : b = a
    · subst eb
      simp only [hput, va_up, if_true] at hb
      cases hb
      exact ⟨hat, hAa⟩
    · simp only [hput, va_up, if_neg eb] at hb
      obtain ⟨g1, g2⟩ := h4 b x hb
      exact ⟨g1.kept (oq b eb), g2⟩
  · obtain ⟨g1, g2⟩ := h5 b x hb
    exact ⟨g1.kept (oq b (fun e => g2 (by rw [e]; exact hAa))), g2⟩
theorem Rp.push {V : Nat → Option AE} {Ev : Nat → Value} {D : va_G} {cy : Nat → ClassId} {A : Nat → Prop} {h : HS} {U : State} {H H' : Heap} {e' : AE} {n : Nat} (hR : Rp V Ev D cy A h U H) (hat : va_at D vwCl (h.2.1, conc cy e') H') (hA : A h.2.1) (z : H'.size = H.size + 1) (oq : ∀ q : Nat, q < H.size → H'[q]? = H[q]?) : Rp V Ev D cy A (hnew h e' n) U H' := by
  obtain ⟨h1, h2, h3, h4, h5, h6⟩ := hR
  refine ⟨by rw [z, h1]; rfl, h2, h3, fun b x hb => ?_, fun b x hb => ?_, fun q hq => (h6 q hq).kept (fun b hb _ => oq b hb)⟩
  · by_cases eb : b = h.2.1
    · subst eb
      simp only [hnew, va_up, if_true] at hb
      cases hb
      exact ⟨hat, hA⟩
    · simp only [hnew, va_up, if_neg eb] at hb
      obtain ⟨g1, g2⟩ := h4 b x hb
      exact ⟨g1.kept (oq b g1.lt), g2⟩
  · obtain ⟨g1, g2⟩ := h5 b x hb
    exact ⟨g1.kept (oq b g1.lt), g2⟩
/-- what a method may write: the cells that are there, and new ones -/
def frH (h : HS) : Nat → Prop := fun q => (∃ e, h.1 q = some e) ∨ h.2.1 ≤ q
def rmD (d mc ms : Nat) : Room := { frames := d, cells := mc, slots := ms, locals := 100 * d }
def QcH (D : va_G) (cy : Nat → ClassId) (h : HS) (r : Option Value) (h' : HS) : Array Value → State → Outcome → State → Prop := fun _ st o t =>
  o = .returned r ∧ t.heap.size = h'.2.1 ∧ (∀ (a : Nat) (e : AE), h'.1 a = some e → va_at D vwCl (a, conc cy e) t.heap ∧ frH h a) ∧ va_F (frH h) st t
def PcH (V : Nat → Option AE) (Ev : Nat → Value) (D : va_G) (cy : Nat → ClassId) (h : HS) (as : List Value) : Array Value → State → Prop := va_Pc as (fun U => Rp V Ev D cy (frH h) h U U.heap)
/-- a method's contract: from h with these arguments it comes to r and h' -/
def CM (mt : MT) (V : Nat → Option AE) (Ev : Nat → Value) (D : va_G) (cy : Nat → ClassId) (l : Launch) (d y : Nat) (as : List Value) (h : HS) (r : Option Value) (h' : HS) : Prop :=
  h.2.1 ≤ h'.2.1 ∧ h.2.2 ≤ h'.2.2 ∧ (mt y).2.2.1 ≤ 60 ∧ Met l (mt y).1 (wsM mt y) (rmD d (h'.2.1 - h.2.1) (h'.2.2 - h.2.2)) (PcH V Ev D cy h as) (QcH D cy h r h') (h'.2.1 - h.2.1) (h'.2.2 - h.2.2) (frH h)
