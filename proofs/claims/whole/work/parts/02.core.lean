/-! A small machine beside the JVM: cells by address, operations as functions, a run with fuel; later each operation is held against the machine's own instruction. -/
/-- a cell: .inl (sort of array, length, contents), .inr (class, fields) -/
abbrev AE : Type := (Nat × vp_A) ⊕ (Nat × List Value)
/-- cells by address; the heap's size; slots made so far (V, later: what is only read: an array at a by 2 a, a string at a by 2 a + 1) -/
abbrev HS : Type := (Nat → Option AE) × Nat × Nat
abbrev Lc : Type := List (Option Value)
/-- what an operation comes to: the next place, an end, or a call (method, arguments, what stays on the stack) -/
abbrev Rs : Type := (Nat × Lc × List Value × HS) ⊕ (Option Value ⊕ (Nat × List Value × List Value))
abbrev Op : Type := (Nat → Option AE) → Nat → Lc → List Value → HS → Option Rs
abbrev nx (pc : Nat) (ls : Lc) (st : List Value) (h : HS) : Option Rs := some (.inl (pc, ls, st, h))
def lk (V : Nat → Option AE) (h : HS) (a : Nat) : Option AE := match h.1 a with
  | some e => some e
  | none => V (2 * a)
def hput (h : HS) (a : Nat) (e : AE) : HS := (va_up h.1 a (some e), h.2.1, h.2.2)
def hnew (h : HS) (e : AE) (n : Nat) : HS := (va_up h.1 h.2.1 (some e), h.2.1 + 1, h.2.2 + n)
/-- a place may be written: what stands before it is not the first half of a long -/
def okp (ls : Lc) (i : Nat) : Bool := match i with
  | 0 => true
  | j + 1 => match ls[j]? with
    | some (some (.long _)) => false
    | some (some (.double _)) => false
    | _ => true
def o_push (v : Value) (len : Nat) : Op := fun _ pc ls st h => nx (pc + len) ls (v :: st) h
def o_iload (i len : Nat) : Op := fun _ pc ls st h => match ls[i]? with
  | some (some (.int x)) => nx (pc + len) ls (.int x :: st) h
  | _ => none
def o_lload (i len : Nat) : Op := fun _ pc ls st h => match ls[i]? with
  | some (some (.long x)) => nx (pc + len) ls (.long x :: st) h
  | _ => none
def o_aload (i len : Nat) : Op := fun _ pc ls st h => match ls[i]? with
  | some (some (.ref x)) => nx (pc + len) ls (.ref x :: st) h
  | some (some .null) => nx (pc + len) ls (.null :: st) h
  | _ => none
def o_istore (i len : Nat) : Op := fun _ pc ls st h => match st with
  | .int x :: r => if i < ls.length ∧ okp ls i = true then nx (pc + len) (ls.set i (some (.int x))) r h else none
  | _ => none
def o_astore (i len : Nat) : Op := fun _ pc ls st h => match st with
  | .ref x :: r => if i < ls.length ∧ okp ls i = true then nx (pc + len) (ls.set i (some (.ref x))) r h else none
  | .null :: r => if i < ls.length ∧ okp ls i = true then nx (pc + len) (ls.set i (some .null)) r h else none
  | _ => none
def o_lstore (i len : Nat) : Op := fun _ pc ls st h => match st with
  | .long x :: r => if i + 1 < ls.length ∧ okp ls i = true then nx (pc + len) ((ls.set i (some (.long x))).set (i + 1) none) r h else none
  | _ => none
def o_iinc (i : Nat) (k : Int32) : Op := fun _ pc ls st h => match ls[i]? with
  | some (some (.int x)) => nx (pc + 3) (ls.set i (some (.int (x + k)))) st h
  | _ => none
/-- two ints to one -/
def o_ib (f : Int32 → Int32 → Int32) : Op := fun _ pc ls st h => match st with
  | .int y :: .int x :: r => nx (pc + 1) ls (.int (f x y) :: r) h
  | _ => none
def o_ibz (f : Int32 → Int32 → Int32) : Op := fun _ pc ls st h => match st with
  | .int y :: .int x :: r => if y = 0 then none else nx (pc + 1) ls (.int (f x y) :: r) h
  | _ => none
def o_iu (f : Int32 → Int32) : Op := fun _ pc ls st h => match st with
  | .int x :: r => nx (pc + 1) ls (.int (f x) :: r) h
  | _ => none
def o_i2l : Op := fun _ pc ls st h => match st with
  | .int x :: r => nx (pc + 1) ls (.long x.toInt64 :: r) h
  | _ => none
def o_l2i : Op := fun _ pc ls st h => match st with
  | .long x :: r => nx (pc + 1) ls (.int x.toInt32 :: r) h
  | _ => none
def o_lb (f : Int64 → Int64 → Int64) : Op := fun _ pc ls st h => match st with
  | .long y :: .long x :: r => nx (pc + 1) ls (.long (f x y) :: r) h
  | _ => none
def o_lbz (f : Int64 → Int64 → Int64) : Op := fun _ pc ls st h => match st with
  | .long y :: .long x :: r => if y = 0 then none else nx (pc + 1) ls (.long (f x y) :: r) h
  | _ => none
def o_lshl : Op := fun _ pc ls st h => match st with
  | .int y :: .long x :: r => nx (pc + 1) ls (.long (x <<< (y.toInt64 &&& 63)) :: r) h
  | _ => none
def o_lcmp : Op := fun _ pc ls st h => match st with
  | .long y :: .long x :: r => nx (pc + 1) ls (.int (lg_cmp x y) :: r) h
  | _ => none
def is1 : Value → Bool
  | .int _ => true
  | .ref _ => true
  | .null => true
  | _ => false
def o_dup : Op := fun _ pc ls st h => match st with
  | v :: r => if is1 v = true then nx (pc + 1) ls (v :: v :: r) h else none
  | _ => none
def o_pop : Op := fun _ pc ls st h => match st with
  | v :: r => if is1 v = true then nx (pc + 1) ls r h else none
  | _ => none
def o_dup2 : Op := fun _ pc ls st h => match st with
  | v :: w :: r => if is1 v = true ∧ is1 w = true then nx (pc + 1) ls (v :: w :: v :: w :: r) h else none
  | _ => none
def o_if1 (f : Int32 → Bool) (tgt : Nat) : Op := fun _ pc ls st h => match st with
  | .int x :: r => if f x = true then nx tgt ls r h else nx (pc + 3) ls r h
  | _ => none
def o_if2 (f : Int32 → Int32 → Bool) (tgt : Nat) : Op := fun _ pc ls st h => match st with
  | .int y :: .int x :: r => if f x y = true then nx tgt ls r h else nx (pc + 3) ls r h
  | _ => none
def o_goto (tgt : Nat) : Op := fun _ _ ls st h => nx tgt ls st h
def o_ifnull (tgt : Nat) : Op := fun _ pc ls st h => match st with
  | .null :: r => nx tgt ls r h
  | .ref _ :: r => nx (pc + 3) ls r h
  | _ => none
def o_ifnonnull (tgt : Nat) : Op := fun _ pc ls st h => match st with
  | .null :: r => nx (pc + 3) ls r h
  | .ref _ :: r => nx tgt ls r h
  | _ => none
def swl (d : Nat) (x : Int32) : List (Int32 × Nat) → Nat
  | [] => d
  | q :: l => if x = q.1 then q.2 else swl d x l
def o_sw (d : Nat) (l : List (Int32 × Nat)) : Op := fun _ _ ls st h => match st with
  | .int x :: r => nx (swl d x l) ls r h
  | _ => none
def o_getf (k : Nat) (cs : List Nat) : Op := fun _ pc ls st h => match st with
  | .ref a :: r => match h.1 a with
    | some (.inr (ci, vs)) => if ci ∈ cs then match vs[k]? with
      | some v => nx (pc + 3) ls (v :: r) h
      | none => none
      else none
    | _ => none
  | _ => none
/-- a field of a string -/
def o_gets (k : Nat) : Op := fun V pc ls st h => match st with
  | .ref a :: r => match V (2 * a + 1) with
    | some (.inr (_, vs)) => match vs[k]? with
      | some v => nx (pc + 3) ls (v :: r) h
      | none => none
    | _ => none
  | _ => none
/-- what a field takes: 0 ints, 1 booleans, 2 references -/
def okv (t : Nat) (v : Value) : Bool := match t, v with
  | 0, .int _ => true
  | 1, .int x => x == 0 || x == 1
  | 2, .ref _ => true
  | 2, .null => true
  | _, _ => false
def o_putf (k : Nat) (cs : List Nat) (t : Nat) : Op := fun _ pc ls st h => match st with
  | v :: .ref a :: r => match h.1 a with
    | some (.inr (ci, vs)) => if ci ∈ cs ∧ k < vs.length ∧ okv t v = true then nx (pc + 3) ls r (hput h a (.inr (ci, vs.set k v))) else none
    | _ => none
  | _ => none
/-- an int out of an array of sort k -/
def o_iald (k : Nat) : Op := fun V pc ls st h => match st with
  | .int i :: .ref a :: r => match lk V h a with
    | some (.inl (k', n, .inl f)) => if k' = k then (if i < 0 ∨ n ≤ i.toNatClampNeg then none else nx (pc + 1) ls (.int (f i.toNatClampNeg) :: r) h) else none
    | _ => none
  | _ => none
def o_lald : Op := fun _ pc ls st h => match st with
  | .int i :: .ref a :: r => match h.1 a with
    | some (.inl (3, n, .inr (.inl f))) => if i < 0 ∨ n ≤ i.toNatClampNeg then none else nx (pc + 1) ls (.long (f i.toNatClampNeg) :: r) h
    | _ => none
  | _ => none
def o_aald : Op := fun _ pc ls st h => match st with
  | .int i :: .ref a :: r => match h.1 a with
    | some (.inl (k, n, .inr (.inr (.inr (.inr f))))) => if k = 4 ∨ k = 5 then (if i < 0 ∨ n ≤ i.toNatClampNeg then none else nx (pc + 1) ls (va_rf (f i.toNatClampNeg) :: r) h) else none
    | _ => none
  | _ => none
/-- into an array of sort k, narrowed by nw -/
def o_iast (k : Nat) (nw : Int32 → Int32) : Op := fun _ pc ls st h => match st with
  | .int x :: .int i :: .ref a :: r => match h.1 a with
    | some (.inl (k', n, .inl f)) => if k' = k then (if i < 0 ∨ n ≤ i.toNatClampNeg then none else nx (pc + 1) ls r (hput h a (.inl (k', n, .inl (upd f i.toNatClampNeg (nw x)))))) else none
    | _ => none
  | _ => none
def o_last : Op := fun _ pc ls st h => match st with
  | .long x :: .int i :: .ref a :: r => match h.1 a with
    | some (.inl (3, n, .inr (.inl f))) => if i < 0 ∨ n ≤ i.toNatClampNeg then none else nx (pc + 1) ls r (hput h a (.inl (3, n, .inr (.inl (vp_updL f i.toNatClampNeg x)))))
    | _ => none
  | _ => none
/-- an object of one of the classes cs into an array of sort 4 -/
def o_aast (cs : List Nat) : Op := fun _ pc ls st h => match st with
  | .ref v :: .int i :: .ref a :: r => match h.1 a, h.1 v with
    | some (.inl (4, n, .inr (.inr (.inr (.inr f))))), some (.inr (ci, _)) => if ci ∈ cs then (if i < 0 ∨ n ≤ i.toNatClampNeg then none else nx (pc + 1) ls r (hput h a (.inl (4, n, .inr (.inr (.inr (.inr (va_up f i.toNatClampNeg (some v)))))))))  else none
    | _, _ => none
  | _ => none
def o_alen : Op := fun V pc ls st h => match st with
  | .ref a :: r => match lk V h a with
    | some (.inl (k, n, _)) => if k < 6 then nx (pc + 1) ls (.int (Int32.ofNat n) :: r) h else none
    | _ => none
  | _ => none
/-- a new array of sort k; z: its contents -/
def o_newa (k : Nat) (z : (Nat → Int32) ⊕ (Nat → Int64) ⊕ (Nat → UInt32) ⊕ (Nat → UInt64) ⊕ (Nat → Option Nat)) (len : Nat) : Op := fun _ pc ls st h => match st with
  | .int n :: r => if n < 0 ∨ 1000 < n.toNatClampNeg then none else nx (pc + len) ls (.ref h.2.1 :: r) (hnew h (.inl (k, n.toNatClampNeg, z)) n.toNatClampNeg)
  | _ => none
def o_new (ci : Nat) (fs : List Value) : Op := fun _ pc ls st h => nx (pc + 3) ls (.ref h.2.1 :: st) (hnew h (.inr (ci, fs)) fs.length)
/-- rows h + 1 .. h + n of k longs -/
def hrows (h : HS) (k : Nat) : Nat → HS
  | 0 => h
  | n + 1 => hnew (hrows h k n) (.inl (3, k, .inr (.inl (fun _ => 0)))) k
/-- new long[n][k] -/
def o_mna : Op := fun _ pc ls st h => match st with
  | .int k :: .int n :: r => if n < 0 ∨ k < 0 ∨ 1000 < n.toNatClampNeg ∨ 1000 < k.toNatClampNeg then none else
    nx (pc + 4) ls (.ref h.2.1 :: r) (hrows (hnew h (.inl (5, n.toNatClampNeg, .inr (.inr (.inr (.inr (fun i => if i < n.toNatClampNeg then some (h.2.1 + 1 + i) else none)))))) n.toNatClampNeg) k.toNatClampNeg n.toNatClampNeg)
  | _ => none
def o_inst (ys ns : List Nat) : Op := fun _ pc ls st h => match st with
  | .null :: r => nx (pc + 3) ls (.int 0 :: r) h
  | .ref a :: r => match h.1 a with
    | some (.inr (ci, _)) => if ci ∈ ys then nx (pc + 3) ls (.int 1 :: r) h else if ci ∈ ns then nx (pc + 3) ls (.int 0 :: r) h else none
    | _ => none
  | _ => none
def o_cast (ys : List Nat) : Op := fun _ pc ls st h => match st with
  | .null :: r => nx (pc + 3) ls (.null :: r) h
  | .ref a :: r => match h.1 a with
    | some (.inr (ci, _)) => if ci ∈ ys then nx (pc + 3) ls (.ref a :: r) h else none
    | _ => none
  | _ => none
/-- Object.<init> -/
def o_oi : Op := fun _ pc ls st h => match st with
  | .ref _ :: r => if r.length ≤ 4 then nx (pc + 3) ls r h else none
  | _ => none
/-- a static method of n arguments, or <init> (n counts the object) -/
def o_cs (y n : Nat) : Op := fun _ _ _ st _ => if n ≤ st.length ∧ (st.drop n).length ≤ 4 then some (.inr (.inr (y, (st.take n).reverse, st.drop n))) else none
/-- <init>: the object below n arguments -/
def o_ci (y n : Nat) : Op := fun _ _ _ st _ => match st[n]? with
  | some (.ref _) => if (st.drop (n + 1)).length ≤ 4 then some (.inr (.inr (y, (st.take (n + 1)).reverse, st.drop (n + 1)))) else none
  | _ => none
def tabl (tab : List (Nat × Nat)) (ci : Nat) : Option Nat := match tab with
  | [] => none
  | q :: l => if ci = q.1 then some q.2 else tabl l ci
/-- a method of an object below n arguments, by the object's class -/
def o_cv (tab : List (Nat × Nat)) (n : Nat) : Op := fun _ _ _ st h => match st[n]? with
  | some (.ref b) => match h.1 b with
    | some (.inr (ci, _)) => match tabl tab ci with
      | some y => if (st.drop (n + 1)).length ≤ 4 then some (.inr (.inr (y, (st.take (n + 1)).reverse, st.drop (n + 1)))) else none
      | none => none
    | _ => none
  | _ => none
/-- a method of a string below n arguments -/
def o_cstr (y n : Nat) : Op := fun V _ _ st _ => match st[n]? with
  | some (.ref b) => match V (2 * b + 1) with
    | some (.inr _) => if (st.drop (n + 1)).length ≤ 4 then some (.inr (.inr (y, (st.take (n + 1)).reverse, st.drop (n + 1)))) else none
    | _ => none
  | _ => none
/-- an end: t 0 int, 1 boolean, 2 long, 3 reference, 4 char, 5 byte -/
def okr (t : Nat) (v : Value) : Bool := match t, v with
  | 0, .int _ => true
  | 1, .int x => x == 0 || x == 1
  | 2, .long _ => true
  | 3, .ref _ => true
  | 3, .null => true
  | 4, .int x => x == (x.toUInt32 % 65536).toInt32
  | 5, .int x => x == x.toInt8.toInt32
  | _, _ => false
def o_ret (t : Nat) : Op := fun _ _ _ st _ => match st with
  | [v] => if okr t v = true then some (.inr (.inl (some v))) else none
  | _ => none
def o_retv : Op := fun _ _ _ st _ => match st with
  | [] => some (.inr (.inl none))
  | _ => none
def o_bad : Op := fun _ _ _ _ _ => none
/-- System.arraycopy between arrays of ints -/
def o_cpyi : Op := fun _ pc ls st h => match st with
  | .int n :: .int dp :: .ref b :: .int sp :: .ref a :: r => match h.1 a, h.1 b with
    | some (.inl (2, n0, .inl f)), some (.inl (2, n1, .inl g)) => if sp < 0 ∨ dp < 0 ∨ n < 0 ∨ n0 < sp.toNatClampNeg + n.toNatClampNeg ∨ n1 < dp.toNatClampNeg + n.toNatClampNeg ∨ 4 < r.length then none else
      nx (pc + 3) ls r (hput h b (.inl (2, n1, .inl (va_cpy f g sp.toNatClampNeg dp.toNatClampNeg n.toNatClampNeg))))
    | _, _ => none
  | _ => none
def o_cpyl : Op := fun _ pc ls st h => match st with
  | .int n :: .int dp :: .ref b :: .int sp :: .ref a :: r => match h.1 a, h.1 b with
    | some (.inl (3, n0, .inr (.inl f))), some (.inl (3, n1, .inr (.inl g))) => if sp < 0 ∨ dp < 0 ∨ n < 0 ∨ n0 < sp.toNatClampNeg + n.toNatClampNeg ∨ n1 < dp.toNatClampNeg + n.toNatClampNeg ∨ 4 < r.length then none else
      nx (pc + 3) ls r (hput h b (.inl (3, n1, .inr (.inl (va_cpy f g sp.toNatClampNeg dp.toNatClampNeg n.toNatClampNeg)))))
    | _, _ => none
  | _ => none
abbrev Ou : Type := Option Value × HS
def run (V : Nat → Option AE) (cd : Nat → Nat → Option Op) (call : Nat → List Value → HS → Option Ou) (y : Nat) : Nat → Nat → Lc → List Value → HS → Option Ou
  | 0, _, _, _, _ => none
  | n + 1, pc, ls, st, h => match cd y pc with
    | none => none
    | some op => match op V pc ls st h with
      | none => none
      | some (.inl (pc', ls', st', h')) => run V cd call y n pc' ls' st' h'
      | some (.inr (.inl v)) => some (v, h)
      | some (.inr (.inr (y', as, rest))) => match call y' as h with
        | none => none
        | some (r, h') => run V cd call y n (pc + 3) ls (r.toList ++ rest) h'
def lay : List Value → Lc
  | [] => []
  | v :: vs => if v.category = 2 then some v :: none :: lay vs else some v :: lay vs
def entry (mx : Nat) (as : List Value) : Lc := lay as ++ List.replicate (mx - (lay as).length) none
def ev (V : Nat → Option AE) (cd : Nat → Nat → Option Op) (mx : Nat → Nat) (F : Nat) : Nat → Nat → List Value → HS → Option Ou
  | 0, _, _, _ => none
  | d + 1, y, as, h => if (lay as).length ≤ mx y then run V cd (ev V cd mx F d) y F 0 (entry (mx y) as) [] h else none
/-- more steps do no harm -/
theorem run_mono {V : Nat → Option AE} {cd : Nat → Nat → Option Op} {c1 c2 : Nat → List Value → HS → Option Ou} (hc : ∀ y as h o, c1 y as h = some o → c2 y as h = some o) {y : Nat} : ∀ (n m : Nat), n ≤ m → ∀ (pc : Nat) (ls : Lc) (st : List Value) (h : HS) (o : Ou), run V cd c1 y n pc ls st h = some o → run V cd c2 y m pc ls st h = some o := by
  intro n
  induction n with
  | zero =>
    intro m _ pc ls st h o e
    simp [run] at e
  | succ n ih =>
    intro m hm pc ls st h o e
    obtain ⟨m, rfl⟩ : ∃ k, m = k + 1 := ⟨m - 1, by omega⟩
    simp only [run] at e ⊢
    cases hcd : cd y pc with
    | none => rw [hcd] at e; cases e
    | some op =>
      rw [hcd] at e
      simp only at e ⊢
      cases hop : op V pc ls st h with
      | none => rw [hop] at e; cases e
      | some r =>
        rw [hop] at e
        rcases r with ⟨pc', ls', st', h'⟩ | v | ⟨y', as, rest⟩
        · simp only at e ⊢
          exact ih m (by omega) _ _ _ _ _ e
        · exact e
        · simp only at e ⊢
          cases hca : c1 y' as h with
          | none => rw [hca] at e; cases e
          | some o1 =>
            rw [hca] at e
            rw [hc _ _ _ _ hca]
            obtain ⟨r1, h1⟩ := o1
            exact ih m (by omega) _ _ _ _ _ e
theorem ev_mono {V : Nat → Option AE} {cd : Nat → Nat → Option Op} {mx : Nat → Nat} {F G : Nat} (hF : F ≤ G) : ∀ (d d' : Nat), d ≤ d' → ∀ (y : Nat) (as : List Value) (h : HS) (o : Ou), ev V cd mx F d y as h = some o → ev V cd mx G d' y as h = some o := by
  intro d
  induction d with
  | zero =>
    intro d' _ y as h o e
    simp [ev] at e
  | succ d ih =>
    intro d' hd y as h o e
    obtain ⟨d', rfl⟩ : ∃ k, d' = k + 1 := ⟨d' - 1, by omega⟩
    simp only [ev] at e ⊢
    by_cases hl : (lay as).length ≤ mx y
    · rw [if_pos hl] at e ⊢
      exact run_mono (fun y as h o => ih d' (by omega) y as h o) F G hF _ _ _ _ _ e
    · rw [if_neg hl] at e
      cases e
