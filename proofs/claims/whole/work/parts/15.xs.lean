/-! Steps of the small machine as equations, for rewriting. -/
def nl : Option Value → Bool
  | some (.long _) => false
  | some (.double _) => false
  | _ => true
theorem nl_int {x : Int32} : nl (some (.int x)) = true := rfl
theorem nl_ref {a : Nat} : nl (some (.ref a)) = true := rfl
theorem nl_null : nl (some .null) = true := rfl
theorem nl_none : nl none = true := rfl
theorem okp_nl {ls : Lc} {j : Nat} {l : Option Value} (hj : ls[j]? = some l) (hn : nl l = true) : okp ls (j + 1) = true := by
  simp only [okp, hj]
  cases l with
  | none => rfl
  | some v => cases v <;> first | rfl | cases hn
/-- an index in its range -/
def ix (i : Int32) (n : Nat) : Prop := ¬ (i < 0 ∨ n ≤ i.toNatClampNeg)
def gf (cs : List Nat) (k : Nat) (h : HS) (a : Nat) (K : Value → Prop) : Prop := match h.1 a with
  | some (.inr (ci, vs)) => if ci ∈ cs then match vs[k]? with
    | some v => K v
    | none => False
    else False
  | _ => False
def gs (k : Nat) (V : Nat → Option AE) (a : Nat) (K : Value → Prop) : Prop := match V (2 * a + 1) with
  | some (.inr (_, vs)) => match vs[k]? with
    | some v => K v
    | none => False
  | _ => False
def pf (cs : List Nat) (k t : Nat) (v : Value) (h : HS) (a : Nat) (K : HS → Prop) : Prop := match h.1 a with
  | some (.inr (ci, vs)) => if ci ∈ cs ∧ k < vs.length ∧ okv t v = true then K (hput h a (.inr (ci, vs.set k v))) else False
  | _ => False
def ai (k : Nat) (i : Int32) (V : Nat → Option AE) (h : HS) (a : Nat) (K : Int32 → Prop) : Prop := match lk V h a with
  | some (.inl (k', n, .inl f)) => k' = k ∧ ix i n ∧ K (f i.toNatClampNeg)
  | _ => False
def al (i : Int32) (h : HS) (a : Nat) (K : Int64 → Prop) : Prop := match h.1 a with
  | some (.inl (3, n, .inr (.inl f))) => ix i n ∧ K (f i.toNatClampNeg)
  | _ => False
def aa (i : Int32) (h : HS) (a : Nat) (K : Value → Prop) : Prop := match h.1 a with
  | some (.inl (k, n, .inr (.inr (.inr (.inr f))))) => (k = 4 ∨ k = 5) ∧ ix i n ∧ K (va_rf (f i.toNatClampNeg))
  | _ => False
def si (k : Nat) (i x : Int32) (h : HS) (a : Nat) (K : HS → Prop) : Prop := match h.1 a with
  | some (.inl (k', n, .inl f)) => k' = k ∧ ix i n ∧ K (hput h a (.inl (k', n, .inl (upd f i.toNatClampNeg x))))
  | _ => False
def sl (i : Int32) (x : Int64) (h : HS) (a : Nat) (K : HS → Prop) : Prop := match h.1 a with
  | some (.inl (3, n, .inr (.inl f))) => ix i n ∧ K (hput h a (.inl (3, n, .inr (.inl (vp_updL f i.toNatClampNeg x)))))
  | _ => False
def sa (cs : List Nat) (i : Int32) (v : Nat) (h : HS) (a : Nat) (K : HS → Prop) : Prop := match h.1 a, h.1 v with
  | some (.inl (4, n, .inr (.inr (.inr (.inr f))))), some (.inr (ci, _)) => ci ∈ cs ∧ ix i n ∧ K (hput h a (.inl (4, n, .inr (.inr (.inr (.inr (va_up f i.toNatClampNeg (some v))))))))
  | _, _ => False
def ln (V : Nat → Option AE) (h : HS) (a : Nat) (K : Int32 → Prop) : Prop := match lk V h a with
  | some (.inl (k, n, _)) => k < 6 ∧ K (Int32.ofNat n)
  | _ => False
def io (ys ns : List Nat) (h : HS) (a : Nat) (K : Int32 → Prop) : Prop := match h.1 a with
  | some (.inr (ci, _)) => if ci ∈ ys then K 1 else if ci ∈ ns then K 0 else False
  | _ => False
def co (ys : List Nat) (h : HS) (a : Nat) (K : Prop) : Prop := match h.1 a with
  | some (.inr (ci, _)) => ci ∈ ys ∧ K
  | _ => False
def cv (tab : List (Nat × Nat)) (h : HS) (b : Nat) (K : Nat → Prop) : Prop := match h.1 b with
  | some (.inr (ci, _)) => match tabl tab ci with
    | some y => K y
    | none => False
  | _ => False
def cstr (V : Nat → Option AE) (b : Nat) (K : Prop) : Prop := match V (2 * b + 1) with
  | some (.inr _) => K
  | _ => False
def ci2 (h : HS) (a b : Nat) (n dp sp : Int32) (K : HS → Prop) : Prop := match h.1 a, h.1 b with
  | some (.inl (2, n0, .inl f)), some (.inl (2, n1, .inl g)) => ¬ (sp < 0 ∨ dp < 0 ∨ n < 0 ∨ n0 < sp.toNatClampNeg + n.toNatClampNeg ∨ n1 < dp.toNatClampNeg + n.toNatClampNeg) ∧ K (hput h b (.inl (2, n1, .inl (va_cpy f g sp.toNatClampNeg dp.toNatClampNeg n.toNatClampNeg))))
  | _, _ => False
def cl2 (h : HS) (a b : Nat) (n dp sp : Int32) (K : HS → Prop) : Prop := match h.1 a, h.1 b with
  | some (.inl (3, n0, .inr (.inl f))), some (.inl (3, n1, .inr (.inl g))) => ¬ (sp < 0 ∨ dp < 0 ∨ n < 0 ∨ n0 < sp.toNatClampNeg + n.toNatClampNeg ∨ n1 < dp.toNatClampNeg + n.toNatClampNeg) ∧ K (hput h b (.inl (3, n1, .inr (.inl (va_cpy f g sp.toNatClampNeg dp.toNatClampNeg n.toNatClampNeg)))))
  | _, _ => False
def rts (r : Option Value) (st : List Value) : List Value := r.toList ++ st
theorem rts_some {v : Value} {st : List Value} : rts (some v) st = v :: st := rfl
theorem rts_none {st : List Value} : rts none st = st := rfl
def swp (K : Nat → Prop) (d : Nat) (x : Int32) : List (Int32 × Nat) → Prop
  | [] => K d
  | q :: l => if x = q.1 then K q.2 else swp K d x l
theorem swl_K (K : Nat → Prop) (d : Nat) (x : Int32) (l : List (Int32 × Nat)) : K (swl d x l) = swp K d x l := by
  induction l with
  | nil => rfl
  | cons q l ih =>
    simp only [swl, swp]
    split
    · rfl
    · exact ih
section XS
variable {V : Nat → Option AE} {Ev : Nat → Value} {d y pc : Nat} {ls ls' : Lc} {st : List Value} {h : HS} {Q : Option Value → HS → Prop}
theorem x_push {v : Value} {len : Nat} (hop : cdT Ev y pc = some (o_push v len)) : wp V (cdT Ev) mx d y pc ls st h Q = wp V (cdT Ev) mx d y (pc + len) ls (v :: st) h Q := propext (wp_step hop)
theorem x_goto {t : Nat} (hop : cdT Ev y pc = some (o_goto t)) : wp V (cdT Ev) mx d y pc ls st h Q = wp V (cdT Ev) mx d y t ls st h Q := propext (wp_step hop)
theorem x_iload {i len : Nat} {x : Int32} (hop : cdT Ev y pc = some (o_iload i len)) (hl : ls[i]? = some (some (.int x))) : wp V (cdT Ev) mx d y pc ls st h Q = wp V (cdT Ev) mx d y (pc + len) ls (.int x :: st) h Q := (propext (wp_step hop)).trans (by simp only [o_iload, hl, wpo])
theorem x_lload {i len : Nat} {x : Int64} (hop : cdT Ev y pc = some (o_lload i len)) (hl : ls[i]? = some (some (.long x))) : wp V (cdT Ev) mx d y pc ls st h Q = wp V (cdT Ev) mx d y (pc + len) ls (.long x :: st) h Q := (propext (wp_step hop)).trans (by simp only [o_lload, hl, wpo])
theorem x_aload {i len : Nat} {a : Nat} (hop : cdT Ev y pc = some (o_aload i len)) (hl : ls[i]? = some (some (.ref a))) : wp V (cdT Ev) mx d y pc ls st h Q = wp V (cdT Ev) mx d y (pc + len) ls (.ref a :: st) h Q := (propext (wp_step hop)).trans (by simp only [o_aload, hl, wpo])
theorem x_aloadN {i len : Nat} (hop : cdT Ev y pc = some (o_aload i len)) (hl : ls[i]? = some (some .null)) : wp V (cdT Ev) mx d y pc ls st h Q = wp V (cdT Ev) mx d y (pc + len) ls (.null :: st) h Q := (propext (wp_step hop)).trans (by simp only [o_aload, hl, wpo])
theorem x_istore {i len : Nat} {x : Int32} (hop : cdT Ev y pc = some (o_istore i len)) (hi : i < ls.length) (hp : okp ls i = true) (hs : ls.set i (some (.int x)) = ls') : wp V (cdT Ev) mx d y pc ls (.int x :: st) h Q = wp V (cdT Ev) mx d y (pc + len) ls' st h Q := (propext (wp_step hop)).trans (by simp only [o_istore, hi, hp, and_self, if_true, wpo, hs])
theorem x_astore {i len : Nat} {a : Nat} (hop : cdT Ev y pc = some (o_astore i len)) (hi : i < ls.length) (hp : okp ls i = true) (hs : ls.set i (some (.ref a)) = ls') : wp V (cdT Ev) mx d y pc ls (.ref a :: st) h Q = wp V (cdT Ev) mx d y (pc + len) ls' st h Q := (propext (wp_step hop)).trans (by simp only [o_astore, hi, hp, and_self, if_true, wpo, hs])
theorem x_astoreN {i len : Nat} (hop : cdT Ev y pc = some (o_astore i len)) (hi : i < ls.length) (hp : okp ls i = true) (hs : ls.set i (some .null) = ls') : wp V (cdT Ev) mx d y pc ls (.null :: st) h Q = wp V (cdT Ev) mx d y (pc + len) ls' st h Q := (propext (wp_step hop)).trans (by simp only [o_astore, hi, hp, and_self, if_true, wpo, hs])
theorem x_lstore {i len : Nat} {x : Int64} (hop : cdT Ev y pc = some (o_lstore i len)) (hi : i + 1 < ls.length) (hp : okp ls i = true) (hs : (ls.set i (some (.long x))).set (i + 1) none = ls') : wp V (cdT Ev) mx d y pc ls (.long x :: st) h Q = wp V (cdT Ev) mx d y (pc + len) ls' st h Q := (propext (wp_step hop)).trans (by simp only [o_lstore, hi, hp, and_self, if_true, wpo, hs])
theorem x_iinc {i : Nat} {k x : Int32} (hop : cdT Ev y pc = some (o_iinc i k)) (hl : ls[i]? = some (some (.int x))) (hs : ls.set i (some (.int (x + k))) = ls') : wp V (cdT Ev) mx d y pc ls st h Q = wp V (cdT Ev) mx d y (pc + 3) ls' st h Q := (propext (wp_step hop)).trans (by simp only [o_iinc, hl, wpo, hs])
theorem x_ib {f : Int32 → Int32 → Int32} {x z : Int32} (hop : cdT Ev y pc = some (o_ib f)) : wp V (cdT Ev) mx d y pc ls (.int z :: .int x :: st) h Q = wp V (cdT Ev) mx d y (pc + 1) ls (.int (f x z) :: st) h Q := propext (wp_step hop)
theorem x_ibz {f : Int32 → Int32 → Int32} {x z : Int32} (hop : cdT Ev y pc = some (o_ibz f)) : wp V (cdT Ev) mx d y pc ls (.int z :: .int x :: st) h Q = (¬ z = 0 ∧ wp V (cdT Ev) mx d y (pc + 1) ls (.int (f x z) :: st) h Q) := (propext (wp_step hop)).trans (by by_cases hz : z = 0 <;> simp [o_ibz, hz, wpo])
theorem x_iu {f : Int32 → Int32} {x : Int32} (hop : cdT Ev y pc = some (o_iu f)) : wp V (cdT Ev) mx d y pc ls (.int x :: st) h Q = wp V (cdT Ev) mx d y (pc + 1) ls (.int (f x) :: st) h Q := propext (wp_step hop)
theorem x_lb {f : Int64 → Int64 → Int64} {x z : Int64} (hop : cdT Ev y pc = some (o_lb f)) : wp V (cdT Ev) mx d y pc ls (.long z :: .long x :: st) h Q = wp V (cdT Ev) mx d y (pc + 1) ls (.long (f x z) :: st) h Q := propext (wp_step hop)
theorem x_lbz {f : Int64 → Int64 → Int64} {x z : Int64} (hop : cdT Ev y pc = some (o_lbz f)) : wp V (cdT Ev) mx d y pc ls (.long z :: .long x :: st) h Q = (¬ z = 0 ∧ wp V (cdT Ev) mx d y (pc + 1) ls (.long (f x z) :: st) h Q) := (propext (wp_step hop)).trans (by by_cases hz : z = 0 <;> simp [o_lbz, hz, wpo])
theorem x_i2l {x : Int32} (hop : cdT Ev y pc = some o_i2l) : wp V (cdT Ev) mx d y pc ls (.int x :: st) h Q = wp V (cdT Ev) mx d y (pc + 1) ls (.long x.toInt64 :: st) h Q := propext (wp_step hop)
theorem x_l2i {x : Int64} (hop : cdT Ev y pc = some o_l2i) : wp V (cdT Ev) mx d y pc ls (.long x :: st) h Q = wp V (cdT Ev) mx d y (pc + 1) ls (.int x.toInt32 :: st) h Q := propext (wp_step hop)
theorem x_lshl {x : Int64} {z : Int32} (hop : cdT Ev y pc = some o_lshl) : wp V (cdT Ev) mx d y pc ls (.int z :: .long x :: st) h Q = wp V (cdT Ev) mx d y (pc + 1) ls (.long (x <<< (z.toInt64 &&& 63)) :: st) h Q := propext (wp_step hop)
theorem x_lcmp {x z : Int64} (hop : cdT Ev y pc = some o_lcmp) : wp V (cdT Ev) mx d y pc ls (.long z :: .long x :: st) h Q = wp V (cdT Ev) mx d y (pc + 1) ls (.int (lg_cmp x z) :: st) h Q := propext (wp_step hop)
theorem x_dup {v : Value} (hop : cdT Ev y pc = some o_dup) (hv : is1 v = true) : wp V (cdT Ev) mx d y pc ls (v :: st) h Q = wp V (cdT Ev) mx d y (pc + 1) ls (v :: v :: st) h Q := (propext (wp_step hop)).trans (by simp only [o_dup, hv, if_true, wpo])
theorem x_pop {v : Value} (hop : cdT Ev y pc = some o_pop) (hv : is1 v = true) : wp V (cdT Ev) mx d y pc ls (v :: st) h Q = wp V (cdT Ev) mx d y (pc + 1) ls st h Q := (propext (wp_step hop)).trans (by simp only [o_pop, hv, if_true, wpo])
theorem x_dup2 {v w : Value} (hop : cdT Ev y pc = some o_dup2) (hv : is1 v = true) (hw : is1 w = true) : wp V (cdT Ev) mx d y pc ls (v :: w :: st) h Q = wp V (cdT Ev) mx d y (pc + 1) ls (v :: w :: v :: w :: st) h Q := (propext (wp_step hop)).trans (by simp only [o_dup2, hv, hw, and_self, if_true, wpo])
theorem x_if1 {c : Int32 → Prop} [∀ x, Decidable (c x)] {t : Nat} {x : Int32} (hop : cdT Ev y pc = some (o_if1 (fun x => decide (c x)) t)) : wp V (cdT Ev) mx d y pc ls (.int x :: st) h Q = if c x then wp V (cdT Ev) mx d y t ls st h Q else wp V (cdT Ev) mx d y (pc + 3) ls st h Q := (propext (wp_step hop)).trans (by by_cases hc : c x <;> simp [o_if1, hc, wpo])
theorem x_if2 {c : Int32 → Int32 → Prop} [∀ x z, Decidable (c x z)] {t : Nat} {x z : Int32} (hop : cdT Ev y pc = some (o_if2 (fun x y => decide (c x y)) t)) : wp V (cdT Ev) mx d y pc ls (.int z :: .int x :: st) h Q = if c x z then wp V (cdT Ev) mx d y t ls st h Q else wp V (cdT Ev) mx d y (pc + 3) ls st h Q := (propext (wp_step hop)).trans (by by_cases hc : c x z <;> simp [o_if2, hc, wpo])
theorem x_ifnull {t a : Nat} (hop : cdT Ev y pc = some (o_ifnull t)) : wp V (cdT Ev) mx d y pc ls (.ref a :: st) h Q = wp V (cdT Ev) mx d y (pc + 3) ls st h Q := propext (wp_step hop)
theorem x_ifnullN {t : Nat} (hop : cdT Ev y pc = some (o_ifnull t)) : wp V (cdT Ev) mx d y pc ls (.null :: st) h Q = wp V (cdT Ev) mx d y t ls st h Q := propext (wp_step hop)
theorem x_ifnonnull {t a : Nat} (hop : cdT Ev y pc = some (o_ifnonnull t)) : wp V (cdT Ev) mx d y pc ls (.ref a :: st) h Q = wp V (cdT Ev) mx d y t ls st h Q := propext (wp_step hop)
theorem x_ifnonnullN {t : Nat} (hop : cdT Ev y pc = some (o_ifnonnull t)) : wp V (cdT Ev) mx d y pc ls (.null :: st) h Q = wp V (cdT Ev) mx d y (pc + 3) ls st h Q := propext (wp_step hop)
theorem x_sw {t : Nat} {l : List (Int32 × Nat)} {x : Int32} (hop : cdT Ev y pc = some (o_sw t l)) : wp V (cdT Ev) mx d y pc ls (.int x :: st) h Q = swp (fun t => wp V (cdT Ev) mx d y t ls st h Q) t x l := (propext (wp_step hop)).trans (swl_K (fun t => wp V (cdT Ev) mx d y t ls st h Q) t x l)
theorem x_getf {k a : Nat} {cs : List Nat} (hop : cdT Ev y pc = some (o_getf k cs)) : wp V (cdT Ev) mx d y pc ls (.ref a :: st) h Q = gf cs k h a (fun v => wp V (cdT Ev) mx d y (pc + 3) ls (v :: st) h Q) := (propext (wp_step hop)).trans (by
  simp only [o_getf, gf]
  generalize h.1 a = o
  rcases o with _ | _ | ⟨ci, vs⟩
  · rfl
  · rfl
  · by_cases hc : ci ∈ cs
    · simp only [if_pos hc]
      cases vs[k]? <;> rfl
    · simp only [if_neg hc]
      rfl)
theorem x_gets {k a : Nat} (hop : cdT Ev y pc = some (o_gets k)) : wp V (cdT Ev) mx d y pc ls (.ref a :: st) h Q = gs k V a (fun v => wp V (cdT Ev) mx d y (pc + 3) ls (v :: st) h Q) := (propext (wp_step hop)).trans (by
  simp only [o_gets, gs]
  generalize V (2 * a + 1) = o
  rcases o with _ | _ | ⟨ci, vs⟩
  · rfl
  · rfl
  · simp only
    cases vs[k]? <;> rfl)
theorem x_putf {k a t : Nat} {cs : List Nat} {v : Value} (hop : cdT Ev y pc = some (o_putf k cs t)) : wp V (cdT Ev) mx d y pc ls (v :: .ref a :: st) h Q = pf cs k t v h a (fun h' => wp V (cdT Ev) mx d y (pc + 3) ls st h' Q) := (propext (wp_step hop)).trans (by
  simp only [o_putf, pf]
  generalize h.1 a = o
  rcases o with _ | _ | ⟨ci, vs⟩
  · rfl
  · rfl
  · by_cases hc : ci ∈ cs ∧ k < vs.length ∧ okv t v = true
    · simp only [if_pos hc]
      rfl
    · simp only [if_neg hc]
      rfl)
theorem x_iald {k a : Nat} {i : Int32} (hop : cdT Ev y pc = some (o_iald k)) : wp V (cdT Ev) mx d y pc ls (.int i :: .ref a :: st) h Q = ai k i V h a (fun x => wp V (cdT Ev) mx d y (pc + 1) ls (.int x :: st) h Q) := (propext (wp_step hop)).trans (by
  simp only [o_iald, ai, ix]
  generalize lk V h a = o
  rcases o with _ | ⟨k', n, f | f | f | f | f⟩ | _
  · rfl
  · by_cases hk : k' = k
    · subst hk
      by_cases hi : i < 0 ∨ n ≤ i.toNatClampNeg
      · simp only [hi, if_true, if_false, wpo, not_true_eq_false, not_false_eq_true, false_and, true_and, and_false, and_true]
      · simp only [hi, if_true, if_false, wpo, not_true_eq_false, not_false_eq_true, false_and, true_and, and_false, and_true]
    · simp only [hk, if_true, if_false, wpo, not_true_eq_false, not_false_eq_true, false_and, true_and, and_false, and_true]
  all_goals rfl)
theorem x_lald {a : Nat} {i : Int32} (hop : cdT Ev y pc = some o_lald) : wp V (cdT Ev) mx d y pc ls (.int i :: .ref a :: st) h Q = al i h a (fun x => wp V (cdT Ev) mx d y (pc + 1) ls (.long x :: st) h Q) := (propext (wp_step hop)).trans (by
  simp only [o_lald, al, ix]
  generalize h.1 a = o
  split
  · rename_i n f
    by_cases hi : i < 0 ∨ n ≤ i.toNatClampNeg
    · simp only [hi, if_true, if_false, wpo, not_true_eq_false, not_false_eq_true, false_and, true_and, and_false, and_true]
    · simp only [hi, if_true, if_false, wpo, not_true_eq_false, not_false_eq_true, false_and, true_and, and_false, and_true]
  · rename_i hno
    split
    · rename_i n f
      exact (hno n f rfl).elim
    · rfl)
theorem x_aald {a : Nat} {i : Int32} (hop : cdT Ev y pc = some o_aald) : wp V (cdT Ev) mx d y pc ls (.int i :: .ref a :: st) h Q = aa i h a (fun v => wp V (cdT Ev) mx d y (pc + 1) ls (v :: st) h Q) := (propext (wp_step hop)).trans (by
  simp only [o_aald, aa, ix]
  generalize h.1 a = o
  rcases o with _ | ⟨k, n, f | f | f | f | f⟩ | _
  · rfl
  · rfl
  · rfl
  · rfl
  · rfl
  · by_cases hk : k = 4 ∨ k = 5
    · by_cases hi : i < 0 ∨ n ≤ i.toNatClampNeg
      · simp only [hk, hi, if_true, if_false, wpo, not_true_eq_false, not_false_eq_true, false_and, true_and, and_false, and_true]
      · simp only [hk, hi, if_true, if_false, wpo, not_true_eq_false, not_false_eq_true, false_and, true_and, and_false, and_true]
    · simp only [hk, if_true, if_false, wpo, not_true_eq_false, not_false_eq_true, false_and, true_and, and_false, and_true]
  · rfl)
theorem x_iast {k a : Nat} {i x : Int32} {nw : Int32 → Int32} (hop : cdT Ev y pc = some (o_iast k nw)) : wp V (cdT Ev) mx d y pc ls (.int x :: .int i :: .ref a :: st) h Q = si k i (nw x) h a (fun h' => wp V (cdT Ev) mx d y (pc + 1) ls st h' Q) := (propext (wp_step hop)).trans (by
  simp only [o_iast, si, ix]
  generalize h.1 a = o
  rcases o with _ | ⟨k', n, f | f | f | f | f⟩ | _
  · rfl
  · by_cases hk : k' = k
    · subst hk
      by_cases hi : i < 0 ∨ n ≤ i.toNatClampNeg
      · simp only [hi, if_true, if_false, wpo, not_true_eq_false, not_false_eq_true, false_and, true_and, and_false, and_true]
      · simp only [hi, if_true, if_false, wpo, not_true_eq_false, not_false_eq_true, false_and, true_and, and_false, and_true]
    · simp only [hk, if_true, if_false, wpo, not_true_eq_false, not_false_eq_true, false_and, true_and, and_false, and_true]
  all_goals rfl)
theorem x_last {a : Nat} {i : Int32} {x : Int64} (hop : cdT Ev y pc = some o_last) : wp V (cdT Ev) mx d y pc ls (.long x :: .int i :: .ref a :: st) h Q = sl i x h a (fun h' => wp V (cdT Ev) mx d y (pc + 1) ls st h' Q) := (propext (wp_step hop)).trans (by
  simp only [o_last, sl, ix]
  generalize h.1 a = o
  split
  · rename_i n f
    by_cases hi : i < 0 ∨ n ≤ i.toNatClampNeg
    · simp only [hi, if_true, if_false, wpo, not_true_eq_false, not_false_eq_true, false_and, true_and, and_false, and_true]
    · simp only [hi, if_true, if_false, wpo, not_true_eq_false, not_false_eq_true, false_and, true_and, and_false, and_true]
  · rename_i hno
    split
    · rename_i n f
      exact (hno n f rfl).elim
    · rfl)
theorem x_aast {a v : Nat} {i : Int32} {cs : List Nat} (hop : cdT Ev y pc = some (o_aast cs)) : wp V (cdT Ev) mx d y pc ls (.ref v :: .int i :: .ref a :: st) h Q = sa cs i v h a (fun h' => wp V (cdT Ev) mx d y (pc + 1) ls st h' Q) := (propext (wp_step hop)).trans (by
  simp only [o_aast, sa, ix]
  generalize h.1 a = o
  generalize h.1 v = ov
  split
  · rename_i n f ci vs
    by_cases hk : ci ∈ cs
    · by_cases hi : i < 0 ∨ n ≤ i.toNatClampNeg
      · simp only [hk, hi, if_true, if_false, wpo, not_true_eq_false, not_false_eq_true, false_and, true_and, and_false, and_true]
      · simp only [hk, hi, if_true, if_false, wpo, not_true_eq_false, not_false_eq_true, false_and, true_and, and_false, and_true]
    · simp only [hk, if_true, if_false, wpo, not_true_eq_false, not_false_eq_true, false_and, true_and, and_false, and_true]
  · rename_i hno
    split
    · rename_i n f ci vs
      exact (hno n f ci vs rfl rfl).elim
    · rfl)
theorem x_alen {a : Nat} (hop : cdT Ev y pc = some o_alen) : wp V (cdT Ev) mx d y pc ls (.ref a :: st) h Q = ln V h a (fun x => wp V (cdT Ev) mx d y (pc + 1) ls (.int x :: st) h Q) := (propext (wp_step hop)).trans (by
  simp only [o_alen, ln]
  generalize lk V h a = o
  rcases o with _ | ⟨k, n, z⟩ | _
  · rfl
  · by_cases hk : k < 6 <;> simp only [hk, if_true, if_false, wpo, not_true_eq_false, not_false_eq_true, false_and, true_and, and_false, and_true]
  · rfl)
theorem x_newa {k len : Nat} {n : Int32} {z : (Nat → Int32) ⊕ (Nat → Int64) ⊕ (Nat → UInt32) ⊕ (Nat → UInt64) ⊕ (Nat → Option Nat)} (hop : cdT Ev y pc = some (o_newa k z len)) : wp V (cdT Ev) mx d y pc ls (.int n :: st) h Q = (¬ (n < 0 ∨ 1000 < n.toNatClampNeg) ∧ wp V (cdT Ev) mx d y (pc + len) ls (.ref h.2.1 :: st) (hnew h (.inl (k, n.toNatClampNeg, z)) n.toNatClampNeg) Q) := (propext (wp_step hop)).trans (by
  simp only [o_newa]
  by_cases hi : n < 0 ∨ 1000 < n.toNatClampNeg <;> simp only [hi, if_true, if_false, wpo, not_true_eq_false, not_false_eq_true, false_and, true_and, and_false, and_true])
theorem x_new {ci : Nat} {fs : List Value} (hop : cdT Ev y pc = some (o_new ci fs)) : wp V (cdT Ev) mx d y pc ls st h Q = wp V (cdT Ev) mx d y (pc + 3) ls (.ref h.2.1 :: st) (hnew h (.inr (ci, fs)) fs.length) Q := propext (wp_step hop)
theorem x_mna {n k : Int32} (hop : cdT Ev y pc = some o_mna) : wp V (cdT Ev) mx d y pc ls (.int k :: .int n :: st) h Q = (¬ (n < 0 ∨ k < 0 ∨ 1000 < n.toNatClampNeg ∨ 1000 < k.toNatClampNeg) ∧ wp V (cdT Ev) mx d y (pc + 4) ls (.ref h.2.1 :: st) (hrows (hnew h (.inl (5, n.toNatClampNeg, .inr (.inr (.inr (.inr (fun i => if i < n.toNatClampNeg then some (h.2.1 + 1 + i) else none)))))) n.toNatClampNeg) k.toNatClampNeg n.toNatClampNeg) Q) := (propext (wp_step hop)).trans (by
  simp only [o_mna]
  by_cases hi : n < 0 ∨ k < 0 ∨ 1000 < n.toNatClampNeg ∨ 1000 < k.toNatClampNeg <;> simp only [hi, if_true, if_false, wpo, not_true_eq_false, not_false_eq_true, false_and, true_and, and_false, and_true])
theorem x_instN {ys ns : List Nat} (hop : cdT Ev y pc = some (o_inst ys ns)) : wp V (cdT Ev) mx d y pc ls (.null :: st) h Q = wp V (cdT Ev) mx d y (pc + 3) ls (.int 0 :: st) h Q := propext (wp_step hop)
theorem x_inst {ys ns : List Nat} {a : Nat} (hop : cdT Ev y pc = some (o_inst ys ns)) : wp V (cdT Ev) mx d y pc ls (.ref a :: st) h Q = io ys ns h a (fun x => wp V (cdT Ev) mx d y (pc + 3) ls (.int x :: st) h Q) := (propext (wp_step hop)).trans (by
  simp only [o_inst, io]
  generalize h.1 a = o
  rcases o with _ | _ | ⟨ci, vs⟩
  · rfl
  · rfl
  · by_cases h1 : ci ∈ ys
    · simp only [if_pos h1]
      rfl
    · simp only [if_neg h1]
      by_cases h2 : ci ∈ ns
      · simp only [if_pos h2]
        rfl
      · simp only [if_neg h2]
        rfl)
theorem x_castN {ys : List Nat} (hop : cdT Ev y pc = some (o_cast ys)) : wp V (cdT Ev) mx d y pc ls (.null :: st) h Q = wp V (cdT Ev) mx d y (pc + 3) ls (.null :: st) h Q := propext (wp_step hop)
theorem x_cast {ys : List Nat} {a : Nat} (hop : cdT Ev y pc = some (o_cast ys)) : wp V (cdT Ev) mx d y pc ls (.ref a :: st) h Q = co ys h a (wp V (cdT Ev) mx d y (pc + 3) ls (.ref a :: st) h Q) := (propext (wp_step hop)).trans (by
  simp only [o_cast, co]
  generalize h.1 a = o
  rcases o with _ | _ | ⟨ci, vs⟩
  · rfl
  · rfl
  · by_cases h1 : ci ∈ ys <;> simp only [h1, if_true, if_false, wpo, not_true_eq_false, not_false_eq_true, false_and, true_and, and_false, and_true])
theorem x_oi {a : Nat} (hop : cdT Ev y pc = some o_oi) (hst : st.length ≤ 4) : wp V (cdT Ev) mx d y pc ls (.ref a :: st) h Q = wp V (cdT Ev) mx d y (pc + 3) ls st h Q := (propext (wp_step hop)).trans (by simp only [o_oi, hst, if_true, wpo])
/-- a call: the arguments lie above st -/
theorem x_cs {y' n : Nat} {as sg : List Value} (hop : cdT Ev y pc = some (o_cs y' n)) (hst : st.length ≤ 4) (hn : sg.length = n) (ha : sg.reverse = as) : wp V (cdT Ev) mx d y pc ls (sg ++ st) h Q = WP V (cdT Ev) mx d y' as h (fun r h' => wp V (cdT Ev) mx d y (pc + 3) ls (rts r st) h' Q) := (propext (wp_step hop)).trans (by
  subst hn
  subst ha
  simp only [o_cs, List.length_append, List.take_left, List.drop_left, Nat.le_add_right, hst, and_self, if_true, wpo, rts])
theorem x_ci {y' n b : Nat} {as sg : List Value} (hop : cdT Ev y pc = some (o_ci y' n)) (hst : st.length ≤ 4) (hn : sg.length = n) (ha : (sg ++ [Value.ref b]).reverse = as) : wp V (cdT Ev) mx d y pc ls (sg ++ Value.ref b :: st) h Q = WP V (cdT Ev) mx d y' as h (fun r h' => wp V (cdT Ev) mx d y (pc + 3) ls (rts r st) h' Q) := (propext (wp_step hop)).trans (by
  subst hn
  subst ha
  have e1 : (sg ++ Value.ref b :: st)[sg.length]? = some (.ref b) := by simp
  have e2 : (sg ++ Value.ref b :: st).drop (sg.length + 1) = st := by simp
  have e3 : (sg ++ Value.ref b :: st).take (sg.length + 1) = sg ++ [Value.ref b] := by simp [List.take_append, List.take_of_length_le]
  simp only [o_ci, e1, e2, e3, hst, if_true, wpo, rts])
theorem x_cv {n b : Nat} {tab : List (Nat × Nat)} {as sg : List Value} (hop : cdT Ev y pc = some (o_cv tab n)) (hst : st.length ≤ 4) (hn : sg.length = n) (ha : (sg ++ [Value.ref b]).reverse = as) : wp V (cdT Ev) mx d y pc ls (sg ++ Value.ref b :: st) h Q = cv tab h b (fun y' => WP V (cdT Ev) mx d y' as h (fun r h' => wp V (cdT Ev) mx d y (pc + 3) ls (rts r st) h' Q)) := (propext (wp_step hop)).trans (by
  subst hn
  subst ha
  have e1 : (sg ++ Value.ref b :: st)[sg.length]? = some (.ref b) := by simp
  have e2 : (sg ++ Value.ref b :: st).drop (sg.length + 1) = st := by simp
  have e3 : (sg ++ Value.ref b :: st).take (sg.length + 1) = sg ++ [Value.ref b] := by simp [List.take_append, List.take_of_length_le]
  simp only [o_cv, cv, e1, e2, e3, hst, if_true]
  generalize h.1 b = o
  rcases o with _ | _ | ⟨ci, vs⟩
  · rfl
  · rfl
  · simp only
    cases tabl tab ci <;> rfl)
theorem x_cstr {y' n b : Nat} {as sg : List Value} (hop : cdT Ev y pc = some (o_cstr y' n)) (hst : st.length ≤ 4) (hn : sg.length = n) (ha : (sg ++ [Value.ref b]).reverse = as) : wp V (cdT Ev) mx d y pc ls (sg ++ Value.ref b :: st) h Q = cstr V b (WP V (cdT Ev) mx d y' as h (fun r h' => wp V (cdT Ev) mx d y (pc + 3) ls (rts r st) h' Q)) := (propext (wp_step hop)).trans (by
  subst hn
  subst ha
  have e1 : (sg ++ Value.ref b :: st)[sg.length]? = some (.ref b) := by simp
  have e2 : (sg ++ Value.ref b :: st).drop (sg.length + 1) = st := by simp
  have e3 : (sg ++ Value.ref b :: st).take (sg.length + 1) = sg ++ [Value.ref b] := by simp [List.take_append, List.take_of_length_le]
  simp only [o_cstr, cstr, e1, e2, e3, hst, if_true]
  generalize V (2 * b + 1) = o
  rcases o with _ | _ | ⟨ci, vs⟩
  · rfl
  · rfl
  · rfl)
theorem x_ret {t : Nat} {v : Value} (hop : cdT Ev y pc = some (o_ret t)) (hv : okr t v = true) : wp V (cdT Ev) mx d y pc ls [v] h Q = Q (some v) h := (propext (wp_step hop)).trans (by simp only [o_ret, hv, if_true, wpo])
theorem x_retv (hop : cdT Ev y pc = some o_retv) : wp V (cdT Ev) mx d y pc ls [] h Q = Q none h := propext (wp_step hop)
theorem x_cpyi {n dp sp : Int32} {a b : Nat} (hop : cdT Ev y pc = some o_cpyi) (hst : st.length ≤ 4) : wp V (cdT Ev) mx d y pc ls (.int n :: .int dp :: .ref b :: .int sp :: .ref a :: st) h Q = ci2 h a b n dp sp (fun h' => wp V (cdT Ev) mx d y (pc + 3) ls st h' Q) := (propext (wp_step hop)).trans (by
  have h4 : (4 < st.length) = False := by simp [Nat.not_lt.mpr hst]
  simp only [o_cpyi, ci2, h4, or_false]
  generalize h.1 a = o
  generalize h.1 b = o2
  split
  · rename_i n0 f n1 g
    by_cases hi : sp < 0 ∨ dp < 0 ∨ n < 0 ∨ n0 < sp.toNatClampNeg + n.toNatClampNeg ∨ n1 < dp.toNatClampNeg + n.toNatClampNeg <;> simp only [hi, if_true, if_false, wpo, not_true_eq_false, not_false_eq_true, false_and, true_and, and_false, and_true]
  · rename_i hno
    split
    · rename_i n0 f n1 g
      exact (hno n0 f n1 g rfl rfl).elim
    · rfl)
theorem x_cpyl {n dp sp : Int32} {a b : Nat} (hop : cdT Ev y pc = some o_cpyl) (hst : st.length ≤ 4) : wp V (cdT Ev) mx d y pc ls (.int n :: .int dp :: .ref b :: .int sp :: .ref a :: st) h Q = cl2 h a b n dp sp (fun h' => wp V (cdT Ev) mx d y (pc + 3) ls st h' Q) := (propext (wp_step hop)).trans (by
  have h4 : (4 < st.length) = False := by simp [Nat.not_lt.mpr hst]
  simp only [o_cpyl, cl2, h4, or_false]
  generalize h.1 a = o
  generalize h.1 b = o2
  split
  · rename_i n0 f n1 g
    by_cases hi : sp < 0 ∨ dp < 0 ∨ n < 0 ∨ n0 < sp.toNatClampNeg + n.toNatClampNeg ∨ n1 < dp.toNatClampNeg + n.toNatClampNeg <;> simp only [hi, if_true, if_false, wpo, not_true_eq_false, not_false_eq_true, false_and, true_and, and_false, and_true]
  · rename_i hno
    split
    · rename_i n0 f n1 g
      exact (hno n0 f n1 g rfl rfl).elim
    · rfl)
end XS
