/-! The heap by roles: LG tells where a role lies, gr tells the role of a place. -/
def GH (LG gr : Nat → Nat) (C G : Nat → Option AE) (z : Nat × Nat) : HS := (fun a => if LG (gr a) = a then (match C (gr a) with
  | some e => some e
  | none => G a) else G a, z)
section
variable {LG gr : Nat → Nat} {C G : Nat → Option AE} {z : Nat × Nat} {V : Nat → Option AE}
theorem GH_at (hg : ∀ r, gr (LG r) = r) {r : Nat} {e : AE} (h : C r = some e) : (GH LG gr C G z).1 (LG r) = some e := by
  show (if LG (gr (LG r)) = LG r then _ else _) = _
  rw [hg, if_pos rfl, h]
theorem GH_put (hg : ∀ r, gr (LG r) = r) {r : Nat} {e : AE} : hput (GH LG gr C G z) (LG r) e = GH LG gr (va_up C r (some e)) G z := by
  refine Prod.ext (funext fun a => ?_) rfl
  show va_up (GH LG gr C G z).1 (LG r) (some e) a = (GH LG gr (va_up C r (some e)) G z).1 a
  simp only [va_up, GH]
  by_cases ha : a = LG r
  · subst ha
    rw [if_pos rfl, hg, if_pos rfl, if_pos rfl]
  · rw [if_neg ha]
    by_cases h1 : LG (gr a) = a
    · rw [if_pos h1, if_pos h1, if_neg (fun e => ha (by rw [← h1, e]))]
    · rw [if_neg h1, if_neg h1]
def gfo (cs : List Nat) (k : Nat) (o : Option AE) (K : Value → Prop) : Prop := match o with
  | some (.inr (ci, vs)) => if ci ∈ cs then match vs[k]? with
    | some v => K v
    | none => False
    else False
  | _ => False
theorem r_gf (hg : ∀ r, gr (LG r) = r) {cs : List Nat} {k r : Nat} {ci : Nat} {vs : List Value} {K : Value → Prop} {v : Value} (h : C r = some (.inr (ci, vs))) (hc : ci ∈ cs) (hv : vs[k]? = some v) : gf cs k (GH LG gr C G z) (LG r) K = K v := by
  simp only [gf, GH_at hg h, if_pos hc, hv]
theorem r_pf (hg : ∀ r, gr (LG r) = r) {cs : List Nat} {k t r : Nat} {ci : Nat} {vs : List Value} {K : HS → Prop} {v : Value} (h : C r = some (.inr (ci, vs))) (hc : ci ∈ cs) (hk : k < vs.length) (hv : okv t v = true) : pf cs k t v (GH LG gr C G z) (LG r) K = K (GH LG gr (va_up C r (some (.inr (ci, vs.set k v)))) G z) := by
  simp only [pf, GH_at hg h]
  rw [if_pos ⟨hc, hk, hv⟩, GH_put hg]
theorem r_ai (hg : ∀ r, gr (LG r) = r) {k r n : Nat} {f : Nat → Int32} {i : Int32} {K : Int32 → Prop} (h : C r = some (.inl (k, n, .inl f))) : ai k i V (GH LG gr C G z) (LG r) K = (ix i n ∧ K (f i.toNatClampNeg)) := by
  simp only [ai, lk, GH_at hg h, true_and]
theorem r_si (hg : ∀ r, gr (LG r) = r) {k r n : Nat} {f : Nat → Int32} {i x : Int32} {K : HS → Prop} (h : C r = some (.inl (k, n, .inl f))) : si k i x (GH LG gr C G z) (LG r) K = (ix i n ∧ K (GH LG gr (va_up C r (some (.inl (k, n, .inl (upd f i.toNatClampNeg x))))) G z)) := by
  simp only [si, GH_at hg h, true_and, GH_put hg]
theorem r_al (hg : ∀ r, gr (LG r) = r) {r n : Nat} {f : Nat → Int64} {i : Int32} {K : Int64 → Prop} (h : C r = some (.inl (3, n, .inr (.inl f)))) : al i (GH LG gr C G z) (LG r) K = (ix i n ∧ K (f i.toNatClampNeg)) := by
  simp only [al, GH_at hg h]
theorem r_sl (hg : ∀ r, gr (LG r) = r) {r n : Nat} {f : Nat → Int64} {i : Int32} {x : Int64} {K : HS → Prop} (h : C r = some (.inl (3, n, .inr (.inl f)))) : sl i x (GH LG gr C G z) (LG r) K = (ix i n ∧ K (GH LG gr (va_up C r (some (.inl (3, n, .inr (.inl (vp_updL f i.toNatClampNeg x)))))) G z)) := by
  simp only [sl, GH_at hg h, GH_put hg]
theorem r_aa (hg : ∀ r, gr (LG r) = r) {k r n : Nat} {f : Nat → Option Nat} {i : Int32} {K : Value → Prop} (h : C r = some (.inl (k, n, .inr (.inr (.inr (.inr f)))))) (hk : k = 4 ∨ k = 5) : aa i (GH LG gr C G z) (LG r) K = (ix i n ∧ K (va_rf (f i.toNatClampNeg))) := by
  simp only [aa, GH_at hg h, hk, true_and]
theorem r_sa (hg : ∀ r, gr (LG r) = r) {cs : List Nat} {r n v : Nat} {f : Nat → Option Nat} {i : Int32} {ci : Nat} {vs : List Value} {K : HS → Prop} (h : C r = some (.inl (4, n, .inr (.inr (.inr (.inr f)))))) (h2 : (GH LG gr C G z).1 v = some (.inr (ci, vs))) (hc : ci ∈ cs) : sa cs i v (GH LG gr C G z) (LG r) K = (ix i n ∧ K (GH LG gr (va_up C r (some (.inl (4, n, .inr (.inr (.inr (.inr (va_up f i.toNatClampNeg (some v))))))))) G z)) := by
  simp only [sa, GH_at hg h, h2, hc, true_and, GH_put hg]
theorem r_ln (hg : ∀ r, gr (LG r) = r) {k r n : Nat} {A : vp_A} {K : Int32 → Prop} (h : C r = some (.inl (k, A))) (hk : k < 6) (hn : A.1 = n) : ln V (GH LG gr C G z) (LG r) K = K (Int32.ofNat n) := by
  obtain ⟨n', w⟩ := A
  cases hn
  simp only [ln, lk, GH_at hg h, hk, true_and]
theorem r_io (hg : ∀ r, gr (LG r) = r) {ys ns : List Nat} {r ci : Nat} {vs : List Value} {K : Int32 → Prop} (h : C r = some (.inr (ci, vs))) : io ys ns (GH LG gr C G z) (LG r) K = (if ci ∈ ys then K 1 else if ci ∈ ns then K 0 else False) := by
  simp only [io, GH_at hg h]
theorem r_co (hg : ∀ r, gr (LG r) = r) {ys : List Nat} {r ci : Nat} {vs : List Value} {K : Prop} (h : C r = some (.inr (ci, vs))) : co ys (GH LG gr C G z) (LG r) K = (ci ∈ ys ∧ K) := by
  simp only [co, GH_at hg h]
theorem r_cv (hg : ∀ r, gr (LG r) = r) {tab : List (Nat × Nat)} {r ci y : Nat} {vs : List Value} {K : Nat → Prop} (h : C r = some (.inr (ci, vs))) (ht : tabl tab ci = some y) : cv tab (GH LG gr C G z) (LG r) K = K y := by
  simp only [cv, GH_at hg h, ht]
theorem r_ci2 (hg : ∀ r, gr (LG r) = r) {r1 r2 n0 n1 : Nat} {f g : Nat → Int32} {n dp sp : Int32} {K : HS → Prop} (h1 : C r1 = some (.inl (2, n0, .inl f))) (h2 : C r2 = some (.inl (2, n1, .inl g))) : ci2 (GH LG gr C G z) (LG r1) (LG r2) n dp sp K = (¬ (sp < 0 ∨ dp < 0 ∨ n < 0 ∨ n0 < sp.toNatClampNeg + n.toNatClampNeg ∨ n1 < dp.toNatClampNeg + n.toNatClampNeg) ∧ K (GH LG gr (va_up C r2 (some (.inl (2, n1, .inl (va_cpy f g sp.toNatClampNeg dp.toNatClampNeg n.toNatClampNeg))))) G z)) := by
  simp only [ci2, GH_at hg h1, GH_at hg h2, GH_put hg]
theorem r_cl2 (hg : ∀ r, gr (LG r) = r) {r1 r2 n0 n1 : Nat} {f g : Nat → Int64} {n dp sp : Int32} {K : HS → Prop} (h1 : C r1 = some (.inl (3, n0, .inr (.inl f)))) (h2 : C r2 = some (.inl (3, n1, .inr (.inl g)))) : cl2 (GH LG gr C G z) (LG r1) (LG r2) n dp sp K = (¬ (sp < 0 ∨ dp < 0 ∨ n < 0 ∨ n0 < sp.toNatClampNeg + n.toNatClampNeg ∨ n1 < dp.toNatClampNeg + n.toNatClampNeg) ∧ K (GH LG gr (va_up C r2 (some (.inl (3, n1, .inr (.inl (va_cpy f g sp.toNatClampNeg dp.toNatClampNeg n.toNatClampNeg)))))) G z)) := by
  simp only [cl2, GH_at hg h1, GH_at hg h2, GH_put hg]
end
/-! A world: its numbers are a function M, counted as the reference counts them. -/
def ca (B st n : Nat) (M : Nat → Int32) : Nat → Int32 := fun r => if r < n then M (B + st * r) else 0
theorem ca_upd {B st n r : Nat} {M : Nat → Int32} {x : Int32} (hst : 0 < st) (hr : r < n) : upd (ca B st n M) r x = ca B st n (upd M (B + st * r) x) := by
  funext j
  simp only [upd, ca]
  by_cases e : j = r
  · subst e
    rw [if_pos rfl, if_pos hr, if_pos rfl]
  · rw [if_neg e]
    by_cases hj : j < n
    · have hne : ¬ B + st * j = B + st * r := by
        intro h
        exact e (Nat.eq_of_mul_eq_mul_left hst (by omega))
      rw [if_pos hj, if_pos hj, if_neg hne]
    · rw [if_neg hj, if_neg hj]
theorem ca_cg {B st n : Nat} {M M' : Nat → Int32} (h : ∀ r, r < n → M' (B + st * r) = M (B + st * r)) : ca B st n M' = ca B st n M := by
  funext r
  simp only [ca]
  by_cases hr : r < n
  · rw [if_pos hr, if_pos hr, h r hr]
  · rw [if_neg hr, if_neg hr]
theorem ca_at {B st n r : Nat} {M : Nat → Int32} (h : r < n) : ca B st n M r = M (B + st * r) := by
  simp only [ca, if_pos h]
/-- the class of a kind -/
def kc (x : Int32) : Nat := if x = 1 then 6 else if x = 2 then 2 else if x = 3 then 3 else if x = 4 then 5 else if x = 5 then 1 else if x = 6 then 8 else 4
theorem kc_in (x : Int32) : kc x ∈ [1, 2, 3, 4, 5, 6, 8] := by
  unfold kc
  repeat' split
  all_goals decide
def rfv (LG : Nat → Nat) (o : Option Nat) : Value := match o with
  | none => .null
  | some r => .ref (LG r)
theorem rfv_ok {LG : Nat → Nat} {o : Option Nat} : okv 2 (rfv LG o) = true := by
  cases o <;> rfl
/-- a person's fields -/
def pfs (LG : Nat → Nat) (B : Nat) (M : Nat → Int32) (i : Nat) : List Value := .int (M (14 + 9 * i + 0)) :: .int (nI i) :: .int (M (14 + 9 * i + 1)) :: .int (M (14 + 9 * i + 2)) :: .int (M (14 + 9 * i + 3)) :: .int (M (14 + 9 * i + 4)) :: (if M (14 + 9 * i + 0) = 6 then [.ref (LG (B + 19 + i))] else [])
def wcl (LG : Nat → Nat) (B : Nat) (M F : Nat → Int32) (ex : Nat → Bool) (hd : Option Nat) : Nat → Option AE
  | 0 => some (.inr (10, [.ref (LG (B + 1)), .ref (LG (B + 2)), .int (M 68), .int (M 12), .int (M 13), .int (M 69), .ref (LG (B + 3)), .ref (LG (B + 6)), .ref (LG (B + 9)), rfv LG hd, .ref (LG (B + 12))]))
  | 1 => some (.inl (2, 12, .inl (ca 0 1 12 M)))
  | 2 => some (.inl (4, 6, .inr (.inr (.inr (.inr (fun i => if i < 6 ∧ ex i = true then some (LG (B + 13 + i)) else none))))))
  | 3 => some (.inr (7, [.ref (LG (B + 4)), .ref (LG (B + 5)), .int (M 71)]))
  | 4 => some (.inl (2, 5, .inl (ca 72 2 5 M)))
  | 5 => some (.inl (2, 5, .inl (ca 73 2 5 M)))
  | 6 => some (.inr (7, [.ref (LG (B + 7)), .ref (LG (B + 8)), .int (M 82)]))
  | 7 => some (.inl (2, 10, .inl (ca 83 2 10 M)))
  | 8 => some (.inl (2, 10, .inl (ca 84 2 10 M)))
  | 9 => some (.inr (7, [.ref (LG (B + 10)), .ref (LG (B + 11)), .int (M 103)]))
  | 10 => some (.inl (2, 8, .inl (ca 104 2 8 M)))
  | 11 => some (.inl (2, 8, .inl (ca 105 2 8 M)))
  | 12 => some (.inl (2, 6, .inl F))
  | j + 13 => if j < 6 then (if ex j = true then some (.inr (kc (M (14 + 9 * j + 0)), pfs LG B M j)) else none)
    else if ex (j - 6) = true ∧ M (14 + 9 * (j - 6) + 0) = 6 then some (.inl (2, 4, .inl (ca (14 + 9 * (j - 6) + 5) 1 4 M))) else none
/-- the roles of a world lie at B .. B + 24 -/
def WC (LG : Nat → Nat) (B : Nat) (M F : Nat → Int32) (ex : Nat → Bool) (hd : Option Nat) (C : Nat → Option AE) : Nat → Option AE := fun r => if r < B then C r else if r < B + 25 then wcl LG B M F ex hd (r - B) else C r
abbrev GW (LG gr : Nat → Nat) (B : Nat) (M F : Nat → Int32) (ex : Nat → Bool) (hd : Option Nat) (C G : Nat → Option AE) (z : Nat × Nat) : HS := GH LG gr (WC LG B M F ex hd C) G z
section
variable {LG gr : Nat → Nat} {B : Nat} {M F : Nat → Int32} {ex : Nat → Bool} {hd : Option Nat} {C G : Nat → Option AE} {z : Nat × Nat} {V : Nat → Option AE}
theorem WC_k (k : Nat) (hk : k < 25) : WC LG B M F ex hd C (B + k) = wcl LG B M F ex hd k := by
  unfold WC
  rw [if_neg (by omega), if_pos (by omega), Nat.add_sub_cancel_left]
theorem WC_out {r : Nat} (h : r < B ∨ B + 25 ≤ r) : WC LG B M F ex hd C r = C r := by
  unfold WC
  by_cases h1 : r < B
  · rw [if_pos h1]
  · rw [if_neg h1, if_neg (by omega)]
theorem WC_0 : WC LG B M F ex hd C B = wcl LG B M F ex hd 0 := WC_k 0 (by decide)
theorem WC_p {i : Nat} (hi : i < 6) (he : ex i = true) : WC LG B M F ex hd C (B + 13 + i) = some (.inr (kc (M (14 + 9 * i + 0)), pfs LG B M i)) := by
  rw [show B + 13 + i = B + (i + 13) by omega, WC_k (i + 13) (by omega)]
  simp only [wcl]
  rw [if_pos hi, if_pos he]
theorem WC_m {i : Nat} (hi : i < 6) (he : ex i = true) (hk : M (14 + 9 * i + 0) = 6) : WC LG B M F ex hd C (B + 19 + i) = some (.inl (2, 4, .inl (ca (14 + 9 * i + 5) 1 4 M))) := by
  rw [show B + 19 + i = B + (i + 6 + 13) by omega, WC_k (i + 6 + 13) (by omega)]
  simp only [wcl]
  rw [if_neg (by omega), Nat.add_sub_cancel, if_pos ⟨he, hk⟩]
/-- another number in one cell -/
theorem WC_set {k : Nat} (hk : k < 25) {M' F' : Nat → Int32} {hd' : Option Nat} {e : AE} (h1 : wcl LG B M' F' ex hd' k = some e) (h2 : ∀ j, j ≠ k → j < 25 → wcl LG B M' F' ex hd' j = wcl LG B M F ex hd j) : va_up (WC LG B M F ex hd C) (B + k) (some e) = WC LG B M' F' ex hd' C := by
  funext r
  simp only [va_up, WC]
  by_cases er : r = B + k
  · subst er
    rw [if_pos rfl, if_neg (by omega), if_pos (by omega), Nat.add_sub_cancel_left, h1]
  · rw [if_neg er]
    by_cases q1 : r < B
    · rw [if_pos q1, if_pos q1]
    · rw [if_neg q1, if_neg q1]
      by_cases q2 : r < B + 25
      · rw [if_pos q2, if_pos q2, h2 _ (by omega) (by omega)]
      · rw [if_neg q2, if_neg q2]
/-- the cell that a number stands in -/
def own (k : Nat) : Nat := if k < 12 then 1 else if k < 14 then 0 else if k < 70 then 0 else if k = 71 then 3 else if k < 82 then (if k % 2 = 0 then 4 else 5) else if k = 82 then 6 else if k < 103 then (if k % 2 = 1 then 7 else 8) else if k = 103 then 9 else if k % 2 = 0 then 10 else 11
theorem wcl_hi {M' : Nat → Int32} {j : Nat} (hj : j < 12) (h : ∀ w, w < 9 → M' (14 + 9 * (if j < 6 then j else j - 6) + w) = M (14 + 9 * (if j < 6 then j else j - 6) + w)) : wcl LG B M' F ex hd (j + 13) = wcl LG B M F ex hd (j + 13) := by
  simp only [wcl]
  by_cases h6 : j < 6
  · rw [if_pos h6] at h
    rw [if_pos h6, if_pos h6]
    simp only [pfs, h 0 (by decide), h 1 (by decide), h 2 (by decide), h 3 (by decide), h 4 (by decide)]
  · rw [if_neg h6] at h
    have e : ca (14 + 9 * (j - 6) + 5) 1 4 M' = ca (14 + 9 * (j - 6) + 5) 1 4 M := ca_cg (fun r hr => by
      have := h (5 + r) (by omega)
      rw [show 14 + 9 * (j - 6) + (5 + r) = 14 + 9 * (j - 6) + 5 + 1 * r by omega] at this
      exact this)
    rw [if_neg h6, if_neg h6, h 0 (by decide), e]
theorem wcl_upd {k : Nat} {x : Int32} (hk : k < 14 ∨ 68 ≤ k) (hk2 : k < 120) (h70 : k ≠ 70) : ∀ j, j ≠ own k → j < 25 → wcl LG B (upd M k x) F ex hd j = wcl LG B M F ex hd j := by
  intro j hj hj25
  unfold own at hj
  match j with
  | 0 =>
    have e : ∀ q, q = 68 ∨ q = 12 ∨ q = 13 ∨ q = 69 → upd M k x q = M q := fun q hq => pk_un (by
      rintro rfl
      rcases hq with rfl | rfl | rfl | rfl <;> exact hj rfl)
    simp only [wcl, e 68 (by decide), e 12 (by decide), e 13 (by decide), e 69 (by decide)]
  | 1 =>
    simp only [wcl]
    rw [ca_cg (fun r hr => pk_un (by
      rintro rfl
      rw [if_pos (by omega)] at hj
      exact hj rfl))]
  | 2 => rfl
  | 3 =>
    have e : upd M k x 71 = M 71 := pk_un (by
      rintro rfl
      exact hj rfl)
    simp only [wcl, e]
  | 4 =>
    simp only [wcl]
    rw [ca_cg (fun r hr => pk_un (by
      intro e
      apply hj
      subst e
      repeat' split
      all_goals omega))]
  | 5 =>
    simp only [wcl]
    rw [ca_cg (fun r hr => pk_un (by
      intro e
      apply hj
      subst e
      repeat' split
      all_goals omega))]
  | 6 =>
    have e : upd M k x 82 = M 82 := pk_un (by
      rintro rfl
      exact hj rfl)
    simp only [wcl, e]
  | 7 =>
    simp only [wcl]
    rw [ca_cg (fun r hr => pk_un (by
      intro e
      apply hj
      subst e
      repeat' split
      all_goals omega))]
  | 8 =>
    simp only [wcl]
    rw [ca_cg (fun r hr => pk_un (by
      intro e
      apply hj
      subst e
      repeat' split
      all_goals omega))]
  | 9 =>
    have e : upd M k x 103 = M 103 := pk_un (by
      rintro rfl
      exact hj rfl)
    simp only [wcl, e]
  | 10 =>
    simp only [wcl]
    rw [ca_cg (fun r hr => pk_un (by
      intro e
      apply hj
      subst e
      repeat' split
      all_goals omega))]
  | 11 =>
    simp only [wcl]
    rw [ca_cg (fun r hr => pk_un (by
      intro e
      apply hj
      subst e
      repeat' split
      all_goals omega))]
  | 12 => rfl
  | j + 13 =>
    refine wcl_hi (by omega) (fun w hw => pk_un ?_)
    split <;> omega
/-- a number of a person -/
theorem wcl_updp {i w : Nat} {x : Int32} (hi : i < 6) (h1 : 1 ≤ w) (hw : w < 9) : ∀ j, j ≠ (if w < 5 then 13 + i else 19 + i) → j < 25 → wcl LG B (upd M (14 + 9 * i + w) x) F ex hd j = wcl LG B M F ex hd j := by
  intro j hj hj25
  match j with
  | 0 =>
    have e : ∀ q, q < 14 ∨ 68 ≤ q → upd M (14 + 9 * i + w) x q = M q := fun q hq => pk_un (by omega)
    simp only [wcl, e 68 (by decide), e 12 (by decide), e 13 (by decide), e 69 (by decide)]
  | 1 =>
    simp only [wcl]
    rw [ca_cg (fun r hr => pk_un (by omega))]
  | 2 => rfl
  | 3 =>
    have e : upd M (14 + 9 * i + w) x 71 = M 71 := pk_un (by omega)
    simp only [wcl, e]
  | 4 =>
    simp only [wcl]
    rw [ca_cg (fun r hr => pk_un (by omega))]
  | 5 =>
    simp only [wcl]
    rw [ca_cg (fun r hr => pk_un (by omega))]
  | 6 =>
    have e : upd M (14 + 9 * i + w) x 82 = M 82 := pk_un (by omega)
    simp only [wcl, e]
  | 7 =>
    simp only [wcl]
    rw [ca_cg (fun r hr => pk_un (by omega))]
  | 8 =>
    simp only [wcl]
    rw [ca_cg (fun r hr => pk_un (by omega))]
  | 9 =>
    have e : upd M (14 + 9 * i + w) x 103 = M 103 := pk_un (by omega)
    simp only [wcl, e]
  | 10 =>
    simp only [wcl]
    rw [ca_cg (fun r hr => pk_un (by omega))]
  | 11 =>
    simp only [wcl]
    rw [ca_cg (fun r hr => pk_un (by omega))]
  | 12 => rfl
  | j + 13 =>
    by_cases h6 : j < 6
    · by_cases hji : j = i
      · subst hji
        have hw5 : ¬ w < 5 := by
          intro h
          rw [if_pos h] at hj
          omega
        simp only [wcl]
        rw [if_pos h6, if_pos h6]
        have e : ∀ v, v < 5 → upd M (14 + 9 * j + w) x (14 + 9 * j + v) = M (14 + 9 * j + v) := fun v hv => pk_un (by omega)
        simp only [pfs, e 0 (by decide), e 1 (by decide), e 2 (by decide), e 3 (by decide), e 4 (by decide)]
      · refine wcl_hi (by omega) (fun v hv => pk_un ?_)
        rw [if_pos h6]
        omega
    · by_cases hji : j - 6 = i
      · have hw5 : w < 5 := by
          rcases Nat.lt_or_ge w 5 with h | h
          · exact h
          · rw [if_neg (by omega)] at hj
            omega
        simp only [wcl]
        rw [if_neg h6, if_neg h6, hji]
        rw [pk_un (show 14 + 9 * i + 0 ≠ 14 + 9 * i + w by omega), ca_cg (fun r hr => pk_un (by omega))]
      · refine wcl_hi (by omega) (fun v hv => pk_un ?_)
        rw [if_neg h6]
        omega

end
