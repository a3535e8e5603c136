/-! A new person is put into a world. -/
/-- roles lie where nothing else does: below z, or from BIG on -/
def LV (LG gr : Nat → Nat) (C : Nat → Option AE) (z : Nat × Nat) (BIG : Nat) : Prop := (∀ r, gr (LG r) = r) ∧ (∀ r, LG r < z.1 ∨ BIG ≤ LG r) ∧ (∀ r e, C r = some e → LG r < z.1)
/-- nothing lies below S -/
def GN (S : Nat) (LG : Nat → Nat) (G : Nat → Option AE) (z : Nat × Nat) : Prop := (∀ r, S ≤ LG r) ∧ (∀ a, a < S → G a = none) ∧ S ≤ z.1
theorem GH_of {LG gr : Nat → Nat} {C : Nat → Option AE} {h : HS} (hC : ∀ r e, C r = some e → h.1 (LG r) = some e) : h = GH LG gr C h.1 h.2 := by
  refine Prod.ext (funext fun a => ?_) rfl
  show h.1 a = if LG (gr a) = a then _ else _
  by_cases h1 : LG (gr a) = a
  · rw [if_pos h1]
    cases h2 : C (gr a) with
    | none => rfl
    | some e =>
      have := hC _ _ h2
      rw [h1] at this
      exact this
  · rw [if_neg h1]
/-- the numbers behind a new person of kind K at place i -/
def NU (M M1 : Nat → Int32) (i K : Nat) (v s : Int32) : Prop := M1 (14 + 9 * i + 0) = nI K ∧ M1 (14 + 9 * i + 1) = v ∧ M1 (14 + 9 * i + 2) = s ∧ M1 (14 + 9 * i + 3) = 0 ∧ M1 (14 + 9 * i + 4) = 0 ∧ (K = 6 → ∀ w, w < 4 → M1 (14 + 9 * i + 5 + w) = 0) ∧ (∀ k, (k < 14 + 9 * i ∨ 14 + 9 * i + 9 ≤ k) → M1 k = M k)
def LG1 (LG : Nat → Nat) (B i K a : Nat) : Nat → Nat := fun r => if r = B + 13 + i then a else if r = B + 19 + i ∧ K = 6 then a + 1 else LG r
def gr1 (gr : Nat → Nat) (B i K a : Nat) : Nat → Nat := fun q => if q = a then B + 13 + i else if q = a + 1 ∧ K = 6 then B + 19 + i else gr q
def ex1 (ex : Nat → Bool) (i : Nat) : Nat → Bool := fun j => if j = i then true else ex j
theorem LG1_o {LG : Nat → Nat} {B i K a r : Nat} (h1 : r ≠ B + 13 + i) (h2 : r ≠ B + 19 + i) : LG1 LG B i K a r = LG r := by
  unfold LG1
  rw [if_neg h1, if_neg (fun h => h2 h.1)]
theorem LG1_p {LG : Nat → Nat} {B i K a : Nat} : LG1 LG B i K a (B + 13 + i) = a := if_pos rfl
theorem LG1_m {LG : Nat → Nat} {B i a : Nat} : LG1 LG B i 6 a (B + 19 + i) = a + 1 := by
  unfold LG1
  rw [if_neg (by omega), if_pos ⟨rfl, rfl⟩]
section
variable {LG gr : Nat → Nat} {B : Nat} {M F : Nat → Int32} {ex : Nat → Bool} {hd : Option Nat} {C G : Nat → Option AE} {z : Nat × Nat}
theorem wcl_nu {M1 : Nat → Int32} {i K a k : Nat} {v s : Int32} (hi : i < 6) (hN : NU M M1 i K v s) (hh : ∀ r, hd = some r → r + 5 ≤ B ∨ B + 25 ≤ r) (hk : k < 25) (k2 : k ≠ 2) (kp : k ≠ 13 + i) (km : k ≠ 19 + i) : wcl (LG1 LG B i K a) B M1 F (ex1 ex i) hd k = wcl LG B M F ex hd k := by
  have hl : ∀ q, q < 13 → LG1 LG B i K a (B + q) = LG (B + q) := fun q hq => LG1_o (by omega) (by omega)
  obtain ⟨-, -, -, -, -, -, ho⟩ := hN
  match k, hk with
  | 0, _ =>
    have hr : rfv (LG1 LG B i K a) hd = rfv LG hd := by
      cases hd with
      | none => rfl
      | some r =>
        have := hh r rfl
        show Value.ref _ = Value.ref _
        rw [LG1_o (by omega) (by omega)]
    simp only [wcl, hl 1 (by decide), hl 2 (by decide), hl 3 (by decide), hl 6 (by decide), hl 9 (by decide), hl 12 (by decide), ho 68 (by omega), ho 12 (by omega), ho 13 (by omega), ho 69 (by omega), hr]
  | 1, _ =>
    simp only [wcl]
    rw [ca_cg (fun r hr => ho _ (by omega))]
  | 2, _ => exact absurd rfl k2
  | 3, _ => simp only [wcl, hl 4 (by decide), hl 5 (by decide), ho 71 (by omega)]
  | 4, _ =>
    simp only [wcl]
    rw [ca_cg (fun r hr => ho _ (by omega))]
  | 5, _ =>
    simp only [wcl]
    rw [ca_cg (fun r hr => ho _ (by omega))]
  | 6, _ => simp only [wcl, hl 7 (by decide), hl 8 (by decide), ho 82 (by omega)]
  | 7, _ =>
    simp only [wcl]
    rw [ca_cg (fun r hr => ho _ (by omega))]
  | 8, _ =>
    simp only [wcl]
    rw [ca_cg (fun r hr => ho _ (by omega))]
  | 9, _ => simp only [wcl, hl 10 (by decide), hl 11 (by decide), ho 103 (by omega)]
  | 10, _ =>
    simp only [wcl]
    rw [ca_cg (fun r hr => ho _ (by omega))]
  | 11, _ =>
    simp only [wcl]
    rw [ca_cg (fun r hr => ho _ (by omega))]
  | 12, _ => rfl
  | j + 13, hk =>
    simp only [wcl]
    by_cases h6 : j < 6
    · have hj : j ≠ i := by omega
      have e1 : ex1 ex i j = ex j := if_neg hj
      have e2 : ∀ w, w < 9 → M1 (14 + 9 * j + w) = M (14 + 9 * j + w) := fun w hw => ho _ (by omega)
      rw [if_pos h6, if_pos h6, e1]
      simp only [pfs, e2 0 (by decide), e2 1 (by decide), e2 2 (by decide), e2 3 (by decide), e2 4 (by decide), LG1_o (LG := LG) (B := B) (i := i) (K := K) (a := a) (r := B + 19 + j) (by omega) (by omega)]
    · have hj : j - 6 ≠ i := by omega
      have e1 : ex1 ex i (j - 6) = ex (j - 6) := if_neg hj
      rw [if_neg h6, if_neg h6, e1, ho _ (by omega), ca_cg (fun r hr => ho _ (by omega))]
/-- the heap behind it -/
theorem st_heap {M1 : Nat → Int32} {i K BIG : Nat} {v s : Int32} (hL : LV LG gr (WC LG B M F ex hd C) z BIG) (hz : z.1 + 2 ≤ BIG) (hi : i < 6) (hK : K < 7) (hN : NU M M1 i K v s) (hh : ∀ r, hd = some r → r + 5 ≤ B ∨ B + 25 ≤ r) : ∀ r e, WC (LG1 LG B i K z.1) B M1 F (ex1 ex i) hd C r = some e → (hput (nwP (GW LG gr B M F ex hd C G z) K (nI i) v s) (LG (B + 2)) (.inl (4, 6, .inr (.inr (.inr (.inr (va_up (fun j => if j < 6 ∧ ex j = true then some (LG (B + 13 + j)) else none) i (some z.1)))))))).1 (LG1 LG B i K z.1 r) = some e ∧ LG1 LG B i K z.1 r < z.1 + (if K = 6 then 2 else 1) := by
  obtain ⟨hg, hF, hA⟩ := hL
  have inj : ∀ {r q}, LG r = LG q → r = q := fun {r q} e => by
    have := congrArg gr e
    rwa [hg, hg] at this
  have up : ∀ {a : Nat} {e : AE}, a ≠ LG (B + 2) → (hput (nwP (GW LG gr B M F ex hd C G z) K (nI i) v s) (LG (B + 2)) e).1 a = (nwP (GW LG gr B M F ex hd C G z) K (nI i) v s).1 a := fun {a e} h => if_neg h
  have p2 : LG (B + 2) < z.1 := hA (B + 2) _ (WC_k 2 (by decide))
  have old : ∀ r e, r ≠ B + 2 → r ≠ B + 13 + i → r ≠ B + 19 + i → WC LG B M F ex hd C r = some e → (hput (nwP (GW LG gr B M F ex hd C G z) K (nI i) v s) (LG (B + 2)) (.inl (4, 6, .inr (.inr (.inr (.inr (va_up (fun j => if j < 6 ∧ ex j = true then some (LG (B + 13 + j)) else none) i (some z.1)))))))).1 (LG1 LG B i K z.1 r) = some e ∧ LG1 LG B i K z.1 r < z.1 + (if K = 6 then 2 else 1) := by
    intro r e h1 h2 h3 h4
    have hlt := hA r e h4
    rw [LG1_o h2 h3, up (fun e => h1 (inj e)), nwP_lt (h := GW LG gr B M F ex hd C G z) hlt]
    refine ⟨GH_at hg h4, ?_⟩
    split <;> omega
  intro r e he
  by_cases hr : r < B ∨ B + 25 ≤ r
  · rw [WC_out hr] at he
    exact old r e (by omega) (by omega) (by omega) ((WC_out hr).trans he)
  · obtain ⟨k, hk, rfl⟩ : ∃ k, k < 25 ∧ r = B + k := ⟨r - B, by omega, by omega⟩
    rw [WC_k k hk] at he
    by_cases k2 : k = 2
    · subst k2
      rw [LG1_o (by omega) (by omega)]
      refine ⟨?_, by split <;> omega⟩
      have e1 : (hput (nwP (GW LG gr B M F ex hd C G z) K (nI i) v s) (LG (B + 2)) (.inl (4, 6, .inr (.inr (.inr (.inr (va_up (fun j => if j < 6 ∧ ex j = true then some (LG (B + 13 + j)) else none) i (some z.1)))))))).1 (LG (B + 2)) = some (.inl (4, 6, .inr (.inr (.inr (.inr (va_up (fun j => if j < 6 ∧ ex j = true then some (LG (B + 13 + j)) else none) i (some z.1))))))) := if_pos rfl
      rw [e1, ← he]
      have e2 : (va_up (fun j => if j < 6 ∧ ex j = true then some (LG (B + 13 + j)) else none) i (some z.1)) = (fun j => if j < 6 ∧ ex1 ex i j = true then some (LG1 LG B i K z.1 (B + 13 + j)) else none) := by
        funext j
        unfold va_up
        by_cases hj : j = i
        · subst hj
          rw [if_pos rfl, if_pos ⟨hi, if_pos rfl⟩, LG1_p]
        · have e1 : ex1 ex i j = ex j := if_neg hj
          rw [if_neg hj, e1]
          show (if j < 6 ∧ ex j = true then some (LG (B + 13 + j)) else none) = _
          by_cases h6 : j < 6 ∧ ex j = true
          · rw [if_pos h6, if_pos h6, LG1_o (by omega) (by omega)]
          · rw [if_neg h6, if_neg h6]
      rw [e2]
      rfl
    · by_cases kp : k = 13 + i
      · subst kp
        have e0 : B + (13 + i) = B + 13 + i := by omega
        rw [e0, LG1_p, up (by omega)]
        refine ⟨?_, by split <;> omega⟩
        have e1 := nwP_at (h := GW LG gr B M F ex hd C G z) (K := K) (nu := nI i) (v := v) (s := s)
        refine e1.trans ?_
        rw [← he, show 13 + i = i + 13 by omega]
        simp only [wcl]
        have x1 : ex1 ex i i = true := if_pos rfl
        rw [if_pos hi, if_pos x1]
        obtain ⟨n0, n1, n2, n3, n4, n5, -⟩ := hN
        simp only [pfs, n0, n1, n2, n3, n4]
        by_cases h6 : K = 6
        · subst h6
          rw [if_pos rfl, if_pos (show nI 6 = 6 from rfl), LG1_m]
          rfl
        · have : ¬ nI K = 6 := fun h => h6 ((nI_eq (a := K) (b := 6) (by omega) (by decide)).mp h)
          rw [if_neg h6, if_neg this]
      · by_cases km : k = 19 + i
        · subst km
          rw [show 19 + i = i + 6 + 13 by omega] at he
          simp only [wcl] at he
          have x1 : ex1 ex i i = true := if_pos rfl
          obtain ⟨n0, n1, n2, n3, n4, n5, -⟩ := hN
          rw [if_neg (by omega), Nat.add_sub_cancel, x1, n0] at he
          by_cases h6 : K = 6
          · subst h6
            rw [if_pos ⟨rfl, rfl⟩] at he
            have e0 : B + (19 + i) = B + 19 + i := by omega
            rw [e0, LG1_m, up (by omega)]
            refine ⟨?_, by simp⟩
            refine (nwP_at1 (h := GW LG gr B M F ex hd C G z)).trans ?_
            rw [← he]
            have e3 : (fun _ => 0) = ca (14 + 9 * i + 5) 1 4 M1 := by
              funext r
              unfold ca
              by_cases hr : r < 4
              · rw [if_pos hr, Nat.one_mul, n5 rfl r hr]
              · rw [if_neg hr]
            rw [e3]
          · have : ¬ nI K = 6 := fun h => h6 ((nI_eq (a := K) (b := 6) (by omega) (by decide)).mp h)
            rw [if_neg (fun h => this h.2)] at he
            cases he
        · rw [wcl_nu hi hN hh hk k2 kp km] at he
          exact old (B + k) e (by omega) (by omega) (by omega) ((WC_k k hk).trans he)
theorem st_LV {M1 : Nat → Int32} {i K BIG : Nat} {v s : Int32} (hL : LV LG gr (WC LG B M F ex hd C) z BIG) (hz : z.1 + 2 ≤ BIG) (hi : i < 6) (hK : K < 7) (hN : NU M M1 i K v s) (hh : ∀ r, hd = some r → r + 5 ≤ B ∨ B + 25 ≤ r) : LV (LG1 LG B i K z.1) (gr1 gr B i K z.1) (WC (LG1 LG B i K z.1) B M1 F (ex1 ex i) hd C) (z.1 + (if K = 6 then 2 else 1), z.2 + (if K = 6 then 11 else 6)) BIG := by
  refine ⟨fun r => ?_, fun r => ?_, fun r e he => (st_heap (G := fun _ => none) hL hz hi hK hN hh r e he).2⟩
  · have hF := hL.2.1 r
    unfold LG1 gr1
    by_cases h1 : r = B + 13 + i
    · rw [if_pos h1, if_pos rfl, h1]
    · rw [if_neg h1]
      by_cases h2 : r = B + 19 + i ∧ K = 6
      · rw [if_pos h2, if_neg (by omega), if_pos ⟨rfl, h2.2⟩, h2.1]
      · rw [if_neg h2, if_neg (by omega), if_neg (by omega)]
        exact hL.1 r
  · have hF := hL.2.1 r
    unfold LG1
    show _ < z.1 + _ ∨ _
    by_cases h1 : r = B + 13 + i
    · rw [if_pos h1]
      refine Or.inl ?_
      split <;> omega
    · rw [if_neg h1]
      by_cases h2 : r = B + 19 + i ∧ K = 6
      · rw [if_pos h2, if_pos h2.2]
        exact Or.inl (by omega)
      · rw [if_neg h2]
        split <;> omega
/-- the row: a new person into the world's people -/
theorem st_sa {M1 : Nat → Int32} {i K BIG : Nat} {v s : Int32} (hL : LV LG gr (WC LG B M F ex hd C) z BIG) (hz : z.1 + 2 ≤ BIG) (hi : i < 6) (hK : K < 7) (hN : NU M M1 i K v s) (hh : ∀ r, hd = some r → r + 5 ≤ B ∨ B + 25 ≤ r) : ∃ G1, (∀ S, GN S LG G z → GN S (LG1 LG B i K z.1) G1 (z.1 + (if K = 6 then 2 else 1), z.2 + (if K = 6 then 11 else 6))) ∧ ∀ T : HS → Prop, sa [1, 2, 3, 4, 5, 6, 8] (nI i) z.1 (nwP (GW LG gr B M F ex hd C G z) K (nI i) v s) (LG (B + 2)) T = T (GW (LG1 LG B i K z.1) (gr1 gr B i K z.1) B M1 F (ex1 ex i) hd C G1 (z.1 + (if K = 6 then 2 else 1), z.2 + (if K = 6 then 11 else 6))) := by
  refine ⟨(hput (nwP (GW LG gr B M F ex hd C G z) K (nI i) v s) (LG (B + 2)) (.inl (4, 6, .inr (.inr (.inr (.inr (va_up (fun j => if j < 6 ∧ ex j = true then some (LG (B + 13 + j)) else none) i (some z.1)))))))).1, fun S hS => ⟨fun r => ?_, fun a ha => ?_, ?_⟩, fun T => ?_⟩
  · have h1 := hS.1 r
    have h2 := hS.2.2
    unfold LG1
    split
    · exact h2
    · split
      · omega
      · exact h1
  · have h1 := hS.1 (gr a)
    have h2 := hS.1 (B + 2)
    have h3 := hS.2.2
    refine (if_neg (show a ≠ LG (B + 2) by omega)).trans ?_
    refine (nwP_lt (h := GW LG gr B M F ex hd C G z) (show a < z.1 by omega)).trans ?_
    refine (if_neg (show LG (gr a) ≠ a by omega)).trans ?_
    exact hS.2.1 a ha
  · have h3 := hS.2.2
    show S ≤ z.1 + _
    omega
  have p2 : LG (B + 2) < z.1 := hL.2.2 (B + 2) _ (WC_k 2 (by decide))
  have a1 : (nwP (GW LG gr B M F ex hd C G z) K (nI i) v s).1 (LG (B + 2)) = some (.inl (4, 6, .inr (.inr (.inr (.inr (fun j => if j < 6 ∧ ex j = true then some (LG (B + 13 + j)) else none)))))) := (nwP_lt (h := GW LG gr B M F ex hd C G z) p2).trans (GH_at hL.1 (WC_k 2 (by decide)))
  have a2 := nwP_at (h := GW LG gr B M F ex hd C G z) (K := K) (nu := nI i) (v := v) (s := s)
  have a2' : (nwP (GW LG gr B M F ex hd C G z) K (nI i) v s).1 z.1 = _ := a2
  simp only [sa, a1, a2', kc_in, true_and, nI_clamp (show i < 2 ^ 31 by omega), ix_nIT hi (show 6 < 2 ^ 31 by decide)]
  have hz2 := nwP_z (h := GW LG gr B M F ex hd C G z) (K := K) (nu := nI i) (v := v) (s := s)
  refine congrArg T ?_
  have := GH_of (LG := LG1 LG B i K z.1) (gr := gr1 gr B i K z.1) (fun r e he => (st_heap (G := G) hL hz hi hK hN hh r e he).1)
  refine this.trans ?_
  refine congrArg _ ?_
  exact hz2
end
