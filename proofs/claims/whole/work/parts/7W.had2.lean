/-! What one can have had: the class's way is the reference's. -/
def UB (M : Nat → Int32) (cl : List Cls) (i : Nat) : Prop := ∀ s, s < 12 → -5000 ≤ (smF M cl i s).toInt ∧ (smF M cl i s).toInt ≤ 5000
theorem i_sub {a b : Int32} (h1 : -10000 ≤ a.toInt - b.toInt) (h2 : a.toInt - b.toInt ≤ 10000) : (a - b).toInt = a.toInt - b.toInt := by
  rw [Int32.toInt_sub]
  unfold Int.bmod
  dsimp only
  split <;> omega
theorem i_add {a b : Int32} (h1 : -10000 ≤ a.toInt + b.toInt) (h2 : a.toInt + b.toInt ≤ 10000) : (a + b).toInt = a.toInt + b.toInt := by
  rw [Int32.toInt_add]
  unfold Int.bmod
  dsimp only
  split <;> omega
section
variable {M : Nat → Int32} {cl : List Cls} {i : Nat}
theorem uF_sh (hP : P2 M i) (hU : UB M cl i) : (∀ m s, uF M cl i m s = uF M cl i 0 s) ∨ (∃ β : Nat → Int, ∀ m, m ≤ 12 → ∀ s, s < 12 → (uF M cl i m s).toInt = β s - m) := by
  by_cases h3 : M (14 + 9 * i + 0) = 3
  · refine Or.inr ⟨fun s => (smF M cl i s).toInt, fun m hm s hs => ?_⟩
    have e1 : ¬ (3 : Int32) = 1 := by decide
    have e2 : ¬ (3 : Int32) = 2 := by decide
    have u := hU s hs
    simp only [uF, urg, h3, e1, e2, if_false, if_true]
    rw [i_sub (by rw [nI_toInt (by omega)]; omega) (by rw [nI_toInt (by omega)]; omega), nI_toInt (by omega)]
  · by_cases h6 : M (14 + 9 * i + 0) = 6
    · refine Or.inr ⟨fun s => (smF M cl i s).toInt + (M (14 + 9 * i + (5 + s % 4))).toInt, fun m hm s hs => ?_⟩
      have e1 : ¬ (6 : Int32) = 1 := by decide
      have e2 : ¬ (6 : Int32) = 2 := by decide
      have e3 : ¬ (6 : Int32) = 3 := by decide
      have e4 : ¬ (6 : Int32) = 4 := by decide
      have e5 : ¬ (6 : Int32) = 5 := by decide
      have u := hU s hs
      obtain ⟨v, hv, ev⟩ := hP h6 (s % 4) (by omega)
      rw [show 14 + 9 * i + 5 + s % 4 = 14 + 9 * i + (5 + s % 4) by omega] at ev
      simp only [uF, urg, h6, e1, e2, e3, e4, e5, if_false, if_true, ev]
      have es : (smF M cl i s - nI m).toInt = (smF M cl i s).toInt - m := by
        rw [i_sub (by rw [nI_toInt (by omega)]; omega) (by rw [nI_toInt (by omega)]; omega), nI_toInt (by omega)]
      rw [i_add (by rw [es, nI_toInt (by omega)]; omega) (by rw [es, nI_toInt (by omega)]; omega), es, nI_toInt (by omega)]
      omega
    · refine Or.inl (fun m s => ?_)
      simp only [uF, urg, h3, h6, if_false]
theorem sh_lt (hP : P2 M i) (hU : UB M cl i) {a b s t : Nat} (ha : a ≤ 12) (hb : b ≤ 12) (hs : s < 12) (ht : t < 12) (h : bts (uF M cl i b) t s) : bts (uF M cl i a) t s := by
  rcases uF_sh hP hU with e | ⟨β, e⟩
  · rw [bts, e b s, e b t] at h
    rw [bts, e a s, e a t]
    exact h
  · have b1 := e b hb s hs
    have b2 := e b hb t ht
    have a1 := e a ha s hs
    have a2 := e a ha t ht
    rcases h with h | ⟨h, h'⟩
    · left
      rw [Int32.lt_iff_toInt_lt] at h ⊢
      omega
    · right
      refine ⟨?_, h'⟩
      rw [← Int32.toInt_inj] at h ⊢
      omega
theorem sh_pos (hP : P2 M i) (hU : UB M cl i) {a b t : Nat} (hab : a ≤ b) (hb : b ≤ 12) (ht : t < 12) (h : 0 < uF M cl i b t) : 0 < uF M cl i a t := by
  rcases uF_sh hP hU with e | ⟨β, e⟩
  · rw [e b t] at h
    rw [e a t]
    exact h
  · have b2 := e b hb t ht
    have a2 := e a (by omega) t ht
    rw [Int32.lt_iff_toInt_lt] at h ⊢
    have z : (0 : Int32).toInt = 0 := by decide
    omega
theorem tip_u {v : Nat} (hv : v < 4096) : tipF M cl i (nI v) = tp (uF M cl i (pcL v 12)) (nI v) := by
  unfold tipF
  rw [mn_pc (by omega)]
  rfl
theorem bt_1 {v s : Nat} (hv : v < 4096) (hs : s < 12) : bt (nI v) s = 1 ↔ v.testBit s = true := by
  rw [bt_tb (by omega) (by omega)]
  split
  · rename_i h
    exact ⟨fun _ => h, fun _ => rfl⟩
  · rename_i h
    exact ⟨fun e => absurd e (by decide), fun e => absurd e h⟩
theorem pcL_mono {A B : Nat} : ∀ n, (∀ s, s < n → B.testBit s = true → A.testBit s = true) → pcL B n ≤ pcL A n := by
  intro n
  induction n with
  | zero =>
    intro _
    exact Nat.le_refl _
  | succ n ih =>
    intro h
    have := ih (fun s hs => h s (by omega))
    simp only [pcL, tb_mod]
    by_cases hb : B.testBit n = true
    · rw [if_pos hb, if_pos (h n (by omega) hb)]
      omega
    · rw [if_neg hb]
      omega
/-- a tip stays the tip of a smaller set that has it -/
theorem tip_sub (hP : P2 M i) (hU : UB M cl i) {A B x : Nat} (hA : A < 4096) (hB : B < 4096) (hx : x < 12) (hs : ∀ s, s < 12 → B.testBit s = true → A.testBit s = true) (hb : B.testBit x = true) (h : tipF M cl i (nI A) = nI x) : tipF M cl i (nI B) = nI x := by
  rw [tip_u hA, tp_iff hx] at h
  rw [tip_u hB, tp_iff hx]
  obtain ⟨h1, h2, h3⟩ := h
  have pa := pcL_le A 12
  have pb := pcL_le B 12
  refine ⟨(bt_1 hB hx).mpr hb, sh_pos hP hU (pcL_mono 12 hs) pa hx h2, fun s s12 hbs hne => ?_⟩
  exact sh_lt hP hU pb pa s12 hx (h3 s s12 ((bt_1 hA s12).mpr (hs s s12 ((bt_1 hB s12).mp hbs))) hne)
def gtF (u : Nat → Int32) (t s : Nat) : Nat := if s = t then 1 else if bts u t s then 0 else 2
def gxF (u : Nat → Int32) (s : Nat) : Nat := if 0 < u s then 2 else 0
theorem fr_gt {u : Nat → Int32} {t : Nat} : ∀ n, frN (gtF u t) n = bnF u t n := by
  intro n
  induction n with
  | zero => rfl
  | succ n ih =>
    simp only [frN, bnF]
    rw [ih]
    congr 1
    unfold gtF
    by_cases e : n = t
    · subst e
      have : ¬ (u n < u n ∨ (u n = u n ∧ n < n)) := by
        rintro (h | ⟨-, h⟩)
        · exact Int32.lt_irrefl h
        · omega
      refine Eq.trans ?_ (if_neg this).symm
      simp
    · rw [if_neg e]
      by_cases h : bts u t n
      · rw [if_pos h, if_pos h]
        rfl
      · rw [if_neg h, if_neg h]
        rfl
theorem mu_gt {u : Nat → Int32} {t : Nat} : ∀ n, muN (gtF u t) n = if t < n then 1 else 0 := by
  intro n
  induction n with
  | zero => rfl
  | succ n ih =>
    simp only [muN]
    rw [ih]
    unfold gtF
    by_cases e : n = t
    · subst e
      rw [if_neg (by omega), if_pos rfl, if_pos rfl, if_pos (by omega)]
    · rw [if_neg e]
      by_cases h : t < n
      · rw [if_pos h, if_pos (show t < n + 1 by omega)]
        split <;> simp
      · rw [if_neg h, if_neg (show ¬ t < n + 1 by omega)]
        split <;> simp
theorem fr_gx {u : Nat → Int32} : ∀ n, frN (gxF u) n = unF u n := by
  intro n
  induction n with
  | zero => rfl
  | succ n ih =>
    simp only [frN, unF]
    rw [ih]
    congr 1
    unfold gxF
    by_cases h : 0 < u n
    · rw [if_pos h, if_pos h]
      rfl
    · rw [if_neg h, if_neg h]
      rfl
theorem mu_gx {u : Nat → Int32} : ∀ n, muN (gxF u) n = 0 := by
  intro n
  induction n with
  | zero => rfl
  | succ n ih =>
    simp only [muN]
    rw [ih]
    unfold gxF
    split <;> simp
theorem sx_sS : ∀ n, n ≤ 13 → sxF M cl i n = sS (fun m => cnt (okq (gxF (uF M cl i m)) 12 m) 4096) n := by
  intro n
  induction n with
  | zero =>
    intro _
    rfl
  | succ n ih =>
    intro hn
    simp only [sxF, sS]
    rw [ih (by omega)]
    congr 1
    have := cnt_okq (g := gxF (uF M cl i n)) 12 n
    rw [show (4096 : Nat) = 2 ^ 12 by rfl, this, mu_gx, fr_gx, if_neg (by omega), Nat.sub_zero]
    exact bC_ch _ (by have := unF_le (u := uF M cl i n) 12; omega) n (by omega)
theorem sw_sS {t : Nat} (ht : t < 12) : ∀ n, n ≤ 12 → swF M cl i t n = sS (fun m => cnt (fun v => decide (0 < uF M cl i m t) && okq (gtF (uF M cl i m) t) 12 m v) 4096) (n + 1) := by
  intro n
  have f0 : ∀ m, cnt (fun v => decide (0 < uF M cl i m t) && okq (gtF (uF M cl i m) t) 12 m v) 4096 = if 0 < uF M cl i m t then (if m < 1 then 0 else bC (bnF (uF M cl i m) t 12) (m - 1)) else 0 := by
    intro m
    by_cases h : 0 < uF M cl i m t
    · have := cnt_okq (g := gtF (uF M cl i m) t) 12 m
      rw [mu_gt, fr_gt, if_pos ht] at this
      rw [if_pos h, ← this]
      exact cnt_cg 4096 (fun v _ => by simp [h])
    · rw [if_neg h, ← cnt_f (n := 4096)]
      exact cnt_cg 4096 (fun v _ => by simp [h])
  induction n with
  | zero =>
    intro _
    rw [sS, f0 0]
    simp [sS, swF]
  | succ n ih =>
    intro hn
    rw [sS, f0 (n + 1), ← ih (by omega), swF]
    congr 1
    split
    · rw [if_neg (by omega), show n + 1 - 1 = n by omega]
      exact bC_ch _ (by have := bnF_le (u := uF M cl i (n + 1)) (t := t) 12; omega) n (by omega)
    · rfl
theorem P_sx {v : Nat} (hv : v < 4096) : decide (tipF M cl i (nI v) = -1) = okq (gxF (uF M cl i (pcL v 12))) 12 (pcL v 12) v := by
  rw [Bool.eq_iff_iff, decide_eq_true_eq, tip_u hv, tp_m1, okq_iff]
  constructor
  · intro h
    refine ⟨rfl, fun s hs => ?_⟩
    unfold gxF
    split
    · rename_i hu
      refine ⟨fun e => by omega, fun _ => ?_⟩
      rw [Bool.eq_false_iff]
      intro hb
      exact h s hs ((bt_1 hv hs).mpr hb) hu
    · exact ⟨fun e => by omega, fun e => by omega⟩
  · rintro ⟨-, h⟩ s hs hb hu
    have := (h s hs).2 (by unfold gxF; rw [if_pos hu])
    rw [(bt_1 hv hs).mp hb] at this
    exact Bool.noConfusion this
theorem P_sw {v t : Nat} (hv : v < 4096) (ht : t < 12) : decide (tipF M cl i (nI v) = nI t) = (decide (0 < uF M cl i (pcL v 12) t) && okq (gtF (uF M cl i (pcL v 12)) t) 12 (pcL v 12) v) := by
  rw [Bool.eq_iff_iff, decide_eq_true_eq, Bool.and_eq_true, decide_eq_true_eq, tip_u hv, tp_iff ht, okq_iff]
  constructor
  · rintro ⟨h1, h2, h3⟩
    refine ⟨h2, rfl, fun s hs => ?_⟩
    unfold gtF
    split
    · rename_i e
      rw [e]
      exact ⟨fun _ => (bt_1 hv ht).mp h1, fun e => by omega⟩
    · rename_i e
      split
      · exact ⟨fun e => by omega, fun e => by omega⟩
      · rename_i hn
        refine ⟨fun e => by omega, fun _ => ?_⟩
        rw [Bool.eq_false_iff]
        intro hb
        exact hn (h3 s hs ((bt_1 hv hs).mpr hb) e)
  · rintro ⟨h2, -, h⟩
    refine ⟨(bt_1 hv ht).mpr ((h t ht).1 (by unfold gtF; rw [if_pos rfl])), h2, fun s hs hb hne => ?_⟩
    by_cases hn : bts (uF M cl i (pcL v 12)) t s
    · exact hn
    · have := (h s hs).2 (by unfold gtF; rw [if_neg hne, if_neg hn])
      rw [(bt_1 hv hs).mp hb] at this
      exact Bool.noConfusion this
theorem c_sx : cnt (fun v => decide (tipF M cl i (nI v) = -1)) 4096 = sxF M cl i 13 := by
  rw [sx_sS 13 (by omega), sS_cnt (R := fun m v => okq (gxF (uF M cl i m)) 12 m v) (fun m v h => ((okq_iff _ _ _).mp h).1) 4096]
  refine cnt_cg 4096 (fun v hv => ?_)
  have := pcL_le v 12
  rw [P_sx hv]
  simp [show pcL v 12 < 13 by omega]
theorem c_sw {t : Nat} (ht : t < 12) : cnt (fun v => decide (tipF M cl i (nI v) = nI t)) 4096 = swF M cl i t 12 := by
  rw [sw_sS ht 12 (by omega), sS_cnt (R := fun m v => decide (0 < uF M cl i m t) && okq (gtF (uF M cl i m) t) 12 m v) (fun m v h => ((okq_iff _ _ _).mp (Bool.and_eq_true _ _ ▸ h).2).1) 4096]
  refine cnt_cg 4096 (fun v hv => ?_)
  have := pcL_le v 12
  rw [P_sw hv ht]
  simp [show pcL v 12 < 13 by omega]
theorem tip_0 : tipF M cl i (nI 0) = -1 := by
  rw [tip_u (by decide), tp_m1]
  intro s hs hb
  rw [bt_1 (by decide) hs] at hb
  simp at hb
theorem had_eq {k c : Nat} (hP : P2 M i) (hU : UB M cl i) (hs : SEok M k c) : hsF M cl i k = (dnF (hdP M cl i k) 4095 4096).1 ∧ lhF M cl i k = (dnF (hdP M cl i k) 4095 4096).2 := by
  rcases seen3 (p := nI i) hs with ⟨h1, h2⟩ | ⟨h1, h2⟩ | ⟨u, h1, h2, h3⟩
  · have hp : ∀ v, hdP M cl i k v = true := fun v => h2 _
    have e1 : hsF M cl i k = 4096 := by
      unfold hsF
      rw [h1, if_pos rfl]
    refine ⟨?_, ?_⟩
    · rw [e1, dn_all, cnt_cg (P' := fun _ => true) 4096 (fun v _ => hp v), cnt_t]
      rfl
    · rw [dn_least (v := 0) (by decide) (hp 0) (fun w hw => by omega)]
      unfold lhF
      rw [e1, h1, if_neg (by decide), if_neg (by decide)]
      rfl
  · have hp : ∀ v, hdP M cl i k v = false := fun v => h2 _
    have e1 : hsF M cl i k = 0 := by
      unfold hsF
      rw [h1, if_neg (by decide), if_pos rfl]
    refine ⟨?_, ?_⟩
    · rw [e1, dn_all, cnt_cg (P' := fun _ => false) 4096 (fun v _ => hp v), cnt_f]
      rfl
    · rw [dn_none (fun w _ => hp w)]
      unfold lhF
      rw [if_pos e1]
  · have hp : ∀ v, hdP M cl i k v = decide (tipF M cl i (nI v) = u) := by
      intro v
      rw [Bool.eq_iff_iff, decide_eq_true_eq]
      exact h3 _
    rcases h2 with hu | ⟨t, ht, hu⟩
    · have e1 : hsF M cl i k = nI (sxF M cl i 13) := by
        unfold hsF
        rw [h1, hu, if_neg (by decide), if_neg (by decide), if_neg (by decide)]
      have e2 : cnt (hdP M cl i k) 4096 = sxF M cl i 13 := by
        rw [← c_sx]
        refine cnt_cg 4096 (fun v _ => ?_)
        rw [hp, hu]
      have p0 : hdP M cl i k 0 = true := by
        rw [hp, hu, tip_0]
        rfl
      refine ⟨?_, ?_⟩
      · rw [e1, dn_all, e2]
      · rw [dn_least (v := 0) (by decide) p0 (fun w hw => by omega)]
        unfold lhF
        have n0 : ¬ hsF M cl i k = 0 := by
          intro e
          rw [e1, ← e2] at e
          have hl := cnt_le (hdP M cl i k) 4096
          have := (nI_eq (a := cnt (hdP M cl i k) 4096) (b := 0) (by omega) (by decide)).mp e
          have := cnt_0 4096 this 0 (by decide)
          rw [p0] at this
          exact Bool.noConfusion this
        rw [if_neg n0, h1, hu, if_neg (by decide)]
        rfl
    · have hn2 : ¬ nI t = -2 := nI_neg (by omega) (by decide)
      have hn3 : ¬ nI t = -3 := nI_neg (by omega) (by decide)
      have h0 : (0 : Int32) ≤ nI t := nI_pos' (by omega)
      have e1 : hsF M cl i k = nI (swF M cl i t 12) := by
        unfold hsF
        rw [h1, hu, if_neg hn2, if_neg hn3, if_pos h0, nI_clamp (by omega)]
      have e2 : cnt (hdP M cl i k) 4096 = swF M cl i t 12 := by
        rw [← c_sw ht]
        refine cnt_cg 4096 (fun v _ => ?_)
        rw [hp, hu]
      refine ⟨?_, ?_⟩
      · rw [e1, dn_all, e2]
      · unfold lhF
        have hl := cnt_le (hdP M cl i k) 4096
        by_cases n0 : hsF M cl i k = 0
        · rw [if_pos n0]
          rw [e1, ← e2] at n0
          have := (nI_eq (a := cnt (hdP M cl i k) 4096) (b := 0) (by omega) (by decide)).mp n0
          rw [dn_none (fun w hw => cnt_0 4096 this w hw)]
        · rw [if_neg n0, h1, hu, if_pos h0]
          have hlt : 2 ^ t < 4096 := by
            have : 2 ^ t < 2 ^ 12 := Nat.pow_lt_pow_right (by decide) ht
            simpa using this
          show on1 t = _
          rw [on1_nI t ht]
          obtain ⟨v, hv, pv⟩ : ∃ v, v < 4096 ∧ hdP M cl i k v = true := by
            rcases dn_2 (P := hdP M cl i k) (top := 4095) 4096 (by decide) with ⟨-, g⟩ | ⟨v', -, g2, g3, -⟩
            · exfalso
              apply n0
              rw [e1, ← e2, cnt_cg (P' := fun _ => false) 4096 (fun v hv => g v (by omega) (by omega)), cnt_f]
              rfl
            · exact ⟨v', by omega, g3⟩
          have tv : ∀ v, v < 4096 → hdP M cl i k v = true → v.testBit t = true := by
            intro v hv pv
            rw [hp, hu, decide_eq_true_eq, tip_u hv, tp_iff ht] at pv
            exact (bt_1 hv ht).mp pv.1
          symm
          refine dn_least hlt ?_ (fun w hw => ?_)
          · rw [hp, hu, decide_eq_true_eq]
            have pv' := pv
            rw [hp, hu, decide_eq_true_eq] at pv'
            refine tip_sub hP hU hv hlt ht (fun s hs hb => ?_) (Nat.testBit_two_pow_self) pv'
            rw [Nat.testBit_two_pow] at hb
            have : t = s := by simpa using hb
            rw [← this]
            exact tv v hv pv
          · rw [Bool.eq_false_iff]
            intro pw
            have := tv w (by omega) pw
            rw [Nat.testBit_lt_two_pow hw] at this
            exact Bool.noConfusion this
end
