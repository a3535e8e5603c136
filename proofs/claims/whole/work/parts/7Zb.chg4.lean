/-! Days that pass, a new one: what lives stays alike. -/
section
variable {M N : Nat → Int32} {cl : List Cls} {c k1 k2 k3 : Nat}
theorem days_out {k : Nat} (hc : c6 N c) (hk : ∀ i, i < 6 → k ≠ 14 + 9 * i + 2 ∧ k ≠ 14 + 9 * i + 3 ∧ k ≠ 14 + 9 * i + 4) (h12 : k ≠ 12) (h13 : k ≠ 13) (h69 : k ≠ 69) : ∀ n, daysF N cl n k = N k := by
  intro n
  induction n with
  | zero => rfl
  | succ n ih =>
    show dayF (daysF N cl n) cl k = N k
    rw [dayF_out (daysF_c hc n) hk h12 h13 h69, ih]
theorem days_69 {t : Nat} (hc : c6 N c) (h : N 69 = nI t) : ∀ n, daysF N cl n 69 = nI (t + n) := by
  intro n
  induction n with
  | zero => exact h
  | succ n ih =>
    show dayF (daysF N cl n) cl 69 = _
    rw [dayF_69 (daysF_c hc n), ih, ← Nat.add_assoc, nI_1]
theorem WI_days {t n : Nat} (hI : WI N c k1 k2 k3) (h : N 69 = nI t) (ht : t ≤ 9999) (hn : t + n ≤ 9999) : WI (daysF N cl n) c k1 k2 k3 := by
  obtain ⟨hc, hP, h12, h13, hW, hS, hL, hB, t', ht', h69, hBk⟩ := hI
  have et : t' = t := (nI_eq (by omega) (by omega)).mp (h69.symm.trans h)
  subst et
  have c6' := hc.2
  have a1 := hS.2.1
  have a2 := hL.2.1
  have a3 := hB.2.1
  have hk := WK_days (cl := cl) (ex := fun _ => true) (c := c) (M := N) ⟨hc, fun i hi => ⟨rfl, (hP i hi).1⟩⟩ n
  have o : ∀ k, 70 ≤ k → daysF N cl n k = N k := fun k hk => days_out hc (fun i hi => by omega) (by omega) (by omega) (by omega) n
  refine ⟨daysF_c hc n, fun j hj => ⟨WK_P hk hj, fun h6 w hw => ?_⟩, daysF_12 h12 n, daysF_13 h12 h13 n, fun s hs => ?_, ⟨(o _ (by omega)).trans hS.1, a1, fun r hr => ?_⟩, ⟨(o _ (by omega)).trans hL.1, a2, fun r hr => ?_⟩, ⟨(o _ (by omega)).trans hB.1, a3, fun r hr => ?_⟩, t' + n, hn, days_69 hc h69 n, Bk_days hc hBk n⟩
  · rw [days_kd hc n (by omega)] at h6
    rw [days_out hc (fun i hi => by omega) (by omega) (by omega) (by omega) n]
    exact (hP j hj).2 h6 w hw
  · rw [daysF_w hc hs n]
    exact hW s hs
  · rw [o _ (by omega), o _ (by omega)]
    exact hS.2.2 r hr
  · rw [o _ (by omega), o _ (by omega)]
    exact hL.2.2 r hr
  · rw [o _ (by omega)]
    exact hB.2.2 r hr
theorem G_pa {n : Int32} (sl : SL M N c k1 k2 k3) (hI : WI N c k1 k2 k3) : CNG (paR M cl n) (paR N cl n) M N c := by
  have hc := WI_c hI
  have hcm := SL_c6 sl hc
  obtain ⟨t, ht, h69, -⟩ := hI.2.2.2.2.2.2.2.2
  by_cases hn : 0 ≤ n ∧ n ≤ 60
  · obtain ⟨j, hj, rfl⟩ := dayQ_k hn
    by_cases h : N 69 + nI j ≤ 9999
    · have e : ∀ X : Nat → Int32, X 69 + nI j ≤ 9999 → paR X cl (nI j) = (daysF X cl j 69, daysF X cl j) := fun X hX => by
        unfold paR
        rw [if_pos hn, if_pos hX, nI_clamp (by omega)]
      rw [e M (by rw [SL_69 sl]; exact h), e N h]
      have s := SL_days (cl := cl) hc sl j
      have hle : t + j ≤ 9999 := by
        rw [h69, nI_add, show (9999 : Int32) = nI 9999 from rfl] at h
        refine Nat.le_of_not_lt (fun g => ?_)
        exact nI_ge g (by omega) h
      rw [SL_69 s]
      exact CNG_mk s (WI_days hI h69 ht hle) (daysF_70 hc j) (fun i hi => days_kd hcm j hi)
    · have e : ∀ X : Nat → Int32, ¬ X 69 + nI j ≤ 9999 → paR X cl (nI j) = (-3, X) := fun X hX => by
        unfold paR
        rw [if_pos hn, if_neg hX]
      rw [e M (by rw [SL_69 sl]; exact h), e N h]
      exact CNG_id sl hI
  · have e : ∀ X : Nat → Int32, paR X cl n = (-2, X) := fun X => by
      unfold paR
      rw [if_neg hn]
    rw [e M, e N]
    exact CNG_id sl hI
theorem zo_at {X : Nat → Int32} {i q : Nat} : ∀ k, zoF X i k q = if 14 + 9 * i ≤ q ∧ q < 14 + 9 * i + k then 0 else X q := by
  intro k
  induction k with
  | zero =>
    rw [if_neg (by omega)]
    rfl
  | succ k ih =>
    simp only [zoF]
    by_cases h : q = 14 + 9 * i + k
    · rw [h, pk_us, if_pos (by omega)]
    · rw [pk_un h, ih]
      by_cases g : 14 + 9 * i ≤ q ∧ q < 14 + 9 * i + k
      · rw [if_pos g, if_pos (by omega)]
      · rw [if_neg g, if_neg (by omega)]
theorem ne_68 {X : Nat → Int32} {i : Nat} {k v s : Int32} : neF X i k v s 68 = X 68 + 1 := pk_us
theorem ne_0 {X : Nat → Int32} {i : Nat} {k v s : Int32} (hi : i < 6) : neF X i k v s (14 + 9 * i + 0) = k := by
  unfold neF
  rw [pk_un (by omega), pk_un (by omega), pk_un (by omega), pk_us]
theorem ne_1 {X : Nat → Int32} {i : Nat} {k v s : Int32} (hi : i < 6) : neF X i k v s (14 + 9 * i + 1) = v := by
  unfold neF
  rw [pk_un (by omega), pk_un (by omega), pk_us]
theorem ne_2 {X : Nat → Int32} {i : Nat} {k v s : Int32} (hi : i < 6) : neF X i k v s (14 + 9 * i + 2) = s := by
  unfold neF
  rw [pk_un (by omega), pk_us]
theorem ne_3 {X : Nat → Int32} {i w : Nat} {k v s : Int32} (hi : i < 6) (hw : 3 ≤ w) (hw9 : w < 9) : neF X i k v s (14 + 9 * i + w) = 0 := by
  unfold neF
  rw [pk_un (by omega), pk_un (by omega), pk_un (by omega), pk_un (by omega), zo_at, if_pos (by omega)]
theorem ne_o {X : Nat → Int32} {i q : Nat} {k v s : Int32} (h : q < 14 + 9 * i ∨ 14 + 9 * i + 9 ≤ q) (h68 : q ≠ 68) : neF X i k v s q = X q := by
  unfold neF
  rw [pk_un h68, pk_un (by omega), pk_un (by omega), pk_un (by omega), zo_at, if_neg (by omega)]
theorem SL_ne {k v s : Int32} (hc : c6 N c) (h6 : c < 6) (sl : SL M N c k1 k2 k3) : SL (neF M c k v s) (neF N c k v s) (c + 1) k1 k2 k3 := by
  intro q hq
  by_cases h68 : q = 68
  · rw [h68, ne_68, ne_68, SL_68 sl]
  · by_cases ho : q < 14 + 9 * c ∨ 14 + 9 * c + 9 ≤ q
    · rw [ne_o ho h68, ne_o ho h68]
      refine sl q ?_
      unfold Li at hq ⊢
      omega
    · obtain ⟨w, hw, rfl⟩ : ∃ w, w < 9 ∧ q = 14 + 9 * c + w := ⟨q - (14 + 9 * c), by omega, by omega⟩
      by_cases w0 : w = 0
      · rw [w0, ne_0 h6, ne_0 h6]
      · by_cases w1 : w = 1
        · rw [w1, ne_1 h6, ne_1 h6]
        · by_cases w2 : w = 2
          · rw [w2, ne_2 h6, ne_2 h6]
          · rw [ne_3 h6 (by omega) hw, ne_3 h6 (by omega) hw]
theorem WI_ne {K : Nat} {v s : Int32} (hK : K < 7) (h6 : c < 6) (hs : 0 ≤ s ∧ s ≤ 4095) (hI : WI N c k1 k2 k3) : WI (neF N c (nI K) v s) (c + 1) k1 k2 k3 := by
  obtain ⟨hc, hP, h12, h13, hW, hS, hL, hB, t, ht, h69, hBk⟩ := hI
  have a1 := hS.2.1
  have a2 := hL.2.1
  have a3 := hB.2.1
  have o : ∀ q, (q < 14 + 9 * c ∨ 68 < q) → neF N c (nI K) v s q = N q := fun q hq => ne_o (by omega) (by omega)
  refine ⟨⟨ne_68.trans (by rw [hc.1, nI_1]), by omega⟩, fun j hj => ?_, ?_, ?_, fun s hs => ?_, ⟨(o _ (by omega)).trans hS.1, a1, fun r hr => ?_⟩, ⟨(o _ (by omega)).trans hL.1, a2, fun r hr => ?_⟩, ⟨(o _ (by omega)).trans hB.1, a3, fun r hr => ?_⟩, t, ht, (o _ (by omega)).trans h69, fun j hj => ?_⟩
  · by_cases e : j = c
    · subst e
      refine ⟨⟨⟨K, hK, ne_0 h6⟩, Or.inl (ne_3 h6 (by decide) (by decide)), ?_⟩, fun _ w hw => ⟨0, by decide, ?_⟩⟩
      · rw [ne_2 h6]
        exact isS_iff.mp hs
      · rw [show 14 + 9 * j + 5 + w = 14 + 9 * j + (5 + w) by omega]
        exact ne_3 h6 (by omega) (by omega)
    · have u : ∀ w', w' < 9 → neF N c (nI K) v s (14 + 9 * j + w') = N (14 + 9 * j + w') := fun w' hw' => o _ (by omega)
      exact ⟨P1_of u (hP j (by omega)).1, P2_of u (hP j (by omega)).2⟩
  · rw [o _ (by omega)]
    exact h12
  · rw [o _ (by omega)]
    exact h13
  · rw [o _ (by omega)]
    exact hW s hs
  · rw [o _ (by omega), o _ (by omega)]
    obtain ⟨⟨i, hi, e⟩, g⟩ := hS.2.2 r hr
    exact ⟨⟨i, by omega, e⟩, g⟩
  · rw [o _ (by omega), o _ (by omega)]
    rcases hL.2.2 r hr with g | ⟨g, i, hi, e⟩ | g
    · exact Or.inl g
    · exact Or.inr (Or.inl ⟨g, i, by omega, e⟩)
    · exact Or.inr (Or.inr g)
  · rw [o _ (by omega)]
    exact hB.2.2 r hr
  · by_cases e : j = c
    · subst e
      exact ⟨0, Nat.zero_le _, ne_3 h6 (by decide) (by decide)⟩
    · rw [o _ (by omega)]
      exact hBk j (by omega)
end
