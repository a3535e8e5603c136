/-! What is alive of a world: the spec reads no more. -/
def Li (c k1 k2 k3 k : Nat) : Prop := k < 14 + 9 * c ∨ k = 68 ∨ k = 69 ∨ (71 ≤ k ∧ k < 72 + 2 * k1) ∨ (82 ≤ k ∧ k < 83 + 2 * k2) ∨ (103 ≤ k ∧ k < 104 + 2 * k3)
def SL (M N : Nat → Int32) (c k1 k2 k3 : Nat) : Prop := ∀ k, Li c k1 k2 k3 k → M k = N k
theorem SM_SL {M N : Nat → Int32} {c k1 k2 k3 : Nat} (h : SM M N c k1 k2 k3) : SL M N c k1 k2 k3 := by
  obtain ⟨a, b, e1, e2, e3, e4, e5, r1, r2, r3⟩ := h
  intro k hk
  unfold Li at hk
  by_cases h1 : k < 14
  · exact a k h1
  · by_cases h2 : k < 14 + 9 * c
    · have := b ((k - 14) / 9) (by omega) ((k - 14) % 9) (by omega)
      rwa [show 14 + 9 * ((k - 14) / 9) + (k - 14) % 9 = k by omega] at this
    · rcases hk with hk | hk | hk | hk | hk | hk
      · exact absurd hk h2
      · rw [hk]; exact e1
      · rw [hk]; exact e2
      · by_cases h3 : k = 71
        · rw [h3]; exact e3
        · have := r1 ((k - 72) / 2) (by omega)
          by_cases h4 : k % 2 = 0
          · have t := this.1
            rwa [show 72 + 2 * ((k - 72) / 2) = k by omega] at t
          · have t := this.2
            rwa [show 73 + 2 * ((k - 72) / 2) = k by omega] at t
      · by_cases h3 : k = 82
        · rw [h3]; exact e4
        · have := r2 ((k - 83) / 2) (by omega)
          by_cases h4 : k % 2 = 1
          · have t := this.1
            rwa [show 83 + 2 * ((k - 83) / 2) = k by omega] at t
          · have t := this.2
            rwa [show 84 + 2 * ((k - 83) / 2) = k by omega] at t
      · by_cases h3 : k = 103
        · rw [h3]; exact e5
        · have := r3 ((k - 104) / 2) (by omega)
          by_cases h4 : k % 2 = 0
          · have t := this.1
            rwa [show 104 + 2 * ((k - 104) / 2) = k by omega] at t
          · have t := this.2
            rwa [show 105 + 2 * ((k - 104) / 2) = k by omega] at t
section
variable {M N : Nat → Int32} {c k1 k2 k3 : Nat} {cl : List Cls}
theorem SL_refl : SL N N c k1 k2 k3 := fun _ _ => rfl
theorem SL_trans {L : Nat → Int32} (h : SL L M c k1 k2 k3) (g : SL M N c k1 k2 k3) : SL L N c k1 k2 k3 := fun k hk => (h k hk).trans (g k hk)
theorem SL_symm (h : SL M N c k1 k2 k3) : SL N M c k1 k2 k3 := fun k hk => (h k hk).symm
theorem SL_upd {q : Nat} {x : Int32} (h : SL M N c k1 k2 k3) : SL (upd M q x) (upd N q x) c k1 k2 k3 := by
  intro k hk
  simp only [upd]
  split
  · rfl
  · exact h k hk
theorem SL_upd' {q : Nat} {x y : Int32} (e : x = y) (h : SL M N c k1 k2 k3) : SL (upd M q x) (upd N q y) c k1 k2 k3 := by
  rw [e]
  exact SL_upd h
theorem SL_p (h : SL M N c k1 k2 k3) {i : Nat} (hi : i < c) : ∀ w, w < 9 → M (14 + 9 * i + w) = N (14 + 9 * i + w) := fun w hw => h _ (Or.inl (by omega))
theorem SL_s (h : SL M N c k1 k2 k3) {s : Nat} (hs : s < 14) : M s = N s := h _ (Or.inl (by omega))
theorem SL_68 (h : SL M N c k1 k2 k3) : M 68 = N 68 := h _ (Or.inr (Or.inl rfl))
theorem SL_69 (h : SL M N c k1 k2 k3) : M 69 = N 69 := h _ (Or.inr (Or.inr (Or.inl rfl)))
theorem SL_71 (h : SL M N c k1 k2 k3) : M 71 = N 71 := h _ (Or.inr (Or.inr (Or.inr (Or.inl (by omega)))))
theorem SL_82 (h : SL M N c k1 k2 k3) : M 82 = N 82 := h _ (Or.inr (Or.inr (Or.inr (Or.inr (Or.inl (by omega))))))
theorem SL_103 (h : SL M N c k1 k2 k3) : M 103 = N 103 := h _ (Or.inr (Or.inr (Or.inr (Or.inr (Or.inr (by omega))))))
theorem SL_r1 (h : SL M N c k1 k2 k3) {r : Nat} (hr : r < k1) : M (72 + 2 * r) = N (72 + 2 * r) ∧ M (73 + 2 * r) = N (73 + 2 * r) := ⟨h _ (Or.inr (Or.inr (Or.inr (Or.inl (by omega))))), h _ (Or.inr (Or.inr (Or.inr (Or.inl (by omega)))))⟩
theorem SL_r2 (h : SL M N c k1 k2 k3) {r : Nat} (hr : r < k2) : M (83 + 2 * r) = N (83 + 2 * r) ∧ M (84 + 2 * r) = N (84 + 2 * r) := ⟨h _ (Or.inr (Or.inr (Or.inr (Or.inr (Or.inl (by omega)))))), h _ (Or.inr (Or.inr (Or.inr (Or.inr (Or.inl (by omega))))))⟩
theorem SL_r3 (h : SL M N c k1 k2 k3) {r : Nat} (hr : r < k3) : M (104 + 2 * r) = N (104 + 2 * r) ∧ M (105 + 2 * r) = N (105 + 2 * r) := ⟨h _ (Or.inr (Or.inr (Or.inr (Or.inr (Or.inr (by omega)))))), h _ (Or.inr (Or.inr (Or.inr (Or.inr (Or.inr (by omega))))))⟩
theorem SL_AG (h : SL M N c k1 k2 k3) {i : Nat} (hi : i < c) : AG M N N i := ⟨SL_p h hi, fun s hs => SL_s h (by omega), SL_69 h⟩
theorem nmF_ag {i s : Nat} (hs : s < 12) (h : AG M N N i) : nmF M i s = nmF N i s := by
  funext k
  unfold nmF
  rw [h.1 0 (by decide), h.1 1 (by decide), h.2.1 s hs, h.2.2]
theorem smF_ag {i s : Nat} (hs : s < 12) (h : AG M N N i) : smF M cl i s = smF N cl i s := by
  unfold smF
  rw [nmF_ag hs h, h.2.1 s hs]
theorem tipF_ag {i : Nat} {has : Int32} (h : AG M N N i) : tipF M cl i has = tipF N cl i has := by
  unfold tipF
  refine tp_cg (fun s hs => ?_)
  rw [urg_ag h.1, smF_ag hs h]
theorem uF_ag {i sz s : Nat} (hs : s < 12) (h : AG M N N i) : uF M cl i sz s = uF N cl i sz s := by
  unfold uF
  rw [urg_ag h.1, smF_ag hs h]
theorem SL_P1 (h : SL M N c k1 k2 k3) {i : Nat} (hi : i < c) (hP : P1 N i) : P1 M i := P1_of (SL_p h hi) hP
theorem SL_c6 (h : SL M N c k1 k2 k3) (hc : c6 N c) : c6 M c := ⟨(SL_68 h).trans hc.1, hc.2⟩
theorem SL_go (h : SL M N c k1 k2 k3) {i : Nat} (hi : i < c) : SL (goF M cl i) (goF N cl i) c k1 k2 k3 := by
  have e2 := SL_p h hi 2 (by decide)
  have e3 := SL_p h hi 3 (by decide)
  have e4 := SL_p h hi 4 (by decide)
  have et : tipF M cl i (M (14 + 9 * i + 2)) = tipF N cl i (N (14 + 9 * i + 2)) := by rw [e2, tipF_ag (SL_AG h hi)]
  unfold goF
  rw [et, e2, e3, e4, SL_s h (s := (if N (14 + 9 * i + 3) = 1 then 13 else 12)) (by split <;> omega)]
  split
  · exact SL_upd h
  · exact SL_upd (SL_upd (SL_upd h))
theorem SL_gos (h : SL M N c k1 k2 k3) : ∀ j, j ≤ c → SL (gosF M cl j) (gosF N cl j) c k1 k2 k3 := by
  intro j
  induction j with
  | zero =>
    intro _
    exact h
  | succ j ih =>
    intro hj
    exact SL_go (ih (by omega)) (by omega)
theorem SL_he (h : SL M N c k1 k2 k3) {s : Nat} : SL (heF M s) (heF N s) c k1 k2 k3 := by
  unfold heF
  rw [SL_s h (s := 12) (by decide), SL_s h (s := 13) (by decide)]
  split
  · exact SL_upd (SL_upd h)
  · exact h
theorem SL_ev (h : SL M N c k1 k2 k3) {fr : Int32} : SL (evF M fr) (evF N fr) c k1 k2 k3 := by
  unfold evF
  rw [SL_69 h, SL_s h (s := 12) (by decide)]
  split
  · exact SL_he h
  · exact h
theorem SL_day (hc : c6 N c) (h : SL M N c k1 k2 k3) : SL (dayF M cl) (dayF N cl) c k1 k2 k3 := by
  have hc2 := hc.2
  unfold dayF
  rw [SL_68 h, hc.1, nI_clamp (by omega)]
  have h1 := SL_ev (fr := freeC 0 cl) (SL_gos (cl := cl) h c (Nat.le_refl _))
  exact SL_upd' (by rw [SL_69 h1]) h1
theorem SL_days (hc : c6 N c) (h : SL M N c k1 k2 k3) : ∀ n, SL (daysF M cl n) (daysF N cl n) c k1 k2 k3 := by
  intro n
  induction n with
  | zero => exact h
  | succ n ih => exact SL_day (daysF_c hc n) ih
theorem SL_be (h : SL M N c k1 k2 k3) : ∀ j, j ≤ c → beF M j = beF N j := by
  intro j
  induction j with
  | zero =>
    intro _
    rfl
  | succ j ih =>
    intro hj
    simp only [beF]
    rw [ih (by omega), SL_p h (show j < c by omega) 3 (by decide)]
theorem SL_bk (h : SL M N c k1 k2 k3) : ∀ j, j ≤ c → bkF M j = bkF N j := by
  intro j
  induction j with
  | zero =>
    intro _
    rfl
  | succ j ih =>
    intro hj
    simp only [bkF]
    rw [ih (by omega), SL_p h (show j < c by omega) 4 (by decide)]
theorem SL_me (h : SL M N c k1 k2 k3) {x : Int32} : ∀ j, j ≤ 12 → meN M x j = meN N x j := by
  intro j
  induction j with
  | zero =>
    intro _
    rfl
  | succ j ih =>
    intro hj
    simp only [meN]
    rw [ih (by omega), SL_s h (show j < 14 by omega)]
theorem SL_so (h : SL M N c k1 k2 k3) {p : Int32} : ∀ f r t, r + f = k1 → soF M p f r t = soF N p f r t := by
  intro f
  induction f with
  | zero =>
    intro r t _
    rfl
  | succ f ih =>
    intro r t hr
    have e := SL_r1 h (show r < k1 by omega)
    simp only [soF]
    rw [e.1, e.2, ih (r + 1) _ (by omega), ih (r + 1) _ (by omega)]
theorem SL_se (h : SL M N c k1 k2 k3) {p t : Int32} : ∀ r, r ≤ k1 → seF M p t r = seF N p t r := by
  intro r
  induction r with
  | zero =>
    intro _
    rfl
  | succ r ih =>
    intro hr
    have e := SL_r1 h (show r < k1 by omega)
    have e2 : M (72 + 2 * r + 1) = N (72 + 2 * r + 1) := by
      have := e.2
      rwa [show 73 + 2 * r = 72 + 2 * r + 1 by omega] at this
    simp only [seF]
    rw [ih (by omega), e.1, e2]
theorem SL_is (hs : SEok N k1 c) (h : SL M N c k1 k2 k3) : ∀ f r, r + f = k1 → isF M cl f r = isF N cl f r := by
  intro f
  induction f with
  | zero =>
    intro r _
    rfl
  | succ f ih =>
    intro r hr
    have e := SL_r1 h (show r < k1 by omega)
    obtain ⟨⟨i, hi, ei⟩, -⟩ := hs.2.2 r (by omega)
    have hk := hs.2.1
    by_cases h31 : i < 2 ^ 31
    · simp only [isF]
      rw [e.1, e.2, ih (r + 1) (by omega), ei, nI_clamp h31, SL_p h hi 2 (by decide), tipF_ag (SL_AG h hi)]
    · simp only [isF]
      have h1 : ∀ x : Int32, x.toNatClampNeg < 2 ^ 31 := fun x => Int32.toNatClampNeg_lt x
      have h2 := h1 (nI i)
      rw [e.1, e.2, ih (r + 1) (by omega), ei]
      have hi2 : (nI i).toNatClampNeg < c := by omega
      rw [SL_p h hi2 2 (by decide), tipF_ag (SL_AG h hi2)]
theorem bnF_cg {u v : Nat → Int32} {t : Nat} (h : ∀ s, s < 12 → u s = v s) (ht : t < 12) : ∀ s, s ≤ 12 → bnF u t s = bnF v t s := by
  intro s
  induction s with
  | zero =>
    intro _
    rfl
  | succ s ih =>
    intro hs
    simp only [bnF]
    rw [ih (by omega), h s (by omega), h t ht]
theorem unF_cg {u v : Nat → Int32} (h : ∀ s, s < 12 → u s = v s) : ∀ s, s ≤ 12 → unF u s = unF v s := by
  intro s
  induction s with
  | zero =>
    intro _
    rfl
  | succ s ih =>
    intro hs
    simp only [unF]
    rw [ih (by omega), h s (by omega)]
theorem swF_ag {i t : Nat} (ht : t < 12) (h : AG M N N i) : ∀ m, swF M cl i t m = swF N cl i t m := by
  intro m
  induction m with
  | zero => rfl
  | succ m ih =>
    simp only [swF]
    rw [ih, uF_ag ht h, bnF_cg (fun s hs => uF_ag hs h) ht 12 (Nat.le_refl _)]
theorem sxF_ag {i : Nat} (h : AG M N N i) : ∀ m, sxF M cl i m = sxF N cl i m := by
  intro m
  induction m with
  | zero => rfl
  | succ m ih =>
    simp only [sxF]
    rw [ih, unF_cg (fun s hs => uF_ag hs h) 12 (Nat.le_refl _)]
theorem SL_lo (hB : BKok N k3) (h : SL M N c k1 k2 k3) : ∀ f r, r + f = k3 → loF M f r = loF N f r := by
  intro f
  induction f with
  | zero =>
    intro r _
    rfl
  | succ f ih =>
    intro r hr
    have e := SL_r3 h (show r < k3 by omega)
    obtain ⟨s, hs, es⟩ := hB.2.2 r (by omega)
    simp only [loF]
    rw [e.1, e.2, ih (r + 1) (by omega), es, nI_clamp (by omega), SL_s h (show s < 14 by omega)]
end
