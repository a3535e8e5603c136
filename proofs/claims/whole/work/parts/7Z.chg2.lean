/-! Changes: what lives stays alike, and what holds of the numbers holds. -/
section
variable {M N : Nat → Int32} {cl : List Cls} {c k1 k2 k3 : Nat}
def CNG (A B : PR) (M N : Nat → Int32) (c : Nat) : Prop := A.1 = B.1 ∧ (∃ k1 k2 k3, SL A.2 B.2 c k1 k2 k3 ∧ WI B.2 c k1 k2 k3) ∧ B.2 70 = N 70 ∧ ∀ j, j < 6 → A.2 (14 + 9 * j + 0) = M (14 + 9 * j + 0)
theorem CNG_id {x : Int32} (sl : SL M N c k1 k2 k3) (hI : WI N c k1 k2 k3) : CNG (x, M) (x, N) M N c := ⟨rfl, ⟨k1, k2, k3, sl, hI⟩, rfl, fun _ _ => rfl⟩
theorem P2_of {i : Nat} (h : ∀ w, w < 9 → M (14 + 9 * i + w) = N (14 + 9 * i + w)) (hP : P2 N i) : P2 M i := by
  intro h6 w hw
  rw [h 0 (by decide)] at h6
  obtain ⟨v, hv, e⟩ := hP h6 w hw
  refine ⟨v, hv, ?_⟩
  have := h (5 + w) (by omega)
  rw [show 14 + 9 * i + 5 + w = 14 + 9 * i + (5 + w) by omega, this, ← e]
  rw [show 14 + 9 * i + 5 + w = 14 + 9 * i + (5 + w) by omega]
theorem WI_p {i w : Nat} {x : Int32} (hI : WI N c k1 k2 k3) (hi : i < c) (hw : w < 9) (h4 : w ≠ 4) (hP1 : P1 (upd N (14 + 9 * i + w) x) i) (hP2 : P2 (upd N (14 + 9 * i + w) x) i) : WI (upd N (14 + 9 * i + w) x) c k1 k2 k3 := by
  obtain ⟨hc, hP, h12, h13, hW, hS, hL, hB, t, ht, h69, hBk⟩ := hI
  have c6' := hc.2
  refine ⟨⟨(pk_un (by omega)).trans hc.1, c6'⟩, fun j hj => ?_, ?_, ?_, fun s hs => ?_, ⟨(pk_un (by omega)).trans hS.1, hS.2.1, fun r hr => ?_⟩, ⟨(pk_un (by omega)).trans hL.1, hL.2.1, fun r hr => ?_⟩, ⟨(pk_un (by omega)).trans hB.1, hB.2.1, fun r hr => ?_⟩, t, ht, (pk_un (by omega)).trans h69, fun j hj => ?_⟩
  · by_cases e : j = i
    · subst e
      exact ⟨hP1, hP2⟩
    · have u : ∀ w', w' < 9 → upd N (14 + 9 * i + w) x (14 + 9 * j + w') = N (14 + 9 * j + w') := fun w' hw' => pk_un (by omega)
      exact ⟨P1_of u (hP j hj).1, P2_of u (hP j hj).2⟩
  · rw [pk_un (by omega)]
    exact h12
  · rw [pk_un (by omega)]
    exact h13
  · rw [pk_un (by omega)]
    exact hW s hs
  · have := hS.2.1
    rw [pk_un (by omega), pk_un (by omega)]
    exact hS.2.2 r hr
  · have := hL.2.1
    rw [pk_un (by omega), pk_un (by omega)]
    exact hL.2.2 r hr
  · have := hB.2.1
    rw [pk_un (by omega)]
    exact hB.2.2 r hr
  · rw [pk_un (by omega)]
    exact hBk j hj
theorem G_le {p s : Int32} (sl : SL M N c k1 k2 k3) (hI : WI N c k1 k2 k3) : CNG (leR M p s) (leR N p s) M N c := by
  have hc := WI_c hI
  have c6' := hc.2
  by_cases h : oneQ N p
  · have hm := (one_iff sl).mpr h
    obtain ⟨i, hi, rfl⟩ := oneQ_k hc h
    by_cases hs : 0 ≤ s ∧ s ≤ 4095
    · have e : ∀ X : Nat → Int32, oneQ X (nI i) → leR X (nI i) s = (X (14 + 9 * i + 2), upd X (14 + 9 * i + 2) s) := by
        intro X hX
        unfold leR
        rw [if_pos hX, if_pos hs, nI_clamp (by omega)]
      rw [e M hm, e N h]
      have hP := WI_P hI hi
      refine ⟨SL_p sl hi 2 (by decide), ⟨k1, k2, k3, SL_upd sl, WI_p hI hi (by decide) (by decide) ⟨?_, ?_, ?_⟩ ?_⟩, pk_un (by omega), fun j hj => pk_un (by omega)⟩
      · obtain ⟨K, hK, eK⟩ := hP.1
        exact ⟨K, hK, (pk_un (by omega)).trans eK⟩
      · rw [pk_un (by omega)]
        exact hP.2.1
      · rw [pk_us]
        exact isS_iff.mp hs
      · intro h6 w hw
        rw [pk_un (by omega)] at h6
        rw [pk_un (by omega)]
        exact (hI.2.1 i hi).2 h6 w hw
    · have e : ∀ X : Nat → Int32, oneQ X (nI i) → leR X (nI i) s = (-2, X) := by
        intro X hX
        unfold leR
        rw [if_pos hX, if_neg hs]
      rw [e M hm, e N h]
      exact CNG_id sl hI
  · have e : ∀ X : Nat → Int32, ¬ oneQ X p → leR X p s = (-1, X) := by
      intro X hX
      unfold leR
      rw [if_neg hX]
    rw [e M (fun g => h ((one_iff sl).mp g)), e N h]
    exact CNG_id sl hI
theorem G_fo {p f : Int32} (sl : SL M N c k1 k2 k3) (hI : WI N c k1 k2 k3) : CNG (foR M p f) (foR N p f) M N c := by
  have hc := WI_c hI
  have c6' := hc.2
  by_cases h : oneQ N p
  · have hm := (one_iff sl).mpr h
    obtain ⟨i, hi, rfl⟩ := oneQ_k hc h
    have e : ∀ X : Nat → Int32, oneQ X (nI i) → foR X (nI i) f = (X (14 + 9 * i + 3), upd X (14 + 9 * i + 3) (if f = 0 then 0 else 1)) := by
      intro X hX
      unfold foR
      rw [if_pos hX, nI_clamp (by omega)]
    rw [e M hm, e N h]
    have hP := WI_P hI hi
    refine ⟨SL_p sl hi 3 (by decide), ⟨k1, k2, k3, SL_upd sl, WI_p hI hi (by decide) (by decide) ⟨?_, ?_, ?_⟩ ?_⟩, pk_un (by omega), fun j hj => pk_un (by omega)⟩
    · obtain ⟨K, hK, eK⟩ := hP.1
      exact ⟨K, hK, (pk_un (by omega)).trans eK⟩
    · rw [pk_us]
      split
      · exact Or.inl rfl
      · exact Or.inr rfl
    · rw [pk_un (by omega)]
      exact hP.2.2
    · intro h6 w hw
      rw [pk_un (by omega)] at h6
      rw [pk_un (by omega)]
      exact (hI.2.1 i hi).2 h6 w hw
  · have e : ∀ X : Nat → Int32, ¬ oneQ X p → foR X p f = (-1, X) := by
      intro X hX
      unfold foR
      rw [if_neg hX]
    rw [e M (fun g => h ((one_iff sl).mp g)), e N h]
    exact CNG_id sl hI
theorem n09 {n : Int32} {L : Nat} {l : Int32} (hl : l = nI L) (hL : L < 100) (h : 0 ≤ n ∧ n ≤ l) : ∃ v, v ≤ L ∧ n = nI v := by
  subst hl
  have h1 := Int32.le_iff_toInt_le.mp h.1
  have h2 := Int32.le_iff_toInt_le.mp h.2
  rw [nI_toInt (by omega)] at h2
  have z0 : (0 : Int32).toInt = 0 := by decide
  rw [z0] at h1
  refine ⟨n.toInt.toNat, by omega, ?_⟩
  apply Int32.toInt_inj.mp
  rw [nI_toInt (by omega)]
  omega
theorem G_ro {p t n : Int32} (sl : SL M N c k1 k2 k3) (hI : WI N c k1 k2 k3) : CNG (roR M p t n) (roR N p t n) M N c := by
  have hc := WI_c hI
  have c6' := hc.2
  by_cases h : oneQ N p ∧ (0 ≤ t ∧ t ≤ 3)
  · have hm : oneQ M p ∧ (0 ≤ t ∧ t ≤ 3) := ⟨(one_iff sl).mpr h.1, h.2⟩
    obtain ⟨i, hi, rfl⟩ := oneQ_k hc h.1
    obtain ⟨j, hj, rfl⟩ := n09 (l := 3) (L := 3) rfl (by decide) h.2
    by_cases hn : 0 ≤ n ∧ n ≤ 9
    · have ek := SL_p sl hi 0 (by decide)
      by_cases h6 : N (14 + 9 * i + 0) = 6
      · have e : ∀ X : Nat → Int32, (oneQ X (nI i) ∧ (0 ≤ nI j ∧ nI j ≤ 3)) → X (14 + 9 * i + 0) = 6 → roR X (nI i) (nI j) n = (X (14 + 9 * i + (5 + j)), upd X (14 + 9 * i + (5 + j)) n) := by
          intro X hX h6
          unfold roR
          rw [if_pos hX, if_pos hn, nI_clamp (show i < 2 ^ 31 by omega), nI_clamp (show j < 2 ^ 31 by omega), if_pos h6]
        rw [e M hm (ek.trans h6), e N h h6]
        have hP := WI_P hI hi
        refine ⟨SL_p sl hi (5 + j) (by omega), ⟨k1, k2, k3, SL_upd sl, WI_p hI hi (by omega) (by omega) ⟨?_, ?_, ?_⟩ ?_⟩, pk_un (by omega), fun j hj => pk_un (by omega)⟩
        · obtain ⟨K, hK, eK⟩ := hP.1
          exact ⟨K, hK, (pk_un (by omega)).trans eK⟩
        · rw [pk_un (by omega)]
          exact hP.2.1
        · rw [pk_un (by omega)]
          exact hP.2.2
        · intro h6 w hw
          by_cases ew : w = j
          · subst ew
            obtain ⟨v, hv, ev⟩ := n09 (l := 9) (L := 9) rfl (by decide) hn
            refine ⟨v, hv, ?_⟩
            rw [show 14 + 9 * i + 5 + w = 14 + 9 * i + (5 + w) by omega, pk_us, ev]
          · rw [pk_un (by omega)] at h6
            rw [pk_un (by omega)]
            exact (hI.2.1 i hi).2 h6 w hw
      · have e : ∀ X : Nat → Int32, (oneQ X (nI i) ∧ (0 ≤ nI j ∧ nI j ≤ 3)) → ¬ X (14 + 9 * i + 0) = 6 → roR X (nI i) (nI j) n = (-3, X) := by
          intro X hX h6
          unfold roR
          rw [if_pos hX, if_pos hn, nI_clamp (show i < 2 ^ 31 by omega), if_neg h6]
        rw [e M hm (by rw [ek]; exact h6), e N h h6]
        exact CNG_id sl hI
    · have e : ∀ X : Nat → Int32, (oneQ X (nI i) ∧ (0 ≤ nI j ∧ nI j ≤ 3)) → roR X (nI i) (nI j) n = (-2, X) := by
        intro X hX
        unfold roR
        rw [if_pos hX, if_neg hn]
      rw [e M hm, e N h]
      exact CNG_id sl hI
  · have e : ∀ X : Nat → Int32, ¬ (oneQ X p ∧ (0 ≤ t ∧ t ≤ 3)) → roR X p t n = (-1, X) := by
      intro X hX
      unfold roR
      rw [if_neg hX]
    rw [e M (fun g => h ⟨(one_iff sl).mp g.1, g.2⟩), e N h]
    exact CNG_id sl hI
theorem G_wo {s n : Int32} (sl : SL M N c k1 k2 k3) (hI : WI N c k1 k2 k3) : CNG (woR M s n) (woR N s n) M N c := by
  by_cases h : senQ s
  · obtain ⟨j, hj, rfl⟩ := senQ_k h
    by_cases hn : 0 ≤ n ∧ n ≤ 20
    · have e : ∀ X : Nat → Int32, woR X (nI j) n = (X j, upd X j n) := by
        intro X
        unfold woR
        rw [if_pos h, if_pos hn, nI_clamp (by omega)]
      rw [e M, e N]
      have hw : WI (upd N j n) c k1 k2 k3 := by
        obtain ⟨hc, hP, h12, h13, hW, hS, hL, hB, t, ht, h69, hBk⟩ := hI
        have c6' := hc.2
        refine ⟨⟨(pk_un (by omega)).trans hc.1, c6'⟩, fun i hi => ?_, ?_, ?_, fun s hs => ?_, ⟨(pk_un (by omega)).trans hS.1, hS.2.1, fun r hr => ?_⟩, ⟨(pk_un (by omega)).trans hL.1, hL.2.1, fun r hr => ?_⟩, ⟨(pk_un (by omega)).trans hB.1, hB.2.1, fun r hr => ?_⟩, t, ht, (pk_un (by omega)).trans h69, fun i hi => ?_⟩
        · have u : ∀ w', w' < 9 → upd N j n (14 + 9 * i + w') = N (14 + 9 * i + w') := fun w' hw' => pk_un (by omega)
          exact ⟨P1_of u (hP i hi).1, P2_of u (hP i hi).2⟩
        · rw [pk_un (by omega)]
          exact h12
        · rw [pk_un (by omega)]
          exact h13
        · by_cases es : s = j
          · subst es
            obtain ⟨v, hv, ev⟩ := n09 (l := 20) (L := 20) rfl (by decide) hn
            exact ⟨v, hv, pk_us.trans ev⟩
          · rw [pk_un es]
            exact hW s hs
        · rw [pk_un (by omega), pk_un (by omega)]
          exact hS.2.2 r hr
        · rw [pk_un (by omega), pk_un (by omega)]
          exact hL.2.2 r hr
        · rw [pk_un (by omega)]
          exact hB.2.2 r hr
        · rw [pk_un (by omega)]
          exact hBk i hi
      exact ⟨SL_s sl (by omega), ⟨k1, k2, k3, SL_upd sl, hw⟩, pk_un (by omega), fun j hj => pk_un (by omega)⟩
    · have e : ∀ X : Nat → Int32, woR X (nI j) n = (-2, X) := by
        intro X
        unfold woR
        rw [if_pos h, if_neg hn]
      rw [e M, e N]
      exact CNG_id sl hI
  · have e : ∀ X : Nat → Int32, woR X s n = (-1, X) := by
      intro X
      unfold woR
      rw [if_neg h]
    rw [e M, e N]
    exact CNG_id sl hI
end
