/-! Rows, days, a new one: what lives stays alike. -/
section
variable {M N : Nat → Int32} {cl : List Cls} {c k1 k2 k3 : Nat}
/-- another world that is the same below 71, but for rows -/
theorem WI_rows {X : Nat → Int32} {k1' k2' k3' : Nat} (hI : WI N c k1 k2 k3) (h : ∀ k, k < 71 → X k = N k) (hS : SEok X k1' c) (hL : PLok X k2' c) (hB : BKok X k3') : WI X c k1' k2' k3' := by
  obtain ⟨hc, hP, h12, h13, hW, -, -, -, t, ht, h69, hBk⟩ := hI
  have c6' := hc.2
  refine ⟨⟨(h 68 (by decide)).trans hc.1, c6'⟩, fun j hj => ?_, ?_, ?_, fun s hs => ?_, hS, hL, hB, t, ht, (h 69 (by decide)).trans h69, fun j hj => ?_⟩
  · have u : ∀ w', w' < 9 → X (14 + 9 * j + w') = N (14 + 9 * j + w') := fun w' hw' => h _ (by omega)
    exact ⟨P1_of u (hP j hj).1, P2_of u (hP j hj).2⟩
  · rw [h 12 (by decide)]
    exact h12
  · rw [h 13 (by decide)]
    exact h13
  · rw [h s (by omega)]
    exact hW s hs
  · rw [h _ (by omega)]
    exact hBk j hj
theorem CNG_mk {x : Int32} {A B : Nat → Int32} (sl : SL A B c k1 k2 k3) (hI : WI B c k1 k2 k3) (h70 : B 70 = N 70) (hk : ∀ j, j < 6 → A (14 + 9 * j + 0) = M (14 + 9 * j + 0)) : CNG (x, A) (x, B) M N c := ⟨rfl, ⟨k1, k2, k3, sl, hI⟩, h70, hk⟩
theorem SL_mono {k1' k2' k3' : Nat} (h1 : k1' ≤ k1) (h2 : k2' ≤ k2) (h3 : k3' ≤ k3) (sl : SL M N c k1 k2 k3) : SL M N c k1' k2' k3' := fun k hk => sl k (by
  unfold Li at hk ⊢
  omega)
theorem ad_at {X : Nat → Int32} {B k : Nat} {x y : Int32} (e : X B = nI k) (hk : k < 100) : addF X B x y = upd (upd (upd X (B + 1 + 2 * k) x) (B + 2 + 2 * k) y) B (nI (k + 1)) := by
  unfold addF
  rw [e, nI_clamp (by omega), nI_1]
theorem ad_q {X : Nat → Int32} {B k : Nat} {x y v : Int32} {q : Nat} : upd (upd (upd X (B + 1 + 2 * k) x) (B + 2 + 2 * k) y) B v q = if q = B then v else if q = B + 2 + 2 * k then y else if q = B + 1 + 2 * k then x else X q := by
  by_cases h1 : q = B
  · rw [if_pos h1, h1, pk_us]
  · rw [if_neg h1, pk_un h1]
    by_cases h2 : q = B + 2 + 2 * k
    · rw [if_pos h2, h2, pk_us]
    · rw [if_neg h2, pk_un h2]
      by_cases h3 : q = B + 1 + 2 * k
      · rw [if_pos h3, h3, pk_us]
      · rw [if_neg h3, pk_un h3]
theorem ad_u {X : Nat → Int32} {B k q : Nat} {x y v : Int32} (h1 : q ≠ B) (h2 : q ≠ B + 2 + 2 * k) (h3 : q ≠ B + 1 + 2 * k) : upd (upd (upd X (B + 1 + 2 * k) x) (B + 2 + 2 * k) y) B v q = X q := by
  rw [ad_q, if_neg h1, if_neg h2, if_neg h3]
theorem SL_ad {B k : Nat} {x y v : Int32} {k1' k2' k3' : Nat} (h : ∀ q, Li c k1' k2' k3' q → q ≠ B → q ≠ B + 2 + 2 * k → q ≠ B + 1 + 2 * k → Li c k1 k2 k3 q) (sl : SL M N c k1 k2 k3) : SL (upd (upd (upd M (B + 1 + 2 * k) x) (B + 2 + 2 * k) y) B v) (upd (upd (upd N (B + 1 + 2 * k) x) (B + 2 + 2 * k) y) B v) c k1' k2' k3' := by
  intro q hq
  rw [ad_q, ad_q]
  by_cases h1 : q = B
  · rw [if_pos h1, if_pos h1]
  · rw [if_neg h1, if_neg h1]
    by_cases h2 : q = B + 2 + 2 * k
    · rw [if_pos h2, if_pos h2]
    · rw [if_neg h2, if_neg h2]
      by_cases h3 : q = B + 1 + 2 * k
      · rw [if_pos h3, if_pos h3]
      · rw [if_neg h3, if_neg h3]
        exact sl q (h q hq h1 h2 h3)
theorem SL_cl {B : Nat} {v : Int32} {k1' k2' k3' : Nat} (h1 : k1' ≤ k1) (h2 : k2' ≤ k2) (h3 : k3' ≤ k3) (sl : SL M N c k1 k2 k3) : SL (upd M B v) (upd N B v) c k1' k2' k3' := SL_mono h1 h2 h3 (SL_upd sl)
theorem kf_eq {k L : Nat} {l : Int32} (hl : l = nI L) (hk : k ≤ L) (hL : L < 100) : (nI k = l) ↔ k = L := by
  rw [hl]
  exact nI_eq (by omega) (by omega)
theorem G_se {p s : Int32} (sl : SL M N c k1 k2 k3) (hI : WI N c k1 k2 k3) : CNG (seR M p s) (seR N p s) M N c := by
  have hc := WI_c hI
  have c6' := hc.2
  have hS := WI_SE hI
  have hL := WI_PL hI
  have hB := WI_BK hI
  have a1 := hS.2.1
  have a2 := hL.2.1
  have a3 := hB.2.1
  by_cases hp : p = -1
  · have e : ∀ X : Nat → Int32, seR X p s = (0, upd X 71 0) := fun X => by
      unfold seR
      rw [if_pos hp]
    rw [e M, e N]
    refine CNG_mk (SL_cl (Nat.zero_le _) (Nat.le_refl _) (Nat.le_refl _) sl) (k1 := 0) (k2 := k2) (k3 := k3) ?_ (pk_un (by omega)) (fun j hj => pk_un (by omega))
    refine WI_rows hI (fun k hk => pk_un (by omega)) ⟨pk_us, by omega, fun r hr => by omega⟩ ⟨(pk_un (by omega)).trans hL.1, a2, fun r hr => ?_⟩ ⟨(pk_un (by omega)).trans hB.1, a3, fun r hr => ?_⟩
    · rw [pk_un (by omega), pk_un (by omega)]
      exact hL.2.2 r hr
    · rw [pk_un (by omega)]
      exact hB.2.2 r hr
  by_cases h : oneQ N p ∧ (-1 ≤ s ∧ s ≤ 11)
  · have hm : oneQ M p ∧ (-1 ≤ s ∧ s ≤ 11) := ⟨(one_iff sl).mpr h.1, h.2⟩
    by_cases h5 : k1 = 5
    · have e : ∀ X : Nat → Int32, (oneQ X p ∧ (-1 ≤ s ∧ s ≤ 11)) → X 71 = nI k1 → seR X p s = (-4, X) := fun X hX h71 => by
        unfold seR
        rw [if_neg hp, if_pos hX, if_pos (by rw [h71, h5]; rfl)]
      rw [e M hm ((SL_71 sl).trans hS.1), e N h hS.1]
      exact CNG_id sl hI
    · have e : ∀ X : Nat → Int32, (oneQ X p ∧ (-1 ≤ s ∧ s ≤ 11)) → X 71 = nI k1 → seR X p s = (nI (k1 + 1), upd (upd (upd X (71 + 1 + 2 * k1) p) (71 + 2 + 2 * k1) s) 71 (nI (k1 + 1))) := fun X hX h71 => by
        unfold seR
        rw [if_neg hp, if_pos hX, if_neg (by rw [h71]; exact fun g => h5 ((kf_eq (l := 5) (L := 5) rfl a1 (by decide)).mp g)), ad_at h71 (by omega), h71, nI_1]
      rw [e M hm ((SL_71 sl).trans hS.1), e N h hS.1]
      obtain ⟨i, hi, ei⟩ := oneQ_k hc h.1
      have hw : WI (upd (upd (upd N (71 + 1 + 2 * k1) p) (71 + 2 + 2 * k1) s) 71 (nI (k1 + 1))) c (k1 + 1) k2 k3 := by
        refine WI_rows hI (fun k hk => ad_u (by omega) (by omega) (by omega)) ⟨pk_us, by omega, fun r hr => ?_⟩ ⟨(ad_u (by omega) (by omega) (by omega)).trans hL.1, a2, fun r hr => ?_⟩ ⟨(ad_u (by omega) (by omega) (by omega)).trans hB.1, a3, fun r hr => ?_⟩
        · by_cases er : r = k1
          · have e1 : upd (upd (upd N (71 + 1 + 2 * k1) p) (71 + 2 + 2 * k1) s) 71 (nI (k1 + 1)) (72 + 2 * r) = p := by
              rw [ad_q, if_neg (by omega), if_neg (by omega), if_pos (by omega)]
            have e2 : upd (upd (upd N (71 + 1 + 2 * k1) p) (71 + 2 + 2 * k1) s) 71 (nI (k1 + 1)) (73 + 2 * r) = s := by
              rw [ad_q, if_neg (by omega), if_pos (by omega)]
            rw [e1, e2]
            refine ⟨⟨i, hi, ei⟩, ?_⟩
            by_cases es : s = -1
            · exact Or.inl es
            · refine Or.inr ?_
              have h0 : 0 ≤ s := by
                have g1 := Int32.le_iff_toInt_le.mp h.2.1
                rw [Int32.le_iff_toInt_le]
                have z0 : (0 : Int32).toInt = 0 := by decide
                have z1 : (-1 : Int32).toInt = -1 := by decide
                have g2 : ¬ s.toInt = -1 := fun g => es (Int32.toInt_inj.mp (g.trans z1.symm))
                omega
              obtain ⟨v, hv, ev⟩ := n09 (l := 11) (L := 11) rfl (by decide) ⟨h0, h.2.2⟩
              exact ⟨v, by omega, ev⟩
          · rw [ad_u (by omega) (by omega) (by omega), ad_u (by omega) (by omega) (by omega)]
            exact hS.2.2 r (by omega)
        · rw [ad_u (by omega) (by omega) (by omega), ad_u (by omega) (by omega) (by omega)]
          exact hL.2.2 r hr
        · rw [ad_u (by omega) (by omega) (by omega)]
          exact hB.2.2 r hr
      exact CNG_mk (SL_ad (fun q hq g1 g2 g3 => by unfold Li at hq ⊢; omega) sl) hw (ad_u (by omega) (by omega) (by omega)) (fun j hj => ad_u (by omega) (by omega) (by omega))
  · have e : ∀ X : Nat → Int32, ¬ (oneQ X p ∧ (-1 ≤ s ∧ s ≤ 11)) → seR X p s = (-1, X) := fun X hX => by
      unfold seR
      rw [if_neg hp, if_neg hX]
    rw [e M (fun g => h ⟨(one_iff sl).mp g.1, g.2⟩), e N h]
    exact CNG_id sl hI
theorem G_pl {w n : Int32} (sl : SL M N c k1 k2 k3) (hI : WI N c k1 k2 k3) : CNG (plR M w n) (plR N w n) M N c := by
  have hc := WI_c hI
  have c6' := hc.2
  have hS := WI_SE hI
  have hL := WI_PL hI
  have hB := WI_BK hI
  have a1 := hS.2.1
  have a2 := hL.2.1
  have a3 := hB.2.1
  by_cases hp : w = -1
  · have e : ∀ X : Nat → Int32, plR X w n = (0, upd X 82 0) := fun X => by
      unfold plR
      rw [if_pos hp]
    rw [e M, e N]
    refine CNG_mk (SL_cl (Nat.le_refl _) (Nat.zero_le _) (Nat.le_refl _) sl) (k1 := k1) (k2 := 0) (k3 := k3) ?_ (pk_un (by omega)) (fun j hj => pk_un (by omega))
    refine WI_rows hI (fun k hk => pk_un (by omega)) ⟨(pk_un (by omega)).trans hS.1, a1, fun r hr => ?_⟩ ⟨pk_us, by omega, fun r hr => by omega⟩ ⟨(pk_un (by omega)).trans hB.1, a3, fun r hr => ?_⟩
    · rw [pk_un (by omega), pk_un (by omega)]
      exact hS.2.2 r hr
    · rw [pk_un (by omega)]
      exact hB.2.2 r hr
  have pi : plQ M w n ↔ plQ N w n := or_congr Iff.rfl (or_congr (and_congr Iff.rfl (one_iff sl)) Iff.rfl)
  by_cases h : plQ N w n
  · have hm := pi.mpr h
    by_cases h5 : k2 = 10
    · have e : ∀ X : Nat → Int32, plQ X w n → X 82 = nI k2 → plR X w n = (-4, X) := fun X hX h71 => by
        unfold plR
        rw [if_neg hp, if_pos hX, if_pos (by rw [h71, h5]; rfl)]
      rw [e M hm ((SL_82 sl).trans hL.1), e N h hL.1]
      exact CNG_id sl hI
    · have e : ∀ X : Nat → Int32, plQ X w n → X 82 = nI k2 → plR X w n = (nI (k2 + 1), upd (upd (upd X (82 + 1 + 2 * k2) w) (82 + 2 + 2 * k2) n) 82 (nI (k2 + 1))) := fun X hX h71 => by
        unfold plR
        rw [if_neg hp, if_pos hX, if_neg (by rw [h71]; exact fun g => h5 ((kf_eq (l := 10) (L := 10) rfl a2 (by decide)).mp g)), ad_at h71 (by omega), h71, nI_1]
      rw [e M hm ((SL_82 sl).trans hL.1), e N h hL.1]
      have hw : WI (upd (upd (upd N (82 + 1 + 2 * k2) w) (82 + 2 + 2 * k2) n) 82 (nI (k2 + 1))) c k1 (k2 + 1) k3 := by
        refine WI_rows hI (fun k hk => ad_u (by omega) (by omega) (by omega)) ⟨(ad_u (by omega) (by omega) (by omega)).trans hS.1, a1, fun r hr => ?_⟩ ⟨pk_us, by omega, fun r hr => ?_⟩ ⟨(ad_u (by omega) (by omega) (by omega)).trans hB.1, a3, fun r hr => ?_⟩
        · rw [ad_u (by omega) (by omega) (by omega), ad_u (by omega) (by omega) (by omega)]
          exact hS.2.2 r hr
        · by_cases er : r = k2
          · have e1 : upd (upd (upd N (82 + 1 + 2 * k2) w) (82 + 2 + 2 * k2) n) 82 (nI (k2 + 1)) (83 + 2 * r) = w := by
              rw [ad_q, if_neg (by omega), if_neg (by omega), if_pos (by omega)]
            have e2 : upd (upd (upd N (82 + 1 + 2 * k2) w) (82 + 2 + 2 * k2) n) 82 (nI (k2 + 1)) (84 + 2 * r) = n := by
              rw [ad_q, if_neg (by omega), if_pos (by omega)]
            rw [e1, e2]
            rcases h with h | ⟨h, ho⟩ | ⟨h, ho⟩
            · exact Or.inl h
            · exact Or.inr (Or.inl ⟨h, oneQ_k hc ho⟩)
            · exact Or.inr (Or.inr ⟨h, senQ_k ho⟩)
          · rw [ad_u (by omega) (by omega) (by omega), ad_u (by omega) (by omega) (by omega)]
            exact hL.2.2 r (by omega)
        · rw [ad_u (by omega) (by omega) (by omega)]
          exact hB.2.2 r hr
      exact CNG_mk (SL_ad (fun q hq g1 g2 g3 => by unfold Li at hq ⊢; omega) sl) hw (ad_u (by omega) (by omega) (by omega)) (fun j hj => ad_u (by omega) (by omega) (by omega))
  · have e : ∀ X : Nat → Int32, ¬ plQ X w n → plR X w n = (-1, X) := fun X hX => by
      unfold plR
      rw [if_neg hp, if_neg hX]
    rw [e M (fun g => h (pi.mp g)), e N h]
    exact CNG_id sl hI
theorem G_bo {s n : Int32} (sl : SL M N c k1 k2 k3) (hI : WI N c k1 k2 k3) : CNG (boR M s n) (boR N s n) M N c := by
  have hc := WI_c hI
  have c6' := hc.2
  have hS := WI_SE hI
  have hL := WI_PL hI
  have hB := WI_BK hI
  have a1 := hS.2.1
  have a2 := hL.2.1
  have a3 := hB.2.1
  by_cases hp : s = -1
  · have e : ∀ X : Nat → Int32, boR X s n = (0, upd X 103 0) := fun X => by
      unfold boR
      rw [if_pos hp]
    rw [e M, e N]
    refine CNG_mk (SL_cl (Nat.le_refl _) (Nat.le_refl _) (Nat.zero_le _) sl) (k1 := k1) (k2 := k2) (k3 := 0) ?_ (pk_un (by omega)) (fun j hj => pk_un (by omega))
    refine WI_rows hI (fun k hk => pk_un (by omega)) ⟨(pk_un (by omega)).trans hS.1, a1, fun r hr => ?_⟩ ⟨(pk_un (by omega)).trans hL.1, a2, fun r hr => ?_⟩ ⟨pk_us, by omega, fun r hr => by omega⟩
    · rw [pk_un (by omega), pk_un (by omega)]
      exact hS.2.2 r hr
    · rw [pk_un (by omega), pk_un (by omega)]
      exact hL.2.2 r hr
  by_cases h : senQ s
  · by_cases hn : 0 ≤ n ∧ n ≤ 20
    · by_cases h5 : k3 = 8
      · have e : ∀ X : Nat → Int32, X 103 = nI k3 → boR X s n = (-4, X) := fun X h71 => by
          unfold boR
          rw [if_neg hp, if_pos h, if_pos hn, if_pos (by rw [h71, h5]; rfl)]
        rw [e M ((SL_103 sl).trans hB.1), e N hB.1]
        exact CNG_id sl hI
      · have e : ∀ X : Nat → Int32, X 103 = nI k3 → boR X s n = (nI (k3 + 1), upd (upd (upd X (103 + 1 + 2 * k3) s) (103 + 2 + 2 * k3) n) 103 (nI (k3 + 1))) := fun X h71 => by
          unfold boR
          rw [if_neg hp, if_pos h, if_pos hn, if_neg (by rw [h71]; exact fun g => h5 ((kf_eq (l := 8) (L := 8) rfl a3 (by decide)).mp g)), ad_at h71 (by omega), h71, nI_1]
        rw [e M ((SL_103 sl).trans hB.1), e N hB.1]
        have hw : WI (upd (upd (upd N (103 + 1 + 2 * k3) s) (103 + 2 + 2 * k3) n) 103 (nI (k3 + 1))) c k1 k2 (k3 + 1) := by
          refine WI_rows hI (fun k hk => ad_u (by omega) (by omega) (by omega)) ⟨(ad_u (by omega) (by omega) (by omega)).trans hS.1, a1, fun r hr => ?_⟩ ⟨(ad_u (by omega) (by omega) (by omega)).trans hL.1, a2, fun r hr => ?_⟩ ⟨pk_us, by omega, fun r hr => ?_⟩
          · rw [ad_u (by omega) (by omega) (by omega), ad_u (by omega) (by omega) (by omega)]
            exact hS.2.2 r hr
          · rw [ad_u (by omega) (by omega) (by omega), ad_u (by omega) (by omega) (by omega)]
            exact hL.2.2 r hr
          · by_cases er : r = k3
            · have e1 : upd (upd (upd N (103 + 1 + 2 * k3) s) (103 + 2 + 2 * k3) n) 103 (nI (k3 + 1)) (104 + 2 * r) = s := by
                rw [ad_q, if_neg (by omega), if_neg (by omega), if_pos (by omega)]
              rw [e1]
              exact senQ_k h
            · rw [ad_u (by omega) (by omega) (by omega)]
              exact hB.2.2 r (by omega)
        exact CNG_mk (SL_ad (fun q hq g1 g2 g3 => by unfold Li at hq ⊢; omega) sl) hw (ad_u (by omega) (by omega) (by omega)) (fun j hj => ad_u (by omega) (by omega) (by omega))
    · have e : ∀ X : Nat → Int32, boR X s n = (-2, X) := fun X => by
        unfold boR
        rw [if_neg hp, if_pos h, if_neg hn]
      rw [e M, e N]
      exact CNG_id sl hI
  · have e : ∀ X : Nat → Int32, boR X s n = (-1, X) := fun X => by
      unfold boR
      rw [if_neg hp, if_neg h]
    rw [e M, e N]
    exact CNG_id sl hI
end
