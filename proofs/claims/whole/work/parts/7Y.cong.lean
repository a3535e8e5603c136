/-! Answers hang on what lives alone. -/
theorem ite_g {α : Type} {P Q : Prop} {iP : Decidable P} {iQ : Decidable Q} {a b c d : α} (h : P ↔ Q) (h1 : Q → a = b) (h2 : ¬ Q → c = d) : (if P then a else c) = if Q then b else d := by
  by_cases q : Q
  · rw [if_pos q, if_pos (h.mpr q), h1 q]
  · rw [if_neg q, if_neg (fun p => q (h.mp p)), h2 q]
section
variable {M N : Nat → Int32} {cl : List Cls} {c k1 k2 k3 : Nat}
theorem one_iff {p : Int32} (sl : SL M N c k1 k2 k3) : oneQ M p ↔ oneQ N p := iff_of_eq (SL_one sl)
theorem G_ur {p s : Int32} (sl : SL M N c k1 k2 k3) (hc : c6 N c) : urR M cl p s = urR N cl p s := by
  unfold urR
  refine ite_g (and_congr (one_iff sl) Iff.rfl) (fun h => ?_) (fun _ => rfl)
  have c6' := hc.2
  obtain ⟨i, hi, rfl⟩ := oneQ_k hc h.1
  obtain ⟨j, hj, rfl⟩ := senQ_k h.2
  rw [nI_clamp (by omega), nI_clamp (by omega), urg_ag (SL_p sl hi), smF_ag hj (SL_AG sl hi), SL_p sl hi 2 (by decide)]
theorem G_on {n w : Int32} (sl : SL M N c k1 k2 k3) (hc : c6 N c) : onR M cl n w = onR N cl n w := by
  unfold onR
  refine ite_g (or_congr Iff.rfl (one_iff sl)) (fun h => ?_) (fun _ => rfl)
  refine ite_g Iff.rfl (fun _ => ?_) (fun _ => rfl)
  have s := SL_days (cl := cl) hc sl n.toNatClampNeg
  have hd := daysF_c (cl := cl) hc n.toNatClampNeg
  have c6' := hc.2
  unfold onV
  refine ite_g Iff.rfl (fun _ => SL_s s (by decide)) (fun n0 => ?_)
  refine ite_g Iff.rfl (fun _ => SL_s s (by decide)) (fun n1 => ?_)
  refine ite_g Iff.rfl (fun _ => ?_) (fun n2 => ?_)
  · rw [SL_68 s, hd.1, nI_clamp (by omega)]
    exact SL_be s c (Nat.le_refl _)
  · rcases h with h | h
    · rcases w012 h with h | h | h
      · exact absurd h n0
      · exact absurd h n1
      · exact absurd h n2
    · obtain ⟨i, hi, e⟩ := oneQ_k hc h
      rw [e, nI_clamp (by omega)]
      exact SL_p s hi 2 (by decide)
theorem G_me {n w : Int32} (sl : SL M N c k1 k2 k3) (hc : c6 N c) : meR M cl n w = meR N cl n w := by
  have s := SL_days (cl := cl) hc sl n.toNatClampNeg
  unfold meR
  rw [SL_s s (show 13 < 14 by decide), SL_me sl 12 (by decide)]
theorem dcF_ag {i : Nat} {has t : Int32} (h : AG M N N i) : ∀ n, dcF M cl i has t n = dcF N cl i has t n := by
  intro n
  induction n with
  | zero => rfl
  | succ n ih =>
    simp only [dcF]
    rw [ih, tipF_ag h]
theorem G_dc {p s : Int32} (sl : SL M N c k1 k2 k3) (hc : c6 N c) : dcR M cl p s = dcR N cl p s := by
  unfold dcR
  refine ite_g (and_congr (one_iff sl) Iff.rfl) (fun h => ?_) (fun _ => rfl)
  have c6' := hc.2
  obtain ⟨i, hi, rfl⟩ := oneQ_k hc h.1
  rw [nI_clamp (by omega), SL_p sl hi 2 (by decide), dcF_ag (SL_AG sl hi)]
theorem SL_wa (sl : SL M N c k1 k2 k3) : ∀ j, j ≤ c → waF M cl k1 j = waF N cl k1 j := by
  intro j
  induction j with
  | zero =>
    intro _
    rfl
  | succ j ih =>
    intro hj
    simp only [waF]
    rw [ih (by omega), SL_p sl (show j < c by omega) 2 (by decide), tipF_ag (SL_AG sl (show j < c by omega)), SL_se sl k1 (Nat.le_refl _)]
theorem SL_wt {s : Nat} (sl : SL M N c k1 k2 k3) : ∀ v, wtF M cl s k1 c v = wtF N cl s k1 c v := by
  intro v
  induction v with
  | zero => rfl
  | succ v ih =>
    simp only [wtF]
    rw [ih, SL_wa (SL_upd sl) c (Nat.le_refl _)]
theorem G_to {w : Int32} (sl : SL M N c k1 k2 k3) (hI : WI N c k1 k2 k3) : toR M cl w = toR N cl w := by
  have hc := WI_c hI
  have c6' := hc.2
  have e71 := (WI_SE hI).1
  have k5 := (WI_SE hI).2.1
  unfold toR
  refine ite_g Iff.rfl (fun _ => SL_69 sl) (fun _ => ?_)
  refine ite_g Iff.rfl (fun _ => rfl) (fun _ => ?_)
  refine ite_g Iff.rfl (fun _ => SL_s sl (by decide)) (fun _ => ?_)
  refine ite_g Iff.rfl (fun _ => SL_s sl (by decide)) (fun _ => ?_)
  refine ite_g Iff.rfl (fun _ => ?_) (fun _ => ?_)
  · rw [SL_68 sl, hc.1, nI_clamp (by omega)]
    exact SL_be sl c (Nat.le_refl _)
  refine ite_g Iff.rfl (fun h => ?_) (fun _ => ?_)
  · obtain ⟨j, hj, e⟩ := senQ_k h
    rw [e, nI_clamp (by omega)]
    exact SL_s sl (by omega)
  refine ite_g Iff.rfl (fun _ => SL_com hc sl 61 0) (fun _ => ?_)
  refine ite_g Iff.rfl (fun _ => ?_) (fun _ => rfl)
  rw [SL_68 sl, SL_71 sl, hc.1, e71, nI_clamp (by omega), nI_clamp (by omega)]
  exact SL_wt sl 21
theorem G_toC {w : Int32} (hI : WI M c k1 k2 k3) : toC M cl k1 w = toR M cl w := by
  have hc := WI_c hI
  have c6' := hc.2
  have e71 := (WI_SE hI).1
  have k5 := (WI_SE hI).2.1
  unfold toR toC
  refine ite_g Iff.rfl (fun _ => rfl) (fun _ => ?_)
  refine ite_g Iff.rfl (fun _ => rfl) (fun _ => ?_)
  refine ite_g Iff.rfl (fun _ => rfl) (fun _ => ?_)
  refine ite_g Iff.rfl (fun _ => rfl) (fun _ => ?_)
  refine ite_g Iff.rfl (fun _ => rfl) (fun _ => ?_)
  refine ite_g Iff.rfl (fun _ => rfl) (fun _ => ?_)
  refine ite_g Iff.rfl (fun _ => rfl) (fun _ => ?_)
  refine ite_g Iff.rfl (fun h => ?_) (fun _ => rfl)
  obtain ⟨j, hj, e⟩ := senQ_k h
  rw [e71, nI_clamp (show k1 < 2 ^ 31 by omega), hc.1, nI_clamp (show c < 2 ^ 31 by omega), e, nI_clamp (show j < 2 ^ 31 by omega)]
  exact wz_wt hc.2 hj (WI_SE hI) 21
theorem drL_ag {i t : Nat} (sl : SL M N c k1 k2 k3) (hi : i < c) (ht : t < 12) : ∀ n, drL M cl i t n = drL N cl i t n := by
  intro n
  induction n with
  | zero => rfl
  | succ n ih =>
    simp only [drL]
    rw [ih, SL_s sl (show t < 14 by omega), SL_p sl hi 2 (by decide), tipF_ag (SL_AG (SL_upd sl) hi)]
theorem dear_ag {i : Nat} (sl : SL M N c k1 k2 k3) (hi : i < c) : dearF M cl i = dearF N cl i := by
  unfold dearF
  rw [SL_p sl hi 2 (by decide), tipF_ag (SL_AG sl hi)]
  rcases tipF_k N cl i (N (14 + 9 * i + 2)) with h | ⟨s, hs, h, -⟩
  · rw [h, if_pos rfl, if_pos rfl]
  · rw [h, nI_clamp (by omega), drL_ag sl hi hs]
theorem hd_ag {i : Nat} (sl : SL M N c k1 k2 k3) (hi : i < c) : hdP M cl i k1 = hdP N cl i k1 := by
  funext v
  unfold hdP
  rw [tipF_ag (SL_AG sl hi), SL_se sl k1 (Nat.le_refl _)]
theorem G_of {p w : Int32} (sl : SL M N c k1 k2 k3) (hI : WI N c k1 k2 k3) : ofR M cl p w = ofR N cl p w := by
  have hc := WI_c hI
  have c6' := hc.2
  have e71 := (WI_SE hI).1
  have k5 := (WI_SE hI).2.1
  unfold ofR
  refine ite_g (one_iff sl) (fun h => ?_) (fun _ => rfl)
  obtain ⟨i, hi, rfl⟩ := oneQ_k hc h
  rw [nI_clamp (by omega), SL_71 sl, e71, nI_clamp (by omega), hd_ag sl hi, dear_ag sl hi, SL_p sl hi 2 (by decide), tipF_ag (SL_AG sl hi)]
  refine ite_g Iff.rfl (fun _ => rfl) (fun _ => ?_)
  refine ite_g Iff.rfl (fun _ => rfl) (fun _ => ?_)
  refine ite_g Iff.rfl (fun _ => rfl) (fun _ => ?_)
  refine ite_g Iff.rfl (fun _ => rfl) (fun _ => ?_)
  refine ite_g Iff.rfl (fun h => ?_) (fun _ => rfl)
  obtain ⟨j, hj, e⟩ := nI_of2 (M := 4) (n := 4) (by decide) (Int32.not_lt.mpr h.1) h.2
  rw [e, nI_clamp (by omega)]
  exact SL_p sl hi j (by omega)
theorem G_ofC {p w : Int32} (hI : WI M c k1 k2 k3) (hU : ∀ i, i < c → UB M cl i) : ofC M cl k1 p w = ofR M cl p w := by
  have hc := WI_c hI
  have c6' := hc.2
  have e71 := (WI_SE hI).1
  have k5 := (WI_SE hI).2.1
  unfold ofR ofC
  refine ite_g Iff.rfl (fun h => ?_) (fun _ => rfl)
  obtain ⟨i, hi, rfl⟩ := oneQ_k hc h
  have e := had_eq (hI.2.1 i hi).2 (hU i hi) (WI_SE hI)
  rw [nI_clamp (by omega), e71, nI_clamp (show k1 < 2 ^ 31 by omega), e.1, e.2]
theorem G_dcC {p s : Int32} (hI : WI M c k1 k2 k3) (hU : ∀ i, i < c → UB M cl i) : dcC M cl p s = dcR M cl p s := by
  have hc := WI_c hI
  have c6' := hc.2
  unfold dcR dcC
  refine ite_g Iff.rfl (fun h => ?_) (fun _ => rfl)
  obtain ⟨i, hi, rfl⟩ := oneQ_k hc h.1
  rw [nI_clamp (by omega), dec_eq (hI.2.1 i hi).2 (hU i hi) (WI_P hI hi).2.2]
theorem cn_ag {i : Nat} (sl : SL M N c k1 k2 k3) (hi : i < c) : cnP M cl i k1 = cnP N cl i k1 := by
  funext v
  unfold cnP
  rw [SL_p sl hi 2 (by decide), tipF_ag (SL_AG (SL_upd sl) hi), SL_se (SL_upd sl) k1 (Nat.le_refl _)]
theorem G_can {p w : Int32} (sl : SL M N c k1 k2 k3) (hI : WI N c k1 k2 k3) : (if oneQ M p ∧ (0 ≤ w ∧ w ≤ 1) then (if w = 0 then (dnF (fun v => csF (upd M (14 + 9 * p.toNatClampNeg + 1) (nI v)) cl p.toNatClampNeg k1) 9 10).1 else (dnF (fun v => csF (upd M (14 + 9 * p.toNatClampNeg + 1) (nI v)) cl p.toNatClampNeg k1) 9 10).2) else (-1 : Int32)) = (if oneQ N p ∧ (0 ≤ w ∧ w ≤ 1) then (if w = 0 then (dnF (cnP N cl p.toNatClampNeg k1) 9 10).1 else (dnF (cnP N cl p.toNatClampNeg k1) 9 10).2) else -1) := by
  have hc := WI_c hI
  have c6' := hc.2
  refine ite_g (and_congr (one_iff sl) Iff.rfl) (fun h => ?_) (fun _ => rfl)
  obtain ⟨i, hi, rfl⟩ := oneQ_k hc h.1
  rw [nI_clamp (by omega), can_eq (by omega) (WI_SE (SL_WI sl hI)), cn_ag sl hi]
theorem odN_ag {i : Nat} (sl : SL M N c k1 k2 k3) (hi : i < c) : ∀ s, odN M cl i s = odN N cl i s := by
  intro s
  induction s with
  | zero => rfl
  | succ s ih =>
    simp only [odN]
    rw [ih, SL_p sl hi 2 (by decide), tipF_ag (SL_AG sl hi), tipF_ag (SL_AG sl hi)]
theorem G_od {p w : Int32} (sl : SL M N c k1 k2 k3) (hc : c6 N c) : (if oneQ M p ∧ (0 ≤ w ∧ w ≤ 1) then frF (odN M cl p.toNatClampNeg 12) 12 w else (-9223372036854775808 : Int64)) = if oneQ N p ∧ (0 ≤ w ∧ w ≤ 1) then frF (odN N cl p.toNatClampNeg 12) 12 w else -9223372036854775808 := by
  have c6' := hc.2
  refine ite_g (and_congr (one_iff sl) Iff.rfl) (fun h => ?_) (fun _ => rfl)
  obtain ⟨i, hi, rfl⟩ := oneQ_k hc h.1
  rw [nI_clamp (by omega), odN_ag sl hi]
theorem SL_en (sl : SL M N c k1 k2 k3) (hI : WI N c k1 k2 k3) : ∀ r, r ≤ k2 → SL (enF M cl r) (enF N cl r) c k1 k2 k3 := by
  intro r
  induction r with
  | zero =>
    intro _
    exact sl
  | succ r ih =>
    intro hr
    have s := ih (by omega)
    have e := SL_r2 sl (show r < k2 by omega)
    have hcr := (enF_out (cl := cl) (WI_PL hI) (WI_c hI) (x := 70) (by decide) (by decide) r (by omega)).2
    simp only [enF]
    rw [e.1, e.2]
    by_cases h0 : N (83 + 2 * r) = 0
    · rw [if_pos h0, if_pos h0]
      exact SL_day hcr s
    · rw [if_neg h0, if_neg h0]
      by_cases h3 : N (83 + 2 * r) = 3
      · rw [if_pos h3, if_pos h3]
        exact SL_he s
      · rw [if_neg h3, if_neg h3]
        exact SL_upd s
theorem G_en {w : Int32} (sl : SL M N c k1 k2 k3) (hI : WI N c k1 k2 k3) : enR M cl w = enR N cl w := by
  have hc := WI_c hI
  have c6' := hc.2
  have e82 := (WI_PL hI).1
  have k10 := (WI_PL hI).2.1
  have s := SL_en (cl := cl) sl hI k2 (Nat.le_refl _)
  unfold enR
  rw [SL_68 sl, SL_82 sl, hc.1, e82, nI_clamp (by omega), nI_clamp (by omega), SL_s s (by decide), SL_bk s c (Nat.le_refl _)]
theorem G_lo (sl : SL M N c k1 k2 k3) (hI : WI N c k1 k2 k3) : loR M = loR N := by
  have e103 := (WI_BK hI).1
  have k8 := (WI_BK hI).2.1
  unfold loR
  rw [SL_103 sl, e103, nI_clamp (by omega)]
  exact SL_lo (WI_BK hI) sl k3 0 (by omega)
theorem G_ju {g : Nat → Int64} {L i : Nat} (h : ∀ s, s < 12 → M s = N s) : ∀ f s, s + f = 12 → juF M g L i f s = juF N g L i f s := by
  intro f
  induction f with
  | zero =>
    intro s _
    rfl
  | succ f ih =>
    intro s hs
    simp only [juF]
    rw [h s (by omega), ih (s + 1) (by omega)]
theorem ju_cg {g g' : Nat → Int64} {L i : Nat} (h : ∀ k, k < L → g k = g' k) : ∀ f s, juF N g L i f s = juF N g' L i f s := by
  intro f
  induction f with
  | zero =>
    intro s
    rfl
  | succ f ih =>
    intro s
    simp only [juF]
    by_cases hl : L ≤ i + s
    · rw [if_pos hl, if_pos hl]
    · rw [if_neg hl, if_neg hl, h (i + s) (by omega), ih (s + 1)]
theorem G_ac {f : Nat → Int32} {p a x : Int32} (sl : SL M N c k1 k2 k3) (hc : c6 N c) : acR M f p a x = acR N f p a x := by
  unfold acR
  refine ite_g (and_congr (one_iff sl) Iff.rfl) (fun h => ?_) (fun _ => rfl)
  have c6' := hc.2
  obtain ⟨i, hi, rfl⟩ := oneQ_k hc h.1
  rw [nI_clamp (by omega), SL_p sl hi 0 (by decide), SL_p sl hi 1 (by decide)]
theorem G_tk {p k : Int32} (sl : SL M N c k1 k2 k3) (hc : c6 N c) : tkR M p k = tkR N p k := by
  unfold tkR
  refine ite_g Iff.rfl (fun _ => ?_) (fun _ => rfl)
  refine ite_g (one_iff sl) (fun h => ?_) (fun _ => rfl)
  have c6' := hc.2
  obtain ⟨i, hi, rfl⟩ := oneQ_k hc h
  rw [nI_clamp (by omega), SL_p sl hi 0 (by decide)]
theorem G_co {sc : Nat → Int32} {w : Int32} (sl : SL M N c k1 k2 k3) : coR sc M w = coR sc N w := by
  unfold coR
  rw [SL_68 sl, SL_71 sl, SL_82 sl, SL_103 sl]
end
