/-! Tapes: class and reference answer alike. -/
theorem zl_at {f : Nat → Int64} {t q : Nat} : ∀ m, zlF f t m q = if 60 * t ≤ q ∧ q < 60 * t + m then 0 else f q := by
  intro m
  induction m with
  | zero =>
    rw [if_neg (by omega)]
    rfl
  | succ m ih =>
    simp only [zlF, vp_updL]
    by_cases h : q = 60 * t + m
    · rw [if_pos h, if_pos (by omega)]
    · rw [if_neg h, ih]
      by_cases g : 60 * t ≤ q ∧ q < 60 * t + m
      · rw [if_pos g, if_pos (by omega)]
      · rw [if_neg g, if_neg (by omega)]
theorem pla_k {ls : Nat → Int32} {t o : Nat} {i j n : Int32} {L L2 : Nat} (ht : t < 6) (ho : o < 6) (hL : L ≤ 60) (hL2 : L2 ≤ 60) (e1 : ls t = nI L) (e2 : ls o = nI L2) (h : plaQ ls (nI t) i (nI o) j n) : ∃ i' j' n', i = nI i' ∧ j = nI j' ∧ n = nI n' ∧ i' + n' ≤ L ∧ j' + n' ≤ L2 := by
  obtain ⟨h1, h2, h3, h4, h5⟩ := h
  rw [nI_clamp (by omega), e1] at h4
  rw [nI_clamp (by omega), e2] at h5
  have z0 : (0 : Int32).toInt = 0 := by decide
  rw [Int32.lt_iff_toInt_lt, z0] at h1 h2 h3
  rw [Int32.lt_iff_toInt_lt, Int32.toInt_sub, nI_toInt (by omega)] at h4 h5
  have b1 := Int32.toInt_lt i
  have b2 := Int32.toInt_lt j
  have b3 := Int32.toInt_lt n
  unfold Int.bmod at h4 h5
  dsimp only at h4 h5
  have g4 : i.toInt + n.toInt ≤ L := by
    split at h4 <;> omega
  have g5 : j.toInt + n.toInt ≤ L2 := by
    split at h5 <;> omega
  refine ⟨i.toInt.toNat, j.toInt.toNat, n.toInt.toNat, ?_, ?_, ?_, by omega, by omega⟩
  · apply Int32.toInt_inj.mp
    rw [nI_toInt (by omega)]
    omega
  · apply Int32.toInt_inj.mp
    rw [nI_toInt (by omega)]
    omega
  · apply Int32.toInt_inj.mp
    rw [nI_toInt (by omega)]
    omega
theorem LV_up {LG gr : Nat → Nat} {C : Nat → Option AE} {z : Nat × Nat} {BIG r : Nat} {e e' : AE} (h : C r = some e') (hL : LV LG gr C z BIG) : LV LG gr (va_up C r (some e)) z BIG := by
  refine ⟨hL.1, hL.2.1, fun q x hx => ?_⟩
  by_cases hq : q = r
  · rw [hq]
    exact hL.2.2 r _ h
  · have : va_up C r (some e) q = C q := if_neg hq
    rw [this] at hx
    exact hL.2.2 q x hx
section
variable {V : Nat → Option AE} {Ev : Nat → Value} {D d : Nat} {Q : Option Value → HS → Prop} {h : HS}
variable {x0 b BIG S Z1 Z2 : Nat}
theorem tp_end {LG gr : Nat → Nat} {C C' G : Nat → Option AE} {z : Nat × Nat} {nb n m2 : Nat} {sc : Nat → Int32} {ar : Nat → Nat → Int32} {lg : Nat → Nat → Int64} {L18 : Nat → Int64} {A16 A17 : Nat → Int32} {M F : Nat → Int32} {ex : Nat → Bool} {hd : Option Nat} {as : List Value} {v : Value} (hp : HP BIG S Z1 Z2 LG gr C G z) (w0 : OW LG C 100 M F ex hd) (w1 : W1 LG C nb) (rs : RS LG C x0 nb n b sc ar lg) (mi : MI ar sc nb n) (dt : DT M (ar 1) ex hd nb) (hC : ∀ r, (r < 3 ∨ 12 ≤ r) → C' r = C r) (hL : LV LG gr C' z BIG) (tg : TPG LG C' A16 A17 L18) (hm : ∀ Q2 : Option Value → HS → Prop, (∀ lg' : Nat → Nat → Int64, lg' 18 = L18 → Q2 (some v) (MH b sc (va_up (va_up ar 16 A16) 17 A17) lg' (GH LG gr C' G z).1 z)) → WP V (cdT Ev) mx D m2 (.ref b :: as) (MH b sc ar lg (GH LG gr C' G z).1 z) Q2) : MID S V Ev D m2 (.ref b :: as) (NXT x0 b BIG S Z1 Z2) v (GH LG gr C' G z) := by
  have hn := mi.2.2.2.2
  have hpp := HP_s hp
  obtain ⟨p0, p1, p2, p3, p4, p5, p6⟩ := RS_PS rs
  have rg' : RG LG C' b sc ar lg := RG_fr (fun _ _ _ => rfl) (fun q q1 q2 => hC _ (by omega)) (RS_RG rs)
  refine ⟨MS_of hp.1.1 hp.2.1 rg', fun Q2 hQ => ?_⟩
  have e := toM (G := G) (z := z) hp.1.1 rg'
  rw [e]
  refine hm Q2 (fun lg' el => hQ _ ?_)
  exact PS_end (nb := nb) (n := n) (sc' := sc) (ar' := va_up (va_up ar 16 A16) 17 A17) (lg' := lg') ⟨hL, hpp.2⟩ (OW_fr (fun _ _ => rfl) (fun _ _ => rfl) (fun q hq => hC _ (by omega)) w0) (W1_fr hn (fun _ _ => rfl) (fun _ _ _ => rfl) (fun q hq => hC _ (by omega)) w1) ⟨p0, DM_fr (fun _ _ => rfl) hn (hC _ (by omega)) p1, W2_fr hn (fun _ _ => rfl) (fun _ _ _ => rfl) (fun q hq => hC _ (by omega)) p2, BX_fr hn (fun _ _ _ => rfl) (fun q q1 q2 => hC _ (by omega)) p3, BS_fr hn (fun _ _ _ => rfl) (fun q q1 q2 => hC _ (by omega)) p4, TG_fr rfl (hC _ (by omega)) (hC _ (by omega)) p5, by rw [el]; exact tg⟩ rg' mi dt
theorem va_ii {ar : Nat → Nat → Int32} : va_up (va_up ar 16 (ar 16)) 17 (ar 17) = ar := by
  rw [va_id (f := ar) (k := 16) rfl, va_id (f := ar) (k := 17) rfl]
theorem L_item {t i : Int32} {v : Int64} (hI : INV x0 b BIG S Z1 Z2 h) (H : ∀ y h1, MID S V Ev (d + 40) 191 [.ref b, .int t, .int i, .long v] (NXT x0 b BIG S Z1 Z2) (.int y) h1 → Q (some (.int y)) h1) : WP V (cdT Ev) mx (d + 40) 98 [.ref x0, .int t, .int i, .long v] h Q := by
  obtain ⟨LG, gr, C, G, z, M, F, ex, hd, nb, n, sc, ar, lg, rfl, hp, w0, w1, rs, mi, dt⟩ := hI
  have ps := RS_PS rs
  obtain ⟨ts, tz, rw', tf, tq, tp, te, tr⟩ := ps.2.2.2.2.2.2
  have mm := fun (G : Nat → Option AE) (Q2 : Option Value → HS → Prop) => m_item (V := V) (Ev := Ev) (d := d + 37) (Q := Q2) (b := b) (sc := sc) (ar := ar) (lg := lg) (G := G) (z := z) (t := t) (i := i) (v := v) tp
  rw [← ps.1, c_item (d := d + 38) hp.1.1 ps.2.1 tf tq]
  by_cases ht : tapQ t
  · obtain ⟨k, hk, rfl⟩ := tapQ_k ht
    obtain ⟨L, hL, eL, -⟩ := tp k hk
    rw [nI_clamp (show k < 2 ^ 31 by omega)] at mm ⊢
    rw [if_pos ht, (te k hk).1, (te k hk).2]
    by_cases hs : ar 16 k < 0
    · rw [if_pos hs]
      refine H _ _ (ref_end (HP_s hp) w0 w1 ps (RS_RG rs) mi dt (fun Q2 hQ => ?_))
      rw [mm, if_pos ht, if_pos hs]
      exact hQ
    · rw [if_neg hs]
      by_cases hi : 0 ≤ i ∧ i ≤ ar 17 k - 1
      · rw [if_pos hi]
        have hi2 := hi
        rw [eL] at hi2
        obtain ⟨j, hj, rfl⟩ := ix_lt hL hi2
        rw [nI_clamp (show j < 2 ^ 31 by omega)] at mm ⊢
        refine H _ _ (tp_end (A16 := ar 16) (A17 := ar 17) (L18 := vp_updL (lg 18) (60 * k + j) (itF (ar 16 k) v)) hp w0 w1 rs mi dt (fun r hr => if_neg (by omega)) (LV_up (tf.2.2.2 k hk) hp.1) ⟨ts, tz, _, TF_r hk tf, tq, tp, te, fun t ht' q hq => ?_⟩ (fun Q2 hQ => ?_))
        · obtain ⟨L', hL', eL', -⟩ := tp t ht'
          have hq' : q < L' := by
            rw [(te t ht').2, eL', nI_clamp (by omega)] at hq
            exact hq
          show va_up rw' k _ t q = vp_updL (lg 18) (60 * k + j) (itF (ar 16 k) v) (60 * t + q)
          unfold va_up vp_updL
          by_cases e : t = k
          · subst e
            rw [if_pos rfl]
            by_cases e2 : q = j
            · rw [if_pos e2, if_pos (by omega)]
            · rw [if_neg e2, if_neg (by omega)]
              exact tr t ht' q hq
          · rw [if_neg e, if_neg (by omega)]
            exact tr t ht' q hq
        · rw [mm, if_pos ht, if_neg hs, if_pos hi]
          have := hQ (va_up lg 18 (vp_updL (lg 18) (60 * k + j) (itF (ar 16 k) v))) rfl
          rw [va_ii] at this
          exact this
      · rw [if_neg hi]
        refine H _ _ (ref_end (HP_s hp) w0 w1 ps (RS_RG rs) mi dt (fun Q2 hQ => ?_))
        rw [mm, if_pos ht, if_neg hs, if_neg hi]
        exact hQ
  · rw [if_neg ht]
    refine H _ _ (ref_end (HP_s hp) w0 w1 ps (RS_RG rs) mi dt (fun Q2 hQ => ?_))
    rw [mm, if_neg ht]
    exact hQ
theorem L_tape {t s n : Int32} (hI : INV x0 b BIG S Z1 Z2 h) (H : ∀ y h1, MID S V Ev (d + 40) 190 [.ref b, .int t, .int s, .int n] (NXT x0 b BIG S Z1 Z2) (.int y) h1 → Q (some (.int y)) h1) : WP V (cdT Ev) mx (d + 40) 97 [.ref x0, .int t, .int s, .int n] h Q := by
  obtain ⟨LG, gr, C, G, z, M, F, ex, hd, nb, n', sc, ar, lg, rfl, hp, w0, w1, rs, mi, dt⟩ := hI
  have ps := RS_PS rs
  obtain ⟨ts, tz, rw', tf, tq, tp, te, tr⟩ := ps.2.2.2.2.2.2
  have mm := fun (G : Nat → Option AE) (Q2 : Option Value → HS → Prop) => m_tape (V := V) (Ev := Ev) (d := d + 37) (Q := Q2) (b := b) (sc := sc) (ar := ar) (lg := lg) (G := G) (z := z) (t := t) (s := s) (n := n)
  rw [← ps.1, c_tape (d := d + 38) hp.1.1 ps.2.1 tf]
  by_cases ht : tapQ t
  · obtain ⟨k, hk, rfl⟩ := tapQ_k ht
    rw [nI_clamp (show k < 2 ^ 31 by omega)] at mm ⊢
    rw [if_pos ht]
    by_cases h1 : (-1 ≤ s ∧ s ≤ 4) ∧ (s < 0 ∨ n ≤ 60)
    · rw [if_pos h1]
      by_cases h2 : s < 0 ∨ 0 ≤ n
      · rw [if_pos h2]
        obtain ⟨m, hm60, em, hms⟩ : ∃ m, m ≤ 60 ∧ (if 0 ≤ s then n else 0) = nI m ∧ (s < 0 → s = -1 ∧ m = 0) := by
          by_cases hs : 0 ≤ s
          · have hns : ¬ s < 0 := Int32.not_lt.mpr hs
            have g1 := h1.2.resolve_left hns
            have g2 := h2.resolve_left hns
            obtain ⟨m, hm, e⟩ := n09 (l := 60) (L := 60) rfl (by decide) ⟨g2, g1⟩
            exact ⟨m, hm, by rw [if_pos hs]; exact e, fun g => absurd g hns⟩
          · refine ⟨0, by decide, by rw [if_neg hs]; rfl, fun _ => ⟨?_, rfl⟩⟩
            have g1 := Int32.le_iff_toInt_le.mp h1.1.1
            rw [Int32.le_iff_toInt_le] at hs
            have z0 : (0 : Int32).toInt = 0 := by decide
            have z1 : (-1 : Int32).toInt = -1 := by decide
            apply Int32.toInt_inj.mp
            omega
        rw [em, nI_clamp (show m < 2 ^ 31 by omega)]
        have tp' : ∀ A B : Nat → Int32, TPok A B → TPok (upd A k s) (upd B k (nI m)) := by
          intro A B hAB t ht'
          by_cases e : t = k
          · rw [e, pk_us, pk_us]
            exact ⟨m, hm60, rfl, hms⟩
          · rw [pk_un e, pk_un e]
            exact hAB t ht'
        refine H _ _ (tp_end (A16 := upd (ar 16) k s) (A17 := upd (ar 17) k (nI m)) (L18 := zlF (lg 18) k 60) hp w0 w1 rs mi dt (fun r hr => ?_) ?_ ⟨upd ts k s, upd tz k (nI m), _, TF_U hk tf, ⟨tp' _ _ tq.1, fun t ht' => ?_⟩, tp' _ _ tp, fun t ht' => ?_, fun t ht' q hq => ?_⟩ (fun Q2 hQ => ?_))
        · unfold TPU
          exact (if_neg (by omega)).trans ((if_neg (by omega)).trans (if_neg (by omega)))
        · unfold TPU
          exact LV_up (e' := .inl (3, 60, .inr (.inl (rw' k)))) ((if_neg (by omega)).trans ((if_neg (by omega)).trans (tf.2.2.2 k hk))) (LV_up (e' := .inl (2, 6, .inl tz)) ((if_neg (by omega)).trans tf.2.1) (LV_up tf.1 hp.1))
        · by_cases e : t = k
          · rw [e, pk_us]
            exact h1.1.2
          · rw [pk_un e]
            exact tq.2 t ht'
        · by_cases e : t = k
          · rw [e, pk_us, pk_us, pk_us, pk_us]
            exact ⟨rfl, rfl⟩
          · rw [pk_un e, pk_un e, pk_un e, pk_un e]
            exact te t ht'
        · show va_up rw' k _ t q = zlF (lg 18) k 60 (60 * t + q)
          rw [zl_at]
          unfold va_up
          by_cases e : t = k
          · subst e
            rw [pk_us, nI_clamp (by omega)] at hq
            rw [if_pos rfl, if_pos (by omega)]
            unfold zrF
            rw [if_pos hq]
          · rw [pk_un e] at hq
            have hq2 := hq
            obtain ⟨L', hL', eL', -⟩ := tp t ht'
            rw [(te t ht').2, eL', nI_clamp (by omega)] at hq
            rw [if_neg e, if_neg (by omega)]
            exact tr t ht' q hq2
        · rw [mm, if_pos ht, if_pos h1, if_pos h2, em]
          exact hQ _ rfl
      · rw [if_neg h2]
        refine H _ _ (ref_end (HP_s hp) w0 w1 ps (RS_RG rs) mi dt (fun Q2 hQ => ?_))
        rw [mm, if_pos ht, if_pos h1, if_neg h2]
        exact hQ
    · rw [if_neg h1]
      refine H _ _ (ref_end (HP_s hp) w0 w1 ps (RS_RG rs) mi dt (fun Q2 hQ => ?_))
      rw [mm, if_pos ht, if_neg h1]
      exact hQ
  · rw [if_neg ht]
    refine H _ _ (ref_end (HP_s hp) w0 w1 ps (RS_RG rs) mi dt (fun Q2 hQ => ?_))
    rw [mm, if_neg ht]
    exact hQ
theorem L_shift {t i o j n : Int32} (hI : INV x0 b BIG S Z1 Z2 h) (H : ∀ y h1, MID S V Ev (d + 40) 193 [.ref b, .int t, .int i, .int o, .int j, .int n] (NXT x0 b BIG S Z1 Z2) (.int y) h1 → Q (some (.int y)) h1) : WP V (cdT Ev) mx (d + 40) 100 [.ref x0, .int t, .int i, .int o, .int j, .int n] h Q := by
  obtain ⟨LG, gr, C, G, z, M, F, ex, hd, nb, n', sc, ar, lg, rfl, hp, w0, w1, rs, mi, dt⟩ := hI
  have ps := RS_PS rs
  obtain ⟨ts, tz, rw', tf, tq, tp, te, tr⟩ := ps.2.2.2.2.2.2
  have sm := fun v (hm : ∀ Q2 : Option Value → HS → Prop, Q2 (some (.int v)) (MH b sc ar lg (GH LG gr C G z).1 z) → WP V (cdT Ev) mx (d + 40) 193 (.ref b :: [.int t, .int i, .int o, .int j, .int n]) (MH b sc ar lg (GH LG gr C G z).1 z) Q2) => H v _ (ref_end (HP_s hp) w0 w1 ps (RS_RG rs) mi dt hm)
  have tz' : ∀ t : Int32, tapQ t → tz t.toNatClampNeg = ar 17 t.toNatClampNeg ∧ ts t.toNatClampNeg = ar 16 t.toNatClampNeg := by
    intro t ht
    obtain ⟨k, hk, rfl⟩ := tapQ_k ht
    rw [nI_clamp (show k < 2 ^ 31 by omega)]
    exact ⟨(te k hk).2, (te k hk).1⟩
  have pq : tapQ t → tapQ o → (plaQ tz t i o j n ↔ plaQ (ar 17) t i o j n) := by
    intro h1 h2
    unfold plaQ
    rw [(tz' t h1).1, (tz' o h2).1]
  rw [← ps.1]
  refine c_shift (d := d + 38) hp.1.1 ps.2.1 tf tq (fun g => sm _ (fun Q2 hQ => ?_)) (fun g1 g2 g3 => sm _ (fun Q2 hQ => ?_)) (fun g1 g2 g3 g4 g5 => sm _ (fun Q2 hQ => ?_)) (fun g1 g2 g3 g4 g5 g6 => sm _ (fun Q2 hQ => ?_)) (fun g1 g2 g3 g4 g5 g6 => ?_)
  · exact m_shift (d := d + 37) tp (fun _ => hQ) (fun a b => absurd ⟨a, b⟩ g) (fun a b => absurd ⟨a, b⟩ g) (fun a b => absurd ⟨a, b⟩ g) (fun a b => absurd ⟨a, b⟩ g)
  · rw [(tz' t g1).2, (tz' o g2).2] at g3
    exact m_shift (d := d + 37) tp (fun a => absurd ⟨g1, g2⟩ a) (fun _ _ _ => hQ) (fun _ _ a b => absurd g3 (fun c => c.elim a b)) (fun _ _ a b => absurd g3 (fun c => c.elim a b)) (fun _ _ a b => absurd g3 (fun c => c.elim a b))
  · rw [(tz' t g1).2] at g3
    rw [(tz' o g2).2] at g4
    rw [(tz' t g1).2, (tz' o g2).2] at g5
    exact m_shift (d := d + 37) tp (fun a => absurd ⟨g1, g2⟩ a) (fun _ _ c => (c.elim g3 g4).elim) (fun _ _ _ _ _ => hQ) (fun _ _ _ _ a => absurd a g5) (fun _ _ _ _ a => absurd a g5)
  · rw [(tz' t g1).2] at g3
    rw [(tz' o g2).2] at g4
    rw [(tz' t g1).2, (tz' o g2).2] at g5
    rw [pq g1 g2] at g6
    exact m_shift (d := d + 37) tp (fun a => absurd ⟨g1, g2⟩ a) (fun _ _ c => (c.elim g3 g4).elim) (fun _ _ _ _ a => absurd g5 a) (fun _ _ _ _ _ _ => hQ) (fun _ _ _ _ _ a => absurd a g6)
  · rw [(tz' t g1).2] at g3
    rw [(tz' o g2).2] at g4
    rw [(tz' t g1).2, (tz' o g2).2] at g5
    rw [pq g1 g2] at g6
    obtain ⟨k, hk, rfl⟩ := tapQ_k g1
    obtain ⟨k2, hk2, rfl⟩ := tapQ_k g2
    obtain ⟨L, hL, eL, -⟩ := tp k hk
    obtain ⟨L2, hL2, eL2, -⟩ := tp k2 hk2
    obtain ⟨i', j', n2, rfl, rfl, rfl, l1, l2⟩ := pla_k hk hk2 hL hL2 eL eL2 g6
    refine H _ _ (tp_end (D := d + 40) (m2 := 193) (A16 := ar 16) (A17 := ar 17) (L18 := shF (lg 18) (60 * k + i') (60 * k2 + j') n2) hp w0 w1 rs mi dt (fun r hr => if_neg (by rw [nI_clamp (show k2 < 2 ^ 31 by omega)]; omega)) (LV_up (e' := .inl (3, 60, .inr (.inl (rw' k2)))) (by rw [nI_clamp (show k2 < 2 ^ 31 by omega)]; exact tf.2.2.2 k2 hk2) hp.1) ⟨ts, tz, va_up rw' k2 (va_cpy (rw' k) (rw' k2) i' j' n2), ?_, tq, tp, te, fun t ht' q hq => ?_⟩ (fun Q2 hQ => ?_))
    · rw [nI_clamp (show k < 2 ^ 31 by omega), nI_clamp (show k2 < 2 ^ 31 by omega), nI_clamp (show i' < 2 ^ 31 by omega), nI_clamp (show j' < 2 ^ 31 by omega), nI_clamp (show n2 < 2 ^ 31 by omega)]
      exact TF_r hk2 tf
    · have hq2 := hq
      obtain ⟨L', hL', eL', -⟩ := tp t ht'
      rw [(te t ht').2, eL', nI_clamp (by omega)] at hq
      unfold va_up va_cpy shF
      by_cases e : t = k2
      · subst e
        have eLL : L' = L2 := (nI_eq (by omega) (by omega)).mp (eL'.symm.trans eL2)
        rw [if_pos rfl]
        by_cases g : j' ≤ q ∧ q < j' + n2
        · rw [if_pos g, if_pos (by omega), tr k hk _ (by rw [(te k hk).2, eL, nI_clamp (by omega)]; omega), show 60 * k + (i' + (q - j')) = 60 * k + i' + (60 * t + q - (60 * t + j')) by omega]
        · rw [if_neg g, if_neg (by omega)]
          exact tr t ht' q hq2
      · rw [if_neg e, if_neg (by omega)]
        exact tr t ht' q hq2
    · refine m_shift (d := d + 37) tp (fun a => absurd ⟨g1, g2⟩ a) (fun _ _ c => (c.elim g3 g4).elim) (fun _ _ _ _ a => absurd g5 a) (fun _ _ _ _ _ a => absurd g6 a) (fun _ _ _ _ _ _ m => ?_)
      rw [nI_clamp (show k < 2 ^ 31 by omega), nI_clamp (show k2 < 2 ^ 31 by omega), nI_clamp (show i' < 2 ^ 31 by omega), nI_clamp (show j' < 2 ^ 31 by omega), nI_clamp (show n2 < 2 ^ 31 by omega)] at hQ ⊢
      have := hQ (va_up (va_up lg 19 m) 18 (shF (lg 18) (60 * k + i') (60 * k2 + j') n2)) rfl
      rw [va_ii] at this
      exact this
end
