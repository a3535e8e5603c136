/-! Calls that change little: class and reference answer alike. -/
def EVS (S : Nat) (V : Nat → Option AE) (Ev : Nat → Value) : Prop := (∃ a, a < S ∧ Ev 0 = .ref a ∧ V (2 * a) = some (.inl (2, 7, .inl (fun j => [(-1 : Int32), 0, 0, 0, 1, 2, 3].getD j 0)))) ∧ (∀ k, k < 5 → ∃ a v, v < S ∧ Ev (k + 1) = .ref a ∧ V (2 * a + 1) = some (.inr (100, [.ref v, .int 0])) ∧ V (2 * v) = some (.inl (0, (strB k).length, .inl (fun j => (strB k).getD j 0)))) ∧ (Ev 6 = .null ∨ ∃ a, Ev 6 = .ref a)
section
variable {V : Nat → Option AE} {Ev : Nat → Value} {D d : Nat} {Q : Option Value → HS → Prop} {h : HS}
variable {x0 b BIG S Z1 Z2 : Nat}
theorem EVS_STA {LG gr : Nat → Nat} {C G : Nat → Option AE} {z : Nat × Nat} (he : EVS S V Ev) (h : GN S LG G z) : STA V Ev (GH LG gr C G z) := by
  obtain ⟨⟨a, ha, e, v⟩, -⟩ := he
  exact ⟨a, e, GN_n h ha, v⟩
theorem EVS_ES5 {LG gr : Nat → Nat} {G : Nat → Option AE} {z : Nat × Nat} (he : EVS S V Ev) (h : GN S LG G z) : ES5 V Ev LG gr G z := by
  refine ⟨fun k hk => ?_, he.2.2⟩
  obtain ⟨a, v, hv, e, v1, v2⟩ := he.2.1 k hk
  exact ⟨a, e, fun C => ⟨v, v1, v2, GN_n h hv⟩⟩
theorem ref_end {LG gr : Nat → Nat} {C G : Nat → Option AE} {z : Nat × Nat} {nb n m2 : Nat} {sc sc' : Nat → Int32} {ar ar' : Nat → Nat → Int32} {lg lg' : Nat → Nat → Int64} {M F : Nat → Int32} {ex : Nat → Bool} {hd : Option Nat} {as : List Value} {v : Value} (hp : HP BIG S (Z1 + 12) (Z2 + 230) LG gr C G z) (w0 : OW LG C 100 M F ex hd) (w1 : W1 LG C nb) (ps : PS LG C x0 nb n sc' ar' lg') (rg : RG LG C b sc ar lg) (mi : MI ar' sc' nb n) (dt : DT M (ar' 1) ex hd nb) (hm : ∀ Q2 : Option Value → HS → Prop, Q2 (some v) (MH b sc' ar' lg' (GH LG gr C G z).1 z) → WP V (cdT Ev) mx D m2 (.ref b :: as) (MH b sc ar lg (GH LG gr C G z).1 z) Q2) : MID S V Ev D m2 (.ref b :: as) (NXT x0 b BIG S Z1 Z2) v (GH LG gr C G z) := by
  refine ⟨MS_of hp.1.1 hp.2.1 rg, fun Q2 hQ => ?_⟩
  have e := toM (G := G) (z := z) hp.1.1 rg
  rw [e]
  exact hm Q2 (hQ _ (PS_end hp w0 w1 ps rg mi dt))
theorem HP_s {LG gr : Nat → Nat} {C G : Nat → Option AE} {z : Nat × Nat} (hp : HP BIG S Z1 Z2 LG gr C G z) : HP BIG S (Z1 + 12) (Z2 + 230) LG gr C G z := ⟨hp.1, hp.2.1, by have := hp.2.2.1; omega, by have := hp.2.2.2; omega⟩
theorem L_trace {p : Int32} (hI : INV x0 b BIG S Z1 Z2 h) (H : ∀ y h1, MID S V Ev (d + 40) 186 [.ref b, .int p] (NXT x0 b BIG S Z1 Z2) (.int y) h1 → Q (some (.int y)) h1) : WP V (cdT Ev) mx (d + 40) 94 [.ref x0, .int p] h Q := by
  obtain ⟨LG, gr, C, G, z, M, F, ex, hd, nb, n, sc, ar, lg, rfl, hp, w0, w1, rs, mi, dt⟩ := hI
  have ps := RS_PS rs
  obtain ⟨k, t1, t2, t3, t4⟩ := ps.2.2.2.2.2.1
  rw [← ps.1, c_trace (d := d + 39) hp.1.1 ps.2.1 t4 t1 t2]
  refine H _ _ (ref_end (HP_s hp) w0 w1 ps (RS_RG rs) mi dt (fun Q2 hQ => ?_))
  rw [m_trace (d := d + 38) t3 t4, t3]
  exact hQ
theorem KD_of {N : Nat → Int32} {c k1 k2 k3 : Nat} (wi : WI N c k1 k2 k3) : KDok N c := fun i hi => (WI_P wi hi).1
theorem L_taken {p k : Int32} (he : EVS S V Ev) (hI : INV x0 b BIG S Z1 Z2 h) (H : ∀ y h1, MID S V Ev (d + 40) 187 [.ref b, .int p, .int k] (NXT x0 b BIG S Z1 Z2) (.int y) h1 → Q (some (.int y)) h1) : WP V (cdT Ev) mx (d + 40) 95 [.ref x0, .int p, .int k] h Q := by
  obtain ⟨LG, gr, C, G, z, M, F, ex, hd, nb, n, sc, ar, lg, rfl, hp, w0, w1, rs, mi, ⟨c, k1, k2, k3, sl, wi, hex, hr⟩⟩ := hI
  have ps := RS_PS rs
  have e0 := WC_own w0
  have e : GH LG gr C G z = GW LG gr 100 M F ex hd C G z := by rw [GW, e0]
  rw [← ps.1, e, c_taken (d := d + 38) hp.1.1 ps.2.1 (WI_W (SL_WI sl wi) hex) (EVS_STA he hp.2.1), ← e]
  refine H _ _ (ref_end (HP_s hp) w0 w1 ps (RS_RG rs) mi ⟨c, k1, k2, k3, sl, wi, hex, hr⟩ (fun Q2 hQ => ?_))
  rw [m_taken (d := d + 37) (WI_c wi) (KD_of wi), ← G_tk sl (WI_c wi)]
  exact hQ
theorem L_count {w : Int32} (hI : INV x0 b BIG S Z1 Z2 h) (H : ∀ y h1, MID S V Ev (d + 40) 188 [.ref b, .int w] (NXT x0 b BIG S Z1 Z2) (.int y) h1 → Q (some (.int y)) h1) : WP V (cdT Ev) mx (d + 40) 96 [.ref x0, .int w] h Q := by
  obtain ⟨LG, gr, C, G, z, M, F, ex, hd, nb, n, sc, ar, lg, rfl, hp, w0, w1, rs, mi, ⟨c, k1, k2, k3, sl, wi, hex, hr⟩⟩ := hI
  have ps := RS_PS rs
  have e0 := WC_own w0
  have e : GH LG gr C G z = GW LG gr 100 M F ex hd C G z := by rw [GW, e0]
  obtain ⟨k, t1, t2, t3, t4⟩ := ps.2.2.2.2.2.1
  obtain ⟨a, cs, kk, fr, T, cd, wt, en, b1, b2⟩ := ps.2.2.2.1
  have hb0 := b1 0 (by decide)
  rw [← ps.1, e, c_count (d := d + 39) (bod := ar 15) (len := nI n) hp.1.1 ps.2.1 t1 hb0 rfl (sc := sc) mi.2.1 mi.2.2.2.1 t3, ← e]
  refine H _ _ (ref_end (HP_s hp) w0 w1 ps (RS_RG rs) mi ⟨c, k1, k2, k3, sl, wi, hex, hr⟩ (fun Q2 hQ => ?_))
  rw [m_count (d := d + 39), ← G_co sl]
  exact hQ
theorem ix_lt {i : Int32} {L : Nat} (hL : L ≤ 60) (h : 0 ≤ i ∧ i ≤ nI L - 1) : ∃ j, j < L ∧ i = nI j := by
  have h1 := Int32.le_iff_toInt_le.mp h.1
  have h2 := Int32.le_iff_toInt_le.mp h.2
  have z0 : (0 : Int32).toInt = 0 := by decide
  have z1 : (1 : Int32).toInt = 1 := by decide
  rw [i_sub (by rw [nI_toInt (by omega), z1]; omega) (by rw [nI_toInt (by omega), z1]; omega), nI_toInt (by omega), z1] at h2
  rw [z0] at h1
  refine ⟨i.toInt.toNat, by omega, ?_⟩
  apply Int32.toInt_inj.mp
  rw [nI_toInt (by omega)]
  omega
theorem L_read {t i : Int32} (hI : INV x0 b BIG S Z1 Z2 h) (H : ∀ y h1, MID S V Ev (d + 40) 192 [.ref b, .int t, .int i] (NXT x0 b BIG S Z1 Z2) (.long y) h1 → Q (some (.long y)) h1) : WP V (cdT Ev) mx (d + 40) 99 [.ref x0, .int t, .int i] h Q := by
  obtain ⟨LG, gr, C, G, z, M, F, ex, hd, nb, n, sc, ar, lg, rfl, hp, w0, w1, rs, mi, dt⟩ := hI
  have ps := RS_PS rs
  obtain ⟨ts, tz, rw', tf, tq, tp, te, tr⟩ := ps.2.2.2.2.2.2
  rw [← ps.1, c_read (d := d + 38) hp.1.1 ps.2.1 tf tq]
  refine H _ _ (ref_end (HP_s hp) w0 w1 ps (RS_RG rs) mi dt (fun Q2 hQ => ?_))
  rw [m_read (d := d + 37) tp]
  have ev : (if tapQ t ∧ (0 ≤ i ∧ i ≤ ar 17 t.toNatClampNeg - 1) then lg 18 (60 * t.toNatClampNeg + i.toNatClampNeg) else (-9223372036854775808 : Int64)) = if tapQ t ∧ (0 ≤ i ∧ i ≤ tz t.toNatClampNeg - 1) then rw' t.toNatClampNeg i.toNatClampNeg else -9223372036854775808 := by
    by_cases ht : tapQ t
    · obtain ⟨k, hk, rfl⟩ := tapQ_k ht
      rw [nI_clamp (by omega), (te k hk).2]
      obtain ⟨L, hL, eL, -⟩ := tp k hk
      refine ite_g Iff.rfl (fun g => ?_) (fun _ => rfl)
      rw [eL] at g
      obtain ⟨j, hj, rfl⟩ := ix_lt hL g.2
      rw [nI_clamp (by omega), tr k hk j (by rw [(te k hk).2, eL, nI_clamp (by omega)]; exact hj)]
    · rw [if_neg (fun g => ht g.1), if_neg (fun g => ht g.1)]
  rw [ev]
  exact hQ
theorem L_judge {t i : Int32} (hI : INV x0 b BIG S Z1 Z2 h) (H : ∀ y h1, MID S V Ev (d + 40) 194 [.ref b, .int t, .int i] (NXT x0 b BIG S Z1 Z2) (.int y) h1 → Q (some (.int y)) h1) : WP V (cdT Ev) mx (d + 40) 90 [.ref x0, .int t, .int i] h Q := by
  obtain ⟨LG, gr, C, G, z, M, F, ex, hd, nb, n, sc, ar, lg, rfl, hp, w0, w1, rs, mi, ⟨c, k1, k2, k3, sl, wi, hex, hr⟩⟩ := hI
  have ps := RS_PS rs
  have e0 := WC_own w0
  have e : GH LG gr C G z = GW LG gr 100 M F ex hd C G z := by rw [GW, e0]
  obtain ⟨ts, tz, rw', tf, tq, tp, te, tr⟩ := ps.2.2.2.2.2.2
  rw [← ps.1, e, c_judge (d := d + 38) hp.1.1 ps.2.1 tf tq, ← e]
  refine H _ _ (ref_end (HP_s hp) w0 w1 ps (RS_RG rs) mi ⟨c, k1, k2, k3, sl, wi, hex, hr⟩ (fun Q2 hQ => ?_))
  rw [m_judge (d := d + 37) tp]
  have ev : juR (ar 1) (ar 16) (ar 17) (lg 18) t i = if tapQ t then (if ts t.toNatClampNeg = -1 ∨ ts t.toNatClampNeg = 3 then (if i < 0 then 100 else juF M (rw' t.toNatClampNeg) (tz t.toNatClampNeg).toNatClampNeg i.toNatClampNeg 12 0) else -12) else -1 := by
    unfold juR
    refine ite_g Iff.rfl (fun ht => ?_) (fun _ => rfl)
    obtain ⟨k, hk, rfl⟩ := tapQ_k ht
    rw [nI_clamp (by omega), (te k hk).2, (te k hk).1]
    refine ite_g Iff.rfl (fun g => ?_) (fun _ => rfl)
    refine ite_g Iff.rfl (fun g => rfl) (fun _ => ?_)
    rw [G_ju (M := M) (N := ar 1) (fun s hs => SL_s sl (by omega)) 12 0 rfl]
    refine ju_cg (fun q hq => ?_) 12 0
    rw [tr k hk q (by rw [(te k hk).2]; exact hq)]
  rw [ev]
  exact hQ
theorem acR_b {N : Nat → Int32} {f : Nat → Int32} {p a x : Int32} : (acR N f p a x).2.2 < 2 ^ 20 := by
  unfold acR
  split
  · rcases e : acF (N (14 + 9 * p.toNatClampNeg + 0)).toNatClampNeg (N (14 + 9 * p.toNatClampNeg + 1)) p.toNatClampNeg 8 (N (14 + 9 * p.toNatClampNeg + 0)).toNatClampNeg a.toNatClampNeg x (f, 0) with _ | r
    · show (0 : Nat) < _
      decide
    · have := acF_le _ _ _ _ _ _ e
      show r.2.2 < _
      have h8 : (2 : Nat) ^ 8 = 256 := by decide
      have h20 : (2 : Nat) ^ 20 = 1048576 := by decide
      rw [h8] at this
      rw [h20]
      simp only at this
      omega
  · show (0 : Nat) < _
    decide
theorem L_act {p a x : Int32} (hI : INV x0 b BIG S Z1 Z2 h) (H : ∀ y h1, MID S V Ev (d + 40) 185 [.ref b, .int p, .int a, .int x] (NXT x0 b BIG S Z1 Z2) (.int y) h1 → Q (some (.int y)) h1) : WP V (cdT Ev) mx (d + 40) 93 [.ref x0, .int p, .int a, .int x] h Q := by
  obtain ⟨LG, gr, C, G, z, M, F, ex, hd, nb, n, sc, ar, lg, rfl, hp, w0, w1, rs, mi, ⟨c, k1, k2, k3, sl, wi, hex, hr⟩⟩ := hI
  have ps := RS_PS rs
  have hn := mi.2.2.2.2
  have e0 := WC_own w0
  have e : GH LG gr C G z = GW LG gr 100 M F ex hd C G z := by rw [GW, e0]
  obtain ⟨k, t1, t2, t3, t4⟩ := ps.2.2.2.2.2.1
  rw [← ps.1, e, c_act (d := d + 27) hp.1.1 ps.2.1 (WI_W (SL_WI sl wi) hex) t1 t2]
  have hb := acR_b (N := M) (f := ar 15) (p := p) (a := a) (x := x)
  have ea := G_ac (f := ar 15) (p := p) (a := a) (x := x) sl (WI_c wi)
  generalize acR M (ar 15) p a x = r at hb ea
  have w0' : OW LG (TRC LG r.2 C) 100 M F ex hd := OW_fr (fun _ _ => rfl) (fun _ _ => rfl) (fun q hq => TRC_o (by omega)) w0
  have e' := WC_own w0'
  rw [GW, e']
  have hL : LV LG gr (TRC LG r.2 C) z BIG := by
    refine ⟨hp.1.1, hp.1.2.1, fun q x hx => ?_⟩
    by_cases q1 : q = 1
    · rw [q1]
      exact hp.1.2.2 1 _ t1
    · by_cases q2 : q = 2
      · rw [q2]
        exact hp.1.2.2 2 _ t2
      · by_cases q0 : q = 0
        · rw [q0] at hx ⊢
          exact hp.1.2.2 0 x hx
        · rw [TRC_o (by omega)] at hx
          exact hp.1.2.2 q x hx
  obtain ⟨p0, p1, p2, p3, p4, p5, p6⟩ := ps
  have hpp := HP_s hp
  refine H _ _ (ref_end (nb := nb) (n := n) (sc' := va_up sc 9 (nI r.2.2)) (ar' := va_up ar 15 r.2.1) (lg' := lg) ⟨hL, hpp.2⟩ w0' (W1_fr hn (fun _ _ => rfl) (fun _ _ _ => rfl) (fun q hq => TRC_o (by omega)) w1) ?_ (RG_fr (fun _ _ _ => rfl) (fun q q1 q2 => TRC_o (by omega)) (RS_RG rs)) ⟨mi.1, mi.2⟩ ⟨c, k1, k2, k3, sl, wi, hex, hr⟩ (fun Q2 hQ => ?_))
  · exact ⟨p0, DM_fr (fun _ _ => rfl) hn TRC_0 p1, W2_fr hn (fun _ _ => rfl) (fun _ _ _ => rfl) (fun q hq => TRC_o (by omega)) p2, BX_fr hn (fun _ _ _ => rfl) (fun q q1 q2 => TRC_o (by omega)) p3, BS_fr hn (fun _ _ _ => rfl) (fun q q1 q2 => TRC_o (by omega)) p4, ⟨r.2.2, TRC_1, TRC_2, rfl, hb⟩, TPG_fr (fun _ _ => rfl) (fun q q1 q2 => TRC_o (by omega)) p6⟩
  · rw [m_act (d := d + 10) (WI_c wi) (KD_of wi), ← ea]
    exact hQ
theorem L_feed {s : Int32} (hI : INV x0 b BIG S Z1 Z2 h) (H : ∀ y h1, MID S V Ev (d + 40) 141 [.ref b, .int s] (NXT x0 b BIG S Z1 Z2) (.int y) h1 → Q (some (.int y)) h1) : WP V (cdT Ev) mx (d + 40) 76 [.ref x0, .int s] h Q := by
  obtain ⟨LG, gr, C, G, z, M, F, ex, hd, nb, n, sc, ar, lg, rfl, hp, w0, w1, rs, mi, dt⟩ := hI
  have ps := RS_PS rs
  have hn := mi.2.2.2.2
  have hn100 := mi.2.2.1
  obtain ⟨p0, p1, p2, ⟨a, cs, k, fr, T, cd, wt, en, b1, b2⟩, p4, p5, p6⟩ := ps
  have eb := BC_own b1
  have e : GH LG gr C G z = GH LG gr (BC LG (300 + 5 * nb) n a cs k fr T cd wt en C) G z := by rw [eb]
  rw [← p0, e, c_feed (d := d + 39) hp.1.1 p1 hn100]
  by_cases hs : 0 ≤ s ∧ s ≤ 127
  · rw [if_pos hs]
    by_cases h100 : n = 100
    · rw [if_pos h100, ← e]
      refine H _ _ (ref_end (HP_s hp) w0 w1 (RS_PS rs) (RS_RG rs) mi dt (fun Q2 hQ => ?_))
      rw [m_feed (d := d + 37) mi.2.1 hn100, if_pos hs, if_pos h100]
      exact hQ
    · rw [if_neg h100]
      have o : ∀ q, (q < 300 + 5 * nb ∨ 305 + 5 * nb ≤ q) → BC LG (300 + 5 * nb) (n + 1) a cs k fr (upd T n s) cd wt en C q = C q := fun q hq => BC_out (by omega)
      have hL : LV LG gr (BC LG (300 + 5 * nb) (n + 1) a cs k fr (upd T n s) cd wt en C) z BIG := LV_BC (n := n) (a := a) (cs := cs) (k := k) (fr := fr) (T := T) (cd := cd) (wt := wt) (en := en) (by rw [eb]; exact hp.1)
      have hpp := HP_s hp
      obtain ⟨x, hx, ex'⟩ : ∃ x, x < 128 ∧ s = nI x := by
        obtain ⟨x, hx, e⟩ := nI_of2 (M := 127) (n := 127) (by decide) (Int32.not_lt.mpr hs.1) hs.2
        exact ⟨x, by omega, e⟩
      refine H _ _ (ref_end (nb := nb) (n := n + 1) (sc' := va_up sc 1 (nI (n + 1))) (ar' := va_up ar 4 (upd (ar 4) n s)) (lg' := lg) (M := M) (F := F) (ex := ex) (hd := hd) ⟨hL, hpp.2⟩ (OW_fr (fun _ _ => rfl) (fun _ _ => rfl) (fun q hq => o _ (by omega)) w0) (W1_fr hn (fun _ _ => rfl) (fun _ _ _ => rfl) (fun q hq => o _ (by omega)) w1) ?_ (RG_fr (fun _ _ _ => rfl) (fun q q1 q2 => o _ (by omega)) (RS_RG rs)) ⟨mi.1, rfl, by omega, mi.2.2.2.1, hn⟩ dt (fun Q2 hQ => ?_))
      · refine ⟨p0, DM_fr (fun _ _ => rfl) hn (o _ (by omega)) p1, W2_fr hn (fun _ _ => rfl) (fun _ _ _ => rfl) (fun q hq => o _ (by omega)) p2, ⟨a, cs, k, fr, upd T n s, cd, wt, en, fun j hj => BC_k j hj, fun q hq => ?_⟩, BS_fr hn (fun _ _ _ => rfl) (fun q q1 q2 => o _ (by omega)) p4, TG_fr rfl (o _ (by omega)) (o _ (by omega)) p5, TPG_fr (fun _ _ => rfl) (fun q q1 q2 => o _ (by omega)) p6⟩
        show upd T n s q = upd (ar 4) n s q ∧ _
        by_cases eq : q = n
        · rw [eq, pk_us, pk_us]
          exact ⟨rfl, x, hx, ex'⟩
        · rw [pk_un eq, pk_un eq]
          exact b2 q (by omega)
      · rw [m_feed (d := d + 37) mi.2.1 hn100, if_pos hs, if_neg h100]
        exact hQ
  · rw [if_neg hs, ← e]
    refine H _ _ (ref_end (HP_s hp) w0 w1 (RS_PS rs) (RS_RG rs) mi dt (fun Q2 hQ => ?_))
    rw [m_feed (d := d + 37) mi.2.1 hn100, if_neg hs]
    exact hQ
end
