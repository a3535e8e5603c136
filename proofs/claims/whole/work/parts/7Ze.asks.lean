/-! Asks: class and reference answer alike. -/
def PS (LG : Nat → Nat) (C : Nat → Option AE) (x0 nb n : Nat) (sc : Nat → Int32) (ar : Nat → Nat → Int32) (lg : Nat → Nat → Int64) : Prop := LG 0 = x0 ∧ DM LG C (sc 0) nb ∧ W2 LG C nb (sc 0) (ar 3) ∧ BX LG C nb n (ar 4) ∧ BS LG C nb (ar 5) (ar 6) ∧ TG LG C (ar 15) (sc 9) ∧ TPG LG C (ar 16) (ar 17) (lg 18)
section
variable {LG gr : Nat → Nat} {C G : Nat → Option AE} {z : Nat × Nat} {x0 nb n b BIG S Z1 Z2 : Nat} {sc sc' : Nat → Int32} {ar ar' : Nat → Nat → Int32} {lg lg' : Nat → Nat → Int64}
variable {M F : Nat → Int32} {ex : Nat → Bool} {hd : Option Nat}
theorem RS_PS (h : RS LG C x0 nb n b sc ar lg) : PS LG C x0 nb n sc ar lg := ⟨h.1, h.2.1, h.2.2.1, h.2.2.2.1, h.2.2.2.2.1, h.2.2.2.2.2.1, h.2.2.2.2.2.2.1⟩
theorem RS_RG (h : RS LG C x0 nb n b sc ar lg) : RG LG C b sc ar lg := h.2.2.2.2.2.2.2
theorem PS_SW (h : PS LG C x0 nb n sc ar lg) (sw : SW sc ar sc' ar') : PS LG C x0 nb n sc' ar' lg := by
  obtain ⟨⟨e0, e1, e2, e9⟩, ⟨-, a3, a4, a5, a6, a15, a16, a17⟩, -⟩ := sw
  unfold PS
  rw [e0, e9, a3, a4, a5, a6, a15, a16, a17]
  exact h
theorem MI_SW (h : MI ar sc nb n) (sw : SW sc ar sc' ar') : MI ar' sc' nb n := by
  obtain ⟨⟨e0, e1, e2, e9⟩, -, h8⟩ := sw
  exact ⟨h8, e1.trans h.2.1, h.2.2.1, e2.trans h.2.2.2.1, h.2.2.2.2⟩
theorem PS_end (hp : HP BIG S Z1 Z2 LG gr C G z) (hw : OW LG C 100 M F ex hd) (h1 : W1 LG C nb) (hs : PS LG C x0 nb n sc' ar' lg') (hr : RG LG C b sc ar lg) (hm : MI ar' sc' nb n) (hd' : DT M (ar' 1) ex hd nb) : INV x0 b BIG S Z1 Z2 (MH b sc' ar' lg' (GH LG gr C G z).1 z) := by
  have hn := hm.2.2.2.2
  rw [ofM hp.1.1 hr]
  obtain ⟨s0, s1, s2, s3, s4, s5, s6⟩ := hs
  refine ⟨LG, gr, RC b sc' ar' lg' C, G, z, M, F, ex, hd, nb, n, sc', ar', lg', rfl, ⟨LV_RC hr hp.1, hp.2⟩, OW_fr (fun _ _ => rfl) (fun _ _ => rfl) (fun q hq => RC_o (by omega)) hw, W1_fr hn (fun _ _ => rfl) (fun _ _ _ => rfl) (fun q hq => RC_o (by omega)) h1, ⟨s0, DM_fr (fun _ _ => rfl) hn (RC_o (by omega)) s1, W2_fr hn (fun _ _ => rfl) (fun _ _ _ => rfl) (fun q hq => RC_o (by omega)) s2, BX_fr hn (fun _ _ _ => rfl) (fun r r1 r2 => RC_o (by omega)) s3, BS_fr hn (fun _ _ _ => rfl) (fun r r1 r2 => RC_o (by omega)) s4, TG_fr rfl (RC_o (by omega)) (RC_o (by omega)) s5, TPG_fr (fun _ _ => rfl) (fun r r1 r2 => RC_o (by omega)) s6, RG_RC hr⟩, hm, hd'⟩
theorem HB_R (hn : nb ≤ 6) (h : HR nb hd (ar 1 70)) (hb : BS LG C nb (ar 5) (ar 6)) : ∃ cl, HB LG C 100 hd cl ∧ RuleOK ar cl := by
  rcases h with ⟨e, g⟩ | ⟨j, hj, e, g⟩
  · rw [e]
    exact ⟨[], rfl, Or.inl ⟨g, rfl⟩⟩
  · rw [e]
    obtain ⟨cl, m, h1, h2, h3, h4⟩ := hb j hj
    exact ⟨cl, ⟨by omega, h1⟩, Or.inr ⟨j, m, by omega, h2, g, h3, h4⟩⟩
end
section
variable {V : Nat → Option AE} {Ev : Nat → Value} {D d : Nat} {Q : Option Value → HS → Prop} {h : HS}
variable {x0 b BIG S Z1 Z2 : Nat}
/-- nothing lies below S, and the reference's object lies where it is asked -/
def MS (S : Nat) (args : List Value) (h1 : HS) : Prop := (∀ a, a < S → h1.1 a = none) ∧ ∀ b as, args = .ref b :: as → ∃ fs, h1.1 b = some (.inr (12, fs))
def MID (S : Nat) (V : Nat → Option AE) (Ev : Nat → Value) (D m : Nat) (args : List Value) (P : HS → Prop) (v : Value) (h1 : HS) : Prop := MS S args h1 ∧ ∀ Q2 : Option Value → HS → Prop, (∀ h2, P h2 → Q2 (some v) h2) → WP V (cdT Ev) mx D m args h1 Q2
theorem GN_n {LG gr : Nat → Nat} {C G : Nat → Option AE} {z : Nat × Nat} {a : Nat} (h : GN S LG G z) (ha : a < S) : (GH LG gr C G z).1 a = none := by
  show (if LG (gr a) = a then _ else _) = none
  have := h.1 (gr a)
  rw [if_neg (by omega)]
  exact h.2.1 a ha
theorem MS_of {LG gr : Nat → Nat} {C G : Nat → Option AE} {z : Nat × Nat} {sc : Nat → Int32} {ar : Nat → Nat → Int32} {lg : Nat → Nat → Int64} {as : List Value} (hg : ∀ r, gr (LG r) = r) (h : GN S LG G z) (rg : RG LG C b sc ar lg) : MS S (.ref b :: as) (GH LG gr C G z) := by
  refine ⟨fun a ha => GN_n h ha, fun b' as' e => ?_⟩
  obtain ⟨e1, -⟩ := List.cons.inj e
  cases e1
  have g := rg 0 (by decide)
  have e0 : LG 400 = b := g.1
  rw [← e0]
  exact ⟨_, GH_at hg g.2⟩
/-- the next state: some more room is used -/
abbrev NXT (x0 b BIG S Z1 Z2 : Nat) : HS → Prop := INV x0 b BIG S (Z1 + 12) (Z2 + 230)
theorem ask_gen {m1 m2 : Nat} {as : List Value} {vC : (Nat → Int32) → List Cls → Nat → Value} {vR : (Nat → Int32) → List Cls → Value}
    (hc : ∀ (LG gr : Nat → Nat) (z : Nat × Nat) (G C : Nat → Option AE) (M F : Nat → Int32) (ex : Nat → Bool) (hd : Option Nat) (Mt Ft : Nat → Int32) (xt : Nat → Bool) (ht : Option Nat) (kf : Int32) (nb c k1 k2 k3 : Nat) (cl : List Cls) (Q : Option Value → HS → Prop), AK BIG LG gr z M F ex hd Mt Ft xt ht C cl kf nb c k1 k2 k3 → AQ BIG LG G z M ex hd ht C Q (vC M cl k1) → WP V (cdT Ev) mx D m1 (.ref (LG 0) :: as) (GW LG gr 100 M F ex hd (WC LG 150 Mt Ft xt ht C) G z) Q)
    (hm : ∀ (sc : Nat → Int32) (ar : Nat → Nat → Int32) (lg : Nat → Nat → Int64) (G : Nat → Option AE) (z : Nat × Nat) (c k1 k2 k3 : Nat) (cl : List Cls) (Q : Option Value → HS → Prop), WI (ar 1) c k1 k2 k3 → N8 ar → RuleOK ar cl → (∀ sc' ar', SW sc ar sc' ar' → Q (some (vR (ar 1) cl)) (MH b sc' ar' lg G z)) → WP V (cdT Ev) mx D m2 (.ref b :: as) (MH b sc ar lg G z) Q)
    (he : ∀ (M N : Nat → Int32) (cl : List Cls) (c k1 k2 k3 : Nat), SL M N c k1 k2 k3 → WI N c k1 k2 k3 → CB cl → vC M cl k1 = vR N cl)
    (hz : Z1 + 12 ≤ BIG) (hI : INV x0 b BIG S Z1 Z2 h) (H : ∀ M cl k1 h1, MID S V Ev D m2 (.ref b :: as) (NXT x0 b BIG S Z1 Z2) (vC M cl k1) h1 → Q (some (vC M cl k1)) h1) : WP V (cdT Ev) mx D m1 (.ref x0 :: as) h Q := by
  obtain ⟨LG, gr, C, G, z, M, F, ex, hd, nb, n, sc, ar, lg, rfl, hp, w0, ⟨Mt, Ft, xt, ht, w1, bt1⟩, rs, mi, ⟨c, k1, k2, k3, sl, wi, hex, hr⟩⟩ := hI
  have hn := mi.2.2.2.2
  have ps := RS_PS rs
  have e1 := WC_own w1
  have e0 := WC_own w0
  obtain ⟨cl, hb, hru⟩ := HB_R hn hr ps.2.2.2.2.1
  have e : GH LG gr C G z = GW LG gr 100 M F ex hd (WC LG 150 Mt Ft xt ht C) G z := by rw [GW, e1, e0]
  rw [e, ← ps.1]
  have hp1 := hp.2.2.1
  have hp2 := hp.2.2.2
  refine hc LG gr z G C M F ex hd Mt Ft xt ht (sc 0) nb c k1 k2 k3 cl Q ⟨by rw [e1, e0]; exact hp.1, by omega, BR_bR hn (HR_BR hr), BR_bR hn bt1, ⟨SL_WI sl wi, hex⟩, ps.2.1, hb⟩ ?_
  intro LG' gr' G' z' F' Mt' Ft' xt' ht' hk hh
  have hx := KP_x hk
  have hC : ∀ r, (r < 100 ∨ (125 ≤ r ∧ r < 150) ∨ 175 ≤ r) → WC LG' 100 M F' ex hd (WC LG' 150 Mt' Ft' xt' ht' C) r = C r := fun r hr => (WC_out (by omega)).trans (WC_out (by omega))
  have rs' := RS_fr (LG' := LG') (C' := WC LG' 100 M F' ex hd (WC LG' 150 Mt' Ft' xt' ht' C)) hn (fun r hr => hx r (by omega)) (fun r hr => hC r (by omega)) rs
  refine H _ _ _ _ ⟨MS_of hk.2.1.1 (hk.2.2.1 S hp.2.1) (RS_RG rs'), fun Q2 hQ => ?_⟩
  have hp' : HP BIG S (Z1 + 12) (Z2 + 230) LG' gr' (WC LG' 100 M F' ex hd (WC LG' 150 Mt' Ft' xt' ht' C)) G' z' := ⟨hk.2.1, hk.2.2.1 S hp.2.1, by have := hk.2.2.2.1; omega, by have := hk.2.2.2.2; omega⟩
  have w0' : OW LG' (WC LG' 100 M F' ex hd (WC LG' 150 Mt' Ft' xt' ht' C)) 100 M F' ex hd := OW_W
  have w1' : W1 LG' (WC LG' 100 M F' ex hd (WC LG' 150 Mt' Ft' xt' ht' C)) nb := by
    refine ⟨Mt', Ft', xt', ht', fun k hk => (WC_out (by omega)).trans (WC_k k hk), ?_⟩
    rcases hh with g | g
    · rw [g]
      exact HR_BR hr
    · rw [g]
      exact bt1
  rw [GW, toM hk.2.1.1 (RS_RG rs')]
  refine hm sc ar lg _ z' c k1 k2 k3 cl Q2 wi mi.1 hru (fun sc' ar' sw => ?_)
  rw [← he M (ar 1) cl c k1 k2 k3 sl wi (Rule_cb hru)]
  refine hQ _ (PS_end hp' w0' w1' (PS_SW (RS_PS rs') sw) (RS_RG rs') (MI_SW mi sw) ⟨c, k1, k2, k3, ?_, ?_, hex, ?_⟩)
  · rw [SW_1 sw]
    exact sl
  · rw [SW_1 sw]
    exact wi
  · rw [SW_1 sw]
    exact hr
theorem L_of {p w : Int32} (hz : Z1 + 12 ≤ BIG) (hI : INV x0 b BIG S Z1 Z2 h) (H : ∀ y h1, MID S V Ev (d + 40) 135 [.ref b, .int p, .int w] (NXT x0 b BIG S Z1 Z2) (.int y) h1 → Q (some (.int y)) h1) : WP V (cdT Ev) mx (d + 40) 70 [.ref x0, .int p, .int w] h Q := by
  refine ask_gen (vC := fun M cl k1 => .int (ofC M cl k1 p w)) (vR := fun N cl => .int (ofR N cl p w)) ?_ ?_ ?_ hz hI (fun M cl k1 h1 => H _ h1)
  · intro LG gr z G C M F ex hd Mt Ft xt ht kf nb c k1 k2 k3 cl Q hA hQ
    exact c_of (d := d + 31) hA hQ
  · intro sc ar lg G z c k1 k2 k3 cl Q wi h8 hr H
    exact m_of (d := d + 15) (WI_c wi) (WI_SE wi).2.1 (WI_SE wi).1 h8 hr H
  · intro M N cl c k1 k2 k3 sl wi hcb
    have wm := SL_WI sl wi
    show Value.int _ = Value.int _
    rw [G_ofC wm (fun i _ => UB_of (WI_WO wm) hcb), G_of sl wi]
theorem L_urge {p s : Int32} (hz : Z1 + 12 ≤ BIG) (hI : INV x0 b BIG S Z1 Z2 h) (H : ∀ y h1, MID S V Ev (d + 40) 136 [.ref b, .int p, .int s] (NXT x0 b BIG S Z1 Z2) (.int y) h1 → Q (some (.int y)) h1) : WP V (cdT Ev) mx (d + 40) 71 [.ref x0, .int p, .int s] h Q := by
  refine ask_gen (vC := fun M cl k1 => .int (urR M cl p s)) (vR := fun N cl => .int (urR N cl p s)) ?_ ?_ ?_ hz hI (fun M cl k1 h1 => H _ h1)
  · intro LG gr z G C M F ex hd Mt Ft xt ht kf nb c k1 k2 k3 cl Q hA hQ
    exact c_urge (d := d + 35) hA hQ
  · intro sc ar lg G z c k1 k2 k3 cl Q wi h8 hr H
    exact m_urge (d := d + 18) (WI_c wi) h8 hr H
  · intro M N cl c k1 k2 k3 sl wi hcb
    show Value.int _ = Value.int _
    rw [G_ur sl (WI_c wi)]
theorem L_told {w : Int32} (hz : Z1 + 12 ≤ BIG) (hI : INV x0 b BIG S Z1 Z2 h) (H : ∀ y h1, MID S V Ev (d + 40) 166 [.ref b, .int w] (NXT x0 b BIG S Z1 Z2) (.int y) h1 → Q (some (.int y)) h1) : WP V (cdT Ev) mx (d + 40) 78 [.ref x0, .int w] h Q := by
  refine ask_gen (vC := fun M cl k1 => .int (toC M cl k1 w)) (vR := fun N cl => .int (toR N cl w)) ?_ ?_ ?_ hz hI (fun M cl k1 h1 => H _ h1)
  · intro LG gr z G C M F ex hd Mt Ft xt ht kf nb c k1 k2 k3 cl Q hA hQ
    exact c_told (d := d + 32) hA hQ
  · intro sc ar lg G z c k1 k2 k3 cl Q wi h8 hr H
    exact m_told (d := d + 13) (WI_c wi) (WI_12 wi) (WI_SE wi).2.1 (WI_SE wi).1 h8 hr H
  · intro M N cl c k1 k2 k3 sl wi hcb
    show Value.int _ = Value.int _
    rw [G_toC (SL_WI sl wi), G_to sl wi]
theorem L_on {n w : Int32} (hz : Z1 + 12 ≤ BIG) (hI : INV x0 b BIG S Z1 Z2 h) (H : ∀ y h1, MID S V Ev (d + 40) 168 [.ref b, .int n, .int w] (NXT x0 b BIG S Z1 Z2) (.int y) h1 → Q (some (.int y)) h1) : WP V (cdT Ev) mx (d + 40) 80 [.ref x0, .int n, .int w] h Q := by
  refine ask_gen (vC := fun M cl k1 => .int (onR M cl n w)) (vR := fun N cl => .int (onR N cl n w)) ?_ ?_ ?_ hz hI (fun M cl k1 h1 => H _ h1)
  · intro LG gr z G C M F ex hd Mt Ft xt ht kf nb c k1 k2 k3 cl Q hA hQ
    exact c_on (d := d + 32) hA hQ
  · intro sc ar lg G z c k1 k2 k3 cl Q wi h8 hr H
    exact m_on (d := d + 13) (WI_c wi) (WI_12 wi) h8 hr H
  · intro M N cl c k1 k2 k3 sl wi hcb
    show Value.int _ = Value.int _
    rw [G_on sl (WI_c wi)]
theorem L_decoy {p s : Int32} (hz : Z1 + 12 ≤ BIG) (hI : INV x0 b BIG S Z1 Z2 h) (H : ∀ y h1, MID S V Ev (d + 40) 169 [.ref b, .int p, .int s] (NXT x0 b BIG S Z1 Z2) (.int y) h1 → Q (some (.int y)) h1) : WP V (cdT Ev) mx (d + 40) 81 [.ref x0, .int p, .int s] h Q := by
  refine ask_gen (vC := fun M cl k1 => .int (dcC M cl p s)) (vR := fun N cl => .int (dcR N cl p s)) ?_ ?_ ?_ hz hI (fun M cl k1 h1 => H _ h1)
  · intro LG gr z G C M F ex hd Mt Ft xt ht kf nb c k1 k2 k3 cl Q hA hQ
    exact c_decoy (d := d + 34) hA hQ
  · intro sc ar lg G z c k1 k2 k3 cl Q wi h8 hr H
    exact m_decoy (d := d + 16) (WI_c wi) h8 hr H
  · intro M N cl c k1 k2 k3 sl wi hcb
    have wm := SL_WI sl wi
    show Value.int _ = Value.int _
    rw [G_dcC wm (fun i _ => UB_of (WI_WO wm) hcb), G_dc sl (WI_c wi)]
theorem L_can {p w : Int32} (hz : Z1 + 12 ≤ BIG) (hI : INV x0 b BIG S Z1 Z2 h) (H : ∀ y h1, MID S V Ev (d + 40) 174 [.ref b, .int p, .int w] (NXT x0 b BIG S Z1 Z2) (.int y) h1 → Q (some (.int y)) h1) : WP V (cdT Ev) mx (d + 40) 83 [.ref x0, .int p, .int w] h Q := by
  refine ask_gen (vC := fun M cl k1 => .int (if oneQ M p ∧ (0 ≤ w ∧ w ≤ 1) then (if w = 0 then (dnF (fun v => csF (upd M (14 + 9 * p.toNatClampNeg + 1) (nI v)) cl p.toNatClampNeg k1) 9 10).1 else (dnF (fun v => csF (upd M (14 + 9 * p.toNatClampNeg + 1) (nI v)) cl p.toNatClampNeg k1) 9 10).2) else -1)) (vR := fun N cl => .int (if oneQ N p ∧ (0 ≤ w ∧ w ≤ 1) then (if w = 0 then (dnF (cnP N cl p.toNatClampNeg (N 71).toNatClampNeg) 9 10).1 else (dnF (cnP N cl p.toNatClampNeg (N 71).toNatClampNeg) 9 10).2) else -1)) ?_ ?_ ?_ hz hI (fun M cl k1 h1 => H _ h1)
  · intro LG gr z G C M F ex hd Mt Ft xt ht kf nb c k1 k2 k3 cl Q hA hQ
    exact c_can (d := d + 33) hA hQ
  · intro sc ar lg G z c k1 k2 k3 cl Q wi h8 hr H
    have k5 := (WI_SE wi).2.1
    rw [(WI_SE wi).1, nI_clamp (show k1 < 2 ^ 31 by omega)] at H
    exact m_can (d := d + 16) k5 (WI_c wi) (WI_SE wi).1 h8 hr H
  · intro M N cl c k1 k2 k3 sl wi hcb
    have k5 := (WI_SE wi).2.1
    show Value.int _ = Value.int _
    rw [(WI_SE wi).1, nI_clamp (show k1 < 2 ^ 31 by omega), G_can sl wi]
theorem L_odds {p w : Int32} (hz : Z1 + 12 ≤ BIG) (hI : INV x0 b BIG S Z1 Z2 h) (H : ∀ y h1, MID S V Ev (d + 40) 176 [.ref b, .int p, .int w] (NXT x0 b BIG S Z1 Z2) (.long y) h1 → Q (some (.long y)) h1) : WP V (cdT Ev) mx (d + 40) 84 [.ref x0, .int p, .int w] h Q := by
  refine ask_gen (vC := fun M cl k1 => .long (if oneQ M p ∧ (0 ≤ w ∧ w ≤ 1) then frF (odN M cl p.toNatClampNeg 12) 12 w else -9223372036854775808)) (vR := fun N cl => .long (if oneQ N p ∧ (0 ≤ w ∧ w ≤ 1) then frF (odN N cl p.toNatClampNeg 12) 12 w else -9223372036854775808)) ?_ ?_ ?_ hz hI (fun M cl k1 h1 => H _ h1)
  · intro LG gr z G C M F ex hd Mt Ft xt ht kf nb c k1 k2 k3 cl Q hA hQ
    exact c_odds (d := d + 35) hA hQ
  · intro sc ar lg G z c k1 k2 k3 cl Q wi h8 hr H
    exact m_odds (d := d + 16) (WI_c wi) h8 hr H
  · intro M N cl c k1 k2 k3 sl wi hcb
    show Value.long _ = Value.long _
    rw [G_od sl (WI_c wi)]
theorem L_mean {n w : Int32} (hz : Z1 + 12 ≤ BIG) (hI : INV x0 b BIG S Z1 Z2 h) (H : ∀ y h1, MID S V Ev (d + 40) 177 [.ref b, .int n, .int w] (NXT x0 b BIG S Z1 Z2) (.long y) h1 → Q (some (.long y)) h1) : WP V (cdT Ev) mx (d + 40) 85 [.ref x0, .int n, .int w] h Q := by
  refine ask_gen (vC := fun M cl k1 => .long (meR M cl n w)) (vR := fun N cl => .long (meR N cl n w)) ?_ ?_ ?_ hz hI (fun M cl k1 h1 => H _ h1)
  · intro LG gr z G C M F ex hd Mt Ft xt ht kf nb c k1 k2 k3 cl Q hA hQ
    exact c_mean (d := d + 32) hA hQ
  · intro sc ar lg G z c k1 k2 k3 cl Q wi h8 hr H
    exact m_mean (d := d + 12) (WI_c wi) (WI_12 wi) (WI_13 wi) (WI_WO wi) h8 hr H
  · intro M N cl c k1 k2 k3 sl wi hcb
    show Value.long _ = Value.long _
    rw [G_me sl (WI_c wi)]
theorem L_ends {w : Int32} (hz : Z1 + 12 ≤ BIG) (hI : INV x0 b BIG S Z1 Z2 h) (H : ∀ y h1, MID S V Ev (d + 40) 179 [.ref b, .int w] (NXT x0 b BIG S Z1 Z2) (.int y) h1 → Q (some (.int y)) h1) : WP V (cdT Ev) mx (d + 40) 87 [.ref x0, .int w] h Q := by
  refine ask_gen (vC := fun M cl k1 => .int (enR M cl w)) (vR := fun N cl => .int (enR N cl w)) ?_ ?_ ?_ hz hI (fun M cl k1 h1 => H _ h1)
  · intro LG gr z G C M F ex hd Mt Ft xt ht kf nb c k1 k2 k3 cl Q hA hQ
    exact c_ends (d := d + 32) hA hQ
  · intro sc ar lg G z c k1 k2 k3 cl Q wi h8 hr H
    exact m_ends (d := d + 14) (WI_PL wi) (WI_c wi) (WI_12 wi) h8 hr H
  · intro M N cl c k1 k2 k3 sl wi hcb
    show Value.int _ = Value.int _
    rw [G_en sl wi]
theorem L_looked (hz : Z1 + 12 ≤ BIG) (hI : INV x0 b BIG S Z1 Z2 h) (H : ∀ y h1, MID S V Ev (d + 40) 181 [.ref b] (NXT x0 b BIG S Z1 Z2) (.int y) h1 → Q (some (.int y)) h1) : WP V (cdT Ev) mx (d + 40) 89 [.ref x0] h Q := by
  refine ask_gen (vC := fun M cl k1 => .int (loR M)) (vR := fun N cl => .int (loR N)) ?_ ?_ ?_ hz hI (fun M cl k1 h1 => H _ h1)
  · intro LG gr z G C M F ex hd Mt Ft xt ht kf nb c k1 k2 k3 cl Q hA hQ
    exact c_looked (d := d + 39) hA hQ
  · intro sc ar lg G z c k1 k2 k3 cl Q wi h8 hr H
    rw [m_looked (d := d + 39) (WI_BK wi)]
    exact H _ _ (SW_refl h8)
  · intro M N cl c k1 k2 k3 sl wi hcb
    show Value.int _ = Value.int _
    rw [G_lo sl wi]
end
