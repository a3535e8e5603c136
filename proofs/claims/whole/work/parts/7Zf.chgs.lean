/-! Changes: class and reference answer alike, and stay alike. -/
section
variable {V : Nat → Option AE} {Ev : Nat → Value} {D d : Nat} {Q : Option Value → HS → Prop} {h : HS}
variable {x0 b BIG S Z1 Z2 : Nat}
theorem chg_gen {m1 m2 : Nat} {as : List Value} {f : (Nat → Int32) → List Cls → PR}
    (hc : ∀ (LG gr : Nat → Nat) (z : Nat × Nat) (G C : Nat → Option AE) (M F : Nat → Int32) (ex : Nat → Bool) (hd : Option Nat) (kf : Int32) (nb c k1 k2 k3 : Nat) (cl : List Cls) (Q : Option Value → HS → Prop), (∀ r, gr (LG r) = r) → DM LG C kf nb → WK M ex c → WI M c k1 k2 k3 → HB LG C 100 hd cl → (∀ F', Q (some (.int (f M cl).1)) (GW LG gr 100 (f M cl).2 F' ex hd C G z)) → WP V (cdT Ev) mx D m1 (.ref (LG 0) :: as) (GW LG gr 100 M F ex hd C G z) Q)
    (hm : ∀ (sc : Nat → Int32) (ar : Nat → Nat → Int32) (lg : Nat → Nat → Int64) (G : Nat → Option AE) (z : Nat × Nat) (c k1 k2 k3 : Nat) (cl : List Cls) (Q : Option Value → HS → Prop), WI (ar 1) c k1 k2 k3 → N8 ar → RuleOK ar cl → (∀ sc' ar', SW sc (va_up ar 1 (f (ar 1) cl).2) sc' ar' → Q (some (.int (f (ar 1) cl).1)) (MH b sc' ar' lg G z)) → WP V (cdT Ev) mx D m2 (.ref b :: as) (MH b sc ar lg G z) Q)
    (he : ∀ (M N : Nat → Int32) (cl : List Cls) (c k1 k2 k3 : Nat), SL M N c k1 k2 k3 → WI N c k1 k2 k3 → CNG (f M cl) (f N cl) M N c)
    (hI : INV x0 b BIG S Z1 Z2 h) (H : ∀ y h1, MID S V Ev D m2 (.ref b :: as) (NXT x0 b BIG S Z1 Z2) (.int y) h1 → Q (some (.int y)) h1) : WP V (cdT Ev) mx D m1 (.ref x0 :: as) h Q := by
  obtain ⟨LG, gr, C, G, z, M, F, ex, hd, nb, n, sc, ar, lg, rfl, hp, w0, w1, rs, mi, ⟨c, k1, k2, k3, sl, wi, hex, hr⟩⟩ := hI
  have hn := mi.2.2.2.2
  have ps := RS_PS rs
  have e0 := WC_own w0
  obtain ⟨cl, hb, hru⟩ := HB_R hn hr ps.2.2.2.2.1
  have e : GH LG gr C G z = GW LG gr 100 M F ex hd C G z := by rw [GW, e0]
  have hp1 := hp.2.2.1
  have hp2 := hp.2.2.2
  obtain ⟨ev, ⟨k1', k2', k3', sl', wi'⟩, e70, hkd⟩ := he M (ar 1) cl c k1 k2 k3 sl wi
  rw [e, ← ps.1]
  have wm := SL_WI sl wi
  refine hc LG gr z G C M F ex hd (sc 0) nb c k1 k2 k3 cl Q hp.1.1 ps.2.1 (WI_W wm hex) wm hb (fun F' => ?_)
  have hC : ∀ r, (r < 100 ∨ 125 ≤ r) → WC LG 100 (f M cl).2 F' ex hd C r = C r := fun r hr => WC_out hr
  have rs' := RS_fr (LG' := LG) (C' := WC LG 100 (f M cl).2 F' ex hd C) hn (fun r hr => rfl) (fun r hr => hC r (by omega)) rs
  refine H _ _ ⟨MS_of hp.1.1 hp.2.1 (RS_RG rs'), fun Q2 hQ => ?_⟩
  have hL : LV LG gr (WC LG 100 M F ex hd C) z BIG := by
    rw [e0]
    exact hp.1
  have hp' : HP BIG S (Z1 + 12) (Z2 + 230) LG gr (WC LG 100 (f M cl).2 F' ex hd C) G z := ⟨LV_dom (fun j hj _ => hkd j hj) hL, hp.2.1, by omega, by omega⟩
  have w0' : OW LG (WC LG 100 (f M cl).2 F' ex hd C) 100 (f M cl).2 F' ex hd := OW_W
  have w1' : W1 LG (WC LG 100 (f M cl).2 F' ex hd C) nb := W1_fr hn (fun _ _ => rfl) (fun _ _ _ => rfl) (fun q hq => hC _ (by omega)) w1
  rw [GW, toM hp.1.1 (RS_RG rs')]
  refine hm sc ar lg _ z c k1 k2 k3 cl Q2 wi mi.1 hru (fun sc' ar' sw => ?_)
  rw [ev] at hQ
  have ea : ar' 1 = (f (ar 1) cl).2 := SW_1 sw
  have sw' : SW sc ar sc' (va_up ar' 1 (ar 1)) := by
    have := SW_set sw (ar 1)
    rwa [va_us] at this
  have ps' : PS LG (WC LG 100 (f M cl).2 F' ex hd C) x0 nb n sc' ar' lg := by
    have t := PS_SW (RS_PS rs') sw'
    unfold PS at t ⊢
    exact t
  have mi' : MI ar' sc' nb n := by
    have := MI_SW mi sw'
    exact ⟨this.1, this.2⟩
  refine hQ _ (PS_end hp' w0' w1' ps' (RS_RG rs') mi' ⟨c, k1', k2', k3', ?_, ?_, hex, ?_⟩)
  · rw [ea]
    exact sl'
  · rw [ea]
    exact wi'
  · rw [ea, e70]
    exact hr
theorem SW_eq {sc : Nat → Int32} {ar : Nat → Nat → Int32} {N : Nat → Int32} (h8 : N8 ar) : SW sc (va_up ar 1 N) sc (va_up ar 1 N) := SW_refl h8
theorem L_learn {p s : Int32} (hI : INV x0 b BIG S Z1 Z2 h) (H : ∀ y h1, MID S V Ev (d + 40) 137 [.ref b, .int p, .int s] (NXT x0 b BIG S Z1 Z2) (.int y) h1 → Q (some (.int y)) h1) : WP V (cdT Ev) mx (d + 40) 72 [.ref x0, .int p, .int s] h Q := by
  refine chg_gen (f := fun N cl => leR N p s) ?_ ?_ ?_ hI H
  · intro LG gr z G C M F ex hd kf nb c k1 k2 k3 cl Q hg hm hk wi hb hQ
    rw [c_learn (d := d + 38) hg hm hk]
    exact hQ F
  · intro sc ar lg G z c k1 k2 k3 cl Q wi h8 hr H
    rw [m_learn (d := d + 37) (WI_c wi)]
    exact H _ _ (SW_eq h8)
  · intro M N cl c k1 k2 k3 sl wi
    exact G_le sl wi
theorem L_ford {p s : Int32} (hs : s = 0 ∨ s = 1) (hI : INV x0 b BIG S Z1 Z2 h) (H : ∀ y h1, MID S V Ev (d + 40) 138 [.ref b, .int p, .int s] (NXT x0 b BIG S Z1 Z2) (.int y) h1 → Q (some (.int y)) h1) : WP V (cdT Ev) mx (d + 40) 73 [.ref x0, .int p, .int s] h Q := by
  refine chg_gen (f := fun N cl => foR N p s) ?_ ?_ ?_ hI H
  · intro LG gr z G C M F ex hd kf nb c k1 k2 k3 cl Q hg hm hk wi hb hQ
    rw [c_ford (d := d + 38) hg hm hk hs]
    exact hQ F
  · intro sc ar lg G z c k1 k2 k3 cl Q wi h8 hr H
    rw [m_ford (d := d + 37) (WI_c wi)]
    exact H _ _ (SW_eq h8)
  · intro M N cl c k1 k2 k3 sl wi
    exact G_fo sl wi
theorem L_worth {p s : Int32} (hI : INV x0 b BIG S Z1 Z2 h) (H : ∀ y h1, MID S V Ev (d + 40) 139 [.ref b, .int p, .int s] (NXT x0 b BIG S Z1 Z2) (.int y) h1 → Q (some (.int y)) h1) : WP V (cdT Ev) mx (d + 40) 74 [.ref x0, .int p, .int s] h Q := by
  refine chg_gen (f := fun N cl => woR N p s) ?_ ?_ ?_ hI H
  · intro LG gr z G C M F ex hd kf nb c k1 k2 k3 cl Q hg hm hk wi hb hQ
    rw [c_worth (d := d + 38) hg hm]
    exact hQ F
  · intro sc ar lg G z c k1 k2 k3 cl Q wi h8 hr H
    rw [m_worth (d := d + 37)]
    exact H _ _ (SW_eq h8)
  · intro M N cl c k1 k2 k3 sl wi
    exact G_wo sl wi
theorem L_row {p s t : Int32} (hI : INV x0 b BIG S Z1 Z2 h) (H : ∀ y h1, MID S V Ev (d + 40) 140 [.ref b, .int p, .int s, .int t] (NXT x0 b BIG S Z1 Z2) (.int y) h1 → Q (some (.int y)) h1) : WP V (cdT Ev) mx (d + 40) 75 [.ref x0, .int p, .int s, .int t] h Q := by
  refine chg_gen (f := fun N cl => roR N p s t) ?_ ?_ ?_ hI H
  · intro LG gr z G C M F ex hd kf nb c k1 k2 k3 cl Q hg hm hk wi hb hQ
    rw [c_row (d := d + 38) hg hm hk]
    exact hQ F
  · intro sc ar lg G z c k1 k2 k3 cl Q wi h8 hr H
    rw [m_row (d := d + 37) (WI_c wi)]
    exact H _ _ (SW_eq h8)
  · intro M N cl c k1 k2 k3 sl wi
    exact G_ro sl wi
theorem L_see {p s : Int32} (hI : INV x0 b BIG S Z1 Z2 h) (H : ∀ y h1, MID S V Ev (d + 40) 170 [.ref b, .int p, .int s] (NXT x0 b BIG S Z1 Z2) (.int y) h1 → Q (some (.int y)) h1) : WP V (cdT Ev) mx (d + 40) 82 [.ref x0, .int p, .int s] h Q := by
  refine chg_gen (f := fun N cl => seR N p s) ?_ ?_ ?_ hI H
  · intro LG gr z G C M F ex hd kf nb c k1 k2 k3 cl Q hg hm hk wi hb hQ
    rw [c_see (d := d + 38) hg hm hk (WI_SE wi).2.1 (WI_SE wi).1]
    exact hQ F
  · intro sc ar lg G z c k1 k2 k3 cl Q wi h8 hr H
    rw [m_see (d := d + 37) (WI_SE wi).2.1 (WI_SE wi).1]
    exact H _ _ (SW_eq h8)
  · intro M N cl c k1 k2 k3 sl wi
    exact G_se sl wi
theorem L_book {p s : Int32} (hI : INV x0 b BIG S Z1 Z2 h) (H : ∀ y h1, MID S V Ev (d + 40) 180 [.ref b, .int p, .int s] (NXT x0 b BIG S Z1 Z2) (.int y) h1 → Q (some (.int y)) h1) : WP V (cdT Ev) mx (d + 40) 88 [.ref x0, .int p, .int s] h Q := by
  refine chg_gen (f := fun N cl => boR N p s) ?_ ?_ ?_ hI H
  · intro LG gr z G C M F ex hd kf nb c k1 k2 k3 cl Q hg hm hk wi hb hQ
    rw [c_book (d := d + 38) hg hm (WI_BK wi).2.1 (WI_BK wi).1]
    exact hQ F
  · intro sc ar lg G z c k1 k2 k3 cl Q wi h8 hr H
    rw [m_book (d := d + 37) (WI_BK wi).2.1 (WI_BK wi).1]
    exact H _ _ (SW_eq h8)
  · intro M N cl c k1 k2 k3 sl wi
    exact G_bo sl wi
theorem L_plan {p s : Int32} (hI : INV x0 b BIG S Z1 Z2 h) (H : ∀ y h1, MID S V Ev (d + 40) 178 [.ref b, .int p, .int s] (NXT x0 b BIG S Z1 Z2) (.int y) h1 → Q (some (.int y)) h1) : WP V (cdT Ev) mx (d + 40) 86 [.ref x0, .int p, .int s] h Q := by
  refine chg_gen (f := fun N cl => plR N p s) ?_ ?_ ?_ hI H
  · intro LG gr z G C M F ex hd kf nb c k1 k2 k3 cl Q hg hm hk wi hb hQ
    rw [c_plan (d := d + 38) hg hm hk (WI_PL wi).2.1 (WI_PL wi).1]
    exact hQ F
  · intro sc ar lg G z c k1 k2 k3 cl Q wi h8 hr H
    rw [m_plan (d := d + 37) (WI_c wi) (WI_PL wi).2.1 (WI_PL wi).1]
    exact H _ _ (SW_eq h8)
  · intro M N cl c k1 k2 k3 sl wi
    exact G_pl sl wi
theorem L_pass {n : Int32} (hI : INV x0 b BIG S Z1 Z2 h) (H : ∀ y h1, MID S V Ev (d + 40) 167 [.ref b, .int n] (NXT x0 b BIG S Z1 Z2) (.int y) h1 → Q (some (.int y)) h1) : WP V (cdT Ev) mx (d + 40) 79 [.ref x0, .int n] h Q := by
  refine chg_gen (f := fun N cl => paR N cl n) ?_ ?_ ?_ hI H
  · intro LG gr z G C M F ex hd kf nb c k1 k2 k3 cl Q hg hm hk wi hb hQ
    obtain ⟨t, ht, h69, hB⟩ := wi.2.2.2.2.2.2.2.2
    exact c_pass (d := d + 32) hg hm hk (WI_12 wi) ht h69 hB hb hQ
  · intro sc ar lg G z c k1 k2 k3 cl Q wi h8 hr H
    exact m_pass (d := d + 13) (WI_c wi) (WI_12 wi) h8 hr H
  · intro M N cl c k1 k2 k3 sl wi
    exact G_pa sl wi
end
