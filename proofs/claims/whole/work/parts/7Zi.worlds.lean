/-! A new one, the image, undoing, a bridge: class and reference answer alike. -/
theorem Li_lt {c k1 k2 k3 k : Nat} (hc : c ≤ 6) (h1 : k1 ≤ 5) (h2 : k2 ≤ 10) (h3 : k3 ≤ 8) (h : Li c k1 k2 k3 k) : k < 120 ∧ k ≠ 70 := by
  unfold Li at h
  omega
theorem SL_cp {A B : Nat → Int32} {c k1 k2 k3 : Nat} (hI : WI A c k1 k2 k3) : SL (cpN 120 A B) A c k1 k2 k3 := fun k hk => by
  have := Li_lt (WI_c hI).2 (WI_SE hI).2.1 (WI_PL hI).2.1 (WI_BK hI).2.1 hk
  exact if_pos this.1
theorem SL_70 {A : Nat → Int32} {x : Int32} {c k1 k2 k3 : Nat} (hI : WI A c k1 k2 k3) : SL (upd A 70 x) A c k1 k2 k3 := fun k hk => by
  have := Li_lt (WI_c hI).2 (WI_SE hI).2.1 (WI_PL hI).2.1 (WI_BK hI).2.1 hk
  exact pk_un this.2
section
variable {V : Nat → Option AE} {Ev : Nat → Value} {D d : Nat} {Q : Option Value → HS → Prop} {h : HS}
variable {x0 b BIG S Z1 Z2 : Nat}
theorem L_one {k v s : Int32} (he : EVS S V Ev) (hz : Z1 + 12 ≤ BIG) (hI : INV x0 b BIG S Z1 Z2 h) (H : ∀ y h1, MID S V Ev (d + 40) 134 [.ref b, .int k, .int v, .int s] (NXT x0 b BIG S Z1 Z2) (.int y) h1 → Q (some (.int y)) h1) : WP V (cdT Ev) mx (d + 40) 69 [.ref x0, .int k, .int v, .int s] h Q := by
  obtain ⟨LG, gr, C, G, z, M, F, ex, hd, nb, n, sc, ar, lg, rfl, hp, w0, w1, rs, mi, ⟨c, k1, k2, k3, sl, wi, hex, hr⟩⟩ := hI
  have ps := RS_PS rs
  have hn := mi.2.2.2.2
  have e0 := WC_own w0
  have hp1 := hp.2.2.1
  have hp2 := hp.2.2.2
  have hc := WI_c wi
  have hcm := SL_c6 sl hc
  have c6' := hc.2
  have e : GH LG gr C G z = GW LG gr 100 M F ex hd C G z := by rw [GW, e0]
  rw [← ps.1, e]
  refine c_one (d := d + 35) (BIG := BIG) (by rw [e0]; exact hp.1) (by omega) ps.2.1 hcm (BR_bR hn (HR_BR hr)) (EVS_STA he hp.2.1) (fun h0 => ?_) (fun K hK ek h6 hv hs eo LG' gr' G' z' hx hL hG hz1 hz2 => ?_)
  · rw [← e]
    have ev : onF (ar 1) k v s = ((onF M k v s).1, ar 1) := by
      unfold onF at h0 ⊢
      rw [SL_68 sl] at h0 ⊢
      by_cases g1 : 0 ≤ k ∧ k ≤ 6
      · rw [if_pos g1] at h0
        rw [if_pos g1, if_pos g1]
        by_cases g2 : (0 ≤ v ∧ v ≤ 9) ∧ (0 ≤ s ∧ s ≤ 4095)
        · rw [if_pos g2] at h0
          rw [if_pos g2, if_pos g2]
          by_cases g3 : ar 1 68 = 6
          · rw [if_pos g3, if_pos g3]
          · rw [if_neg g3] at h0
            exfalso
            have h0' : neF M (ar 1 68).toNatClampNeg k v s = M := h0
            have := congrFun h0' 68
            rw [ne_68, hcm.1, nI_1, nI_eq (by omega) (by omega)] at this
            omega
        · rw [if_neg g2, if_neg g2]
      · rw [if_neg g1, if_neg g1]
    refine H _ _ (ref_end (HP_s hp) w0 w1 ps (RS_RG rs) mi ⟨c, k1, k2, k3, sl, wi, hex, hr⟩ (fun Q2 hQ => ?_))
    rw [m_one (d := d + 37) hc, ev]
    show Q2 _ (MH b sc (va_up ar 1 (ar 1)) lg _ z)
    rw [va_us]
    exact hQ
  · have hC : ∀ r, (r < 100 ∨ 125 ≤ r) → WC LG' 100 (neF M c k v s) F (ex1 ex c) hd C r = C r := fun r hr => WC_out hr
    have ev : onF (ar 1) k v s = (nI c, neF (ar 1) c k v s) := by
      have g1 : 0 ≤ k ∧ k ≤ 6 := by
        rw [ek]
        exact ⟨nI_pos' (by omega), by rw [show (6 : Int32) = nI 6 from rfl]; exact nI_le (by omega) (by decide)⟩
      have g3 : ¬ nI c = 6 := by
        rw [show (6 : Int32) = nI 6 from rfl, nI_eq (by omega) (by decide)]
        omega
      unfold onF
      rw [if_pos g1, if_pos ⟨hv, hs⟩, hc.1, if_neg g3, nI_clamp (by omega)]
    have rs' := RS_fr (LG' := LG') (C' := WC LG' 100 (neF M c k v s) F (ex1 ex c) hd C) hn (fun r hr => hx r (by omega)) (fun r hr => hC r (by omega)) rs
    have ps' : PS LG' (WC LG' 100 (neF M c k v s) F (ex1 ex c) hd C) x0 nb n sc (va_up ar 1 (neF (ar 1) c k v s)) lg := by
      have t := RS_PS rs'
      unfold PS at t ⊢
      exact t
    refine H _ _ (ref_end (nb := nb) (n := n) (sc' := sc) (ar' := va_up ar 1 (neF (ar 1) c k v s)) (lg' := lg) ⟨hL, hG S hp.2.1, by omega, by omega⟩ OW_W (W1_fr hn (fun q hq => hx _ (by omega)) (fun r r1 r2 => hx _ (by omega)) (fun q hq => hC _ (by omega)) w1) ps' (RS_RG rs') mi ⟨c + 1, k1, k2, k3, SL_ne hc h6 sl, ?_, fun i hi => ?_, ?_⟩ (fun Q2 hQ => ?_))
    · show WI (neF (ar 1) c k v s) (c + 1) k1 k2 k3
      rw [ek]
      exact WI_ne hK h6 hs wi
    · unfold ex1
      by_cases ei : i = c
      · rw [if_pos ei]
      · rw [if_neg ei]
        exact hex i (by omega)
    · show HR nb hd (neF (ar 1) c k v s 70)
      rw [ne_o (by omega) (by omega)]
      exact hr
    · rw [m_one (d := d + 37) hc, ev]
      exact hQ
theorem L_image (hz : Z1 + 12 ≤ BIG) (hI : INV x0 b BIG S Z1 Z2 h) (H : ∀ y h1, MID S V Ev (d + 40) 126 [.ref b] (NXT x0 b BIG S Z1 Z2) (.int y) h1 → Q (some (.int y)) h1) : WP V (cdT Ev) mx (d + 40) 91 [.ref x0] h Q := by
  obtain ⟨LG, gr, C, G, z, M, F, ex, hd, nb, n, sc, ar, lg, rfl, hp, w0, ⟨Mt, Ft, xt, ht, w1, bt1⟩, rs, mi, ⟨c, k1, k2, k3, sl, wi, hex, hr⟩⟩ := hI
  have ps := RS_PS rs
  have hn := mi.2.2.2.2
  obtain ⟨p0, p1, ⟨Mk, Fk, xk, hk, w2, bk2, -⟩, p3, p4, p5, p6⟩ := ps
  have e0 := WC_own w0
  have e1 := WC_own w1
  have e2 := WC_own w2
  have hp1 := hp.2.2.1
  have hp2 := hp.2.2.2
  have wm := SL_WI sl wi
  have e : GH LG gr C G z = GW LG gr 100 M F ex hd (WC LG 150 Mt Ft xt ht (WC LG 200 Mk Fk xk hk C)) G z := by rw [GW, e2, e1, e0]
  rw [← p0, e]
  refine c_image (d := d + 33) (BIG := BIG) (c := c) (k1 := k1) (k2 := k2) (k3 := k3) (by rw [e2, e1, e0]; exact hp.1) (by omega) p1 (BR_bR hn (HR_BR hr)) (BR_bR hn bt1) (BR_bR hn bk2) (WI_W wm hex) (WI_SZ wm) (fun LG' gr' G' z' Mk' hx hL hG hz1 hz2 slk => ?_)
  have hC : ∀ r, (¬ r = 0 ∧ (r < 100 ∨ (125 ≤ r ∧ r < 150) ∨ (175 ≤ r ∧ r < 200) ∨ 225 ≤ r)) → WC LG' 100 M F ex hd (WC LG' 150 Mt Ft xt ht (WC LG' 200 Mk' Fk (exQ xk c) hd (va_up C 0 (some (mainC LG' 1 nb))))) r = C r := fun r hr => (WC_out (by omega)).trans ((WC_out (by omega)).trans ((WC_out (by omega)).trans (if_neg hr.1)))
  have rg' : RG LG' (WC LG' 100 M F ex hd (WC LG' 150 Mt Ft xt ht (WC LG' 200 Mk' Fk (exQ xk c) hd (va_up C 0 (some (mainC LG' 1 nb)))))) b sc ar lg := RG_fr (fun r r1 r2 => hx _ (by omega)) (fun r r1 r2 => hC _ (by omega)) (RS_RG rs)
  refine H _ _ (ref_end (nb := nb) (n := n) (sc' := va_up sc 0 1) (ar' := va_up ar 3 (cpN 120 (ar 1) (ar 3))) (lg' := lg) ⟨hL, hG S hp.2.1, by omega, by omega⟩ OW_W ⟨Mt, Ft, xt, ht, fun q hq => (WC_out (by omega)).trans (WC_k q hq), bt1⟩ ?_ rg' mi ⟨c, k1, k2, k3, sl, wi, hex, hr⟩ (fun Q2 hQ => ?_))
  · have wc := SL_cp (B := ar 3) wi
    refine ⟨(hx 0 (by omega)).trans p0, ?_, ⟨Mk', Fk, exQ xk c, hd, fun q hq => (WC_out (by omega)).trans ((WC_out (by omega)).trans (WC_k q hq)), HR_BR hr, fun _ => ⟨c, k1, k2, k3, ?_, SL_WI wc wi, fun i hi => if_pos hi, hr⟩⟩, BX_fr hn (fun r r1 r2 => hx _ (by omega)) (fun r r1 r2 => hC _ (by omega)) p3, BS_fr hn (fun r r1 r2 => hx _ (by omega)) (fun r r1 r2 => hC _ (by omega)) p4, TG_fr (hx 2 (by omega)) (hC _ (by omega)) (hC _ (by omega)) p5, TPG_fr (fun r hr => hx _ (by omega)) (fun r r1 r2 => hC _ (by omega)) p6⟩
    · exact (WC_out (by omega)).trans ((WC_out (by omega)).trans (WC_out (by omega)))
    · exact SL_trans slk (SL_trans sl (SL_symm wc))
  · rw [m_image (d := d + 38), ← SL_68 sl]
    exact hQ
theorem L_undo (hz : Z1 + 12 ≤ BIG) (hI : INV x0 b BIG S Z1 Z2 h) (H : ∀ y h1, MID S V Ev (d + 40) 127 [.ref b] (NXT x0 b BIG S Z1 Z2) (.int y) h1 → Q (some (.int y)) h1) : WP V (cdT Ev) mx (d + 40) 92 [.ref x0] h Q := by
  obtain ⟨LG, gr, C, G, z, M, F, ex, hd, nb, n, sc, ar, lg, rfl, hp, w0, ⟨Mt, Ft, xt, ht, w1, bt1⟩, rs, mi, dt⟩ := hI
  have ps := RS_PS rs
  have hn := mi.2.2.2.2
  obtain ⟨p0, p1, ⟨Mk, Fk, xk, hk, w2, bk2, hkk⟩, p3, p4, p5, p6⟩ := id ps
  have e0 := WC_own w0
  have e1 := WC_own w1
  have e2 := WC_own w2
  have hp1 := hp.2.2.1
  have hp2 := hp.2.2.2
  have hbd : bR hd := by
    obtain ⟨c, k1, k2, k3, -, -, -, hr⟩ := dt
    exact BR_bR hn (HR_BR hr)
  have e : GH LG gr C G z = GW LG gr 100 M F ex hd (WC LG 150 Mt Ft xt ht (WC LG 200 Mk Fk xk hk C)) G z := by rw [GW, e2, e1, e0]
  rw [← p0, e]
  refine c_undo (d := d + 33) (BIG := BIG) (by rw [e2, e1, e0]; exact hp.1) (by omega) p1 hbd (BR_bR hn bt1) (BR_bR hn bk2) (fun h0 => ?_) (fun h0 => ?_)
  · rw [← e]
    refine H _ _ (ref_end (HP_s hp) w0 ⟨Mt, Ft, xt, ht, w1, bt1⟩ ps (RS_RG rs) mi dt (fun Q2 hQ => ?_))
    rw [m_undo (d := d + 38), if_pos h0]
    exact hQ
  · obtain ⟨c, k1, k2, k3, slk, wik, hxk, hrk⟩ := hkk h0
    have wm := SL_WI slk wik
    refine ⟨c, k1, k2, k3, WI_W wm hxk, WI_SZ wm, fun LG' gr' G' z' M' hx hL hG hz1 hz2 slm => ?_⟩
    have hC : ∀ r, (r < 100 ∨ (125 ≤ r ∧ r < 150) ∨ (175 ≤ r ∧ r < 200) ∨ 225 ≤ r) → WC LG' 100 M' F (exQ ex c) hk (WC LG' 150 Mt Ft xt ht (WC LG' 200 Mk Fk xk hk C)) r = C r := fun r hr => (WC_out (by omega)).trans ((WC_out (by omega)).trans (WC_out (by omega)))
    have rg' : RG LG' (WC LG' 100 M' F (exQ ex c) hk (WC LG' 150 Mt Ft xt ht (WC LG' 200 Mk Fk xk hk C))) b sc ar lg := RG_fr (fun r r1 r2 => hx _ (by omega)) (fun r r1 r2 => hC _ (by omega)) (RS_RG rs)
    have wc := SL_cp (B := ar 1) wik
    refine H _ _ (ref_end (nb := nb) (n := n) (sc' := sc) (ar' := va_up ar 1 (cpN 120 (ar 3) (ar 1))) (lg' := lg) ⟨hL, hG S hp.2.1, by omega, by omega⟩ OW_W ⟨Mt, Ft, xt, ht, fun q hq => (WC_out (by omega)).trans (WC_k q hq), bt1⟩ ?_ rg' mi ⟨c, k1, k2, k3, SL_trans slm (SL_trans slk (SL_symm wc)), SL_WI wc wik, fun i hi => if_pos hi, hrk⟩ (fun Q2 hQ => ?_))
    · exact ⟨(hx 0 (by omega)).trans p0, DM_fr (fun r hr => hx _ (by omega)) hn (hC 0 (by omega)) p1, ⟨Mk, Fk, xk, hk, fun q hq => (WC_out (by omega)).trans ((WC_out (by omega)).trans (WC_k q hq)), bk2, hkk⟩, BX_fr hn (fun r r1 r2 => hx _ (by omega)) (fun r r1 r2 => hC _ (by omega)) p3, BS_fr hn (fun r r1 r2 => hx _ (by omega)) (fun r r1 r2 => hC _ (by omega)) p4, TG_fr (hx 2 (by omega)) (hC _ (by omega)) (hC _ (by omega)) p5, TPG_fr (fun r hr => hx _ (by omega)) (fun r r1 r2 => hC _ (by omega)) p6⟩
    · rw [m_undo (d := d + 38), if_neg h0, ← SL_68 slk, ← SL_68 slm]
      exact hQ
end
