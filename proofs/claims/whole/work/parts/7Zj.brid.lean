/-! A bridge: class and reference answer alike. -/
section
variable {V : Nat → Option AE} {Ev : Nat → Value} {D d : Nat} {Q : Option Value → HS → Prop} {h : HS}
variable {x0 b BIG S Z1 Z2 : Nat}
theorem L_bridge (he : EVS S V Ev) (hz : Z1 + 12 ≤ BIG) (hI : INV x0 b BIG S Z1 Z2 h) (H : ∀ y h1, MID S V Ev (d + 40) 153 [.ref b] (NXT x0 b BIG S Z1 Z2) (.int y) h1 → Q (some (.int y)) h1) : WP V (cdT Ev) mx (d + 40) 77 [.ref x0] h Q := by
  obtain ⟨LG, gr, C, G, z, M, F, ex, hd, nb, n, sc, ar, lg, rfl, hp, w0, ⟨Mt, Ft, xt, ht, w1, bt1⟩, rs, mi, dt⟩ := hI
  have ps := RS_PS rs
  have hn := mi.2.2.2.2
  have hn100 := mi.2.2.1
  obtain ⟨p0, p1, ⟨Mk, Fk, xk, hk, w2, bk2, hkk⟩, ⟨a, cs, k, fr, T, cd, wt, en, b1, b2⟩, p4, p5, p6⟩ := id ps
  have e0 := WC_own w0
  have e1 := WC_own w1
  have e2 := WC_own w2
  have e3 := BC_own b1
  have hp1 := hp.2.2.1
  have hp2 := hp.2.2.2
  have hpa : pAll T n = pAll (ar 4) n := pAll_cg (fun q hq => (b2 q hq).1)
  have e : GH LG gr C G z = GW LG gr 100 M F ex hd (WC LG 150 Mt Ft xt ht (WC LG 200 Mk Fk xk hk (BC LG (300 + 5 * nb) n a cs k fr T cd wt en C))) G z := by rw [GW, e3, e2, e1, e0]
  rw [← p0, e]
  refine c_bridge (d := d + 15) (BIG := BIG) (by rw [e3, e2, e1, e0]; exact hp.1) (by omega) p1 hn (fun r hr => ?_) (EVS_ES5 he hp.2.1) hn100 (fun q hq => (b2 q hq).2) (fun h6 => ?_) (fun h6 hf a' cs' k' fr' T' cd' wt' en' => ?_) (fun h6 ht' hon LG' gr' G' z' cs' T' cd' wt' en' hx hL hG ez hok => ?_)
  · rcases hr with g | g
    · obtain ⟨j, hj, ej⟩ := bt1 r g
      omega
    · obtain ⟨j, hj, ej⟩ := bk2 r g
      omega
  · rw [← e]
    refine H _ _ (ref_end (HP_s hp) w0 ⟨Mt, Ft, xt, ht, w1, bt1⟩ ps (RS_RG rs) mi dt (fun Q2 hQ => ?_))
    exact m_bridge (d := d + 19) mi.2.1 hn100 mi.2.2.2.1 hn mi.1 (fun _ => hQ) (fun g => absurd h6 (by omega)) (fun g => absurd h6 (by omega))
  · have o : ∀ q, (q < 300 + 5 * nb ∨ 305 + 5 * nb ≤ q) → BC LG (300 + 5 * nb) 0 a' cs' k' fr' T' cd' wt' en' C q = C q := fun q hq => BC_out (by omega)
    have w2' : OW LG (BC LG (300 + 5 * nb) 0 a' cs' k' fr' T' cd' wt' en' C) 200 Mk Fk xk hk := OW_fr (fun _ _ => rfl) (fun _ _ => rfl) (fun q hq => o _ (by omega)) w2
    have w1' : OW LG (BC LG (300 + 5 * nb) 0 a' cs' k' fr' T' cd' wt' en' C) 150 Mt Ft xt ht := OW_fr (fun _ _ => rfl) (fun _ _ => rfl) (fun q hq => o _ (by omega)) w1
    have w0' : OW LG (BC LG (300 + 5 * nb) 0 a' cs' k' fr' T' cd' wt' en' C) 100 M F ex hd := OW_fr (fun _ _ => rfl) (fun _ _ => rfl) (fun q hq => o _ (by omega)) w0
    rw [GW, WC_own w2', WC_own w1', WC_own w0']
    have hL : LV LG gr (BC LG (300 + 5 * nb) 0 a' cs' k' fr' T' cd' wt' en' C) z BIG := LV_BC (n := n) (a := a) (cs := cs) (k := k) (fr := fr) (T := T) (cd := cd) (wt := wt) (en := en) (by rw [e3]; exact hp.1)
    have hpp := HP_s hp
    have rg' : RG LG (BC LG (300 + 5 * nb) 0 a' cs' k' fr' T' cd' wt' en' C) b sc ar lg := RG_fr (fun _ _ _ => rfl) (fun q q1 q2 => o _ (by omega)) (RS_RG rs)
    refine H _ _ ⟨MS_of hp.1.1 hp.2.1 rg', fun Q2 hQ => ?_⟩
    rw [toM hp.1.1 rg']
    refine m_bridge (d := d + 19) mi.2.1 hn100 mi.2.2.2.1 hn mi.1 (fun g => absurd g (by omega)) (fun _ _ sc' ar' sw => ?_) (fun _ g => ?_)
    · rw [← hpa]
      have ps0 : PS LG (BC LG (300 + 5 * nb) 0 a' cs' k' fr' T' cd' wt' en' C) x0 nb 0 (va_up sc 1 0) ar lg := ⟨p0, DM_fr (fun _ _ => rfl) hn (o _ (by omega)) p1, W2_fr hn (fun _ _ => rfl) (fun _ _ _ => rfl) (fun q hq => o _ (by omega)) ⟨Mk, Fk, xk, hk, w2, bk2, hkk⟩, ⟨a', cs', k', fr', T', cd', wt', en', fun j hj => BC_k j hj, fun q hq => by omega⟩, BS_fr hn (fun _ _ _ => rfl) (fun q q1 q2 => o _ (by omega)) p4, TG_fr rfl (o _ (by omega)) (o _ (by omega)) p5, TPG_fr (fun _ _ => rfl) (fun q q1 q2 => o _ (by omega)) p6⟩
      have mi0 : MI ar (va_up sc 1 0) nb 0 := ⟨mi.1, rfl, by omega, mi.2.2.2.1, hn⟩
      refine hQ _ (PS_end (M := M) (F := F) (ex := ex) (hd := hd) ⟨hL, hpp.2⟩ w0' ⟨Mt, Ft, xt, ht, w1', bt1⟩ (PS_SW ps0 sw) rg' (MI_SW mi0 sw) ?_)
      rw [SW_1 sw]
      exact dt
    · rw [hpa, g] at hf
      exact absurd hf (by decide)
  · have hC : ∀ r, (¬ r = 0 ∧ (r < 100 ∨ (125 ≤ r ∧ r < 150) ∨ (175 ≤ r ∧ r < 200) ∨ (225 ≤ r ∧ (r < 300 + 5 * nb ∨ 310 + 5 * nb ≤ r)))) → WC LG' 100 M F ex (some (300 + 5 * nb)) (WC LG' 150 Mt Ft xt ht (WC LG' 200 Mk Fk xk hk (BC LG' (300 + 5 * (nb + 1)) 0 0 0 0 0 (fun _ => 0) (fun _ => 0) (fun _ => 0) (fun _ => 0) (va_up (BC LG' (300 + 5 * nb) n n cs' (pAll T n).2.2.length (freeC 0 (pAll T n).2.2) T' cd' wt' en' C) 0 (some (mainC LG' (sc 0) (nb + 1))))))) r = C r := fun r hr => (WC_out (by omega)).trans ((WC_out (by omega)).trans ((WC_out (by omega)).trans ((BC_out (by omega)).trans ((if_neg hr.1).trans (BC_out (by omega))))))
    have hB : ∀ j, j < 5 → WC LG' 100 M F ex (some (300 + 5 * nb)) (WC LG' 150 Mt Ft xt ht (WC LG' 200 Mk Fk xk hk (BC LG' (300 + 5 * (nb + 1)) 0 0 0 0 0 (fun _ => 0) (fun _ => 0) (fun _ => 0) (fun _ => 0) (va_up (BC LG' (300 + 5 * nb) n n cs' (pAll T n).2.2.length (freeC 0 (pAll T n).2.2) T' cd' wt' en' C) 0 (some (mainC LG' (sc 0) (nb + 1))))))) (300 + 5 * nb + j) = bcl LG' (300 + 5 * nb) n n cs' (pAll T n).2.2.length (freeC 0 (pAll T n).2.2) T' cd' wt' en' j := fun j hj => (WC_out (by omega)).trans ((WC_out (by omega)).trans ((WC_out (by omega)).trans ((BC_out (by omega)).trans ((if_neg (by omega)).trans (BC_k j hj)))))
    have hN : ∀ j, j < 5 → WC LG' 100 M F ex (some (300 + 5 * nb)) (WC LG' 150 Mt Ft xt ht (WC LG' 200 Mk Fk xk hk (BC LG' (300 + 5 * (nb + 1)) 0 0 0 0 0 (fun _ => 0) (fun _ => 0) (fun _ => 0) (fun _ => 0) (va_up (BC LG' (300 + 5 * nb) n n cs' (pAll T n).2.2.length (freeC 0 (pAll T n).2.2) T' cd' wt' en' C) 0 (some (mainC LG' (sc 0) (nb + 1))))))) (300 + 5 * (nb + 1) + j) = bcl LG' (300 + 5 * (nb + 1)) 0 0 0 0 0 (fun _ => 0) (fun _ => 0) (fun _ => 0) (fun _ => 0) j := fun j hj => (WC_out (by omega)).trans ((WC_out (by omega)).trans ((WC_out (by omega)).trans (BC_k j hj)))
    have hM0 : WC LG' 100 M F ex (some (300 + 5 * nb)) (WC LG' 150 Mt Ft xt ht (WC LG' 200 Mk Fk xk hk (BC LG' (300 + 5 * (nb + 1)) 0 0 0 0 0 (fun _ => 0) (fun _ => 0) (fun _ => 0) (fun _ => 0) (va_up (BC LG' (300 + 5 * nb) n n cs' (pAll T n).2.2.length (freeC 0 (pAll T n).2.2) T' cd' wt' en' C) 0 (some (mainC LG' (sc 0) (nb + 1))))))) 0 = some (mainC LG' (sc 0) (nb + 1)) := (WC_out (by omega)).trans ((WC_out (by omega)).trans ((WC_out (by omega)).trans ((BC_out (by omega)).trans (if_pos rfl))))
    have w0' : OW LG' (WC LG' 100 M F ex (some (300 + 5 * nb)) (WC LG' 150 Mt Ft xt ht (WC LG' 200 Mk Fk xk hk (BC LG' (300 + 5 * (nb + 1)) 0 0 0 0 0 (fun _ => 0) (fun _ => 0) (fun _ => 0) (fun _ => 0) (va_up (BC LG' (300 + 5 * nb) n n cs' (pAll T n).2.2.length (freeC 0 (pAll T n).2.2) T' cd' wt' en' C) 0 (some (mainC LG' (sc 0) (nb + 1)))))))) 100 M F ex (some (300 + 5 * nb)) := OW_W
    have w1' : OW LG' (WC LG' 100 M F ex (some (300 + 5 * nb)) (WC LG' 150 Mt Ft xt ht (WC LG' 200 Mk Fk xk hk (BC LG' (300 + 5 * (nb + 1)) 0 0 0 0 0 (fun _ => 0) (fun _ => 0) (fun _ => 0) (fun _ => 0) (va_up (BC LG' (300 + 5 * nb) n n cs' (pAll T n).2.2.length (freeC 0 (pAll T n).2.2) T' cd' wt' en' C) 0 (some (mainC LG' (sc 0) (nb + 1)))))))) 150 Mt Ft xt ht := fun q hq => (WC_out (by omega)).trans (WC_k q hq)
    have w2' : OW LG' (WC LG' 100 M F ex (some (300 + 5 * nb)) (WC LG' 150 Mt Ft xt ht (WC LG' 200 Mk Fk xk hk (BC LG' (300 + 5 * (nb + 1)) 0 0 0 0 0 (fun _ => 0) (fun _ => 0) (fun _ => 0) (fun _ => 0) (va_up (BC LG' (300 + 5 * nb) n n cs' (pAll T n).2.2.length (freeC 0 (pAll T n).2.2) T' cd' wt' en' C) 0 (some (mainC LG' (sc 0) (nb + 1)))))))) 200 Mk Fk xk hk := fun q hq => (WC_out (by omega)).trans ((WC_out (by omega)).trans (WC_k q hq))
    revert hL hC hB hN hM0 w0' w1' w2'
    rw [GW]
    generalize WC LG' 100 M F ex (some (300 + 5 * nb)) (WC LG' 150 Mt Ft xt ht (WC LG' 200 Mk Fk xk hk (BC LG' (300 + 5 * (nb + 1)) 0 0 0 0 0 (fun _ => 0) (fun _ => 0) (fun _ => 0) (fun _ => 0) (va_up (BC LG' (300 + 5 * nb) n n cs' (pAll T n).2.2.length (freeC 0 (pAll T n).2.2) T' cd' wt' en' C) 0 (some (mainC LG' (sc 0) (nb + 1))))))) = C'
    intro hL hC hB hN hM0 w0' w1' w2'
    have rg' : RG LG' C' b sc ar lg := RG_fr (fun r r1 r2 => hx _ (by omega)) (fun r r1 r2 => hC _ (by omega)) (RS_RG rs)
    have hcb : CB (pAll T n).2.2 := pAll_cb hn100 (T := T) (k := (pAll T n).2.1) (by rw [← ht'])
    have ez1 : z'.1 = z.1 + 5 := by rw [ez]
    have ez2 : z'.2 = z.2 + 230 := by rw [ez]
    refine H _ _ ⟨MS_of hL.1 (hG S hp.2.1) rg', fun Q2 hQ => ?_⟩
    rw [toM hL.1 rg']
    refine m_bridge (d := d + 19) mi.2.1 hn100 mi.2.2.2.1 hn mi.1 (fun g => absurd g (by omega)) (fun _ g => ?_) (fun _ g sc' ar' sw => ?_)
    · rw [hpa, g] at ht'
      exact absurd ht' (by decide)
    · have ps0 : PS LG' C' x0 (nb + 1) 0 (va_up (va_up sc 1 0) 2 (nI (nb + 1))) (brA ar nb n) lg := by
        refine ⟨(hx 0 (by omega)).trans p0, hM0, ⟨Mk, Fk, xk, hk, w2', BR_s (by omega) bk2, fun g => ?_⟩, ⟨0, 0, 0, 0, _, _, _, _, hN, fun q hq => by omega⟩, fun j hj => ?_, TG_fr (hx 2 (by omega)) (hC _ (by omega)) (hC _ (by omega)) p5, TPG_fr (fun r hr => hx _ (by omega)) (fun r r1 r2 => hC _ (by omega)) p6⟩
        · obtain ⟨c, k1, k2, k3, s1, s2, s3, s4⟩ := hkk g
          exact ⟨c, k1, k2, k3, s1, s2, s3, HR_s (by omega) s4⟩
        · show ∃ cl m, BrC LG' C' (300 + 5 * j) cl ∧ m ≤ 100 ∧ upd (ar 6) nb (nI n) j = nI m ∧ pAll (fun k => rcp nb (ar 4) (ar 5) n (100 * j + k)) m = (true, m, cl)
          by_cases ej : j = nb
          · subst ej
            refine ⟨(pAll T n).2.2, n, ⟨nI n, nI n, nI cs', cd', wt', en', hB 0 (by decide), hB 2 (by decide), hB 3 (by decide), hB 4 (by decide), hcb.1, hok⟩, hn100, pk_us, ?_⟩
            have : pAll (fun k => rcp j (ar 4) (ar 5) n (100 * j + k)) n = pAll T n := by
              rw [hpa]
              refine pAll_cg (fun q hq => ?_)
              show (if 100 * j ≤ 100 * j + q ∧ 100 * j + q < 100 * j + n then ar 4 (100 * j + q - 100 * j) else ar 5 (100 * j + q)) = ar 4 q
              rw [if_pos (by omega), Nat.add_sub_cancel_left]
            rw [this]
            rcases hq : pAll T n with ⟨o, m, cl⟩
            rw [hq] at ht' hon
            simp only at ht' hon ⊢
            rw [ht', hon]
          · obtain ⟨cl, m, q1, q2, q3, q4⟩ := p4 j (by omega)
            refine ⟨cl, m, BrC_of (fun q hq => hC _ (by omega)) (BrC_x (fun q hq => hx _ (by omega)) q1), q2, (pk_un ej).trans q3, ?_⟩
            rw [← q4]
            refine pAll_cg (fun q hq => ?_)
            show (if 100 * nb ≤ 100 * j + q ∧ 100 * j + q < 100 * nb + n then ar 4 (100 * j + q - 100 * nb) else ar 5 (100 * j + q)) = ar 5 (100 * j + q)
            rw [if_neg (by omega)]
      have mi0 : MI (brA ar nb n) (va_up (va_up sc 1 0) 2 (nI (nb + 1))) (nb + 1) 0 := ⟨mi.1, rfl, by omega, rfl, by omega⟩
      obtain ⟨c, k1, k2, k3, sl, wi, hex, hr⟩ := dt
      have s70 := SL_70 (x := nI (nb + 1)) wi
      refine hQ _ (PS_end (M := M) (F := F) (ex := ex) (hd := some (300 + 5 * nb)) ⟨hL, hG S hp.2.1, by omega, by omega⟩ w0' ⟨Mt, Ft, xt, ht, w1', BR_s (by omega) bt1⟩ (PS_SW ps0 sw) rg' (MI_SW mi0 sw) ⟨c, k1, k2, k3, ?_, ?_, hex, ?_⟩)
      · rw [SW_1 sw]
        exact SL_trans sl (SL_symm s70)
      · rw [SW_1 sw]
        exact SL_WI s70 wi
      · rw [SW_1 sw]
        exact Or.inr ⟨nb, by omega, rfl, (pk_us : upd (ar 1) 70 (nI (nb + 1)) 70 = nI (nb + 1))⟩
end
