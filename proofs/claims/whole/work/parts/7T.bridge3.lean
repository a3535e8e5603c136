/-! Bridge: the class. -/
theorem pAll_le (T : Nat → Int32) (n : Nat) : (pAll T n).2.1 ≤ n := by
  unfold pAll
  have a1 := pCl_adv T n 0 (by omega)
  generalize pCl T n 0 = r1 at a1
  obtain ⟨o1, a1', c1⟩ := r1
  cases o1 with
  | false => exact a1.2
  | true =>
    have a2 := pCls_adv T n 9 a1' a1.2
    show (match pCls T n 9 a1' with
      | (o, a2, l) => ((o && decide (a2 = n), a2, c1 :: l) : Bool × Nat × List Cls)).2.1 ≤ n
    generalize pCls T n 9 a1' = r2 at a2
    obtain ⟨o2, a2', c2⟩ := r2
    exact a2.2
section
variable {LG gr : Nat → Nat} {M F Mt Ft Mk Fk : Nat → Int32} {ex xt xk : Nat → Bool} {hd ht hk : Option Nat} {D G : Nat → Option AE} {z : Nat × Nat}
variable {n a cs k : Nat} {fr : Int32} {T cd wt en : Nat → Int32}
theorem BC_up {r q : Nat} {e : AE} (h : q < r ∨ r + 5 ≤ q) : va_up (BC LG r n a cs k fr T cd wt en D) q (some e) = BC LG r n a cs k fr T cd wt en (va_up D q (some e)) := by
  funext p
  simp only [va_up]
  by_cases h1 : p = q
  · subst h1
    rw [if_pos rfl, BC_out h]
    exact (if_pos rfl).symm
  · rw [if_neg h1]
    by_cases h2 : p < r ∨ r + 5 ≤ p
    · rw [BC_out h2, BC_out h2]
      exact (if_neg h1).symm
    · obtain ⟨j, hj, rfl⟩ : ∃ j, j < 5 ∧ p = r + j := ⟨p - r, by omega, by omega⟩
      rw [BC_k j hj, BC_k j hj]
variable {V : Nat → Option AE} {Ev : Nat → Value} {d nb BIG : Nat} {kf : Int32} {Q : Option Value → HS → Prop}
theorem c_bridge (hL : LV LG gr (WC LG 100 M F ex hd (WC LG 150 Mt Ft xt ht (WC LG 200 Mk Fk xk hk (BC LG (300 + 5 * nb) n a cs k fr T cd wt en D)))) z BIG) (hz : z.1 + 5 ≤ BIG) (hm : DM LG D kf nb) (hnb : nb ≤ 6) (hbo : ∀ r, ht = some r ∨ hk = some r → r < 305 + 5 * nb ∨ 310 + 5 * nb ≤ r) (hE : ES5 V Ev LG gr G z) (hn : n ≤ 100) (hch : ∀ k, k < n → ∃ q, q < 128 ∧ T k = nI q)
    (H6 : nb = 6 → Q (some (.int (-4))) (GW LG gr 100 M F ex hd (WC LG 150 Mt Ft xt ht (WC LG 200 Mk Fk xk hk (BC LG (300 + 5 * nb) n a cs k fr T cd wt en D))) G z))
    (H0 : nb < 6 → (pAll T n).1 = false → ∀ a' cs' k' fr' T' cd' wt' en', Q (some (.int (-10 - nI (pAll T n).2.1))) (GW LG gr 100 M F ex hd (WC LG 150 Mt Ft xt ht (WC LG 200 Mk Fk xk hk (BC LG (300 + 5 * nb) 0 a' cs' k' fr' T' cd' wt' en' D))) G z))
    (H1 : nb < 6 → (pAll T n).1 = true → (pAll T n).2.1 = n → ∀ LG' gr' G' z' cs' T' cd' wt' en', (∀ q, q < 305 + 5 * nb ∨ 310 + 5 * nb ≤ q → LG' q = LG q) → LV LG' gr' (WC LG' 100 M F ex (some (300 + 5 * nb)) (WC LG' 150 Mt Ft xt ht (WC LG' 200 Mk Fk xk hk (BC LG' (300 + 5 * (nb + 1)) 0 0 0 0 0 (fun _ => 0) (fun _ => 0) (fun _ => 0) (fun _ => 0) (va_up (BC LG' (300 + 5 * nb) n n cs' (pAll T n).2.2.length (freeC 0 (pAll T n).2.2) T' cd' wt' en' D) 0 (some (mainC LG' kf (nb + 1)))))))) z' BIG → (∀ S, GN S LG G z → GN S LG' G' z') → z' = (z.1 + 5, z.2 + 230) → cOK cd' wt' en' (pAll T n).2.2 0 0 → Q (some (.int (nI nb))) (GW LG' gr' 100 M F ex (some (300 + 5 * nb)) (WC LG' 150 Mt Ft xt ht (WC LG' 200 Mk Fk xk hk (BC LG' (300 + 5 * (nb + 1)) 0 0 0 0 0 (fun _ => 0) (fun _ => 0) (fun _ => 0) (fun _ => 0) (va_up (BC LG' (300 + 5 * nb) n n cs' (pAll T n).2.2.length (freeC 0 (pAll T n).2.2) T' cd' wt' en' D) 0 (some (mainC LG' kf (nb + 1))))))) G' z')) : WP V (cdT Ev) mx (d + 25) 77 [.ref (LG 0)] (GW LG gr 100 M F ex hd (WC LG 150 Mt Ft xt ht (WC LG 200 Mk Fk xk hk (BC LG (300 + 5 * nb) n a cs k fr T cd wt en D))) G z) Q := by
  have hg := hL.1
  have out3 : ∀ (LG : Nat → Nat) (hd : Option Nat) (r n a cs k : Nat) (fr : Int32) (T cd wt en : Nat → Int32) (D : Nat → Option AE), 300 ≤ r → WC LG 100 M F ex hd (WC LG 150 Mt Ft xt ht (WC LG 200 Mk Fk xk hk (BC LG r n a cs k fr T cd wt en D))) = BC LG r n a cs k fr T cd wt en (WC LG 100 M F ex hd (WC LG 150 Mt Ft xt ht (WC LG 200 Mk Fk xk hk D))) := by
    intro LG hd r n a cs k fr T cd wt en D h
    rw [WC_BC (by omega), WC_BC (by omega), WC_BC (by omega)]
  have hmB : ∀ (hd : Option Nat) (n a cs k : Nat) (fr : Int32) (T cd wt en : Nat → Int32), DM LG (WC LG 100 M F ex hd (WC LG 150 Mt Ft xt ht (WC LG 200 Mk Fk xk hk (BC LG (300 + 5 * nb) n a cs k fr T cd wt en D)))) kf nb := fun hd n a cs k fr T cd wt en => DM_fw (DM_BC (by omega) hm)
  rw [e_77]
  by_cases h6 : nb = 6
  · have := H6 h6
    subst h6
    simp only [s_77_0, s_77_1, s_77_4, s_77_6, s_77_9, s_77_11, ↓reduceIte, eq_self, rts_some, rts_none, nq_int, nq_ref, nq_null, nq_none, okr1_0, okr1_1, okr_b, List.length_nil, List.length_cons, Nat.zero_le, Nat.reduceAdd, Nat.reduceLeDiff, b2i_0, b2i_n0, b2i_1, b2i_n1, ite_not, if_true, if_false, not_true_eq_false, not_false_eq_true, true_and, and_true, false_and, and_false, dg_5 hg (hmB _ _ _ _ _ _ _ _ _ _), show (nI 6 < 6) = False from by decide]
    exact this
  · have hl6 : (nI nb < 6) = True := eq_true (nI_lt (a := nb) (b := 6) (by omega) (by decide))
    have cvb : ∀ K : Nat → Prop, cv [(0, 2)] (GW LG gr 100 M F ex hd (WC LG 150 Mt Ft xt ht (WC LG 200 Mk Fk xk hk (BC LG (300 + 5 * nb) n a cs k fr T cd wt en D))) G z) (LG (300 + 5 * nb)) K = K 2 := by
      intro K
      rw [GW, out3 _ _ _ _ _ _ _ _ _ _ _ _ _ (by omega)]
      exact bcv hg
    simp only [s_77_0, s_77_1, s_77_4, s_77_6, s_77_12, s_77_13, s_77_16, ↓reduceIte, eq_self, rts_some, rts_none, nq_int, nq_ref, nq_null, nq_none, okr1_0, okr1_1, okr_b, List.length_nil, List.length_cons, Nat.zero_le, Nat.reduceAdd, Nat.reduceLeDiff, b2i_0, b2i_n0, b2i_1, b2i_n1, ite_not, if_true, if_false, not_true_eq_false, not_false_eq_true, true_and, and_true, false_and, and_false, dg_5 hg (hmB _ _ _ _ _ _ _ _ _ _), dg_4 hg (hmB _ _ _ _ _ _ _ _ _ _), hl6, cvb]
    rw [GW, out3 _ _ _ _ _ _ _ _ _ _ _ _ _ (by omega)]
    refine c_fault hg hE hn hch (fun ho hon cs' cd' wt' en' hok => ?_) (fun ho cs' k' fr' cd' wt' en' => ?_)
    · -- a new bridge holds
      have H1' := H1 (by omega) ho hon
      generalize pAll T n = pa at H1' hok
      obtain ⟨po, pn, cl⟩ := pa
      simp only at H1' hok ⊢
      rw [← out3 _ _ _ _ _ _ _ _ _ _ _ _ _ (by omega)]
      have r9 : ∀ K : HS → Prop, pf [10] 9 2 (.ref (LG (300 + 5 * nb))) (GH LG gr (WC LG 100 M F ex hd (WC LG 150 Mt Ft xt ht (WC LG 200 Mk Fk xk hk (BC LG (300 + 5 * nb) n n cs' cl.length (freeC 0 cl) (upd T n 0) cd' wt' en' D)))) G z) (LG 100) K = K (GH LG gr (WC LG 100 M F ex (some (300 + 5 * nb)) (WC LG 150 Mt Ft xt ht (WC LG 200 Mk Fk xk hk (BC LG (300 + 5 * nb) n n cs' cl.length (freeC 0 cl) (upd T n 0) cd' wt' en' D)))) G z) := fun K => wp_9 (hd' := some (300 + 5 * nb)) hg
      have hLo : LV LG gr (WC LG 100 M F ex (some (300 + 5 * nb)) (WC LG 150 Mt Ft xt ht (WC LG 200 Mk Fk xk hk (BC LG (300 + 5 * nb) n n cs' cl.length (freeC 0 cl) (upd T n 0) cd' wt' en' D)))) z BIG := by
        have := LV_dom (M' := M) (F' := F) (hd' := some (300 + 5 * nb)) (fun _ _ _ => rfl) hL
        rw [out3 _ _ _ _ _ _ _ _ _ _ _ _ _ (by omega)] at this ⊢
        exact LV_BC this
      generalize eU : upd T n 0 = U at *
      have hlen : (brL z.1).length = 5 := rfl
      have hsl : slN (brL z.1) = 230 := rfl
      -- the new cells take their roles
      have hlg1 : ∀ q, q < 305 + 5 * nb ∨ 310 + 5 * nb ≤ q → LGb LG (305 + 5 * nb) 5 z.1 q = LG q := fun q hq => LGb_o (by omega)
      have hlg1' := hlg1
      have hbs : ∀ r, ht = some r ∨ hk = some r → r < 305 + 5 * nb ∨ 310 + 5 * nb ≤ r := hbo
      have hlgi : ∀ j, j < 5 → LGb LG (305 + 5 * nb) 5 z.1 (305 + 5 * nb + j) = z.1 + j := fun j hj => LGb_i hj
      have hC : ∀ q e, BC (LGb LG (305 + 5 * nb) 5 z.1) (305 + 5 * nb) 0 0 0 0 0 (fun _ => 0) (fun _ => 0) (fun _ => 0) (fun _ => 0) (WC LG 100 M F ex (some (300 + 5 * nb)) (WC LG 150 Mt Ft xt ht (WC LG 200 Mk Fk xk hk (BC LG (300 + 5 * nb) n n cs' cl.length (freeC 0 cl) U cd' wt' en' D)))) q = some e → (305 + 5 * nb ≤ q ∧ q < 305 + 5 * nb + (brL z.1).length ∧ ∃ x, (brL z.1)[q - (305 + 5 * nb)]? = some x ∧ x.1 = e) ∨ ((q < 305 + 5 * nb ∨ 305 + 5 * nb + (brL z.1).length ≤ q) ∧ WC LG 100 M F ex (some (300 + 5 * nb)) (WC LG 150 Mt Ft xt ht (WC LG 200 Mk Fk xk hk (BC LG (300 + 5 * nb) n n cs' cl.length (freeC 0 cl) U cd' wt' en' D))) q = some e) := by
        intro q e he
        by_cases h2 : q < 305 + 5 * nb ∨ 305 + 5 * nb + 5 ≤ q
        · rw [BC_out h2] at he
          exact Or.inr ⟨h2, he⟩
        · refine Or.inl ⟨by omega, by rw [hlen]; omega, ?_⟩
          obtain ⟨j, hj, rfl⟩ : ∃ j, j < 5 ∧ q = 305 + 5 * nb + j := ⟨q - (305 + 5 * nb), by omega, by omega⟩
          rw [BC_k j hj] at he
          rw [Nat.add_sub_cancel_left]
          match j, hj with
          | 0, _ =>
            simp only [bcl, hlgi 1 (by decide), hlgi 2 (by decide), hlgi 3 (by decide), hlgi 4 (by decide)] at he
            refine ⟨_, rfl, ?_⟩
            exact Option.some.inj he
          | 1, _ => exact ⟨_, rfl, Option.some.inj he⟩
          | 2, _ => exact ⟨_, rfl, Option.some.inj he⟩
          | 3, _ => exact ⟨_, rfl, Option.some.inj he⟩
          | 4, _ => exact ⟨_, rfl, Option.some.inj he⟩
          | j + 5, h => exact absurd h (by omega)
      obtain ⟨G1, b1, b2, b3⟩ := blk (G := G) hLo (by rw [hlen]; exact hz) hC
      rw [hlen, hsl] at b1 b2 b3
      have ini := fun (Q : Option Value → HS → Prop) => c_brInit (V := V) (Ev := Ev) (d := d + 23) (Q := Q) (h := GH LG gr (WC LG 100 M F ex (some (300 + 5 * nb)) (WC LG 150 Mt Ft xt ht (WC LG 200 Mk Fk xk hk (BC LG (300 + 5 * nb) n n cs' cl.length (freeC 0 cl) U cd' wt' en' D)))) G z)
      have hsz : (GH LG gr (WC LG 100 M F ex (some (300 + 5 * nb)) (WC LG 150 Mt Ft xt ht (WC LG 200 Mk Fk xk hk (BC LG (300 + 5 * nb) n n cs' cl.length (freeC 0 cl) U cd' wt' en' D)))) G z).2.1 = z.1 := rfl
      rw [hsz] at ini
      have l9 : [Value.null, Value.int 0, Value.int 0, Value.null, Value.int 0, Value.null, Value.null, Value.int 0, Value.int 0].length = 9 := rfl
      simp only [s_77_19, s_77_20, s_77_21, s_77_37, s_77_38, s_77_41, s_77_42, s_77_45, s_77_48, s_77_49, s_77_52, s_77_53, ↓reduceIte, eq_self, rts_some, rts_none, nq_int, nq_ref, nq_null, nq_none, okr1_0, okr1_1, okr_b, List.length_nil, List.length_cons, Nat.zero_le, Nat.reduceAdd, Nat.reduceLeDiff, b2i_0, b2i_n0, b2i_1, b2i_n1, ite_not, if_true, if_false, not_true_eq_false, not_false_eq_true, true_and, and_true, false_and, and_false, show ((-1 : Int32) < 0) = True from by decide, dg_0 hg (hmB _ _ _ _ _ _ _ _ _ _), dg_4 hg (hmB _ _ _ _ _ _ _ _ _ _), r9, is1_r, hsz, ini, b1]
      have ez : z.1 = LGb LG (305 + 5 * nb) 5 z.1 (300 + 5 * (nb + 1)) := by
        have := hlgi 0 (by decide)
        rw [show 300 + 5 * (nb + 1) = 305 + 5 * nb + 0 by omega, this]
        rfl
      have e0 : LG 0 = LGb LG (305 + 5 * nb) 5 z.1 0 := (hlg1 0 (by omega)).symm
      rw [e0]
      have hm' : DM (LGb LG (305 + 5 * nb) 5 z.1) D kf nb := by
        unfold DM
        rw [hlg1 100 (by omega), hlg1 150 (by omega), hlg1 200 (by omega), hlg1 (300 + 5 * nb) (by omega), hlg1 1 (by omega), hlg1 3 (by omega), hlg1 4 (by omega), hlg1 5 (by omega)]
        exact hm
      have w1 : BC LG (300 + 5 * nb) n n cs' cl.length (freeC 0 cl) U cd' wt' en' D = BC (LGb LG (305 + 5 * nb) 5 z.1) (300 + 5 * nb) n n cs' cl.length (freeC 0 cl) U cd' wt' en' D := (BC_LG (fun j hj => hlg1 _ (by omega))).symm
      have wb : ∀ (B : Nat) (Mz Fz : Nat → Int32) (xz : Nat → Bool) (hz : Option Nat) (X : Nat → Option AE), B + 25 ≤ 300 → (∀ r, hz = some r → LGb LG (305 + 5 * nb) 5 z.1 r = LG r) → WC LG B Mz Fz xz hz X = WC (LGb LG (305 + 5 * nb) 5 z.1) B Mz Fz xz hz X := fun B Mz Fz xz hz X hB hh => (WC_LG (fun q hq => hlg1 _ (by omega)) hh).symm
      have wall : WC LG 100 M F ex (some (300 + 5 * nb)) (WC LG 150 Mt Ft xt ht (WC LG 200 Mk Fk xk hk (BC LG (300 + 5 * nb) n n cs' cl.length (freeC 0 cl) U cd' wt' en' D))) = WC (LGb LG (305 + 5 * nb) 5 z.1) 100 M F ex (some (300 + 5 * nb)) (WC (LGb LG (305 + 5 * nb) 5 z.1) 150 Mt Ft xt ht (WC (LGb LG (305 + 5 * nb) 5 z.1) 200 Mk Fk xk hk (BC (LGb LG (305 + 5 * nb) 5 z.1) (300 + 5 * nb) n n cs' cl.length (freeC 0 cl) U cd' wt' en' D))) := by
        rw [w1, wb 200 _ _ _ _ _ (by decide) (fun r hr => hlg1 r (hbs r (Or.inr hr))), wb 150 _ _ _ _ _ (by decide) (fun r hr => hlg1 r (hbs r (Or.inl hr))), wb 100 _ _ _ _ _ (by decide) (fun r hr => hlg1 r (by cases hr; omega))]
      rw [wall] at b2 ⊢
      generalize eL : LGb LG (305 + 5 * nb) 5 z.1 = L' at *
      generalize grb gr (305 + 5 * nb) 5 z.1 = g' at *
      have hg' := b2.1
      rw [show 305 + 5 * nb = 300 + 5 * (nb + 1) by omega] at b2 ⊢
      have hm2 : ∀ X, DM L' (BC L' (300 + 5 * (nb + 1)) 0 0 0 0 0 (fun _ => 0) (fun _ => 0) (fun _ => 0) (fun _ => 0) (WC L' 100 M F ex (some (300 + 5 * nb)) (WC L' 150 Mt Ft xt ht (WC L' 200 Mk Fk xk hk (BC L' (300 + 5 * nb) n n cs' cl.length (freeC 0 cl) U cd' wt' en' D))))) kf nb ∨ X := fun X => Or.inl (DM_BC (by omega) (DM_fw (DM_BC (by omega) hm')))
      have hm2' := (hm2 False).resolve_right id
      generalize eX : BC L' (300 + 5 * (nb + 1)) 0 0 0 0 0 (fun _ => 0) (fun _ => 0) (fun _ => 0) (fun _ => 0) (WC L' 100 M F ex (some (300 + 5 * nb)) (WC L' 150 Mt Ft xt ht (WC L' 200 Mk Fk xk hk (BC L' (300 + 5 * nb) n n cs' cl.length (freeC 0 cl) U cd' wt' en' D)))) = X at *
      have q4 : ∀ K : HS → Prop, pf [11] 4 2 (.ref z.1) (GH L' g' X G1 (z.1 + 5, z.2 + 230)) (L' 0) K = K (GH L' g' (va_up X 0 (some (.inr (11, [.ref (L' 100), .ref (L' 150), .ref (L' 200), .int kf, .ref (L' (300 + 5 * (nb + 1))), .int (nI nb), .ref (L' 1), .ref (L' 3), .ref (L' 4), .ref (L' 5)])))) G1 (z.1 + 5, z.2 + 230)) := by
        intro K
        rw [ez, r_pf hg' hm2' (by decide) (by simp) rfl]
        rfl
      have g5 : ∀ K : Value → Prop, gf [11] 5 (GH L' g' (va_up X 0 (some (.inr (11, [.ref (L' 100), .ref (L' 150), .ref (L' 200), .int kf, .ref (L' (300 + 5 * (nb + 1))), .int (nI nb), .ref (L' 1), .ref (L' 3), .ref (L' 4), .ref (L' 5)])))) G1 (z.1 + 5, z.2 + 230)) (L' 0) K = K (.int (nI nb)) := fun K => r_gf hg' (r := 0) (if_pos rfl) (by decide) rfl
      have q5 : ∀ K : HS → Prop, pf [11] 5 0 (.int (nI (nb + 1))) (GH L' g' (va_up X 0 (some (.inr (11, [.ref (L' 100), .ref (L' 150), .ref (L' 200), .int kf, .ref (L' (300 + 5 * (nb + 1))), .int (nI nb), .ref (L' 1), .ref (L' 3), .ref (L' 4), .ref (L' 5)])))) G1 (z.1 + 5, z.2 + 230)) (L' 0) K = K (GH L' g' (va_up X 0 (some (mainC L' kf (nb + 1)))) G1 (z.1 + 5, z.2 + 230)) := by
        intro K
        rw [r_pf hg' (r := 0) (if_pos rfl) (by decide) (by simp) rfl, va_uu]
        rfl
      have g5' : ∀ K : Value → Prop, gf [11] 5 (GH L' g' (va_up X 0 (some (mainC L' kf (nb + 1)))) G1 (z.1 + 5, z.2 + 230)) (L' 0) K = K (.int (nI (nb + 1))) := fun K => r_gf hg' (r := 0) (ci := 11) (vs := [.ref (L' 100), .ref (L' 150), .ref (L' 200), .int kf, .ref (L' (300 + 5 * (nb + 1))), .int (nI (nb + 1)), .ref (L' 1), .ref (L' 3), .ref (L' 4), .ref (L' 5)]) (if_pos rfl) (by decide) rfl
      simp only [s_77_56, s_77_59, s_77_60, s_77_61, s_77_64, s_77_65, s_77_66, s_77_69, s_77_70, s_77_73, s_77_74, s_77_75, ↓reduceIte, eq_self, rts_some, rts_none, nq_int, nq_ref, nq_null, nq_none, okr1_0, okr1_1, okr_b, List.length_nil, List.length_cons, Nat.zero_le, Nat.reduceAdd, Nat.reduceLeDiff, b2i_0, b2i_n0, b2i_1, b2i_n1, ite_not, if_true, if_false, not_true_eq_false, not_false_eq_true, true_and, and_true, false_and, and_false, q4, is1_r, g5, nI_1, q5, g5', nI_pred]
      have eF : va_up X 0 (some (mainC L' kf (nb + 1))) = WC L' 100 M F ex (some (300 + 5 * nb)) (WC L' 150 Mt Ft xt ht (WC L' 200 Mk Fk xk hk (BC L' (300 + 5 * (nb + 1)) 0 0 0 0 0 (fun _ => 0) (fun _ => 0) (fun _ => 0) (fun _ => 0) (va_up (BC L' (300 + 5 * nb) n n cs' cl.length (freeC 0 cl) U cd' wt' en' D) 0 (some (mainC L' kf (nb + 1))))))) := by
        rw [← eX, BC_up (by omega), WC_up (by decide), WC_up (by decide), WC_up (by decide), out3 _ _ _ _ _ _ _ _ _ _ _ _ _ (by omega)]
      rw [eF]
      refine H1' L' g' G1 (z.1 + 5, z.2 + 230) cs' U cd' wt' en' (fun q hq => hlg1' q hq) ?_ b3 rfl hok
      rw [← eF]
      refine ⟨b2.1, b2.2.1, fun q e he => ?_⟩
      by_cases h0 : q = 0
      · subst h0
        exact b2.2.2 0 _ hm2'
      · refine b2.2.2 q e ?_
        unfold va_up at he
        rw [if_neg h0] at he
        exact he
    · -- it is faulty
      have H0' := H0 (by omega) ho (pAll T n).2.1 cs' k' fr' (upd T n 0) cd' wt' en'
      have adv := pAll_le T n
      rw [GW, out3 _ _ _ _ _ _ _ _ _ _ _ _ _ (by omega)] at H0'
      have p1 : ∀ {n a cs k : Nat} {fr : Int32} {T cd wt en : Nat → Int32} {C : Nat → Option AE} {K : HS → Prop}, pf [0] 1 0 (.int 0) (GH LG gr (BC LG (300 + 5 * nb) n a cs k fr T cd wt en C) G z) (LG (300 + 5 * nb)) K = K (GH LG gr (BC LG (300 + 5 * nb) 0 a cs k fr T cd wt en C) G z) := fun {n a cs k fr T cd wt en C K} => bp_1 (x := 0) hg
      have hmF : ∀ (n a cs k : Nat) (fr : Int32) (T cd wt en : Nat → Int32), DM LG (BC LG (300 + 5 * nb) n a cs k fr T cd wt en (WC LG 100 M F ex hd (WC LG 150 Mt Ft xt ht (WC LG 200 Mk Fk xk hk D)))) kf nb := fun n a cs k fr T cd wt en => DM_BC (by omega) (DM_fw hm)
      simp only [s_77_19, s_77_20, s_77_21, s_77_24, s_77_25, s_77_28, s_77_29, s_77_32, s_77_34, s_77_35, s_77_36, ↓reduceIte, eq_self, rts_some, rts_none, nq_int, nq_ref, nq_null, nq_none, okr1_0, okr1_1, okr_b, List.length_nil, List.length_cons, Nat.zero_le, Nat.reduceAdd, Nat.reduceLeDiff, b2i_0, b2i_n0, b2i_1, b2i_n1, ite_not, if_true, if_false, not_true_eq_false, not_false_eq_true, true_and, and_true, false_and, and_false, eq_false (nI_pos (show (pAll T n).2.1 < 2 ^ 31 by omega)), dg_4 hg (hmF _ _ _ _ _ _ _ _ _), p1]
      exact H0'
end
