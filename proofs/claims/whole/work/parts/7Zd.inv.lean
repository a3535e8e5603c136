/-! The state of class and reference together. -/
/-- those that may hold: bridges below the one that is fed -/
def BR (nb : Nat) (hh : Option Nat) : Prop := ∀ r, hh = some r → ∃ j, j < nb ∧ r = 300 + 5 * j
def HR (nb : Nat) (hh : Option Nat) (x : Int32) : Prop := (hh = none ∧ x = 0) ∨ ∃ j, j < nb ∧ hh = some (300 + 5 * j) ∧ x = nI (j + 1)
def W1 (LG : Nat → Nat) (C : Nat → Option AE) (nb : Nat) : Prop := ∃ Mt Ft xt ht, OW LG C 150 Mt Ft xt ht ∧ BR nb ht
def W2 (LG : Nat → Nat) (C : Nat → Option AE) (nb : Nat) (kf : Int32) (N3 : Nat → Int32) : Prop := ∃ Mk Fk xk hk, OW LG C 200 Mk Fk xk hk ∧ BR nb hk ∧ (¬ kf = 0 → ∃ c k1 k2 k3, SL Mk N3 c k1 k2 k3 ∧ WI N3 c k1 k2 k3 ∧ (∀ i, i < c → xk i = true) ∧ HR nb hk (N3 70))
def BX (LG : Nat → Nat) (C : Nat → Option AE) (nb n : Nat) (A4 : Nat → Int32) : Prop := ∃ a cs k fr T cd wt en, (∀ j, j < 5 → C (300 + 5 * nb + j) = bcl LG (300 + 5 * nb) n a cs k fr T cd wt en j) ∧ ∀ q, q < n → T q = A4 q ∧ ∃ x, x < 128 ∧ T q = nI x
def BS (LG : Nat → Nat) (C : Nat → Option AE) (nb : Nat) (A5 A6 : Nat → Int32) : Prop := ∀ j, j < nb → ∃ cl m, BrC LG C (300 + 5 * j) cl ∧ m ≤ 100 ∧ A6 j = nI m ∧ pAll (fun k => A5 (100 * j + k)) m = (true, m, cl)
def TG (LG : Nat → Nat) (C : Nat → Option AE) (A15 : Nat → Int32) (s9 : Int32) : Prop := ∃ n, C 1 = some (.inr (9, [.ref (LG 2), .int (nI n)])) ∧ C 2 = some (.inl (2, 20, .inl A15)) ∧ s9 = nI n ∧ n < 2 ^ 20
def TPG (LG : Nat → Nat) (C : Nat → Option AE) (A16 A17 : Nat → Int32) (L18 : Nat → Int64) : Prop := ∃ ts tz rw, TF LG C ts tz rw ∧ TQ ts tz ∧ TPok A16 A17 ∧ (∀ t, t < 6 → ts t = A16 t ∧ tz t = A17 t) ∧ ∀ t, t < 6 → ∀ k, k < (tz t).toNatClampNeg → rw t k = L18 (60 * t + k)
def RG (LG : Nat → Nat) (C : Nat → Option AE) (b : Nat) (sc : Nat → Int32) (ar : Nat → Nat → Int32) (lg : Nat → Nat → Int64) : Prop := ∀ k, k < 20 → LG (400 + k) = b + k ∧ C (400 + k) = mcl b sc ar lg k
/-- all but the world now and the trial world -/
def RS (LG : Nat → Nat) (C : Nat → Option AE) (x0 nb n b : Nat) (sc : Nat → Int32) (ar : Nat → Nat → Int32) (lg : Nat → Nat → Int64) : Prop := LG 0 = x0 ∧ DM LG C (sc 0) nb ∧ W2 LG C nb (sc 0) (ar 3) ∧ BX LG C nb n (ar 4) ∧ BS LG C nb (ar 5) (ar 6) ∧ TG LG C (ar 15) (sc 9) ∧ TPG LG C (ar 16) (ar 17) (lg 18) ∧ RG LG C b sc ar lg
def MI (ar : Nat → Nat → Int32) (sc : Nat → Int32) (nb n : Nat) : Prop := N8 ar ∧ sc 1 = nI n ∧ n ≤ 100 ∧ sc 2 = nI nb ∧ nb ≤ 6
def DT (M N : Nat → Int32) (ex : Nat → Bool) (hd : Option Nat) (nb : Nat) : Prop := ∃ c k1 k2 k3, SL M N c k1 k2 k3 ∧ WI N c k1 k2 k3 ∧ (∀ i, i < c → ex i = true) ∧ HR nb hd (N 70)
def HP (BIG S Z1 Z2 : Nat) (LG gr : Nat → Nat) (C G : Nat → Option AE) (z : Nat × Nat) : Prop := LV LG gr C z BIG ∧ GN S LG G z ∧ z.1 ≤ Z1 ∧ z.2 ≤ Z2
def INV (x0 b BIG S Z1 Z2 : Nat) (h : HS) : Prop := ∃ LG gr C G z M F ex hd nb n sc ar lg, h = GH LG gr C G z ∧ HP BIG S Z1 Z2 LG gr C G z ∧ OW LG C 100 M F ex hd ∧ W1 LG C nb ∧ RS LG C x0 nb n b sc ar lg ∧ MI ar sc nb n ∧ DT M (ar 1) ex hd nb
section
variable {LG LG' : Nat → Nat} {C C' : Nat → Option AE} {x0 nb n b : Nat} {sc : Nat → Int32} {ar : Nat → Nat → Int32} {lg : Nat → Nat → Int64}
theorem BR_bR {hh : Option Nat} (hn : nb ≤ 6) (h : BR nb hh) : bR hh := fun r hr => by
  obtain ⟨j, hj, e⟩ := h r hr
  omega
theorem HR_BR {hh : Option Nat} {x : Int32} (h : HR nb hh x) : BR nb hh := fun r hr => by
  rcases h with ⟨e, -⟩ | ⟨j, hj, e, -⟩
  · rw [e] at hr
    cases hr
  · rw [e] at hr
    cases hr
    exact ⟨j, hj, rfl⟩
theorem BR_s {nb' : Nat} {hh : Option Nat} (hn : nb ≤ nb') (h : BR nb hh) : BR nb' hh := fun r hr => by
  obtain ⟨j, hj, e⟩ := h r hr
  exact ⟨j, by omega, e⟩
theorem HR_s {nb' : Nat} {hh : Option Nat} {x : Int32} (hn : nb ≤ nb') (h : HR nb hh x) : HR nb' hh x := by
  rcases h with h | ⟨j, hj, e, g⟩
  · exact Or.inl h
  · exact Or.inr ⟨j, by omega, e, g⟩
/-- a world's cells elsewhere -/
theorem OW_fr {B : Nat} {M F : Nat → Int32} {ex : Nat → Bool} {hd : Option Nat} (hl : ∀ q, q < 25 → LG' (B + q) = LG (B + q)) (hb : ∀ r, hd = some r → LG' r = LG r) (hC : ∀ q, q < 25 → C' (B + q) = C (B + q)) (h : OW LG C B M F ex hd) : OW LG' C' B M F ex hd := fun k hk => by
  rw [hC k hk, h k hk, wcl_LG hl hb hk]
theorem W1_fr (hn : nb ≤ 6) (hl : ∀ q, q < 25 → LG' (150 + q) = LG (150 + q)) (hb : ∀ r, 300 ≤ r → r < 350 → LG' r = LG r) (hC : ∀ q, q < 25 → C' (150 + q) = C (150 + q)) (h : W1 LG C nb) : W1 LG' C' nb := by
  obtain ⟨Mt, Ft, xt, ht, h1, h2⟩ := h
  exact ⟨Mt, Ft, xt, ht, OW_fr hl (fun r hr => hb r (BR_bR hn h2 r hr).1 (BR_bR hn h2 r hr).2) hC h1, h2⟩
theorem W2_fr {kf : Int32} {N3 : Nat → Int32} (hn : nb ≤ 6) (hl : ∀ q, q < 25 → LG' (200 + q) = LG (200 + q)) (hb : ∀ r, 300 ≤ r → r < 350 → LG' r = LG r) (hC : ∀ q, q < 25 → C' (200 + q) = C (200 + q)) (h : W2 LG C nb kf N3) : W2 LG' C' nb kf N3 := by
  obtain ⟨Mt, Ft, xt, ht, h1, h2, h3⟩ := h
  exact ⟨Mt, Ft, xt, ht, OW_fr hl (fun r hr => hb r (BR_bR hn h2 r hr).1 (BR_bR hn h2 r hr).2) hC h1, h2, h3⟩
theorem bcl_LG {r n a cs k : Nat} {fr : Int32} {T cd wt en : Nat → Int32} (h : ∀ j, j < 5 → LG' (r + j) = LG (r + j)) {j : Nat} (hj : j < 5) : bcl LG' r n a cs k fr T cd wt en j = bcl LG r n a cs k fr T cd wt en j := by
  match j, hj with
  | 0, _ => simp only [bcl, h 1 (by decide), h 2 (by decide), h 3 (by decide), h 4 (by decide)]
  | 1, _ => rfl
  | 2, _ => rfl
  | 3, _ => rfl
  | 4, _ => rfl
theorem BX_fr {A4 : Nat → Int32} (hn : nb ≤ 6) (hl : ∀ r, 300 ≤ r → r < 350 → LG' r = LG r) (hC : ∀ r, 300 ≤ r → r < 350 → C' r = C r) (h : BX LG C nb n A4) : BX LG' C' nb n A4 := by
  obtain ⟨a, cs, k, fr, T, cd, wt, en, h1, h2⟩ := h
  refine ⟨a, cs, k, fr, T, cd, wt, en, fun j hj => ?_, h2⟩
  rw [hC _ (by omega) (by omega), h1 j hj, bcl_LG (fun q hq => hl _ (by omega) (by omega)) hj]
theorem BS_fr {A5 A6 : Nat → Int32} (hn : nb ≤ 6) (hl : ∀ r, 300 ≤ r → r < 300 + 5 * nb → LG' r = LG r) (hC : ∀ r, 300 ≤ r → r < 300 + 5 * nb → C' r = C r) (h : BS LG C nb A5 A6) : BS LG' C' nb A5 A6 := fun j hj => by
  obtain ⟨cl, m, h1, h2⟩ := h j hj
  exact ⟨cl, m, BrC_of (fun k hk => hC _ (by omega) (by omega)) (BrC_x (fun k hk => hl _ (by omega) (by omega)) h1), h2⟩
theorem TG_fr {A15 : Nat → Int32} {s9 : Int32} (hl : LG' 2 = LG 2) (h1 : C' 1 = C 1) (h2 : C' 2 = C 2) (h : TG LG C A15 s9) : TG LG' C' A15 s9 := by
  obtain ⟨n, g1, g2, g3⟩ := h
  exact ⟨n, by rw [h1, g1, hl], by rw [h2, g2], g3⟩
theorem TF_fr {ts tz : Nat → Int32} {rw' : Nat → Nat → Int64} (hl : ∀ r, r < 12 → LG' r = LG r) (hC : ∀ r, 3 ≤ r → r < 12 → C' r = C r) (h : TF LG C ts tz rw') : TF LG' C' ts tz rw' := by
  obtain ⟨h1, h2, h3, h4⟩ := h
  refine ⟨(hC 3 (by decide) (by decide)).trans h1, (hC 4 (by decide) (by decide)).trans h2, (hC 5 (by decide) (by decide)).trans (h3.trans ?_), fun t ht => (hC (6 + t) (by omega) (by omega)).trans (h4 t ht)⟩
  have e : (fun i => if i < 6 then some (LG' (6 + i)) else none) = fun i => if i < 6 then some (LG (6 + i)) else none := by
    funext i
    by_cases hi : i < 6
    · rw [if_pos hi, if_pos hi, hl _ (by omega)]
    · rw [if_neg hi, if_neg hi]
  rw [e]
theorem TPG_fr {A16 A17 : Nat → Int32} {L18 : Nat → Int64} (hl : ∀ r, r < 12 → LG' r = LG r) (hC : ∀ r, 3 ≤ r → r < 12 → C' r = C r) (h : TPG LG C A16 A17 L18) : TPG LG' C' A16 A17 L18 := by
  obtain ⟨ts, tz, rw', h1, h2⟩ := h
  exact ⟨ts, tz, rw', TF_fr hl hC h1, h2⟩
theorem RG_fr (hl : ∀ r, 400 ≤ r → r < 420 → LG' r = LG r) (hC : ∀ r, 400 ≤ r → r < 420 → C' r = C r) (h : RG LG C b sc ar lg) : RG LG' C' b sc ar lg := fun k hk => ⟨(hl _ (by omega) (by omega)).trans (h k hk).1, (hC _ (by omega) (by omega)).trans (h k hk).2⟩
theorem DM_fr {kf : Int32} (hl : ∀ r, (r < 12 ∨ r = 100 ∨ r = 150 ∨ r = 200 ∨ (300 ≤ r ∧ r < 350)) → LG' r = LG r) (hn : nb ≤ 6) (hC : C' 0 = C 0) (h : DM LG C kf nb) : DM LG' C' kf nb := by
  unfold DM
  rw [hl 100 (by omega), hl 150 (by omega), hl 200 (by omega), hl (300 + 5 * nb) (by omega), hl 1 (by omega), hl 3 (by omega), hl 4 (by omega), hl 5 (by omega), hC]
  exact h
theorem RS_fr (hn : nb ≤ 6) (hl : ∀ r, (r < 12 ∨ r = 100 ∨ r = 150 ∨ (200 ≤ r ∧ r < 225) ∨ (300 ≤ r ∧ r < 420)) → LG' r = LG r) (hC : ∀ r, (r < 12 ∨ (200 ≤ r ∧ r < 225) ∨ (300 ≤ r ∧ r < 420)) → C' r = C r) (h : RS LG C x0 nb n b sc ar lg) : RS LG' C' x0 nb n b sc ar lg := by
  obtain ⟨h0, h1, h2, h3, h4, h5, h6, h7⟩ := h
  exact ⟨(hl 0 (by omega)).trans h0, DM_fr (fun r hr => hl r (by omega)) hn (hC 0 (by omega)) h1, W2_fr hn (fun q hq => hl _ (by omega)) (fun r r1 r2 => hl _ (by omega)) (fun q hq => hC _ (by omega)) h2, BX_fr hn (fun r r1 r2 => hl _ (by omega)) (fun r r1 r2 => hC _ (by omega)) h3, BS_fr hn (fun r r1 r2 => hl _ (by omega)) (fun r r1 r2 => hC _ (by omega)) h4, TG_fr (hl 2 (by omega)) (hC 1 (by omega)) (hC 2 (by omega)) h5, TPG_fr (fun r hr => hl r (by omega)) (fun r r1 r2 => hC r (by omega)) h6, RG_fr (fun r r1 r2 => hl r (by omega)) (fun r r1 r2 => hC r (by omega)) h7⟩
/-- a world's cells put where they lie -/
theorem WC_own {B : Nat} {M F : Nat → Int32} {ex : Nat → Bool} {hd : Option Nat} (h : OW LG C B M F ex hd) : WC LG B M F ex hd C = C := by
  funext r
  by_cases hr : r < B ∨ B + 25 ≤ r
  · exact WC_out hr
  · obtain ⟨k, hk, rfl⟩ : ∃ k, k < 25 ∧ r = B + k := ⟨r - B, by omega, by omega⟩
    rw [WC_k k hk, h k hk]
theorem BC_own {r n a cs k : Nat} {fr : Int32} {T cd wt en : Nat → Int32} (h : ∀ j, j < 5 → C (r + j) = bcl LG r n a cs k fr T cd wt en j) : BC LG r n a cs k fr T cd wt en C = C := by
  funext q
  by_cases hr : q < r ∨ r + 5 ≤ q
  · exact BC_out hr
  · obtain ⟨j, hj, rfl⟩ : ∃ j, j < 5 ∧ q = r + j := ⟨q - r, by omega, by omega⟩
    rw [BC_k j hj, h j hj]
end
/-! To the reference and back. -/
def RC (b : Nat) (sc : Nat → Int32) (ar : Nat → Nat → Int32) (lg : Nat → Nat → Int64) (C : Nat → Option AE) : Nat → Option AE := fun r => if r < 400 then C r else if r < 420 then mcl b sc ar lg (r - 400) else C r
section
variable {LG gr : Nat → Nat} {C G : Nat → Option AE} {z : Nat × Nat} {b : Nat} {sc sc' : Nat → Int32} {ar ar' : Nat → Nat → Int32} {lg lg' : Nat → Nat → Int64}
theorem RC_k {k : Nat} (hk : k < 20) : RC b sc ar lg C (400 + k) = mcl b sc ar lg k := by
  unfold RC
  rw [if_neg (by omega), if_pos (by omega), Nat.add_sub_cancel_left]
theorem RC_o {r : Nat} (h : r < 400 ∨ 420 ≤ r) : RC b sc ar lg C r = C r := by
  unfold RC
  by_cases h1 : r < 400
  · rw [if_pos h1]
  · rw [if_neg h1, if_neg (by omega)]
theorem mcl_some {k : Nat} (hk : k < 20) : ∃ e, mcl b sc ar lg k = some e := by
  match k, hk with
  | 0, _ => exact ⟨_, rfl⟩
  | 1, _ => exact ⟨_, rfl⟩
  | 2, _ => exact ⟨_, rfl⟩
  | 3, _ => exact ⟨_, rfl⟩
  | 4, _ => exact ⟨_, rfl⟩
  | 5, _ => exact ⟨_, rfl⟩
  | 6, _ => exact ⟨_, rfl⟩
  | 7, _ => exact ⟨_, rfl⟩
  | 8, _ => exact ⟨_, rfl⟩
  | 9, _ => exact ⟨_, rfl⟩
  | 10, _ => exact ⟨_, rfl⟩
  | 11, _ => exact ⟨_, rfl⟩
  | 12, _ => exact ⟨_, rfl⟩
  | 13, _ => exact ⟨_, rfl⟩
  | 14, _ => exact ⟨_, rfl⟩
  | 15, _ => exact ⟨_, rfl⟩
  | 16, _ => exact ⟨_, rfl⟩
  | 17, _ => exact ⟨_, rfl⟩
  | 18, _ => exact ⟨_, rfl⟩
  | 19, _ => exact ⟨_, rfl⟩
  | k + 20, h => exact absurd h (by omega)
theorem toM (hg : ∀ r, gr (LG r) = r) (h : RG LG C b sc ar lg) : GH LG gr C G z = MH b sc ar lg (GH LG gr C G z).1 z := by
  refine Prod.ext (funext fun a => ?_) rfl
  by_cases ha : a < b ∨ b + 20 ≤ a
  · exact (MH_out ha).symm
  · obtain ⟨k, hk, rfl⟩ : ∃ k, k < 20 ∧ a = b + k := ⟨a - b, by omega, by omega⟩
    rw [MH_k k hk]
    obtain ⟨e, he⟩ := mcl_some (b := b) (sc := sc) (ar := ar) (lg := lg) hk
    rw [he, ← (h k hk).1]
    exact GH_at hg ((h k hk).2.trans he)
theorem ofM (hg : ∀ r, gr (LG r) = r) (h : RG LG C b sc ar lg) : MH b sc' ar' lg' (GH LG gr C G z).1 z = GH LG gr (RC b sc' ar' lg' C) G z := by
  refine Prod.ext (funext fun a => ?_) rfl
  by_cases ha : a < b ∨ b + 20 ≤ a
  · rw [MH_out ha]
    show (if LG (gr a) = a then _ else _) = if LG (gr a) = a then _ else _
    by_cases hl : LG (gr a) = a
    · have : gr a < 400 ∨ 420 ≤ gr a := by
        refine Classical.byContradiction (fun hn => ?_)
        obtain ⟨k, hk, e⟩ : ∃ k, k < 20 ∧ gr a = 400 + k := ⟨gr a - 400, by omega, by omega⟩
        rw [e, (h k hk).1] at hl
        omega
      rw [if_pos hl, if_pos hl, RC_o this]
    · rw [if_neg hl, if_neg hl]
  · obtain ⟨k, hk, rfl⟩ : ∃ k, k < 20 ∧ a = b + k := ⟨a - b, by omega, by omega⟩
    rw [MH_k k hk]
    obtain ⟨e, he⟩ := mcl_some (b := b) (sc := sc') (ar := ar') (lg := lg') hk
    rw [he, ← (h k hk).1]
    exact (GH_at hg ((RC_k hk).trans he)).symm
theorem LV_RC {BIG : Nat} (h : RG LG C b sc ar lg) (hL : LV LG gr C z BIG) : LV LG gr (RC b sc' ar' lg' C) z BIG := by
  refine ⟨hL.1, hL.2.1, fun r e he => ?_⟩
  by_cases hr : r < 400 ∨ 420 ≤ r
  · rw [RC_o hr] at he
    exact hL.2.2 r e he
  · obtain ⟨k, hk, rfl⟩ : ∃ k, k < 20 ∧ r = 400 + k := ⟨r - 400, by omega, by omega⟩
    obtain ⟨e', he'⟩ := mcl_some (b := b) (sc := sc) (ar := ar) (lg := lg) hk
    exact hL.2.2 _ e' ((h k hk).2.trans he')
theorem RG_RC (h : RG LG C b sc ar lg) : RG LG (RC b sc' ar' lg' C) b sc' ar' lg' := fun k hk => ⟨(h k hk).1, RC_k hk⟩
end
