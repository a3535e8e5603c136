/-! The law: its cases. -/
section
variable {V : Nat → Option AE} {Ev : Nat → Value} {d : Nat} {Q : Option Value → HS → Prop} {h : HS}
variable {x0 b BIG S Z1 Z2 sb L i : Nat} {xs : Nat → Int32}
theorem sc_ai {k : Nat} {K : Int32 → Prop} (hV : V (2 * sb) = some (.inl (2, L, .inl xs))) (hN : h.1 sb = none) (hk : k < L) (hL : L ≤ 3072) : ai 2 (nI k) V h sb K = K (xs k) := by
  have e : lk V h sb = some (.inl (2, L, .inl xs)) := by
    unfold lk
    rw [hN]
    exact hV
  have hx : ix (nI k) L = True := ix_nIT hk (by omega)
  unfold ai
  rw [e]
  simp only [hx, true_and, nI_clamp (show k < 2 ^ 31 by omega)]
theorem sc_ln {K : Int32 → Prop} (hV : V (2 * sb) = some (.inl (2, L, .inl xs))) (hN : h.1 sb = none) : ln V h sb K = K (nI L) := by
  have e : lk V h sb = some (.inl (2, L, .inl xs)) := by
    unfold lk
    rw [hN]
    exact hV
  unfold ln
  rw [e]
  simp only [show (2 : Nat) < 6 from by decide, true_and]
  rfl
theorem INV_N (hI : INV x0 b BIG S Z1 Z2 h) (hs : sb < S) : h.1 sb = none := by
  obtain ⟨LG, gr, C, G, z, M, F, ex, hd, nb, n, sc, ar, lg, rfl, hp, -⟩ := hI
  exact GN_n hp.2.1 hs
theorem INV_cv {m : Nat} {K : Nat → Prop} (hI : INV x0 b BIG S Z1 Z2 h) : cv [(11, m)] h x0 K = K m := by
  obtain ⟨LG, gr, C, G, z, M, F, ex, hd, nb, n, sc, ar, lg, rfl, hp, w0, w1, rs, -⟩ := hI
  have ps := RS_PS rs
  rw [← ps.1]
  exact r_cv hp.1.1 ps.2.1 rfl
theorem MS_cv {m : Nat} {as : List Value} {K : Nat → Prop} (hm : MS S (.ref b :: as) h) : cv [(12, m)] h b K = K m := by
  obtain ⟨fs, e⟩ := hm.2 b as rfl
  unfold cv
  rw [e]
  rfl
theorem INV_mono {Y1 Y2 : Nat} (h1 : Z1 ≤ Y1) (h2 : Z2 ≤ Y2) (hI : INV x0 b BIG S Z1 Z2 h) : INV x0 b BIG S Y1 Y2 h := by
  obtain ⟨LG, gr, C, G, z, M, F, ex, hd, nb, n, sc, ar, lg, e, hp, r⟩ := hI
  exact ⟨LG, gr, C, G, z, M, F, ex, hd, nb, n, sc, ar, lg, e, ⟨hp.1, hp.2.1, Nat.le_trans hp.2.2.1 h1, Nat.le_trans hp.2.2.2 h2⟩, r⟩
theorem pls {k : Nat} {c : Int32} (hc : c = nI k) : nI i + c = nI (i + k) := by
  rw [hc, nI_add]
def LC (V : Nat → Option AE) (Ev : Nat → Value) (S sb L : Nat) (xs : Nat → Int32) : Prop := V (2 * sb) = some (.inl (2, L, .inl xs)) ∧ sb < S ∧ L ≤ 3072 ∧ EVS S V Ev

theorem lw_0 (lc : LC V Ev S sb L xs) (hi : i + 6 ≤ L) (hz : Z1 + 12 ≤ BIG) (hI : INV x0 b BIG S Z1 Z2 h) (H : ∀ h2, NXT x0 b BIG S Z1 Z2 h2 → wp V (cdT Ev) mx (d + 40) 0 1221 [some (.ref sb), some (.ref x0), some (.ref b), some (.int (nI i))] [] h2 Q) : wp V (cdT Ev) mx (d + 40) 0 176 [some (.ref sb), some (.ref x0), some (.ref b), some (.int (nI i))] [] h Q := by
  obtain ⟨hV, hsb, hL, he⟩ := lc
  have hN := INV_N hI hsb
  have a1 : ∀ K, ai 2 (nI (i + 1)) V h sb K = K (xs (i + 1)) := fun K => sc_ai hV hN (by omega) hL
  have a2 : ∀ K, ai 2 (nI (i + 2)) V h sb K = K (xs (i + 2)) := fun K => sc_ai hV hN (by omega) hL
  have a3 : ∀ K, ai 2 (nI (i + 3)) V h sb K = K (xs (i + 3)) := fun K => sc_ai hV hN (by omega) hL
  have a4 : ∀ K, ai 2 (nI (i + 4)) V h sb K = K (xs (i + 4)) := fun K => sc_ai hV hN (by omega) hL
  have a5 : ∀ K, ai 2 (nI (i + 5)) V h sb K = K (xs (i + 5)) := fun K => sc_ai hV hN (by omega) hL
  have x1 : ∀ K, cv [(11, 69)] h x0 K = K 69 := fun K => INV_cv hI
  simp only [s_0_176, s_0_177, s_0_178, s_0_179, s_0_180, s_0_181, s_0_182, s_0_183, s_0_184, s_0_185, s_0_186, s_0_187, s_0_188, s_0_189, s_0_190, s_0_191, s_0_192, ↓reduceIte, eq_self, rts_some, rts_none, nq_int, nq_ref, nq_null, nq_none, okr1_0, okr1_1, okr_b, List.length_nil, List.length_cons, Nat.zero_le, Nat.reduceAdd, Nat.reduceLeDiff, b2i_0, b2i_n0, b2i_1, b2i_n1, ite_not, if_true, if_false, not_true_eq_false, not_false_eq_true, true_and, and_true, false_and, and_false, a1, a2, a3, a4, a5, x1, pls (i := i) (k := 1) (c := 1) rfl, pls (i := i) (k := 2) (c := 2) rfl, pls (i := i) (k := 3) (c := 3) rfl, pls (i := i) (k := 4) (c := 4) rfl, pls (i := i) (k := 5) (c := 5) rfl]
  refine L_one he hz hI (fun y h1 hm => ?_)
  have hN1 := hm.1.1 sb hsb
  have b1 : ∀ K, ai 2 (nI (i + 1)) V h1 sb K = K (xs (i + 1)) := fun K => sc_ai hV hN1 (by omega) hL
  have b2 : ∀ K, ai 2 (nI (i + 2)) V h1 sb K = K (xs (i + 2)) := fun K => sc_ai hV hN1 (by omega) hL
  have b3 : ∀ K, ai 2 (nI (i + 3)) V h1 sb K = K (xs (i + 3)) := fun K => sc_ai hV hN1 (by omega) hL
  have b4 : ∀ K, ai 2 (nI (i + 4)) V h1 sb K = K (xs (i + 4)) := fun K => sc_ai hV hN1 (by omega) hL
  have b5 : ∀ K, ai 2 (nI (i + 5)) V h1 sb K = K (xs (i + 5)) := fun K => sc_ai hV hN1 (by omega) hL
  have x2 : ∀ K, cv [(12, 134)] h1 b K = K 134 := fun K => MS_cv hm.1
  simp only [s_0_195, s_0_196, s_0_197, s_0_198, s_0_199, s_0_200, s_0_201, s_0_202, s_0_203, s_0_204, s_0_205, s_0_206, s_0_207, s_0_208, s_0_209, s_0_210, s_0_211, ↓reduceIte, eq_self, rts_some, rts_none, nq_int, nq_ref, nq_null, nq_none, okr1_0, okr1_1, okr_b, List.length_nil, List.length_cons, Nat.zero_le, Nat.reduceAdd, Nat.reduceLeDiff, b2i_0, b2i_n0, b2i_1, b2i_n1, ite_not, if_true, if_false, not_true_eq_false, not_false_eq_true, true_and, and_true, false_and, and_false, b1, b2, b3, b4, b5, x2, pls (i := i) (k := 1) (c := 1) rfl, pls (i := i) (k := 2) (c := 2) rfl, pls (i := i) (k := 3) (c := 3) rfl, pls (i := i) (k := 4) (c := 4) rfl, pls (i := i) (k := 5) (c := 5) rfl]
  refine hm.2 _ (fun h2 h2I => ?_)
  simp only [s_0_214, ↓reduceIte, eq_self, rts_some, rts_none, nq_int, nq_ref, nq_null, nq_none, okr1_0, okr1_1, okr_b, List.length_nil, List.length_cons, Nat.zero_le, Nat.reduceAdd, Nat.reduceLeDiff, b2i_0, b2i_n0, b2i_1, b2i_n1, ite_not, if_true, if_false, not_true_eq_false, not_false_eq_true, true_and, and_true, false_and, and_false, if_true]
  exact H h2 h2I
theorem lw_1 (lc : LC V Ev S sb L xs) (hi : i + 6 ≤ L) (hz : Z1 + 12 ≤ BIG) (hI : INV x0 b BIG S Z1 Z2 h) (H : ∀ h2, NXT x0 b BIG S Z1 Z2 h2 → wp V (cdT Ev) mx (d + 40) 0 1221 [some (.ref sb), some (.ref x0), some (.ref b), some (.int (nI i))] [] h2 Q) : wp V (cdT Ev) mx (d + 40) 0 219 [some (.ref sb), some (.ref x0), some (.ref b), some (.int (nI i))] [] h Q := by
  obtain ⟨hV, hsb, hL, he⟩ := lc
  have hN := INV_N hI hsb
  have a1 : ∀ K, ai 2 (nI (i + 1)) V h sb K = K (xs (i + 1)) := fun K => sc_ai hV hN (by omega) hL
  have a2 : ∀ K, ai 2 (nI (i + 2)) V h sb K = K (xs (i + 2)) := fun K => sc_ai hV hN (by omega) hL
  have a3 : ∀ K, ai 2 (nI (i + 3)) V h sb K = K (xs (i + 3)) := fun K => sc_ai hV hN (by omega) hL
  have a4 : ∀ K, ai 2 (nI (i + 4)) V h sb K = K (xs (i + 4)) := fun K => sc_ai hV hN (by omega) hL
  have a5 : ∀ K, ai 2 (nI (i + 5)) V h sb K = K (xs (i + 5)) := fun K => sc_ai hV hN (by omega) hL
  have x1 : ∀ K, cv [(11, 70)] h x0 K = K 70 := fun K => INV_cv hI
  simp only [s_0_219, s_0_220, s_0_221, s_0_222, s_0_223, s_0_224, s_0_225, s_0_226, s_0_227, s_0_228, s_0_229, s_0_230, ↓reduceIte, eq_self, rts_some, rts_none, nq_int, nq_ref, nq_null, nq_none, okr1_0, okr1_1, okr_b, List.length_nil, List.length_cons, Nat.zero_le, Nat.reduceAdd, Nat.reduceLeDiff, b2i_0, b2i_n0, b2i_1, b2i_n1, ite_not, if_true, if_false, not_true_eq_false, not_false_eq_true, true_and, and_true, false_and, and_false, a1, a2, a3, a4, a5, x1, pls (i := i) (k := 1) (c := 1) rfl, pls (i := i) (k := 2) (c := 2) rfl, pls (i := i) (k := 3) (c := 3) rfl, pls (i := i) (k := 4) (c := 4) rfl, pls (i := i) (k := 5) (c := 5) rfl]
  refine L_of hz hI (fun y h1 hm => ?_)
  have hN1 := hm.1.1 sb hsb
  have b1 : ∀ K, ai 2 (nI (i + 1)) V h1 sb K = K (xs (i + 1)) := fun K => sc_ai hV hN1 (by omega) hL
  have b2 : ∀ K, ai 2 (nI (i + 2)) V h1 sb K = K (xs (i + 2)) := fun K => sc_ai hV hN1 (by omega) hL
  have b3 : ∀ K, ai 2 (nI (i + 3)) V h1 sb K = K (xs (i + 3)) := fun K => sc_ai hV hN1 (by omega) hL
  have b4 : ∀ K, ai 2 (nI (i + 4)) V h1 sb K = K (xs (i + 4)) := fun K => sc_ai hV hN1 (by omega) hL
  have b5 : ∀ K, ai 2 (nI (i + 5)) V h1 sb K = K (xs (i + 5)) := fun K => sc_ai hV hN1 (by omega) hL
  have x2 : ∀ K, cv [(12, 135)] h1 b K = K 135 := fun K => MS_cv hm.1
  simp only [s_0_233, s_0_234, s_0_235, s_0_236, s_0_237, s_0_238, s_0_239, s_0_240, s_0_241, s_0_242, s_0_243, s_0_244, ↓reduceIte, eq_self, rts_some, rts_none, nq_int, nq_ref, nq_null, nq_none, okr1_0, okr1_1, okr_b, List.length_nil, List.length_cons, Nat.zero_le, Nat.reduceAdd, Nat.reduceLeDiff, b2i_0, b2i_n0, b2i_1, b2i_n1, ite_not, if_true, if_false, not_true_eq_false, not_false_eq_true, true_and, and_true, false_and, and_false, b1, b2, b3, b4, b5, x2, pls (i := i) (k := 1) (c := 1) rfl, pls (i := i) (k := 2) (c := 2) rfl, pls (i := i) (k := 3) (c := 3) rfl, pls (i := i) (k := 4) (c := 4) rfl, pls (i := i) (k := 5) (c := 5) rfl]
  refine hm.2 _ (fun h2 h2I => ?_)
  simp only [s_0_247, ↓reduceIte, eq_self, rts_some, rts_none, nq_int, nq_ref, nq_null, nq_none, okr1_0, okr1_1, okr_b, List.length_nil, List.length_cons, Nat.zero_le, Nat.reduceAdd, Nat.reduceLeDiff, b2i_0, b2i_n0, b2i_1, b2i_n1, ite_not, if_true, if_false, not_true_eq_false, not_false_eq_true, true_and, and_true, false_and, and_false, if_true]
  exact H h2 h2I
theorem lw_2 (lc : LC V Ev S sb L xs) (hi : i + 6 ≤ L) (hz : Z1 + 12 ≤ BIG) (hI : INV x0 b BIG S Z1 Z2 h) (H : ∀ h2, NXT x0 b BIG S Z1 Z2 h2 → wp V (cdT Ev) mx (d + 40) 0 1221 [some (.ref sb), some (.ref x0), some (.ref b), some (.int (nI i))] [] h2 Q) : wp V (cdT Ev) mx (d + 40) 0 252 [some (.ref sb), some (.ref x0), some (.ref b), some (.int (nI i))] [] h Q := by
  obtain ⟨hV, hsb, hL, he⟩ := lc
  have hN := INV_N hI hsb
  have a1 : ∀ K, ai 2 (nI (i + 1)) V h sb K = K (xs (i + 1)) := fun K => sc_ai hV hN (by omega) hL
  have a2 : ∀ K, ai 2 (nI (i + 2)) V h sb K = K (xs (i + 2)) := fun K => sc_ai hV hN (by omega) hL
  have a3 : ∀ K, ai 2 (nI (i + 3)) V h sb K = K (xs (i + 3)) := fun K => sc_ai hV hN (by omega) hL
  have a4 : ∀ K, ai 2 (nI (i + 4)) V h sb K = K (xs (i + 4)) := fun K => sc_ai hV hN (by omega) hL
  have a5 : ∀ K, ai 2 (nI (i + 5)) V h sb K = K (xs (i + 5)) := fun K => sc_ai hV hN (by omega) hL
  have x1 : ∀ K, cv [(11, 71)] h x0 K = K 71 := fun K => INV_cv hI
  simp only [s_0_252, s_0_253, s_0_254, s_0_255, s_0_256, s_0_257, s_0_258, s_0_259, s_0_260, s_0_261, s_0_262, s_0_263, ↓reduceIte, eq_self, rts_some, rts_none, nq_int, nq_ref, nq_null, nq_none, okr1_0, okr1_1, okr_b, List.length_nil, List.length_cons, Nat.zero_le, Nat.reduceAdd, Nat.reduceLeDiff, b2i_0, b2i_n0, b2i_1, b2i_n1, ite_not, if_true, if_false, not_true_eq_false, not_false_eq_true, true_and, and_true, false_and, and_false, a1, a2, a3, a4, a5, x1, pls (i := i) (k := 1) (c := 1) rfl, pls (i := i) (k := 2) (c := 2) rfl, pls (i := i) (k := 3) (c := 3) rfl, pls (i := i) (k := 4) (c := 4) rfl, pls (i := i) (k := 5) (c := 5) rfl]
  refine L_urge hz hI (fun y h1 hm => ?_)
  have hN1 := hm.1.1 sb hsb
  have b1 : ∀ K, ai 2 (nI (i + 1)) V h1 sb K = K (xs (i + 1)) := fun K => sc_ai hV hN1 (by omega) hL
  have b2 : ∀ K, ai 2 (nI (i + 2)) V h1 sb K = K (xs (i + 2)) := fun K => sc_ai hV hN1 (by omega) hL
  have b3 : ∀ K, ai 2 (nI (i + 3)) V h1 sb K = K (xs (i + 3)) := fun K => sc_ai hV hN1 (by omega) hL
  have b4 : ∀ K, ai 2 (nI (i + 4)) V h1 sb K = K (xs (i + 4)) := fun K => sc_ai hV hN1 (by omega) hL
  have b5 : ∀ K, ai 2 (nI (i + 5)) V h1 sb K = K (xs (i + 5)) := fun K => sc_ai hV hN1 (by omega) hL
  have x2 : ∀ K, cv [(12, 136)] h1 b K = K 136 := fun K => MS_cv hm.1
  simp only [s_0_266, s_0_267, s_0_268, s_0_269, s_0_270, s_0_271, s_0_272, s_0_273, s_0_274, s_0_275, s_0_276, s_0_277, ↓reduceIte, eq_self, rts_some, rts_none, nq_int, nq_ref, nq_null, nq_none, okr1_0, okr1_1, okr_b, List.length_nil, List.length_cons, Nat.zero_le, Nat.reduceAdd, Nat.reduceLeDiff, b2i_0, b2i_n0, b2i_1, b2i_n1, ite_not, if_true, if_false, not_true_eq_false, not_false_eq_true, true_and, and_true, false_and, and_false, b1, b2, b3, b4, b5, x2, pls (i := i) (k := 1) (c := 1) rfl, pls (i := i) (k := 2) (c := 2) rfl, pls (i := i) (k := 3) (c := 3) rfl, pls (i := i) (k := 4) (c := 4) rfl, pls (i := i) (k := 5) (c := 5) rfl]
  refine hm.2 _ (fun h2 h2I => ?_)
  simp only [s_0_280, ↓reduceIte, eq_self, rts_some, rts_none, nq_int, nq_ref, nq_null, nq_none, okr1_0, okr1_1, okr_b, List.length_nil, List.length_cons, Nat.zero_le, Nat.reduceAdd, Nat.reduceLeDiff, b2i_0, b2i_n0, b2i_1, b2i_n1, ite_not, if_true, if_false, not_true_eq_false, not_false_eq_true, true_and, and_true, false_and, and_false, if_true]
  exact H h2 h2I
theorem lw_3 (lc : LC V Ev S sb L xs) (hi : i + 6 ≤ L) (hz : Z1 + 12 ≤ BIG) (hI : INV x0 b BIG S Z1 Z2 h) (H : ∀ h2, NXT x0 b BIG S Z1 Z2 h2 → wp V (cdT Ev) mx (d + 40) 0 1221 [some (.ref sb), some (.ref x0), some (.ref b), some (.int (nI i))] [] h2 Q) : wp V (cdT Ev) mx (d + 40) 0 285 [some (.ref sb), some (.ref x0), some (.ref b), some (.int (nI i))] [] h Q := by
  obtain ⟨hV, hsb, hL, he⟩ := lc
  have hN := INV_N hI hsb
  have a1 : ∀ K, ai 2 (nI (i + 1)) V h sb K = K (xs (i + 1)) := fun K => sc_ai hV hN (by omega) hL
  have a2 : ∀ K, ai 2 (nI (i + 2)) V h sb K = K (xs (i + 2)) := fun K => sc_ai hV hN (by omega) hL
  have a3 : ∀ K, ai 2 (nI (i + 3)) V h sb K = K (xs (i + 3)) := fun K => sc_ai hV hN (by omega) hL
  have a4 : ∀ K, ai 2 (nI (i + 4)) V h sb K = K (xs (i + 4)) := fun K => sc_ai hV hN (by omega) hL
  have a5 : ∀ K, ai 2 (nI (i + 5)) V h sb K = K (xs (i + 5)) := fun K => sc_ai hV hN (by omega) hL
  have x1 : ∀ K, cv [(11, 72)] h x0 K = K 72 := fun K => INV_cv hI
  simp only [s_0_285, s_0_286, s_0_287, s_0_288, s_0_289, s_0_290, s_0_291, s_0_292, s_0_293, s_0_294, s_0_295, s_0_296, ↓reduceIte, eq_self, rts_some, rts_none, nq_int, nq_ref, nq_null, nq_none, okr1_0, okr1_1, okr_b, List.length_nil, List.length_cons, Nat.zero_le, Nat.reduceAdd, Nat.reduceLeDiff, b2i_0, b2i_n0, b2i_1, b2i_n1, ite_not, if_true, if_false, not_true_eq_false, not_false_eq_true, true_and, and_true, false_and, and_false, a1, a2, a3, a4, a5, x1, pls (i := i) (k := 1) (c := 1) rfl, pls (i := i) (k := 2) (c := 2) rfl, pls (i := i) (k := 3) (c := 3) rfl, pls (i := i) (k := 4) (c := 4) rfl, pls (i := i) (k := 5) (c := 5) rfl]
  refine L_learn hI (fun y h1 hm => ?_)
  have hN1 := hm.1.1 sb hsb
  have b1 : ∀ K, ai 2 (nI (i + 1)) V h1 sb K = K (xs (i + 1)) := fun K => sc_ai hV hN1 (by omega) hL
  have b2 : ∀ K, ai 2 (nI (i + 2)) V h1 sb K = K (xs (i + 2)) := fun K => sc_ai hV hN1 (by omega) hL
  have b3 : ∀ K, ai 2 (nI (i + 3)) V h1 sb K = K (xs (i + 3)) := fun K => sc_ai hV hN1 (by omega) hL
  have b4 : ∀ K, ai 2 (nI (i + 4)) V h1 sb K = K (xs (i + 4)) := fun K => sc_ai hV hN1 (by omega) hL
  have b5 : ∀ K, ai 2 (nI (i + 5)) V h1 sb K = K (xs (i + 5)) := fun K => sc_ai hV hN1 (by omega) hL
  have x2 : ∀ K, cv [(12, 137)] h1 b K = K 137 := fun K => MS_cv hm.1
  simp only [s_0_299, s_0_300, s_0_301, s_0_302, s_0_303, s_0_304, s_0_305, s_0_306, s_0_307, s_0_308, s_0_309, s_0_310, ↓reduceIte, eq_self, rts_some, rts_none, nq_int, nq_ref, nq_null, nq_none, okr1_0, okr1_1, okr_b, List.length_nil, List.length_cons, Nat.zero_le, Nat.reduceAdd, Nat.reduceLeDiff, b2i_0, b2i_n0, b2i_1, b2i_n1, ite_not, if_true, if_false, not_true_eq_false, not_false_eq_true, true_and, and_true, false_and, and_false, b1, b2, b3, b4, b5, x2, pls (i := i) (k := 1) (c := 1) rfl, pls (i := i) (k := 2) (c := 2) rfl, pls (i := i) (k := 3) (c := 3) rfl, pls (i := i) (k := 4) (c := 4) rfl, pls (i := i) (k := 5) (c := 5) rfl]
  refine hm.2 _ (fun h2 h2I => ?_)
  simp only [s_0_313, ↓reduceIte, eq_self, rts_some, rts_none, nq_int, nq_ref, nq_null, nq_none, okr1_0, okr1_1, okr_b, List.length_nil, List.length_cons, Nat.zero_le, Nat.reduceAdd, Nat.reduceLeDiff, b2i_0, b2i_n0, b2i_1, b2i_n1, ite_not, if_true, if_false, not_true_eq_false, not_false_eq_true, true_and, and_true, false_and, and_false, if_true]
  exact H h2 h2I
theorem lw_4 (lc : LC V Ev S sb L xs) (hi : i + 6 ≤ L) (hz : Z1 + 12 ≤ BIG) (hI : INV x0 b BIG S Z1 Z2 h) (H : ∀ h2, NXT x0 b BIG S Z1 Z2 h2 → wp V (cdT Ev) mx (d + 40) 0 1221 [some (.ref sb), some (.ref x0), some (.ref b), some (.int (nI i))] [] h2 Q) : wp V (cdT Ev) mx (d + 40) 0 318 [some (.ref sb), some (.ref x0), some (.ref b), some (.int (nI i))] [] h Q := by
  obtain ⟨hV, hsb, hL, he⟩ := lc
  have hN := INV_N hI hsb
  have a1 : ∀ K, ai 2 (nI (i + 1)) V h sb K = K (xs (i + 1)) := fun K => sc_ai hV hN (by omega) hL
  have a2 : ∀ K, ai 2 (nI (i + 2)) V h sb K = K (xs (i + 2)) := fun K => sc_ai hV hN (by omega) hL
  have a3 : ∀ K, ai 2 (nI (i + 3)) V h sb K = K (xs (i + 3)) := fun K => sc_ai hV hN (by omega) hL
  have a4 : ∀ K, ai 2 (nI (i + 4)) V h sb K = K (xs (i + 4)) := fun K => sc_ai hV hN (by omega) hL
  have a5 : ∀ K, ai 2 (nI (i + 5)) V h sb K = K (xs (i + 5)) := fun K => sc_ai hV hN (by omega) hL
  have x1 : ∀ K, cv [(11, 73)] h x0 K = K 73 := fun K => INV_cv hI
  by_cases f0 : xs (i + 2) = 0
  · have z0 : ((0 : Int32) = 0) = True := eq_true rfl
    simp only [s_0_318, s_0_319, s_0_320, s_0_321, s_0_322, s_0_323, s_0_324, s_0_325, s_0_326, s_0_327, s_0_328, s_0_329, s_0_332, s_0_333, s_0_336, s_0_337, ↓reduceIte, eq_self, rts_some, rts_none, nq_int, nq_ref, nq_null, nq_none, okr1_0, okr1_1, okr_b, List.length_nil, List.length_cons, Nat.zero_le, Nat.reduceAdd, Nat.reduceLeDiff, b2i_0, b2i_n0, b2i_1, b2i_n1, ite_not, if_true, if_false, not_true_eq_false, not_false_eq_true, true_and, and_true, false_and, and_false, a1, a2, a3, a4, a5, x1, pls (i := i) (k := 1) (c := 1) rfl, pls (i := i) (k := 2) (c := 2) rfl, pls (i := i) (k := 3) (c := 3) rfl, pls (i := i) (k := 4) (c := 4) rfl, pls (i := i) (k := 5) (c := 5) rfl, f0, z0, if_true]
    refine L_ford (Or.inl rfl) hI (fun y h1 hm => ?_)
    have hN1 := hm.1.1 sb hsb
    have b1 : ∀ K, ai 2 (nI (i + 1)) V h1 sb K = K (xs (i + 1)) := fun K => sc_ai hV hN1 (by omega) hL
    have b2 : ∀ K, ai 2 (nI (i + 2)) V h1 sb K = K (xs (i + 2)) := fun K => sc_ai hV hN1 (by omega) hL
    have b3 : ∀ K, ai 2 (nI (i + 3)) V h1 sb K = K (xs (i + 3)) := fun K => sc_ai hV hN1 (by omega) hL
    have b4 : ∀ K, ai 2 (nI (i + 4)) V h1 sb K = K (xs (i + 4)) := fun K => sc_ai hV hN1 (by omega) hL
    have b5 : ∀ K, ai 2 (nI (i + 5)) V h1 sb K = K (xs (i + 5)) := fun K => sc_ai hV hN1 (by omega) hL
    have x2 : ∀ K, cv [(12, 138)] h1 b K = K 138 := fun K => MS_cv hm.1
    simp only [s_0_340, s_0_341, s_0_342, s_0_343, s_0_344, s_0_345, s_0_346, s_0_347, s_0_348, s_0_349, s_0_350, s_0_351, s_0_354, s_0_355, s_0_358, s_0_359, ↓reduceIte, eq_self, rts_some, rts_none, nq_int, nq_ref, nq_null, nq_none, okr1_0, okr1_1, okr_b, List.length_nil, List.length_cons, Nat.zero_le, Nat.reduceAdd, Nat.reduceLeDiff, b2i_0, b2i_n0, b2i_1, b2i_n1, ite_not, if_true, if_false, not_true_eq_false, not_false_eq_true, true_and, and_true, false_and, and_false, b1, b2, b3, b4, b5, x2, pls (i := i) (k := 1) (c := 1) rfl, pls (i := i) (k := 2) (c := 2) rfl, pls (i := i) (k := 3) (c := 3) rfl, pls (i := i) (k := 4) (c := 4) rfl, pls (i := i) (k := 5) (c := 5) rfl, f0, z0, if_true]
    refine hm.2 _ (fun h2 h2I => ?_)
    simp only [s_0_362, ↓reduceIte, eq_self, rts_some, rts_none, nq_int, nq_ref, nq_null, nq_none, okr1_0, okr1_1, okr_b, List.length_nil, List.length_cons, Nat.zero_le, Nat.reduceAdd, Nat.reduceLeDiff, b2i_0, b2i_n0, b2i_1, b2i_n1, ite_not, if_true, if_false, not_true_eq_false, not_false_eq_true, true_and, and_true, false_and, and_false, if_true]
    exact H h2 h2I
  · have f0' : (xs (i + 2) = 0) = False := eq_false f0
    simp only [s_0_318, s_0_319, s_0_320, s_0_321, s_0_322, s_0_323, s_0_324, s_0_325, s_0_326, s_0_327, s_0_328, s_0_329, s_0_332, s_0_333, s_0_336, s_0_337, ↓reduceIte, eq_self, rts_some, rts_none, nq_int, nq_ref, nq_null, nq_none, okr1_0, okr1_1, okr_b, List.length_nil, List.length_cons, Nat.zero_le, Nat.reduceAdd, Nat.reduceLeDiff, b2i_0, b2i_n0, b2i_1, b2i_n1, ite_not, if_true, if_false, not_true_eq_false, not_false_eq_true, true_and, and_true, false_and, and_false, a1, a2, a3, a4, a5, x1, pls (i := i) (k := 1) (c := 1) rfl, pls (i := i) (k := 2) (c := 2) rfl, pls (i := i) (k := 3) (c := 3) rfl, pls (i := i) (k := 4) (c := 4) rfl, pls (i := i) (k := 5) (c := 5) rfl, f0', if_false]
    refine L_ford (Or.inr rfl) hI (fun y h1 hm => ?_)
    have hN1 := hm.1.1 sb hsb
    have b1 : ∀ K, ai 2 (nI (i + 1)) V h1 sb K = K (xs (i + 1)) := fun K => sc_ai hV hN1 (by omega) hL
    have b2 : ∀ K, ai 2 (nI (i + 2)) V h1 sb K = K (xs (i + 2)) := fun K => sc_ai hV hN1 (by omega) hL
    have b3 : ∀ K, ai 2 (nI (i + 3)) V h1 sb K = K (xs (i + 3)) := fun K => sc_ai hV hN1 (by omega) hL
    have b4 : ∀ K, ai 2 (nI (i + 4)) V h1 sb K = K (xs (i + 4)) := fun K => sc_ai hV hN1 (by omega) hL
    have b5 : ∀ K, ai 2 (nI (i + 5)) V h1 sb K = K (xs (i + 5)) := fun K => sc_ai hV hN1 (by omega) hL
    have x2 : ∀ K, cv [(12, 138)] h1 b K = K 138 := fun K => MS_cv hm.1
    simp only [s_0_340, s_0_341, s_0_342, s_0_343, s_0_344, s_0_345, s_0_346, s_0_347, s_0_348, s_0_349, s_0_350, s_0_351, s_0_354, s_0_355, s_0_358, s_0_359, ↓reduceIte, eq_self, rts_some, rts_none, nq_int, nq_ref, nq_null, nq_none, okr1_0, okr1_1, okr_b, List.length_nil, List.length_cons, Nat.zero_le, Nat.reduceAdd, Nat.reduceLeDiff, b2i_0, b2i_n0, b2i_1, b2i_n1, ite_not, if_true, if_false, not_true_eq_false, not_false_eq_true, true_and, and_true, false_and, and_false, b1, b2, b3, b4, b5, x2, pls (i := i) (k := 1) (c := 1) rfl, pls (i := i) (k := 2) (c := 2) rfl, pls (i := i) (k := 3) (c := 3) rfl, pls (i := i) (k := 4) (c := 4) rfl, pls (i := i) (k := 5) (c := 5) rfl, f0', if_false]
    refine hm.2 _ (fun h2 h2I => ?_)
    simp only [s_0_362, ↓reduceIte, eq_self, rts_some, rts_none, nq_int, nq_ref, nq_null, nq_none, okr1_0, okr1_1, okr_b, List.length_nil, List.length_cons, Nat.zero_le, Nat.reduceAdd, Nat.reduceLeDiff, b2i_0, b2i_n0, b2i_1, b2i_n1, ite_not, if_true, if_false, not_true_eq_false, not_false_eq_true, true_and, and_true, false_and, and_false, if_true]
    exact H h2 h2I
theorem lw_5 (lc : LC V Ev S sb L xs) (hi : i + 6 ≤ L) (hz : Z1 + 12 ≤ BIG) (hI : INV x0 b BIG S Z1 Z2 h) (H : ∀ h2, NXT x0 b BIG S Z1 Z2 h2 → wp V (cdT Ev) mx (d + 40) 0 1221 [some (.ref sb), some (.ref x0), some (.ref b), some (.int (nI i))] [] h2 Q) : wp V (cdT Ev) mx (d + 40) 0 367 [some (.ref sb), some (.ref x0), some (.ref b), some (.int (nI i))] [] h Q := by
  obtain ⟨hV, hsb, hL, he⟩ := lc
  have hN := INV_N hI hsb
  have a1 : ∀ K, ai 2 (nI (i + 1)) V h sb K = K (xs (i + 1)) := fun K => sc_ai hV hN (by omega) hL
  have a2 : ∀ K, ai 2 (nI (i + 2)) V h sb K = K (xs (i + 2)) := fun K => sc_ai hV hN (by omega) hL
  have a3 : ∀ K, ai 2 (nI (i + 3)) V h sb K = K (xs (i + 3)) := fun K => sc_ai hV hN (by omega) hL
  have a4 : ∀ K, ai 2 (nI (i + 4)) V h sb K = K (xs (i + 4)) := fun K => sc_ai hV hN (by omega) hL
  have a5 : ∀ K, ai 2 (nI (i + 5)) V h sb K = K (xs (i + 5)) := fun K => sc_ai hV hN (by omega) hL
  have x1 : ∀ K, cv [(11, 74)] h x0 K = K 74 := fun K => INV_cv hI
  simp only [s_0_367, s_0_368, s_0_369, s_0_370, s_0_371, s_0_372, s_0_373, s_0_374, s_0_375, s_0_376, s_0_377, s_0_378, ↓reduceIte, eq_self, rts_some, rts_none, nq_int, nq_ref, nq_null, nq_none, okr1_0, okr1_1, okr_b, List.length_nil, List.length_cons, Nat.zero_le, Nat.reduceAdd, Nat.reduceLeDiff, b2i_0, b2i_n0, b2i_1, b2i_n1, ite_not, if_true, if_false, not_true_eq_false, not_false_eq_true, true_and, and_true, false_and, and_false, a1, a2, a3, a4, a5, x1, pls (i := i) (k := 1) (c := 1) rfl, pls (i := i) (k := 2) (c := 2) rfl, pls (i := i) (k := 3) (c := 3) rfl, pls (i := i) (k := 4) (c := 4) rfl, pls (i := i) (k := 5) (c := 5) rfl]
  refine L_worth hI (fun y h1 hm => ?_)
  have hN1 := hm.1.1 sb hsb
  have b1 : ∀ K, ai 2 (nI (i + 1)) V h1 sb K = K (xs (i + 1)) := fun K => sc_ai hV hN1 (by omega) hL
  have b2 : ∀ K, ai 2 (nI (i + 2)) V h1 sb K = K (xs (i + 2)) := fun K => sc_ai hV hN1 (by omega) hL
  have b3 : ∀ K, ai 2 (nI (i + 3)) V h1 sb K = K (xs (i + 3)) := fun K => sc_ai hV hN1 (by omega) hL
  have b4 : ∀ K, ai 2 (nI (i + 4)) V h1 sb K = K (xs (i + 4)) := fun K => sc_ai hV hN1 (by omega) hL
  have b5 : ∀ K, ai 2 (nI (i + 5)) V h1 sb K = K (xs (i + 5)) := fun K => sc_ai hV hN1 (by omega) hL
  have x2 : ∀ K, cv [(12, 139)] h1 b K = K 139 := fun K => MS_cv hm.1
  simp only [s_0_381, s_0_382, s_0_383, s_0_384, s_0_385, s_0_386, s_0_387, s_0_388, s_0_389, s_0_390, s_0_391, s_0_392, ↓reduceIte, eq_self, rts_some, rts_none, nq_int, nq_ref, nq_null, nq_none, okr1_0, okr1_1, okr_b, List.length_nil, List.length_cons, Nat.zero_le, Nat.reduceAdd, Nat.reduceLeDiff, b2i_0, b2i_n0, b2i_1, b2i_n1, ite_not, if_true, if_false, not_true_eq_false, not_false_eq_true, true_and, and_true, false_and, and_false, b1, b2, b3, b4, b5, x2, pls (i := i) (k := 1) (c := 1) rfl, pls (i := i) (k := 2) (c := 2) rfl, pls (i := i) (k := 3) (c := 3) rfl, pls (i := i) (k := 4) (c := 4) rfl, pls (i := i) (k := 5) (c := 5) rfl]
  refine hm.2 _ (fun h2 h2I => ?_)
  simp only [s_0_395, ↓reduceIte, eq_self, rts_some, rts_none, nq_int, nq_ref, nq_null, nq_none, okr1_0, okr1_1, okr_b, List.length_nil, List.length_cons, Nat.zero_le, Nat.reduceAdd, Nat.reduceLeDiff, b2i_0, b2i_n0, b2i_1, b2i_n1, ite_not, if_true, if_false, not_true_eq_false, not_false_eq_true, true_and, and_true, false_and, and_false, if_true]
  exact H h2 h2I
theorem lw_6 (lc : LC V Ev S sb L xs) (hi : i + 6 ≤ L) (hz : Z1 + 12 ≤ BIG) (hI : INV x0 b BIG S Z1 Z2 h) (H : ∀ h2, NXT x0 b BIG S Z1 Z2 h2 → wp V (cdT Ev) mx (d + 40) 0 1221 [some (.ref sb), some (.ref x0), some (.ref b), some (.int (nI i))] [] h2 Q) : wp V (cdT Ev) mx (d + 40) 0 400 [some (.ref sb), some (.ref x0), some (.ref b), some (.int (nI i))] [] h Q := by
  obtain ⟨hV, hsb, hL, he⟩ := lc
  have hN := INV_N hI hsb
  have a1 : ∀ K, ai 2 (nI (i + 1)) V h sb K = K (xs (i + 1)) := fun K => sc_ai hV hN (by omega) hL
  have a2 : ∀ K, ai 2 (nI (i + 2)) V h sb K = K (xs (i + 2)) := fun K => sc_ai hV hN (by omega) hL
  have a3 : ∀ K, ai 2 (nI (i + 3)) V h sb K = K (xs (i + 3)) := fun K => sc_ai hV hN (by omega) hL
  have a4 : ∀ K, ai 2 (nI (i + 4)) V h sb K = K (xs (i + 4)) := fun K => sc_ai hV hN (by omega) hL
  have a5 : ∀ K, ai 2 (nI (i + 5)) V h sb K = K (xs (i + 5)) := fun K => sc_ai hV hN (by omega) hL
  have x1 : ∀ K, cv [(11, 75)] h x0 K = K 75 := fun K => INV_cv hI
  simp only [s_0_400, s_0_401, s_0_402, s_0_403, s_0_404, s_0_405, s_0_406, s_0_407, s_0_408, s_0_409, s_0_410, s_0_411, s_0_412, s_0_413, s_0_414, s_0_415, s_0_416, ↓reduceIte, eq_self, rts_some, rts_none, nq_int, nq_ref, nq_null, nq_none, okr1_0, okr1_1, okr_b, List.length_nil, List.length_cons, Nat.zero_le, Nat.reduceAdd, Nat.reduceLeDiff, b2i_0, b2i_n0, b2i_1, b2i_n1, ite_not, if_true, if_false, not_true_eq_false, not_false_eq_true, true_and, and_true, false_and, and_false, a1, a2, a3, a4, a5, x1, pls (i := i) (k := 1) (c := 1) rfl, pls (i := i) (k := 2) (c := 2) rfl, pls (i := i) (k := 3) (c := 3) rfl, pls (i := i) (k := 4) (c := 4) rfl, pls (i := i) (k := 5) (c := 5) rfl]
  refine L_row hI (fun y h1 hm => ?_)
  have hN1 := hm.1.1 sb hsb
  have b1 : ∀ K, ai 2 (nI (i + 1)) V h1 sb K = K (xs (i + 1)) := fun K => sc_ai hV hN1 (by omega) hL
  have b2 : ∀ K, ai 2 (nI (i + 2)) V h1 sb K = K (xs (i + 2)) := fun K => sc_ai hV hN1 (by omega) hL
  have b3 : ∀ K, ai 2 (nI (i + 3)) V h1 sb K = K (xs (i + 3)) := fun K => sc_ai hV hN1 (by omega) hL
  have b4 : ∀ K, ai 2 (nI (i + 4)) V h1 sb K = K (xs (i + 4)) := fun K => sc_ai hV hN1 (by omega) hL
  have b5 : ∀ K, ai 2 (nI (i + 5)) V h1 sb K = K (xs (i + 5)) := fun K => sc_ai hV hN1 (by omega) hL
  have x2 : ∀ K, cv [(12, 140)] h1 b K = K 140 := fun K => MS_cv hm.1
  simp only [s_0_419, s_0_420, s_0_421, s_0_422, s_0_423, s_0_424, s_0_425, s_0_426, s_0_427, s_0_428, s_0_429, s_0_430, s_0_431, s_0_432, s_0_433, s_0_434, s_0_435, ↓reduceIte, eq_self, rts_some, rts_none, nq_int, nq_ref, nq_null, nq_none, okr1_0, okr1_1, okr_b, List.length_nil, List.length_cons, Nat.zero_le, Nat.reduceAdd, Nat.reduceLeDiff, b2i_0, b2i_n0, b2i_1, b2i_n1, ite_not, if_true, if_false, not_true_eq_false, not_false_eq_true, true_and, and_true, false_and, and_false, b1, b2, b3, b4, b5, x2, pls (i := i) (k := 1) (c := 1) rfl, pls (i := i) (k := 2) (c := 2) rfl, pls (i := i) (k := 3) (c := 3) rfl, pls (i := i) (k := 4) (c := 4) rfl, pls (i := i) (k := 5) (c := 5) rfl]
  refine hm.2 _ (fun h2 h2I => ?_)
  simp only [s_0_438, ↓reduceIte, eq_self, rts_some, rts_none, nq_int, nq_ref, nq_null, nq_none, okr1_0, okr1_1, okr_b, List.length_nil, List.length_cons, Nat.zero_le, Nat.reduceAdd, Nat.reduceLeDiff, b2i_0, b2i_n0, b2i_1, b2i_n1, ite_not, if_true, if_false, not_true_eq_false, not_false_eq_true, true_and, and_true, false_and, and_false, if_true]
  exact H h2 h2I
theorem lw_7 (lc : LC V Ev S sb L xs) (hi : i + 6 ≤ L) (hz : Z1 + 12 ≤ BIG) (hI : INV x0 b BIG S Z1 Z2 h) (H : ∀ h2, NXT x0 b BIG S Z1 Z2 h2 → wp V (cdT Ev) mx (d + 40) 0 1221 [some (.ref sb), some (.ref x0), some (.ref b), some (.int (nI i))] [] h2 Q) : wp V (cdT Ev) mx (d + 40) 0 443 [some (.ref sb), some (.ref x0), some (.ref b), some (.int (nI i))] [] h Q := by
  obtain ⟨hV, hsb, hL, he⟩ := lc
  have hN := INV_N hI hsb
  have a1 : ∀ K, ai 2 (nI (i + 1)) V h sb K = K (xs (i + 1)) := fun K => sc_ai hV hN (by omega) hL
  have a2 : ∀ K, ai 2 (nI (i + 2)) V h sb K = K (xs (i + 2)) := fun K => sc_ai hV hN (by omega) hL
  have a3 : ∀ K, ai 2 (nI (i + 3)) V h sb K = K (xs (i + 3)) := fun K => sc_ai hV hN (by omega) hL
  have a4 : ∀ K, ai 2 (nI (i + 4)) V h sb K = K (xs (i + 4)) := fun K => sc_ai hV hN (by omega) hL
  have a5 : ∀ K, ai 2 (nI (i + 5)) V h sb K = K (xs (i + 5)) := fun K => sc_ai hV hN (by omega) hL
  have x1 : ∀ K, cv [(11, 76)] h x0 K = K 76 := fun K => INV_cv hI
  simp only [s_0_443, s_0_444, s_0_445, s_0_446, s_0_447, s_0_448, s_0_449, ↓reduceIte, eq_self, rts_some, rts_none, nq_int, nq_ref, nq_null, nq_none, okr1_0, okr1_1, okr_b, List.length_nil, List.length_cons, Nat.zero_le, Nat.reduceAdd, Nat.reduceLeDiff, b2i_0, b2i_n0, b2i_1, b2i_n1, ite_not, if_true, if_false, not_true_eq_false, not_false_eq_true, true_and, and_true, false_and, and_false, a1, a2, a3, a4, a5, x1, pls (i := i) (k := 1) (c := 1) rfl, pls (i := i) (k := 2) (c := 2) rfl, pls (i := i) (k := 3) (c := 3) rfl, pls (i := i) (k := 4) (c := 4) rfl, pls (i := i) (k := 5) (c := 5) rfl]
  refine L_feed hI (fun y h1 hm => ?_)
  have hN1 := hm.1.1 sb hsb
  have b1 : ∀ K, ai 2 (nI (i + 1)) V h1 sb K = K (xs (i + 1)) := fun K => sc_ai hV hN1 (by omega) hL
  have b2 : ∀ K, ai 2 (nI (i + 2)) V h1 sb K = K (xs (i + 2)) := fun K => sc_ai hV hN1 (by omega) hL
  have b3 : ∀ K, ai 2 (nI (i + 3)) V h1 sb K = K (xs (i + 3)) := fun K => sc_ai hV hN1 (by omega) hL
  have b4 : ∀ K, ai 2 (nI (i + 4)) V h1 sb K = K (xs (i + 4)) := fun K => sc_ai hV hN1 (by omega) hL
  have b5 : ∀ K, ai 2 (nI (i + 5)) V h1 sb K = K (xs (i + 5)) := fun K => sc_ai hV hN1 (by omega) hL
  have x2 : ∀ K, cv [(12, 141)] h1 b K = K 141 := fun K => MS_cv hm.1
  simp only [s_0_452, s_0_453, s_0_454, s_0_455, s_0_456, s_0_457, s_0_458, ↓reduceIte, eq_self, rts_some, rts_none, nq_int, nq_ref, nq_null, nq_none, okr1_0, okr1_1, okr_b, List.length_nil, List.length_cons, Nat.zero_le, Nat.reduceAdd, Nat.reduceLeDiff, b2i_0, b2i_n0, b2i_1, b2i_n1, ite_not, if_true, if_false, not_true_eq_false, not_false_eq_true, true_and, and_true, false_and, and_false, b1, b2, b3, b4, b5, x2, pls (i := i) (k := 1) (c := 1) rfl, pls (i := i) (k := 2) (c := 2) rfl, pls (i := i) (k := 3) (c := 3) rfl, pls (i := i) (k := 4) (c := 4) rfl, pls (i := i) (k := 5) (c := 5) rfl]
  refine hm.2 _ (fun h2 h2I => ?_)
  simp only [s_0_461, ↓reduceIte, eq_self, rts_some, rts_none, nq_int, nq_ref, nq_null, nq_none, okr1_0, okr1_1, okr_b, List.length_nil, List.length_cons, Nat.zero_le, Nat.reduceAdd, Nat.reduceLeDiff, b2i_0, b2i_n0, b2i_1, b2i_n1, ite_not, if_true, if_false, not_true_eq_false, not_false_eq_true, true_and, and_true, false_and, and_false, if_true]
  exact H h2 h2I
theorem lw_8 (lc : LC V Ev S sb L xs) (hi : i + 6 ≤ L) (hz : Z1 + 12 ≤ BIG) (hI : INV x0 b BIG S Z1 Z2 h) (H : ∀ h2, NXT x0 b BIG S Z1 Z2 h2 → wp V (cdT Ev) mx (d + 40) 0 1221 [some (.ref sb), some (.ref x0), some (.ref b), some (.int (nI i))] [] h2 Q) : wp V (cdT Ev) mx (d + 40) 0 466 [some (.ref sb), some (.ref x0), some (.ref b), some (.int (nI i))] [] h Q := by
  obtain ⟨hV, hsb, hL, he⟩ := lc
  have hN := INV_N hI hsb
  have a1 : ∀ K, ai 2 (nI (i + 1)) V h sb K = K (xs (i + 1)) := fun K => sc_ai hV hN (by omega) hL
  have a2 : ∀ K, ai 2 (nI (i + 2)) V h sb K = K (xs (i + 2)) := fun K => sc_ai hV hN (by omega) hL
  have a3 : ∀ K, ai 2 (nI (i + 3)) V h sb K = K (xs (i + 3)) := fun K => sc_ai hV hN (by omega) hL
  have a4 : ∀ K, ai 2 (nI (i + 4)) V h sb K = K (xs (i + 4)) := fun K => sc_ai hV hN (by omega) hL
  have a5 : ∀ K, ai 2 (nI (i + 5)) V h sb K = K (xs (i + 5)) := fun K => sc_ai hV hN (by omega) hL
  have x1 : ∀ K, cv [(11, 77)] h x0 K = K 77 := fun K => INV_cv hI
  simp only [s_0_466, s_0_467, ↓reduceIte, eq_self, rts_some, rts_none, nq_int, nq_ref, nq_null, nq_none, okr1_0, okr1_1, okr_b, List.length_nil, List.length_cons, Nat.zero_le, Nat.reduceAdd, Nat.reduceLeDiff, b2i_0, b2i_n0, b2i_1, b2i_n1, ite_not, if_true, if_false, not_true_eq_false, not_false_eq_true, true_and, and_true, false_and, and_false, a1, a2, a3, a4, a5, x1, pls (i := i) (k := 1) (c := 1) rfl, pls (i := i) (k := 2) (c := 2) rfl, pls (i := i) (k := 3) (c := 3) rfl, pls (i := i) (k := 4) (c := 4) rfl, pls (i := i) (k := 5) (c := 5) rfl]
  refine L_bridge he hz hI (fun y h1 hm => ?_)
  have hN1 := hm.1.1 sb hsb
  have b1 : ∀ K, ai 2 (nI (i + 1)) V h1 sb K = K (xs (i + 1)) := fun K => sc_ai hV hN1 (by omega) hL
  have b2 : ∀ K, ai 2 (nI (i + 2)) V h1 sb K = K (xs (i + 2)) := fun K => sc_ai hV hN1 (by omega) hL
  have b3 : ∀ K, ai 2 (nI (i + 3)) V h1 sb K = K (xs (i + 3)) := fun K => sc_ai hV hN1 (by omega) hL
  have b4 : ∀ K, ai 2 (nI (i + 4)) V h1 sb K = K (xs (i + 4)) := fun K => sc_ai hV hN1 (by omega) hL
  have b5 : ∀ K, ai 2 (nI (i + 5)) V h1 sb K = K (xs (i + 5)) := fun K => sc_ai hV hN1 (by omega) hL
  have x2 : ∀ K, cv [(12, 153)] h1 b K = K 153 := fun K => MS_cv hm.1
  simp only [s_0_470, s_0_471, ↓reduceIte, eq_self, rts_some, rts_none, nq_int, nq_ref, nq_null, nq_none, okr1_0, okr1_1, okr_b, List.length_nil, List.length_cons, Nat.zero_le, Nat.reduceAdd, Nat.reduceLeDiff, b2i_0, b2i_n0, b2i_1, b2i_n1, ite_not, if_true, if_false, not_true_eq_false, not_false_eq_true, true_and, and_true, false_and, and_false, b1, b2, b3, b4, b5, x2, pls (i := i) (k := 1) (c := 1) rfl, pls (i := i) (k := 2) (c := 2) rfl, pls (i := i) (k := 3) (c := 3) rfl, pls (i := i) (k := 4) (c := 4) rfl, pls (i := i) (k := 5) (c := 5) rfl]
  refine hm.2 _ (fun h2 h2I => ?_)
  simp only [s_0_474, ↓reduceIte, eq_self, rts_some, rts_none, nq_int, nq_ref, nq_null, nq_none, okr1_0, okr1_1, okr_b, List.length_nil, List.length_cons, Nat.zero_le, Nat.reduceAdd, Nat.reduceLeDiff, b2i_0, b2i_n0, b2i_1, b2i_n1, ite_not, if_true, if_false, not_true_eq_false, not_false_eq_true, true_and, and_true, false_and, and_false, if_true]
  exact H h2 h2I
theorem lw_9 (lc : LC V Ev S sb L xs) (hi : i + 6 ≤ L) (hz : Z1 + 12 ≤ BIG) (hI : INV x0 b BIG S Z1 Z2 h) (H : ∀ h2, NXT x0 b BIG S Z1 Z2 h2 → wp V (cdT Ev) mx (d + 40) 0 1221 [some (.ref sb), some (.ref x0), some (.ref b), some (.int (nI i))] [] h2 Q) : wp V (cdT Ev) mx (d + 40) 0 479 [some (.ref sb), some (.ref x0), some (.ref b), some (.int (nI i))] [] h Q := by
  obtain ⟨hV, hsb, hL, he⟩ := lc
  have hN := INV_N hI hsb
  have a1 : ∀ K, ai 2 (nI (i + 1)) V h sb K = K (xs (i + 1)) := fun K => sc_ai hV hN (by omega) hL
  have a2 : ∀ K, ai 2 (nI (i + 2)) V h sb K = K (xs (i + 2)) := fun K => sc_ai hV hN (by omega) hL
  have a3 : ∀ K, ai 2 (nI (i + 3)) V h sb K = K (xs (i + 3)) := fun K => sc_ai hV hN (by omega) hL
  have a4 : ∀ K, ai 2 (nI (i + 4)) V h sb K = K (xs (i + 4)) := fun K => sc_ai hV hN (by omega) hL
  have a5 : ∀ K, ai 2 (nI (i + 5)) V h sb K = K (xs (i + 5)) := fun K => sc_ai hV hN (by omega) hL
  have x1 : ∀ K, cv [(11, 78)] h x0 K = K 78 := fun K => INV_cv hI
  simp only [s_0_479, s_0_480, s_0_481, s_0_482, s_0_483, s_0_484, s_0_485, ↓reduceIte, eq_self, rts_some, rts_none, nq_int, nq_ref, nq_null, nq_none, okr1_0, okr1_1, okr_b, List.length_nil, List.length_cons, Nat.zero_le, Nat.reduceAdd, Nat.reduceLeDiff, b2i_0, b2i_n0, b2i_1, b2i_n1, ite_not, if_true, if_false, not_true_eq_false, not_false_eq_true, true_and, and_true, false_and, and_false, a1, a2, a3, a4, a5, x1, pls (i := i) (k := 1) (c := 1) rfl, pls (i := i) (k := 2) (c := 2) rfl, pls (i := i) (k := 3) (c := 3) rfl, pls (i := i) (k := 4) (c := 4) rfl, pls (i := i) (k := 5) (c := 5) rfl]
  refine L_told hz hI (fun y h1 hm => ?_)
  have hN1 := hm.1.1 sb hsb
  have b1 : ∀ K, ai 2 (nI (i + 1)) V h1 sb K = K (xs (i + 1)) := fun K => sc_ai hV hN1 (by omega) hL
  have b2 : ∀ K, ai 2 (nI (i + 2)) V h1 sb K = K (xs (i + 2)) := fun K => sc_ai hV hN1 (by omega) hL
  have b3 : ∀ K, ai 2 (nI (i + 3)) V h1 sb K = K (xs (i + 3)) := fun K => sc_ai hV hN1 (by omega) hL
  have b4 : ∀ K, ai 2 (nI (i + 4)) V h1 sb K = K (xs (i + 4)) := fun K => sc_ai hV hN1 (by omega) hL
  have b5 : ∀ K, ai 2 (nI (i + 5)) V h1 sb K = K (xs (i + 5)) := fun K => sc_ai hV hN1 (by omega) hL
  have x2 : ∀ K, cv [(12, 166)] h1 b K = K 166 := fun K => MS_cv hm.1
  simp only [s_0_488, s_0_489, s_0_490, s_0_491, s_0_492, s_0_493, s_0_494, ↓reduceIte, eq_self, rts_some, rts_none, nq_int, nq_ref, nq_null, nq_none, okr1_0, okr1_1, okr_b, List.length_nil, List.length_cons, Nat.zero_le, Nat.reduceAdd, Nat.reduceLeDiff, b2i_0, b2i_n0, b2i_1, b2i_n1, ite_not, if_true, if_false, not_true_eq_false, not_false_eq_true, true_and, and_true, false_and, and_false, b1, b2, b3, b4, b5, x2, pls (i := i) (k := 1) (c := 1) rfl, pls (i := i) (k := 2) (c := 2) rfl, pls (i := i) (k := 3) (c := 3) rfl, pls (i := i) (k := 4) (c := 4) rfl, pls (i := i) (k := 5) (c := 5) rfl]
  refine hm.2 _ (fun h2 h2I => ?_)
  simp only [s_0_497, ↓reduceIte, eq_self, rts_some, rts_none, nq_int, nq_ref, nq_null, nq_none, okr1_0, okr1_1, okr_b, List.length_nil, List.length_cons, Nat.zero_le, Nat.reduceAdd, Nat.reduceLeDiff, b2i_0, b2i_n0, b2i_1, b2i_n1, ite_not, if_true, if_false, not_true_eq_false, not_false_eq_true, true_and, and_true, false_and, and_false, if_true]
  exact H h2 h2I
theorem lw_10 (lc : LC V Ev S sb L xs) (hi : i + 6 ≤ L) (hz : Z1 + 12 ≤ BIG) (hI : INV x0 b BIG S Z1 Z2 h) (H : ∀ h2, NXT x0 b BIG S Z1 Z2 h2 → wp V (cdT Ev) mx (d + 40) 0 1221 [some (.ref sb), some (.ref x0), some (.ref b), some (.int (nI i))] [] h2 Q) : wp V (cdT Ev) mx (d + 40) 0 502 [some (.ref sb), some (.ref x0), some (.ref b), some (.int (nI i))] [] h Q := by
  obtain ⟨hV, hsb, hL, he⟩ := lc
  have hN := INV_N hI hsb
  have a1 : ∀ K, ai 2 (nI (i + 1)) V h sb K = K (xs (i + 1)) := fun K => sc_ai hV hN (by omega) hL
  have a2 : ∀ K, ai 2 (nI (i + 2)) V h sb K = K (xs (i + 2)) := fun K => sc_ai hV hN (by omega) hL
  have a3 : ∀ K, ai 2 (nI (i + 3)) V h sb K = K (xs (i + 3)) := fun K => sc_ai hV hN (by omega) hL
  have a4 : ∀ K, ai 2 (nI (i + 4)) V h sb K = K (xs (i + 4)) := fun K => sc_ai hV hN (by omega) hL
  have a5 : ∀ K, ai 2 (nI (i + 5)) V h sb K = K (xs (i + 5)) := fun K => sc_ai hV hN (by omega) hL
  have x1 : ∀ K, cv [(11, 79)] h x0 K = K 79 := fun K => INV_cv hI
  simp only [s_0_502, s_0_503, s_0_504, s_0_505, s_0_506, s_0_507, s_0_508, ↓reduceIte, eq_self, rts_some, rts_none, nq_int, nq_ref, nq_null, nq_none, okr1_0, okr1_1, okr_b, List.length_nil, List.length_cons, Nat.zero_le, Nat.reduceAdd, Nat.reduceLeDiff, b2i_0, b2i_n0, b2i_1, b2i_n1, ite_not, if_true, if_false, not_true_eq_false, not_false_eq_true, true_and, and_true, false_and, and_false, a1, a2, a3, a4, a5, x1, pls (i := i) (k := 1) (c := 1) rfl, pls (i := i) (k := 2) (c := 2) rfl, pls (i := i) (k := 3) (c := 3) rfl, pls (i := i) (k := 4) (c := 4) rfl, pls (i := i) (k := 5) (c := 5) rfl]
  refine L_pass hI (fun y h1 hm => ?_)
  have hN1 := hm.1.1 sb hsb
  have b1 : ∀ K, ai 2 (nI (i + 1)) V h1 sb K = K (xs (i + 1)) := fun K => sc_ai hV hN1 (by omega) hL
  have b2 : ∀ K, ai 2 (nI (i + 2)) V h1 sb K = K (xs (i + 2)) := fun K => sc_ai hV hN1 (by omega) hL
  have b3 : ∀ K, ai 2 (nI (i + 3)) V h1 sb K = K (xs (i + 3)) := fun K => sc_ai hV hN1 (by omega) hL
  have b4 : ∀ K, ai 2 (nI (i + 4)) V h1 sb K = K (xs (i + 4)) := fun K => sc_ai hV hN1 (by omega) hL
  have b5 : ∀ K, ai 2 (nI (i + 5)) V h1 sb K = K (xs (i + 5)) := fun K => sc_ai hV hN1 (by omega) hL
  have x2 : ∀ K, cv [(12, 167)] h1 b K = K 167 := fun K => MS_cv hm.1
  simp only [s_0_511, s_0_512, s_0_513, s_0_514, s_0_515, s_0_516, s_0_517, ↓reduceIte, eq_self, rts_some, rts_none, nq_int, nq_ref, nq_null, nq_none, okr1_0, okr1_1, okr_b, List.length_nil, List.length_cons, Nat.zero_le, Nat.reduceAdd, Nat.reduceLeDiff, b2i_0, b2i_n0, b2i_1, b2i_n1, ite_not, if_true, if_false, not_true_eq_false, not_false_eq_true, true_and, and_true, false_and, and_false, b1, b2, b3, b4, b5, x2, pls (i := i) (k := 1) (c := 1) rfl, pls (i := i) (k := 2) (c := 2) rfl, pls (i := i) (k := 3) (c := 3) rfl, pls (i := i) (k := 4) (c := 4) rfl, pls (i := i) (k := 5) (c := 5) rfl]
  refine hm.2 _ (fun h2 h2I => ?_)
  simp only [s_0_520, ↓reduceIte, eq_self, rts_some, rts_none, nq_int, nq_ref, nq_null, nq_none, okr1_0, okr1_1, okr_b, List.length_nil, List.length_cons, Nat.zero_le, Nat.reduceAdd, Nat.reduceLeDiff, b2i_0, b2i_n0, b2i_1, b2i_n1, ite_not, if_true, if_false, not_true_eq_false, not_false_eq_true, true_and, and_true, false_and, and_false, if_true]
  exact H h2 h2I
theorem lw_11 (lc : LC V Ev S sb L xs) (hi : i + 6 ≤ L) (hz : Z1 + 12 ≤ BIG) (hI : INV x0 b BIG S Z1 Z2 h) (H : ∀ h2, NXT x0 b BIG S Z1 Z2 h2 → wp V (cdT Ev) mx (d + 40) 0 1221 [some (.ref sb), some (.ref x0), some (.ref b), some (.int (nI i))] [] h2 Q) : wp V (cdT Ev) mx (d + 40) 0 525 [some (.ref sb), some (.ref x0), some (.ref b), some (.int (nI i))] [] h Q := by
  obtain ⟨hV, hsb, hL, he⟩ := lc
  have hN := INV_N hI hsb
  have a1 : ∀ K, ai 2 (nI (i + 1)) V h sb K = K (xs (i + 1)) := fun K => sc_ai hV hN (by omega) hL
  have a2 : ∀ K, ai 2 (nI (i + 2)) V h sb K = K (xs (i + 2)) := fun K => sc_ai hV hN (by omega) hL
  have a3 : ∀ K, ai 2 (nI (i + 3)) V h sb K = K (xs (i + 3)) := fun K => sc_ai hV hN (by omega) hL
  have a4 : ∀ K, ai 2 (nI (i + 4)) V h sb K = K (xs (i + 4)) := fun K => sc_ai hV hN (by omega) hL
  have a5 : ∀ K, ai 2 (nI (i + 5)) V h sb K = K (xs (i + 5)) := fun K => sc_ai hV hN (by omega) hL
  have x1 : ∀ K, cv [(11, 80)] h x0 K = K 80 := fun K => INV_cv hI
  simp only [s_0_525, s_0_526, s_0_527, s_0_528, s_0_529, s_0_530, s_0_531, s_0_532, s_0_533, s_0_534, s_0_535, s_0_536, ↓reduceIte, eq_self, rts_some, rts_none, nq_int, nq_ref, nq_null, nq_none, okr1_0, okr1_1, okr_b, List.length_nil, List.length_cons, Nat.zero_le, Nat.reduceAdd, Nat.reduceLeDiff, b2i_0, b2i_n0, b2i_1, b2i_n1, ite_not, if_true, if_false, not_true_eq_false, not_false_eq_true, true_and, and_true, false_and, and_false, a1, a2, a3, a4, a5, x1, pls (i := i) (k := 1) (c := 1) rfl, pls (i := i) (k := 2) (c := 2) rfl, pls (i := i) (k := 3) (c := 3) rfl, pls (i := i) (k := 4) (c := 4) rfl, pls (i := i) (k := 5) (c := 5) rfl]
  refine L_on hz hI (fun y h1 hm => ?_)
  have hN1 := hm.1.1 sb hsb
  have b1 : ∀ K, ai 2 (nI (i + 1)) V h1 sb K = K (xs (i + 1)) := fun K => sc_ai hV hN1 (by omega) hL
  have b2 : ∀ K, ai 2 (nI (i + 2)) V h1 sb K = K (xs (i + 2)) := fun K => sc_ai hV hN1 (by omega) hL
  have b3 : ∀ K, ai 2 (nI (i + 3)) V h1 sb K = K (xs (i + 3)) := fun K => sc_ai hV hN1 (by omega) hL
  have b4 : ∀ K, ai 2 (nI (i + 4)) V h1 sb K = K (xs (i + 4)) := fun K => sc_ai hV hN1 (by omega) hL
  have b5 : ∀ K, ai 2 (nI (i + 5)) V h1 sb K = K (xs (i + 5)) := fun K => sc_ai hV hN1 (by omega) hL
  have x2 : ∀ K, cv [(12, 168)] h1 b K = K 168 := fun K => MS_cv hm.1
  simp only [s_0_539, s_0_540, s_0_541, s_0_542, s_0_543, s_0_544, s_0_545, s_0_546, s_0_547, s_0_548, s_0_549, s_0_550, ↓reduceIte, eq_self, rts_some, rts_none, nq_int, nq_ref, nq_null, nq_none, okr1_0, okr1_1, okr_b, List.length_nil, List.length_cons, Nat.zero_le, Nat.reduceAdd, Nat.reduceLeDiff, b2i_0, b2i_n0, b2i_1, b2i_n1, ite_not, if_true, if_false, not_true_eq_false, not_false_eq_true, true_and, and_true, false_and, and_false, b1, b2, b3, b4, b5, x2, pls (i := i) (k := 1) (c := 1) rfl, pls (i := i) (k := 2) (c := 2) rfl, pls (i := i) (k := 3) (c := 3) rfl, pls (i := i) (k := 4) (c := 4) rfl, pls (i := i) (k := 5) (c := 5) rfl]
  refine hm.2 _ (fun h2 h2I => ?_)
  simp only [s_0_553, ↓reduceIte, eq_self, rts_some, rts_none, nq_int, nq_ref, nq_null, nq_none, okr1_0, okr1_1, okr_b, List.length_nil, List.length_cons, Nat.zero_le, Nat.reduceAdd, Nat.reduceLeDiff, b2i_0, b2i_n0, b2i_1, b2i_n1, ite_not, if_true, if_false, not_true_eq_false, not_false_eq_true, true_and, and_true, false_and, and_false, if_true]
  exact H h2 h2I
theorem lw_12 (lc : LC V Ev S sb L xs) (hi : i + 6 ≤ L) (hz : Z1 + 12 ≤ BIG) (hI : INV x0 b BIG S Z1 Z2 h) (H : ∀ h2, NXT x0 b BIG S Z1 Z2 h2 → wp V (cdT Ev) mx (d + 40) 0 1221 [some (.ref sb), some (.ref x0), some (.ref b), some (.int (nI i))] [] h2 Q) : wp V (cdT Ev) mx (d + 40) 0 558 [some (.ref sb), some (.ref x0), some (.ref b), some (.int (nI i))] [] h Q := by
  obtain ⟨hV, hsb, hL, he⟩ := lc
  have hN := INV_N hI hsb
  have a1 : ∀ K, ai 2 (nI (i + 1)) V h sb K = K (xs (i + 1)) := fun K => sc_ai hV hN (by omega) hL
  have a2 : ∀ K, ai 2 (nI (i + 2)) V h sb K = K (xs (i + 2)) := fun K => sc_ai hV hN (by omega) hL
  have a3 : ∀ K, ai 2 (nI (i + 3)) V h sb K = K (xs (i + 3)) := fun K => sc_ai hV hN (by omega) hL
  have a4 : ∀ K, ai 2 (nI (i + 4)) V h sb K = K (xs (i + 4)) := fun K => sc_ai hV hN (by omega) hL
  have a5 : ∀ K, ai 2 (nI (i + 5)) V h sb K = K (xs (i + 5)) := fun K => sc_ai hV hN (by omega) hL
  have x1 : ∀ K, cv [(11, 81)] h x0 K = K 81 := fun K => INV_cv hI
  simp only [s_0_558, s_0_559, s_0_560, s_0_561, s_0_562, s_0_563, s_0_564, s_0_565, s_0_566, s_0_567, s_0_568, s_0_569, ↓reduceIte, eq_self, rts_some, rts_none, nq_int, nq_ref, nq_null, nq_none, okr1_0, okr1_1, okr_b, List.length_nil, List.length_cons, Nat.zero_le, Nat.reduceAdd, Nat.reduceLeDiff, b2i_0, b2i_n0, b2i_1, b2i_n1, ite_not, if_true, if_false, not_true_eq_false, not_false_eq_true, true_and, and_true, false_and, and_false, a1, a2, a3, a4, a5, x1, pls (i := i) (k := 1) (c := 1) rfl, pls (i := i) (k := 2) (c := 2) rfl, pls (i := i) (k := 3) (c := 3) rfl, pls (i := i) (k := 4) (c := 4) rfl, pls (i := i) (k := 5) (c := 5) rfl]
  refine L_decoy hz hI (fun y h1 hm => ?_)
  have hN1 := hm.1.1 sb hsb
  have b1 : ∀ K, ai 2 (nI (i + 1)) V h1 sb K = K (xs (i + 1)) := fun K => sc_ai hV hN1 (by omega) hL
  have b2 : ∀ K, ai 2 (nI (i + 2)) V h1 sb K = K (xs (i + 2)) := fun K => sc_ai hV hN1 (by omega) hL
  have b3 : ∀ K, ai 2 (nI (i + 3)) V h1 sb K = K (xs (i + 3)) := fun K => sc_ai hV hN1 (by omega) hL
  have b4 : ∀ K, ai 2 (nI (i + 4)) V h1 sb K = K (xs (i + 4)) := fun K => sc_ai hV hN1 (by omega) hL
  have b5 : ∀ K, ai 2 (nI (i + 5)) V h1 sb K = K (xs (i + 5)) := fun K => sc_ai hV hN1 (by omega) hL
  have x2 : ∀ K, cv [(12, 169)] h1 b K = K 169 := fun K => MS_cv hm.1
  simp only [s_0_572, s_0_573, s_0_574, s_0_575, s_0_576, s_0_577, s_0_578, s_0_579, s_0_580, s_0_581, s_0_582, s_0_583, ↓reduceIte, eq_self, rts_some, rts_none, nq_int, nq_ref, nq_null, nq_none, okr1_0, okr1_1, okr_b, List.length_nil, List.length_cons, Nat.zero_le, Nat.reduceAdd, Nat.reduceLeDiff, b2i_0, b2i_n0, b2i_1, b2i_n1, ite_not, if_true, if_false, not_true_eq_false, not_false_eq_true, true_and, and_true, false_and, and_false, b1, b2, b3, b4, b5, x2, pls (i := i) (k := 1) (c := 1) rfl, pls (i := i) (k := 2) (c := 2) rfl, pls (i := i) (k := 3) (c := 3) rfl, pls (i := i) (k := 4) (c := 4) rfl, pls (i := i) (k := 5) (c := 5) rfl]
  refine hm.2 _ (fun h2 h2I => ?_)
  simp only [s_0_586, ↓reduceIte, eq_self, rts_some, rts_none, nq_int, nq_ref, nq_null, nq_none, okr1_0, okr1_1, okr_b, List.length_nil, List.length_cons, Nat.zero_le, Nat.reduceAdd, Nat.reduceLeDiff, b2i_0, b2i_n0, b2i_1, b2i_n1, ite_not, if_true, if_false, not_true_eq_false, not_false_eq_true, true_and, and_true, false_and, and_false, if_true]
  exact H h2 h2I
theorem lw_13 (lc : LC V Ev S sb L xs) (hi : i + 6 ≤ L) (hz : Z1 + 12 ≤ BIG) (hI : INV x0 b BIG S Z1 Z2 h) (H : ∀ h2, NXT x0 b BIG S Z1 Z2 h2 → wp V (cdT Ev) mx (d + 40) 0 1221 [some (.ref sb), some (.ref x0), some (.ref b), some (.int (nI i))] [] h2 Q) : wp V (cdT Ev) mx (d + 40) 0 591 [some (.ref sb), some (.ref x0), some (.ref b), some (.int (nI i))] [] h Q := by
  obtain ⟨hV, hsb, hL, he⟩ := lc
  have hN := INV_N hI hsb
  have a1 : ∀ K, ai 2 (nI (i + 1)) V h sb K = K (xs (i + 1)) := fun K => sc_ai hV hN (by omega) hL
  have a2 : ∀ K, ai 2 (nI (i + 2)) V h sb K = K (xs (i + 2)) := fun K => sc_ai hV hN (by omega) hL
  have a3 : ∀ K, ai 2 (nI (i + 3)) V h sb K = K (xs (i + 3)) := fun K => sc_ai hV hN (by omega) hL
  have a4 : ∀ K, ai 2 (nI (i + 4)) V h sb K = K (xs (i + 4)) := fun K => sc_ai hV hN (by omega) hL
  have a5 : ∀ K, ai 2 (nI (i + 5)) V h sb K = K (xs (i + 5)) := fun K => sc_ai hV hN (by omega) hL
  have x1 : ∀ K, cv [(11, 82)] h x0 K = K 82 := fun K => INV_cv hI
  simp only [s_0_591, s_0_592, s_0_593, s_0_594, s_0_595, s_0_596, s_0_597, s_0_598, s_0_599, s_0_600, s_0_601, s_0_602, ↓reduceIte, eq_self, rts_some, rts_none, nq_int, nq_ref, nq_null, nq_none, okr1_0, okr1_1, okr_b, List.length_nil, List.length_cons, Nat.zero_le, Nat.reduceAdd, Nat.reduceLeDiff, b2i_0, b2i_n0, b2i_1, b2i_n1, ite_not, if_true, if_false, not_true_eq_false, not_false_eq_true, true_and, and_true, false_and, and_false, a1, a2, a3, a4, a5, x1, pls (i := i) (k := 1) (c := 1) rfl, pls (i := i) (k := 2) (c := 2) rfl, pls (i := i) (k := 3) (c := 3) rfl, pls (i := i) (k := 4) (c := 4) rfl, pls (i := i) (k := 5) (c := 5) rfl]
  refine L_see hI (fun y h1 hm => ?_)
  have hN1 := hm.1.1 sb hsb
  have b1 : ∀ K, ai 2 (nI (i + 1)) V h1 sb K = K (xs (i + 1)) := fun K => sc_ai hV hN1 (by omega) hL
  have b2 : ∀ K, ai 2 (nI (i + 2)) V h1 sb K = K (xs (i + 2)) := fun K => sc_ai hV hN1 (by omega) hL
  have b3 : ∀ K, ai 2 (nI (i + 3)) V h1 sb K = K (xs (i + 3)) := fun K => sc_ai hV hN1 (by omega) hL
  have b4 : ∀ K, ai 2 (nI (i + 4)) V h1 sb K = K (xs (i + 4)) := fun K => sc_ai hV hN1 (by omega) hL
  have b5 : ∀ K, ai 2 (nI (i + 5)) V h1 sb K = K (xs (i + 5)) := fun K => sc_ai hV hN1 (by omega) hL
  have x2 : ∀ K, cv [(12, 170)] h1 b K = K 170 := fun K => MS_cv hm.1
  simp only [s_0_605, s_0_606, s_0_607, s_0_608, s_0_609, s_0_610, s_0_611, s_0_612, s_0_613, s_0_614, s_0_615, s_0_616, ↓reduceIte, eq_self, rts_some, rts_none, nq_int, nq_ref, nq_null, nq_none, okr1_0, okr1_1, okr_b, List.length_nil, List.length_cons, Nat.zero_le, Nat.reduceAdd, Nat.reduceLeDiff, b2i_0, b2i_n0, b2i_1, b2i_n1, ite_not, if_true, if_false, not_true_eq_false, not_false_eq_true, true_and, and_true, false_and, and_false, b1, b2, b3, b4, b5, x2, pls (i := i) (k := 1) (c := 1) rfl, pls (i := i) (k := 2) (c := 2) rfl, pls (i := i) (k := 3) (c := 3) rfl, pls (i := i) (k := 4) (c := 4) rfl, pls (i := i) (k := 5) (c := 5) rfl]
  refine hm.2 _ (fun h2 h2I => ?_)
  simp only [s_0_619, ↓reduceIte, eq_self, rts_some, rts_none, nq_int, nq_ref, nq_null, nq_none, okr1_0, okr1_1, okr_b, List.length_nil, List.length_cons, Nat.zero_le, Nat.reduceAdd, Nat.reduceLeDiff, b2i_0, b2i_n0, b2i_1, b2i_n1, ite_not, if_true, if_false, not_true_eq_false, not_false_eq_true, true_and, and_true, false_and, and_false, if_true]
  exact H h2 h2I
theorem lw_14 (lc : LC V Ev S sb L xs) (hi : i + 6 ≤ L) (hz : Z1 + 12 ≤ BIG) (hI : INV x0 b BIG S Z1 Z2 h) (H : ∀ h2, NXT x0 b BIG S Z1 Z2 h2 → wp V (cdT Ev) mx (d + 40) 0 1221 [some (.ref sb), some (.ref x0), some (.ref b), some (.int (nI i))] [] h2 Q) : wp V (cdT Ev) mx (d + 40) 0 624 [some (.ref sb), some (.ref x0), some (.ref b), some (.int (nI i))] [] h Q := by
  obtain ⟨hV, hsb, hL, he⟩ := lc
  have hN := INV_N hI hsb
  have a1 : ∀ K, ai 2 (nI (i + 1)) V h sb K = K (xs (i + 1)) := fun K => sc_ai hV hN (by omega) hL
  have a2 : ∀ K, ai 2 (nI (i + 2)) V h sb K = K (xs (i + 2)) := fun K => sc_ai hV hN (by omega) hL
  have a3 : ∀ K, ai 2 (nI (i + 3)) V h sb K = K (xs (i + 3)) := fun K => sc_ai hV hN (by omega) hL
  have a4 : ∀ K, ai 2 (nI (i + 4)) V h sb K = K (xs (i + 4)) := fun K => sc_ai hV hN (by omega) hL
  have a5 : ∀ K, ai 2 (nI (i + 5)) V h sb K = K (xs (i + 5)) := fun K => sc_ai hV hN (by omega) hL
  have x1 : ∀ K, cv [(11, 83)] h x0 K = K 83 := fun K => INV_cv hI
  simp only [s_0_624, s_0_625, s_0_626, s_0_627, s_0_628, s_0_629, s_0_630, s_0_631, s_0_632, s_0_633, s_0_634, s_0_635, ↓reduceIte, eq_self, rts_some, rts_none, nq_int, nq_ref, nq_null, nq_none, okr1_0, okr1_1, okr_b, List.length_nil, List.length_cons, Nat.zero_le, Nat.reduceAdd, Nat.reduceLeDiff, b2i_0, b2i_n0, b2i_1, b2i_n1, ite_not, if_true, if_false, not_true_eq_false, not_false_eq_true, true_and, and_true, false_and, and_false, a1, a2, a3, a4, a5, x1, pls (i := i) (k := 1) (c := 1) rfl, pls (i := i) (k := 2) (c := 2) rfl, pls (i := i) (k := 3) (c := 3) rfl, pls (i := i) (k := 4) (c := 4) rfl, pls (i := i) (k := 5) (c := 5) rfl]
  refine L_can hz hI (fun y h1 hm => ?_)
  have hN1 := hm.1.1 sb hsb
  have b1 : ∀ K, ai 2 (nI (i + 1)) V h1 sb K = K (xs (i + 1)) := fun K => sc_ai hV hN1 (by omega) hL
  have b2 : ∀ K, ai 2 (nI (i + 2)) V h1 sb K = K (xs (i + 2)) := fun K => sc_ai hV hN1 (by omega) hL
  have b3 : ∀ K, ai 2 (nI (i + 3)) V h1 sb K = K (xs (i + 3)) := fun K => sc_ai hV hN1 (by omega) hL
  have b4 : ∀ K, ai 2 (nI (i + 4)) V h1 sb K = K (xs (i + 4)) := fun K => sc_ai hV hN1 (by omega) hL
  have b5 : ∀ K, ai 2 (nI (i + 5)) V h1 sb K = K (xs (i + 5)) := fun K => sc_ai hV hN1 (by omega) hL
  have x2 : ∀ K, cv [(12, 174)] h1 b K = K 174 := fun K => MS_cv hm.1
  simp only [s_0_638, s_0_639, s_0_640, s_0_641, s_0_642, s_0_643, s_0_644, s_0_645, s_0_646, s_0_647, s_0_648, s_0_649, ↓reduceIte, eq_self, rts_some, rts_none, nq_int, nq_ref, nq_null, nq_none, okr1_0, okr1_1, okr_b, List.length_nil, List.length_cons, Nat.zero_le, Nat.reduceAdd, Nat.reduceLeDiff, b2i_0, b2i_n0, b2i_1, b2i_n1, ite_not, if_true, if_false, not_true_eq_false, not_false_eq_true, true_and, and_true, false_and, and_false, b1, b2, b3, b4, b5, x2, pls (i := i) (k := 1) (c := 1) rfl, pls (i := i) (k := 2) (c := 2) rfl, pls (i := i) (k := 3) (c := 3) rfl, pls (i := i) (k := 4) (c := 4) rfl, pls (i := i) (k := 5) (c := 5) rfl]
  refine hm.2 _ (fun h2 h2I => ?_)
  simp only [s_0_652, ↓reduceIte, eq_self, rts_some, rts_none, nq_int, nq_ref, nq_null, nq_none, okr1_0, okr1_1, okr_b, List.length_nil, List.length_cons, Nat.zero_le, Nat.reduceAdd, Nat.reduceLeDiff, b2i_0, b2i_n0, b2i_1, b2i_n1, ite_not, if_true, if_false, not_true_eq_false, not_false_eq_true, true_and, and_true, false_and, and_false, if_true]
  exact H h2 h2I
theorem lw_15 (lc : LC V Ev S sb L xs) (hi : i + 6 ≤ L) (hz : Z1 + 12 ≤ BIG) (hI : INV x0 b BIG S Z1 Z2 h) (H : ∀ h2, NXT x0 b BIG S Z1 Z2 h2 → wp V (cdT Ev) mx (d + 40) 0 1221 [some (.ref sb), some (.ref x0), some (.ref b), some (.int (nI i))] [] h2 Q) : wp V (cdT Ev) mx (d + 40) 0 657 [some (.ref sb), some (.ref x0), some (.ref b), some (.int (nI i))] [] h Q := by
  obtain ⟨hV, hsb, hL, he⟩ := lc
  have hN := INV_N hI hsb
  have a1 : ∀ K, ai 2 (nI (i + 1)) V h sb K = K (xs (i + 1)) := fun K => sc_ai hV hN (by omega) hL
  have a2 : ∀ K, ai 2 (nI (i + 2)) V h sb K = K (xs (i + 2)) := fun K => sc_ai hV hN (by omega) hL
  have a3 : ∀ K, ai 2 (nI (i + 3)) V h sb K = K (xs (i + 3)) := fun K => sc_ai hV hN (by omega) hL
  have a4 : ∀ K, ai 2 (nI (i + 4)) V h sb K = K (xs (i + 4)) := fun K => sc_ai hV hN (by omega) hL
  have a5 : ∀ K, ai 2 (nI (i + 5)) V h sb K = K (xs (i + 5)) := fun K => sc_ai hV hN (by omega) hL
  have x1 : ∀ K, cv [(11, 84)] h x0 K = K 84 := fun K => INV_cv hI
  simp only [s_0_657, s_0_658, s_0_659, s_0_660, s_0_661, s_0_662, s_0_663, s_0_664, s_0_665, s_0_666, s_0_667, s_0_668, ↓reduceIte, eq_self, rts_some, rts_none, nq_int, nq_ref, nq_null, nq_none, okr1_0, okr1_1, okr_b, List.length_nil, List.length_cons, Nat.zero_le, Nat.reduceAdd, Nat.reduceLeDiff, b2i_0, b2i_n0, b2i_1, b2i_n1, ite_not, if_true, if_false, not_true_eq_false, not_false_eq_true, true_and, and_true, false_and, and_false, a1, a2, a3, a4, a5, x1, pls (i := i) (k := 1) (c := 1) rfl, pls (i := i) (k := 2) (c := 2) rfl, pls (i := i) (k := 3) (c := 3) rfl, pls (i := i) (k := 4) (c := 4) rfl, pls (i := i) (k := 5) (c := 5) rfl]
  refine L_odds hz hI (fun y h1 hm => ?_)
  have hN1 := hm.1.1 sb hsb
  have b1 : ∀ K, ai 2 (nI (i + 1)) V h1 sb K = K (xs (i + 1)) := fun K => sc_ai hV hN1 (by omega) hL
  have b2 : ∀ K, ai 2 (nI (i + 2)) V h1 sb K = K (xs (i + 2)) := fun K => sc_ai hV hN1 (by omega) hL
  have b3 : ∀ K, ai 2 (nI (i + 3)) V h1 sb K = K (xs (i + 3)) := fun K => sc_ai hV hN1 (by omega) hL
  have b4 : ∀ K, ai 2 (nI (i + 4)) V h1 sb K = K (xs (i + 4)) := fun K => sc_ai hV hN1 (by omega) hL
  have b5 : ∀ K, ai 2 (nI (i + 5)) V h1 sb K = K (xs (i + 5)) := fun K => sc_ai hV hN1 (by omega) hL
  have x2 : ∀ K, cv [(12, 176)] h1 b K = K 176 := fun K => MS_cv hm.1
  simp only [s_0_671, s_0_672, s_0_673, s_0_674, s_0_675, s_0_676, s_0_677, s_0_678, s_0_679, s_0_680, s_0_681, s_0_682, ↓reduceIte, eq_self, rts_some, rts_none, nq_int, nq_ref, nq_null, nq_none, okr1_0, okr1_1, okr_b, List.length_nil, List.length_cons, Nat.zero_le, Nat.reduceAdd, Nat.reduceLeDiff, b2i_0, b2i_n0, b2i_1, b2i_n1, ite_not, if_true, if_false, not_true_eq_false, not_false_eq_true, true_and, and_true, false_and, and_false, b1, b2, b3, b4, b5, x2, pls (i := i) (k := 1) (c := 1) rfl, pls (i := i) (k := 2) (c := 2) rfl, pls (i := i) (k := 3) (c := 3) rfl, pls (i := i) (k := 4) (c := 4) rfl, pls (i := i) (k := 5) (c := 5) rfl]
  refine hm.2 _ (fun h2 h2I => ?_)
  simp only [s_0_685, s_0_686, ↓reduceIte, eq_self, rts_some, rts_none, nq_int, nq_ref, nq_null, nq_none, okr1_0, okr1_1, okr_b, List.length_nil, List.length_cons, Nat.zero_le, Nat.reduceAdd, Nat.reduceLeDiff, b2i_0, b2i_n0, b2i_1, b2i_n1, ite_not, if_true, if_false, not_true_eq_false, not_false_eq_true, true_and, and_true, false_and, and_false, eq_true ((lg_cmp_eq y y).mpr rfl)]
  exact H h2 h2I
theorem lw_16 (lc : LC V Ev S sb L xs) (hi : i + 6 ≤ L) (hz : Z1 + 12 ≤ BIG) (hI : INV x0 b BIG S Z1 Z2 h) (H : ∀ h2, NXT x0 b BIG S Z1 Z2 h2 → wp V (cdT Ev) mx (d + 40) 0 1221 [some (.ref sb), some (.ref x0), some (.ref b), some (.int (nI i))] [] h2 Q) : wp V (cdT Ev) mx (d + 40) 0 691 [some (.ref sb), some (.ref x0), some (.ref b), some (.int (nI i))] [] h Q := by
  obtain ⟨hV, hsb, hL, he⟩ := lc
  have hN := INV_N hI hsb
  have a1 : ∀ K, ai 2 (nI (i + 1)) V h sb K = K (xs (i + 1)) := fun K => sc_ai hV hN (by omega) hL
  have a2 : ∀ K, ai 2 (nI (i + 2)) V h sb K = K (xs (i + 2)) := fun K => sc_ai hV hN (by omega) hL
  have a3 : ∀ K, ai 2 (nI (i + 3)) V h sb K = K (xs (i + 3)) := fun K => sc_ai hV hN (by omega) hL
  have a4 : ∀ K, ai 2 (nI (i + 4)) V h sb K = K (xs (i + 4)) := fun K => sc_ai hV hN (by omega) hL
  have a5 : ∀ K, ai 2 (nI (i + 5)) V h sb K = K (xs (i + 5)) := fun K => sc_ai hV hN (by omega) hL
  have x1 : ∀ K, cv [(11, 85)] h x0 K = K 85 := fun K => INV_cv hI
  simp only [s_0_691, s_0_692, s_0_693, s_0_694, s_0_695, s_0_696, s_0_697, s_0_698, s_0_699, s_0_700, s_0_701, s_0_702, ↓reduceIte, eq_self, rts_some, rts_none, nq_int, nq_ref, nq_null, nq_none, okr1_0, okr1_1, okr_b, List.length_nil, List.length_cons, Nat.zero_le, Nat.reduceAdd, Nat.reduceLeDiff, b2i_0, b2i_n0, b2i_1, b2i_n1, ite_not, if_true, if_false, not_true_eq_false, not_false_eq_true, true_and, and_true, false_and, and_false, a1, a2, a3, a4, a5, x1, pls (i := i) (k := 1) (c := 1) rfl, pls (i := i) (k := 2) (c := 2) rfl, pls (i := i) (k := 3) (c := 3) rfl, pls (i := i) (k := 4) (c := 4) rfl, pls (i := i) (k := 5) (c := 5) rfl]
  refine L_mean hz hI (fun y h1 hm => ?_)
  have hN1 := hm.1.1 sb hsb
  have b1 : ∀ K, ai 2 (nI (i + 1)) V h1 sb K = K (xs (i + 1)) := fun K => sc_ai hV hN1 (by omega) hL
  have b2 : ∀ K, ai 2 (nI (i + 2)) V h1 sb K = K (xs (i + 2)) := fun K => sc_ai hV hN1 (by omega) hL
  have b3 : ∀ K, ai 2 (nI (i + 3)) V h1 sb K = K (xs (i + 3)) := fun K => sc_ai hV hN1 (by omega) hL
  have b4 : ∀ K, ai 2 (nI (i + 4)) V h1 sb K = K (xs (i + 4)) := fun K => sc_ai hV hN1 (by omega) hL
  have b5 : ∀ K, ai 2 (nI (i + 5)) V h1 sb K = K (xs (i + 5)) := fun K => sc_ai hV hN1 (by omega) hL
  have x2 : ∀ K, cv [(12, 177)] h1 b K = K 177 := fun K => MS_cv hm.1
  simp only [s_0_705, s_0_706, s_0_707, s_0_708, s_0_709, s_0_710, s_0_711, s_0_712, s_0_713, s_0_714, s_0_715, s_0_716, ↓reduceIte, eq_self, rts_some, rts_none, nq_int, nq_ref, nq_null, nq_none, okr1_0, okr1_1, okr_b, List.length_nil, List.length_cons, Nat.zero_le, Nat.reduceAdd, Nat.reduceLeDiff, b2i_0, b2i_n0, b2i_1, b2i_n1, ite_not, if_true, if_false, not_true_eq_false, not_false_eq_true, true_and, and_true, false_and, and_false, b1, b2, b3, b4, b5, x2, pls (i := i) (k := 1) (c := 1) rfl, pls (i := i) (k := 2) (c := 2) rfl, pls (i := i) (k := 3) (c := 3) rfl, pls (i := i) (k := 4) (c := 4) rfl, pls (i := i) (k := 5) (c := 5) rfl]
  refine hm.2 _ (fun h2 h2I => ?_)
  simp only [s_0_719, s_0_720, ↓reduceIte, eq_self, rts_some, rts_none, nq_int, nq_ref, nq_null, nq_none, okr1_0, okr1_1, okr_b, List.length_nil, List.length_cons, Nat.zero_le, Nat.reduceAdd, Nat.reduceLeDiff, b2i_0, b2i_n0, b2i_1, b2i_n1, ite_not, if_true, if_false, not_true_eq_false, not_false_eq_true, true_and, and_true, false_and, and_false, eq_true ((lg_cmp_eq y y).mpr rfl)]
  exact H h2 h2I
theorem lw_17 (lc : LC V Ev S sb L xs) (hi : i + 6 ≤ L) (hz : Z1 + 12 ≤ BIG) (hI : INV x0 b BIG S Z1 Z2 h) (H : ∀ h2, NXT x0 b BIG S Z1 Z2 h2 → wp V (cdT Ev) mx (d + 40) 0 1221 [some (.ref sb), some (.ref x0), some (.ref b), some (.int (nI i))] [] h2 Q) : wp V (cdT Ev) mx (d + 40) 0 725 [some (.ref sb), some (.ref x0), some (.ref b), some (.int (nI i))] [] h Q := by
  obtain ⟨hV, hsb, hL, he⟩ := lc
  have hN := INV_N hI hsb
  have a1 : ∀ K, ai 2 (nI (i + 1)) V h sb K = K (xs (i + 1)) := fun K => sc_ai hV hN (by omega) hL
  have a2 : ∀ K, ai 2 (nI (i + 2)) V h sb K = K (xs (i + 2)) := fun K => sc_ai hV hN (by omega) hL
  have a3 : ∀ K, ai 2 (nI (i + 3)) V h sb K = K (xs (i + 3)) := fun K => sc_ai hV hN (by omega) hL
  have a4 : ∀ K, ai 2 (nI (i + 4)) V h sb K = K (xs (i + 4)) := fun K => sc_ai hV hN (by omega) hL
  have a5 : ∀ K, ai 2 (nI (i + 5)) V h sb K = K (xs (i + 5)) := fun K => sc_ai hV hN (by omega) hL
  have x1 : ∀ K, cv [(11, 86)] h x0 K = K 86 := fun K => INV_cv hI
  simp only [s_0_725, s_0_726, s_0_727, s_0_728, s_0_729, s_0_730, s_0_731, s_0_732, s_0_733, s_0_734, s_0_735, s_0_736, ↓reduceIte, eq_self, rts_some, rts_none, nq_int, nq_ref, nq_null, nq_none, okr1_0, okr1_1, okr_b, List.length_nil, List.length_cons, Nat.zero_le, Nat.reduceAdd, Nat.reduceLeDiff, b2i_0, b2i_n0, b2i_1, b2i_n1, ite_not, if_true, if_false, not_true_eq_false, not_false_eq_true, true_and, and_true, false_and, and_false, a1, a2, a3, a4, a5, x1, pls (i := i) (k := 1) (c := 1) rfl, pls (i := i) (k := 2) (c := 2) rfl, pls (i := i) (k := 3) (c := 3) rfl, pls (i := i) (k := 4) (c := 4) rfl, pls (i := i) (k := 5) (c := 5) rfl]
  refine L_plan hI (fun y h1 hm => ?_)
  have hN1 := hm.1.1 sb hsb
  have b1 : ∀ K, ai 2 (nI (i + 1)) V h1 sb K = K (xs (i + 1)) := fun K => sc_ai hV hN1 (by omega) hL
  have b2 : ∀ K, ai 2 (nI (i + 2)) V h1 sb K = K (xs (i + 2)) := fun K => sc_ai hV hN1 (by omega) hL
  have b3 : ∀ K, ai 2 (nI (i + 3)) V h1 sb K = K (xs (i + 3)) := fun K => sc_ai hV hN1 (by omega) hL
  have b4 : ∀ K, ai 2 (nI (i + 4)) V h1 sb K = K (xs (i + 4)) := fun K => sc_ai hV hN1 (by omega) hL
  have b5 : ∀ K, ai 2 (nI (i + 5)) V h1 sb K = K (xs (i + 5)) := fun K => sc_ai hV hN1 (by omega) hL
  have x2 : ∀ K, cv [(12, 178)] h1 b K = K 178 := fun K => MS_cv hm.1
  simp only [s_0_739, s_0_740, s_0_741, s_0_742, s_0_743, s_0_744, s_0_745, s_0_746, s_0_747, s_0_748, s_0_749, s_0_750, ↓reduceIte, eq_self, rts_some, rts_none, nq_int, nq_ref, nq_null, nq_none, okr1_0, okr1_1, okr_b, List.length_nil, List.length_cons, Nat.zero_le, Nat.reduceAdd, Nat.reduceLeDiff, b2i_0, b2i_n0, b2i_1, b2i_n1, ite_not, if_true, if_false, not_true_eq_false, not_false_eq_true, true_and, and_true, false_and, and_false, b1, b2, b3, b4, b5, x2, pls (i := i) (k := 1) (c := 1) rfl, pls (i := i) (k := 2) (c := 2) rfl, pls (i := i) (k := 3) (c := 3) rfl, pls (i := i) (k := 4) (c := 4) rfl, pls (i := i) (k := 5) (c := 5) rfl]
  refine hm.2 _ (fun h2 h2I => ?_)
  simp only [s_0_753, ↓reduceIte, eq_self, rts_some, rts_none, nq_int, nq_ref, nq_null, nq_none, okr1_0, okr1_1, okr_b, List.length_nil, List.length_cons, Nat.zero_le, Nat.reduceAdd, Nat.reduceLeDiff, b2i_0, b2i_n0, b2i_1, b2i_n1, ite_not, if_true, if_false, not_true_eq_false, not_false_eq_true, true_and, and_true, false_and, and_false, if_true]
  exact H h2 h2I
theorem lw_18 (lc : LC V Ev S sb L xs) (hi : i + 6 ≤ L) (hz : Z1 + 12 ≤ BIG) (hI : INV x0 b BIG S Z1 Z2 h) (H : ∀ h2, NXT x0 b BIG S Z1 Z2 h2 → wp V (cdT Ev) mx (d + 40) 0 1221 [some (.ref sb), some (.ref x0), some (.ref b), some (.int (nI i))] [] h2 Q) : wp V (cdT Ev) mx (d + 40) 0 758 [some (.ref sb), some (.ref x0), some (.ref b), some (.int (nI i))] [] h Q := by
  obtain ⟨hV, hsb, hL, he⟩ := lc
  have hN := INV_N hI hsb
  have a1 : ∀ K, ai 2 (nI (i + 1)) V h sb K = K (xs (i + 1)) := fun K => sc_ai hV hN (by omega) hL
  have a2 : ∀ K, ai 2 (nI (i + 2)) V h sb K = K (xs (i + 2)) := fun K => sc_ai hV hN (by omega) hL
  have a3 : ∀ K, ai 2 (nI (i + 3)) V h sb K = K (xs (i + 3)) := fun K => sc_ai hV hN (by omega) hL
  have a4 : ∀ K, ai 2 (nI (i + 4)) V h sb K = K (xs (i + 4)) := fun K => sc_ai hV hN (by omega) hL
  have a5 : ∀ K, ai 2 (nI (i + 5)) V h sb K = K (xs (i + 5)) := fun K => sc_ai hV hN (by omega) hL
  have x1 : ∀ K, cv [(11, 87)] h x0 K = K 87 := fun K => INV_cv hI
  simp only [s_0_758, s_0_759, s_0_760, s_0_761, s_0_762, s_0_763, s_0_764, ↓reduceIte, eq_self, rts_some, rts_none, nq_int, nq_ref, nq_null, nq_none, okr1_0, okr1_1, okr_b, List.length_nil, List.length_cons, Nat.zero_le, Nat.reduceAdd, Nat.reduceLeDiff, b2i_0, b2i_n0, b2i_1, b2i_n1, ite_not, if_true, if_false, not_true_eq_false, not_false_eq_true, true_and, and_true, false_and, and_false, a1, a2, a3, a4, a5, x1, pls (i := i) (k := 1) (c := 1) rfl, pls (i := i) (k := 2) (c := 2) rfl, pls (i := i) (k := 3) (c := 3) rfl, pls (i := i) (k := 4) (c := 4) rfl, pls (i := i) (k := 5) (c := 5) rfl]
  refine L_ends hz hI (fun y h1 hm => ?_)
  have hN1 := hm.1.1 sb hsb
  have b1 : ∀ K, ai 2 (nI (i + 1)) V h1 sb K = K (xs (i + 1)) := fun K => sc_ai hV hN1 (by omega) hL
  have b2 : ∀ K, ai 2 (nI (i + 2)) V h1 sb K = K (xs (i + 2)) := fun K => sc_ai hV hN1 (by omega) hL
  have b3 : ∀ K, ai 2 (nI (i + 3)) V h1 sb K = K (xs (i + 3)) := fun K => sc_ai hV hN1 (by omega) hL
  have b4 : ∀ K, ai 2 (nI (i + 4)) V h1 sb K = K (xs (i + 4)) := fun K => sc_ai hV hN1 (by omega) hL
  have b5 : ∀ K, ai 2 (nI (i + 5)) V h1 sb K = K (xs (i + 5)) := fun K => sc_ai hV hN1 (by omega) hL
  have x2 : ∀ K, cv [(12, 179)] h1 b K = K 179 := fun K => MS_cv hm.1
  simp only [s_0_767, s_0_768, s_0_769, s_0_770, s_0_771, s_0_772, s_0_773, ↓reduceIte, eq_self, rts_some, rts_none, nq_int, nq_ref, nq_null, nq_none, okr1_0, okr1_1, okr_b, List.length_nil, List.length_cons, Nat.zero_le, Nat.reduceAdd, Nat.reduceLeDiff, b2i_0, b2i_n0, b2i_1, b2i_n1, ite_not, if_true, if_false, not_true_eq_false, not_false_eq_true, true_and, and_true, false_and, and_false, b1, b2, b3, b4, b5, x2, pls (i := i) (k := 1) (c := 1) rfl, pls (i := i) (k := 2) (c := 2) rfl, pls (i := i) (k := 3) (c := 3) rfl, pls (i := i) (k := 4) (c := 4) rfl, pls (i := i) (k := 5) (c := 5) rfl]
  refine hm.2 _ (fun h2 h2I => ?_)
  simp only [s_0_776, ↓reduceIte, eq_self, rts_some, rts_none, nq_int, nq_ref, nq_null, nq_none, okr1_0, okr1_1, okr_b, List.length_nil, List.length_cons, Nat.zero_le, Nat.reduceAdd, Nat.reduceLeDiff, b2i_0, b2i_n0, b2i_1, b2i_n1, ite_not, if_true, if_false, not_true_eq_false, not_false_eq_true, true_and, and_true, false_and, and_false, if_true]
  exact H h2 h2I
theorem lw_19 (lc : LC V Ev S sb L xs) (hi : i + 6 ≤ L) (hz : Z1 + 12 ≤ BIG) (hI : INV x0 b BIG S Z1 Z2 h) (H : ∀ h2, NXT x0 b BIG S Z1 Z2 h2 → wp V (cdT Ev) mx (d + 40) 0 1221 [some (.ref sb), some (.ref x0), some (.ref b), some (.int (nI i))] [] h2 Q) : wp V (cdT Ev) mx (d + 40) 0 781 [some (.ref sb), some (.ref x0), some (.ref b), some (.int (nI i))] [] h Q := by
  obtain ⟨hV, hsb, hL, he⟩ := lc
  have hN := INV_N hI hsb
  have a1 : ∀ K, ai 2 (nI (i + 1)) V h sb K = K (xs (i + 1)) := fun K => sc_ai hV hN (by omega) hL
  have a2 : ∀ K, ai 2 (nI (i + 2)) V h sb K = K (xs (i + 2)) := fun K => sc_ai hV hN (by omega) hL
  have a3 : ∀ K, ai 2 (nI (i + 3)) V h sb K = K (xs (i + 3)) := fun K => sc_ai hV hN (by omega) hL
  have a4 : ∀ K, ai 2 (nI (i + 4)) V h sb K = K (xs (i + 4)) := fun K => sc_ai hV hN (by omega) hL
  have a5 : ∀ K, ai 2 (nI (i + 5)) V h sb K = K (xs (i + 5)) := fun K => sc_ai hV hN (by omega) hL
  have x1 : ∀ K, cv [(11, 88)] h x0 K = K 88 := fun K => INV_cv hI
  simp only [s_0_781, s_0_782, s_0_783, s_0_784, s_0_785, s_0_786, s_0_787, s_0_788, s_0_789, s_0_790, s_0_791, s_0_792, ↓reduceIte, eq_self, rts_some, rts_none, nq_int, nq_ref, nq_null, nq_none, okr1_0, okr1_1, okr_b, List.length_nil, List.length_cons, Nat.zero_le, Nat.reduceAdd, Nat.reduceLeDiff, b2i_0, b2i_n0, b2i_1, b2i_n1, ite_not, if_true, if_false, not_true_eq_false, not_false_eq_true, true_and, and_true, false_and, and_false, a1, a2, a3, a4, a5, x1, pls (i := i) (k := 1) (c := 1) rfl, pls (i := i) (k := 2) (c := 2) rfl, pls (i := i) (k := 3) (c := 3) rfl, pls (i := i) (k := 4) (c := 4) rfl, pls (i := i) (k := 5) (c := 5) rfl]
  refine L_book hI (fun y h1 hm => ?_)
  have hN1 := hm.1.1 sb hsb
  have b1 : ∀ K, ai 2 (nI (i + 1)) V h1 sb K = K (xs (i + 1)) := fun K => sc_ai hV hN1 (by omega) hL
  have b2 : ∀ K, ai 2 (nI (i + 2)) V h1 sb K = K (xs (i + 2)) := fun K => sc_ai hV hN1 (by omega) hL
  have b3 : ∀ K, ai 2 (nI (i + 3)) V h1 sb K = K (xs (i + 3)) := fun K => sc_ai hV hN1 (by omega) hL
  have b4 : ∀ K, ai 2 (nI (i + 4)) V h1 sb K = K (xs (i + 4)) := fun K => sc_ai hV hN1 (by omega) hL
  have b5 : ∀ K, ai 2 (nI (i + 5)) V h1 sb K = K (xs (i + 5)) := fun K => sc_ai hV hN1 (by omega) hL
  have x2 : ∀ K, cv [(12, 180)] h1 b K = K 180 := fun K => MS_cv hm.1
  simp only [s_0_795, s_0_796, s_0_797, s_0_798, s_0_799, s_0_800, s_0_801, s_0_802, s_0_803, s_0_804, s_0_805, s_0_806, ↓reduceIte, eq_self, rts_some, rts_none, nq_int, nq_ref, nq_null, nq_none, okr1_0, okr1_1, okr_b, List.length_nil, List.length_cons, Nat.zero_le, Nat.reduceAdd, Nat.reduceLeDiff, b2i_0, b2i_n0, b2i_1, b2i_n1, ite_not, if_true, if_false, not_true_eq_false, not_false_eq_true, true_and, and_true, false_and, and_false, b1, b2, b3, b4, b5, x2, pls (i := i) (k := 1) (c := 1) rfl, pls (i := i) (k := 2) (c := 2) rfl, pls (i := i) (k := 3) (c := 3) rfl, pls (i := i) (k := 4) (c := 4) rfl, pls (i := i) (k := 5) (c := 5) rfl]
  refine hm.2 _ (fun h2 h2I => ?_)
  simp only [s_0_809, ↓reduceIte, eq_self, rts_some, rts_none, nq_int, nq_ref, nq_null, nq_none, okr1_0, okr1_1, okr_b, List.length_nil, List.length_cons, Nat.zero_le, Nat.reduceAdd, Nat.reduceLeDiff, b2i_0, b2i_n0, b2i_1, b2i_n1, ite_not, if_true, if_false, not_true_eq_false, not_false_eq_true, true_and, and_true, false_and, and_false, if_true]
  exact H h2 h2I
theorem lw_20 (lc : LC V Ev S sb L xs) (hi : i + 6 ≤ L) (hz : Z1 + 12 ≤ BIG) (hI : INV x0 b BIG S Z1 Z2 h) (H : ∀ h2, NXT x0 b BIG S Z1 Z2 h2 → wp V (cdT Ev) mx (d + 40) 0 1221 [some (.ref sb), some (.ref x0), some (.ref b), some (.int (nI i))] [] h2 Q) : wp V (cdT Ev) mx (d + 40) 0 814 [some (.ref sb), some (.ref x0), some (.ref b), some (.int (nI i))] [] h Q := by
  obtain ⟨hV, hsb, hL, he⟩ := lc
  have hN := INV_N hI hsb
  have a1 : ∀ K, ai 2 (nI (i + 1)) V h sb K = K (xs (i + 1)) := fun K => sc_ai hV hN (by omega) hL
  have a2 : ∀ K, ai 2 (nI (i + 2)) V h sb K = K (xs (i + 2)) := fun K => sc_ai hV hN (by omega) hL
  have a3 : ∀ K, ai 2 (nI (i + 3)) V h sb K = K (xs (i + 3)) := fun K => sc_ai hV hN (by omega) hL
  have a4 : ∀ K, ai 2 (nI (i + 4)) V h sb K = K (xs (i + 4)) := fun K => sc_ai hV hN (by omega) hL
  have a5 : ∀ K, ai 2 (nI (i + 5)) V h sb K = K (xs (i + 5)) := fun K => sc_ai hV hN (by omega) hL
  have x1 : ∀ K, cv [(11, 89)] h x0 K = K 89 := fun K => INV_cv hI
  simp only [s_0_814, s_0_815, ↓reduceIte, eq_self, rts_some, rts_none, nq_int, nq_ref, nq_null, nq_none, okr1_0, okr1_1, okr_b, List.length_nil, List.length_cons, Nat.zero_le, Nat.reduceAdd, Nat.reduceLeDiff, b2i_0, b2i_n0, b2i_1, b2i_n1, ite_not, if_true, if_false, not_true_eq_false, not_false_eq_true, true_and, and_true, false_and, and_false, a1, a2, a3, a4, a5, x1, pls (i := i) (k := 1) (c := 1) rfl, pls (i := i) (k := 2) (c := 2) rfl, pls (i := i) (k := 3) (c := 3) rfl, pls (i := i) (k := 4) (c := 4) rfl, pls (i := i) (k := 5) (c := 5) rfl]
  refine L_looked hz hI (fun y h1 hm => ?_)
  have hN1 := hm.1.1 sb hsb
  have b1 : ∀ K, ai 2 (nI (i + 1)) V h1 sb K = K (xs (i + 1)) := fun K => sc_ai hV hN1 (by omega) hL
  have b2 : ∀ K, ai 2 (nI (i + 2)) V h1 sb K = K (xs (i + 2)) := fun K => sc_ai hV hN1 (by omega) hL
  have b3 : ∀ K, ai 2 (nI (i + 3)) V h1 sb K = K (xs (i + 3)) := fun K => sc_ai hV hN1 (by omega) hL
  have b4 : ∀ K, ai 2 (nI (i + 4)) V h1 sb K = K (xs (i + 4)) := fun K => sc_ai hV hN1 (by omega) hL
  have b5 : ∀ K, ai 2 (nI (i + 5)) V h1 sb K = K (xs (i + 5)) := fun K => sc_ai hV hN1 (by omega) hL
  have x2 : ∀ K, cv [(12, 181)] h1 b K = K 181 := fun K => MS_cv hm.1
  simp only [s_0_818, s_0_819, ↓reduceIte, eq_self, rts_some, rts_none, nq_int, nq_ref, nq_null, nq_none, okr1_0, okr1_1, okr_b, List.length_nil, List.length_cons, Nat.zero_le, Nat.reduceAdd, Nat.reduceLeDiff, b2i_0, b2i_n0, b2i_1, b2i_n1, ite_not, if_true, if_false, not_true_eq_false, not_false_eq_true, true_and, and_true, false_and, and_false, b1, b2, b3, b4, b5, x2, pls (i := i) (k := 1) (c := 1) rfl, pls (i := i) (k := 2) (c := 2) rfl, pls (i := i) (k := 3) (c := 3) rfl, pls (i := i) (k := 4) (c := 4) rfl, pls (i := i) (k := 5) (c := 5) rfl]
  refine hm.2 _ (fun h2 h2I => ?_)
  simp only [s_0_822, ↓reduceIte, eq_self, rts_some, rts_none, nq_int, nq_ref, nq_null, nq_none, okr1_0, okr1_1, okr_b, List.length_nil, List.length_cons, Nat.zero_le, Nat.reduceAdd, Nat.reduceLeDiff, b2i_0, b2i_n0, b2i_1, b2i_n1, ite_not, if_true, if_false, not_true_eq_false, not_false_eq_true, true_and, and_true, false_and, and_false, if_true]
  exact H h2 h2I
theorem lw_21 (lc : LC V Ev S sb L xs) (hi : i + 6 ≤ L) (hz : Z1 + 12 ≤ BIG) (hI : INV x0 b BIG S Z1 Z2 h) (H : ∀ h2, NXT x0 b BIG S Z1 Z2 h2 → wp V (cdT Ev) mx (d + 40) 0 1221 [some (.ref sb), some (.ref x0), some (.ref b), some (.int (nI i))] [] h2 Q) : wp V (cdT Ev) mx (d + 40) 0 827 [some (.ref sb), some (.ref x0), some (.ref b), some (.int (nI i))] [] h Q := by
  obtain ⟨hV, hsb, hL, he⟩ := lc
  have hN := INV_N hI hsb
  have a1 : ∀ K, ai 2 (nI (i + 1)) V h sb K = K (xs (i + 1)) := fun K => sc_ai hV hN (by omega) hL
  have a2 : ∀ K, ai 2 (nI (i + 2)) V h sb K = K (xs (i + 2)) := fun K => sc_ai hV hN (by omega) hL
  have a3 : ∀ K, ai 2 (nI (i + 3)) V h sb K = K (xs (i + 3)) := fun K => sc_ai hV hN (by omega) hL
  have a4 : ∀ K, ai 2 (nI (i + 4)) V h sb K = K (xs (i + 4)) := fun K => sc_ai hV hN (by omega) hL
  have a5 : ∀ K, ai 2 (nI (i + 5)) V h sb K = K (xs (i + 5)) := fun K => sc_ai hV hN (by omega) hL
  have x1 : ∀ K, cv [(11, 90)] h x0 K = K 90 := fun K => INV_cv hI
  simp only [s_0_827, s_0_828, s_0_829, s_0_830, s_0_831, s_0_832, s_0_833, s_0_834, s_0_835, s_0_836, s_0_837, s_0_838, ↓reduceIte, eq_self, rts_some, rts_none, nq_int, nq_ref, nq_null, nq_none, okr1_0, okr1_1, okr_b, List.length_nil, List.length_cons, Nat.zero_le, Nat.reduceAdd, Nat.reduceLeDiff, b2i_0, b2i_n0, b2i_1, b2i_n1, ite_not, if_true, if_false, not_true_eq_false, not_false_eq_true, true_and, and_true, false_and, and_false, a1, a2, a3, a4, a5, x1, pls (i := i) (k := 1) (c := 1) rfl, pls (i := i) (k := 2) (c := 2) rfl, pls (i := i) (k := 3) (c := 3) rfl, pls (i := i) (k := 4) (c := 4) rfl, pls (i := i) (k := 5) (c := 5) rfl]
  refine L_judge hI (fun y h1 hm => ?_)
  have hN1 := hm.1.1 sb hsb
  have b1 : ∀ K, ai 2 (nI (i + 1)) V h1 sb K = K (xs (i + 1)) := fun K => sc_ai hV hN1 (by omega) hL
  have b2 : ∀ K, ai 2 (nI (i + 2)) V h1 sb K = K (xs (i + 2)) := fun K => sc_ai hV hN1 (by omega) hL
  have b3 : ∀ K, ai 2 (nI (i + 3)) V h1 sb K = K (xs (i + 3)) := fun K => sc_ai hV hN1 (by omega) hL
  have b4 : ∀ K, ai 2 (nI (i + 4)) V h1 sb K = K (xs (i + 4)) := fun K => sc_ai hV hN1 (by omega) hL
  have b5 : ∀ K, ai 2 (nI (i + 5)) V h1 sb K = K (xs (i + 5)) := fun K => sc_ai hV hN1 (by omega) hL
  have x2 : ∀ K, cv [(12, 194)] h1 b K = K 194 := fun K => MS_cv hm.1
  simp only [s_0_841, s_0_842, s_0_843, s_0_844, s_0_845, s_0_846, s_0_847, s_0_848, s_0_849, s_0_850, s_0_851, s_0_852, ↓reduceIte, eq_self, rts_some, rts_none, nq_int, nq_ref, nq_null, nq_none, okr1_0, okr1_1, okr_b, List.length_nil, List.length_cons, Nat.zero_le, Nat.reduceAdd, Nat.reduceLeDiff, b2i_0, b2i_n0, b2i_1, b2i_n1, ite_not, if_true, if_false, not_true_eq_false, not_false_eq_true, true_and, and_true, false_and, and_false, b1, b2, b3, b4, b5, x2, pls (i := i) (k := 1) (c := 1) rfl, pls (i := i) (k := 2) (c := 2) rfl, pls (i := i) (k := 3) (c := 3) rfl, pls (i := i) (k := 4) (c := 4) rfl, pls (i := i) (k := 5) (c := 5) rfl]
  refine hm.2 _ (fun h2 h2I => ?_)
  simp only [s_0_855, ↓reduceIte, eq_self, rts_some, rts_none, nq_int, nq_ref, nq_null, nq_none, okr1_0, okr1_1, okr_b, List.length_nil, List.length_cons, Nat.zero_le, Nat.reduceAdd, Nat.reduceLeDiff, b2i_0, b2i_n0, b2i_1, b2i_n1, ite_not, if_true, if_false, not_true_eq_false, not_false_eq_true, true_and, and_true, false_and, and_false, if_true]
  exact H h2 h2I
theorem lw_22 (lc : LC V Ev S sb L xs) (hi : i + 6 ≤ L) (hz : Z1 + 12 ≤ BIG) (hI : INV x0 b BIG S Z1 Z2 h) (H : ∀ h2, NXT x0 b BIG S Z1 Z2 h2 → wp V (cdT Ev) mx (d + 40) 0 1221 [some (.ref sb), some (.ref x0), some (.ref b), some (.int (nI i))] [] h2 Q) : wp V (cdT Ev) mx (d + 40) 0 860 [some (.ref sb), some (.ref x0), some (.ref b), some (.int (nI i))] [] h Q := by
  obtain ⟨hV, hsb, hL, he⟩ := lc
  have hN := INV_N hI hsb
  have a1 : ∀ K, ai 2 (nI (i + 1)) V h sb K = K (xs (i + 1)) := fun K => sc_ai hV hN (by omega) hL
  have a2 : ∀ K, ai 2 (nI (i + 2)) V h sb K = K (xs (i + 2)) := fun K => sc_ai hV hN (by omega) hL
  have a3 : ∀ K, ai 2 (nI (i + 3)) V h sb K = K (xs (i + 3)) := fun K => sc_ai hV hN (by omega) hL
  have a4 : ∀ K, ai 2 (nI (i + 4)) V h sb K = K (xs (i + 4)) := fun K => sc_ai hV hN (by omega) hL
  have a5 : ∀ K, ai 2 (nI (i + 5)) V h sb K = K (xs (i + 5)) := fun K => sc_ai hV hN (by omega) hL
  have x1 : ∀ K, cv [(11, 91)] h x0 K = K 91 := fun K => INV_cv hI
  simp only [s_0_860, s_0_861, ↓reduceIte, eq_self, rts_some, rts_none, nq_int, nq_ref, nq_null, nq_none, okr1_0, okr1_1, okr_b, List.length_nil, List.length_cons, Nat.zero_le, Nat.reduceAdd, Nat.reduceLeDiff, b2i_0, b2i_n0, b2i_1, b2i_n1, ite_not, if_true, if_false, not_true_eq_false, not_false_eq_true, true_and, and_true, false_and, and_false, a1, a2, a3, a4, a5, x1, pls (i := i) (k := 1) (c := 1) rfl, pls (i := i) (k := 2) (c := 2) rfl, pls (i := i) (k := 3) (c := 3) rfl, pls (i := i) (k := 4) (c := 4) rfl, pls (i := i) (k := 5) (c := 5) rfl]
  refine L_image hz hI (fun y h1 hm => ?_)
  have hN1 := hm.1.1 sb hsb
  have b1 : ∀ K, ai 2 (nI (i + 1)) V h1 sb K = K (xs (i + 1)) := fun K => sc_ai hV hN1 (by omega) hL
  have b2 : ∀ K, ai 2 (nI (i + 2)) V h1 sb K = K (xs (i + 2)) := fun K => sc_ai hV hN1 (by omega) hL
  have b3 : ∀ K, ai 2 (nI (i + 3)) V h1 sb K = K (xs (i + 3)) := fun K => sc_ai hV hN1 (by omega) hL
  have b4 : ∀ K, ai 2 (nI (i + 4)) V h1 sb K = K (xs (i + 4)) := fun K => sc_ai hV hN1 (by omega) hL
  have b5 : ∀ K, ai 2 (nI (i + 5)) V h1 sb K = K (xs (i + 5)) := fun K => sc_ai hV hN1 (by omega) hL
  have x2 : ∀ K, cv [(12, 126)] h1 b K = K 126 := fun K => MS_cv hm.1
  simp only [s_0_864, s_0_865, ↓reduceIte, eq_self, rts_some, rts_none, nq_int, nq_ref, nq_null, nq_none, okr1_0, okr1_1, okr_b, List.length_nil, List.length_cons, Nat.zero_le, Nat.reduceAdd, Nat.reduceLeDiff, b2i_0, b2i_n0, b2i_1, b2i_n1, ite_not, if_true, if_false, not_true_eq_false, not_false_eq_true, true_and, and_true, false_and, and_false, b1, b2, b3, b4, b5, x2, pls (i := i) (k := 1) (c := 1) rfl, pls (i := i) (k := 2) (c := 2) rfl, pls (i := i) (k := 3) (c := 3) rfl, pls (i := i) (k := 4) (c := 4) rfl, pls (i := i) (k := 5) (c := 5) rfl]
  refine hm.2 _ (fun h2 h2I => ?_)
  simp only [s_0_868, ↓reduceIte, eq_self, rts_some, rts_none, nq_int, nq_ref, nq_null, nq_none, okr1_0, okr1_1, okr_b, List.length_nil, List.length_cons, Nat.zero_le, Nat.reduceAdd, Nat.reduceLeDiff, b2i_0, b2i_n0, b2i_1, b2i_n1, ite_not, if_true, if_false, not_true_eq_false, not_false_eq_true, true_and, and_true, false_and, and_false, if_true]
  exact H h2 h2I
theorem lw_23 (lc : LC V Ev S sb L xs) (hi : i + 6 ≤ L) (hz : Z1 + 12 ≤ BIG) (hI : INV x0 b BIG S Z1 Z2 h) (H : ∀ h2, NXT x0 b BIG S Z1 Z2 h2 → wp V (cdT Ev) mx (d + 40) 0 1221 [some (.ref sb), some (.ref x0), some (.ref b), some (.int (nI i))] [] h2 Q) : wp V (cdT Ev) mx (d + 40) 0 873 [some (.ref sb), some (.ref x0), some (.ref b), some (.int (nI i))] [] h Q := by
  obtain ⟨hV, hsb, hL, he⟩ := lc
  have hN := INV_N hI hsb
  have a1 : ∀ K, ai 2 (nI (i + 1)) V h sb K = K (xs (i + 1)) := fun K => sc_ai hV hN (by omega) hL
  have a2 : ∀ K, ai 2 (nI (i + 2)) V h sb K = K (xs (i + 2)) := fun K => sc_ai hV hN (by omega) hL
  have a3 : ∀ K, ai 2 (nI (i + 3)) V h sb K = K (xs (i + 3)) := fun K => sc_ai hV hN (by omega) hL
  have a4 : ∀ K, ai 2 (nI (i + 4)) V h sb K = K (xs (i + 4)) := fun K => sc_ai hV hN (by omega) hL
  have a5 : ∀ K, ai 2 (nI (i + 5)) V h sb K = K (xs (i + 5)) := fun K => sc_ai hV hN (by omega) hL
  have x1 : ∀ K, cv [(11, 92)] h x0 K = K 92 := fun K => INV_cv hI
  simp only [s_0_873, s_0_874, ↓reduceIte, eq_self, rts_some, rts_none, nq_int, nq_ref, nq_null, nq_none, okr1_0, okr1_1, okr_b, List.length_nil, List.length_cons, Nat.zero_le, Nat.reduceAdd, Nat.reduceLeDiff, b2i_0, b2i_n0, b2i_1, b2i_n1, ite_not, if_true, if_false, not_true_eq_false, not_false_eq_true, true_and, and_true, false_and, and_false, a1, a2, a3, a4, a5, x1, pls (i := i) (k := 1) (c := 1) rfl, pls (i := i) (k := 2) (c := 2) rfl, pls (i := i) (k := 3) (c := 3) rfl, pls (i := i) (k := 4) (c := 4) rfl, pls (i := i) (k := 5) (c := 5) rfl]
  refine L_undo hz hI (fun y h1 hm => ?_)
  have hN1 := hm.1.1 sb hsb
  have b1 : ∀ K, ai 2 (nI (i + 1)) V h1 sb K = K (xs (i + 1)) := fun K => sc_ai hV hN1 (by omega) hL
  have b2 : ∀ K, ai 2 (nI (i + 2)) V h1 sb K = K (xs (i + 2)) := fun K => sc_ai hV hN1 (by omega) hL
  have b3 : ∀ K, ai 2 (nI (i + 3)) V h1 sb K = K (xs (i + 3)) := fun K => sc_ai hV hN1 (by omega) hL
  have b4 : ∀ K, ai 2 (nI (i + 4)) V h1 sb K = K (xs (i + 4)) := fun K => sc_ai hV hN1 (by omega) hL
  have b5 : ∀ K, ai 2 (nI (i + 5)) V h1 sb K = K (xs (i + 5)) := fun K => sc_ai hV hN1 (by omega) hL
  have x2 : ∀ K, cv [(12, 127)] h1 b K = K 127 := fun K => MS_cv hm.1
  simp only [s_0_877, s_0_878, ↓reduceIte, eq_self, rts_some, rts_none, nq_int, nq_ref, nq_null, nq_none, okr1_0, okr1_1, okr_b, List.length_nil, List.length_cons, Nat.zero_le, Nat.reduceAdd, Nat.reduceLeDiff, b2i_0, b2i_n0, b2i_1, b2i_n1, ite_not, if_true, if_false, not_true_eq_false, not_false_eq_true, true_and, and_true, false_and, and_false, b1, b2, b3, b4, b5, x2, pls (i := i) (k := 1) (c := 1) rfl, pls (i := i) (k := 2) (c := 2) rfl, pls (i := i) (k := 3) (c := 3) rfl, pls (i := i) (k := 4) (c := 4) rfl, pls (i := i) (k := 5) (c := 5) rfl]
  refine hm.2 _ (fun h2 h2I => ?_)
  simp only [s_0_881, ↓reduceIte, eq_self, rts_some, rts_none, nq_int, nq_ref, nq_null, nq_none, okr1_0, okr1_1, okr_b, List.length_nil, List.length_cons, Nat.zero_le, Nat.reduceAdd, Nat.reduceLeDiff, b2i_0, b2i_n0, b2i_1, b2i_n1, ite_not, if_true, if_false, not_true_eq_false, not_false_eq_true, true_and, and_true, false_and, and_false, if_true]
  exact H h2 h2I
theorem lw_24 (lc : LC V Ev S sb L xs) (hi : i + 6 ≤ L) (hz : Z1 + 12 ≤ BIG) (hI : INV x0 b BIG S Z1 Z2 h) (H : ∀ h2, NXT x0 b BIG S Z1 Z2 h2 → wp V (cdT Ev) mx (d + 40) 0 1221 [some (.ref sb), some (.ref x0), some (.ref b), some (.int (nI i))] [] h2 Q) : wp V (cdT Ev) mx (d + 40) 0 886 [some (.ref sb), some (.ref x0), some (.ref b), some (.int (nI i))] [] h Q := by
  obtain ⟨hV, hsb, hL, he⟩ := lc
  have hN := INV_N hI hsb
  have a1 : ∀ K, ai 2 (nI (i + 1)) V h sb K = K (xs (i + 1)) := fun K => sc_ai hV hN (by omega) hL
  have a2 : ∀ K, ai 2 (nI (i + 2)) V h sb K = K (xs (i + 2)) := fun K => sc_ai hV hN (by omega) hL
  have a3 : ∀ K, ai 2 (nI (i + 3)) V h sb K = K (xs (i + 3)) := fun K => sc_ai hV hN (by omega) hL
  have a4 : ∀ K, ai 2 (nI (i + 4)) V h sb K = K (xs (i + 4)) := fun K => sc_ai hV hN (by omega) hL
  have a5 : ∀ K, ai 2 (nI (i + 5)) V h sb K = K (xs (i + 5)) := fun K => sc_ai hV hN (by omega) hL
  have x1 : ∀ K, cv [(11, 93)] h x0 K = K 93 := fun K => INV_cv hI
  simp only [s_0_886, s_0_887, s_0_888, s_0_889, s_0_890, s_0_891, s_0_892, s_0_893, s_0_894, s_0_895, s_0_896, s_0_897, s_0_898, s_0_899, s_0_900, s_0_901, s_0_902, ↓reduceIte, eq_self, rts_some, rts_none, nq_int, nq_ref, nq_null, nq_none, okr1_0, okr1_1, okr_b, List.length_nil, List.length_cons, Nat.zero_le, Nat.reduceAdd, Nat.reduceLeDiff, b2i_0, b2i_n0, b2i_1, b2i_n1, ite_not, if_true, if_false, not_true_eq_false, not_false_eq_true, true_and, and_true, false_and, and_false, a1, a2, a3, a4, a5, x1, pls (i := i) (k := 1) (c := 1) rfl, pls (i := i) (k := 2) (c := 2) rfl, pls (i := i) (k := 3) (c := 3) rfl, pls (i := i) (k := 4) (c := 4) rfl, pls (i := i) (k := 5) (c := 5) rfl]
  refine L_act hI (fun y h1 hm => ?_)
  have hN1 := hm.1.1 sb hsb
  have b1 : ∀ K, ai 2 (nI (i + 1)) V h1 sb K = K (xs (i + 1)) := fun K => sc_ai hV hN1 (by omega) hL
  have b2 : ∀ K, ai 2 (nI (i + 2)) V h1 sb K = K (xs (i + 2)) := fun K => sc_ai hV hN1 (by omega) hL
  have b3 : ∀ K, ai 2 (nI (i + 3)) V h1 sb K = K (xs (i + 3)) := fun K => sc_ai hV hN1 (by omega) hL
  have b4 : ∀ K, ai 2 (nI (i + 4)) V h1 sb K = K (xs (i + 4)) := fun K => sc_ai hV hN1 (by omega) hL
  have b5 : ∀ K, ai 2 (nI (i + 5)) V h1 sb K = K (xs (i + 5)) := fun K => sc_ai hV hN1 (by omega) hL
  have x2 : ∀ K, cv [(12, 185)] h1 b K = K 185 := fun K => MS_cv hm.1
  simp only [s_0_905, s_0_906, s_0_907, s_0_908, s_0_909, s_0_910, s_0_911, s_0_912, s_0_913, s_0_914, s_0_915, s_0_916, s_0_917, s_0_918, s_0_919, s_0_920, s_0_921, ↓reduceIte, eq_self, rts_some, rts_none, nq_int, nq_ref, nq_null, nq_none, okr1_0, okr1_1, okr_b, List.length_nil, List.length_cons, Nat.zero_le, Nat.reduceAdd, Nat.reduceLeDiff, b2i_0, b2i_n0, b2i_1, b2i_n1, ite_not, if_true, if_false, not_true_eq_false, not_false_eq_true, true_and, and_true, false_and, and_false, b1, b2, b3, b4, b5, x2, pls (i := i) (k := 1) (c := 1) rfl, pls (i := i) (k := 2) (c := 2) rfl, pls (i := i) (k := 3) (c := 3) rfl, pls (i := i) (k := 4) (c := 4) rfl, pls (i := i) (k := 5) (c := 5) rfl]
  refine hm.2 _ (fun h2 h2I => ?_)
  simp only [s_0_924, ↓reduceIte, eq_self, rts_some, rts_none, nq_int, nq_ref, nq_null, nq_none, okr1_0, okr1_1, okr_b, List.length_nil, List.length_cons, Nat.zero_le, Nat.reduceAdd, Nat.reduceLeDiff, b2i_0, b2i_n0, b2i_1, b2i_n1, ite_not, if_true, if_false, not_true_eq_false, not_false_eq_true, true_and, and_true, false_and, and_false, if_true]
  exact H h2 h2I
theorem lw_25 (lc : LC V Ev S sb L xs) (hi : i + 6 ≤ L) (hz : Z1 + 12 ≤ BIG) (hI : INV x0 b BIG S Z1 Z2 h) (H : ∀ h2, NXT x0 b BIG S Z1 Z2 h2 → wp V (cdT Ev) mx (d + 40) 0 1221 [some (.ref sb), some (.ref x0), some (.ref b), some (.int (nI i))] [] h2 Q) : wp V (cdT Ev) mx (d + 40) 0 929 [some (.ref sb), some (.ref x0), some (.ref b), some (.int (nI i))] [] h Q := by
  obtain ⟨hV, hsb, hL, he⟩ := lc
  have hN := INV_N hI hsb
  have a1 : ∀ K, ai 2 (nI (i + 1)) V h sb K = K (xs (i + 1)) := fun K => sc_ai hV hN (by omega) hL
  have a2 : ∀ K, ai 2 (nI (i + 2)) V h sb K = K (xs (i + 2)) := fun K => sc_ai hV hN (by omega) hL
  have a3 : ∀ K, ai 2 (nI (i + 3)) V h sb K = K (xs (i + 3)) := fun K => sc_ai hV hN (by omega) hL
  have a4 : ∀ K, ai 2 (nI (i + 4)) V h sb K = K (xs (i + 4)) := fun K => sc_ai hV hN (by omega) hL
  have a5 : ∀ K, ai 2 (nI (i + 5)) V h sb K = K (xs (i + 5)) := fun K => sc_ai hV hN (by omega) hL
  have x1 : ∀ K, cv [(11, 94)] h x0 K = K 94 := fun K => INV_cv hI
  simp only [s_0_929, s_0_930, s_0_931, s_0_932, s_0_933, s_0_934, s_0_935, ↓reduceIte, eq_self, rts_some, rts_none, nq_int, nq_ref, nq_null, nq_none, okr1_0, okr1_1, okr_b, List.length_nil, List.length_cons, Nat.zero_le, Nat.reduceAdd, Nat.reduceLeDiff, b2i_0, b2i_n0, b2i_1, b2i_n1, ite_not, if_true, if_false, not_true_eq_false, not_false_eq_true, true_and, and_true, false_and, and_false, a1, a2, a3, a4, a5, x1, pls (i := i) (k := 1) (c := 1) rfl, pls (i := i) (k := 2) (c := 2) rfl, pls (i := i) (k := 3) (c := 3) rfl, pls (i := i) (k := 4) (c := 4) rfl, pls (i := i) (k := 5) (c := 5) rfl]
  refine L_trace hI (fun y h1 hm => ?_)
  have hN1 := hm.1.1 sb hsb
  have b1 : ∀ K, ai 2 (nI (i + 1)) V h1 sb K = K (xs (i + 1)) := fun K => sc_ai hV hN1 (by omega) hL
  have b2 : ∀ K, ai 2 (nI (i + 2)) V h1 sb K = K (xs (i + 2)) := fun K => sc_ai hV hN1 (by omega) hL
  have b3 : ∀ K, ai 2 (nI (i + 3)) V h1 sb K = K (xs (i + 3)) := fun K => sc_ai hV hN1 (by omega) hL
  have b4 : ∀ K, ai 2 (nI (i + 4)) V h1 sb K = K (xs (i + 4)) := fun K => sc_ai hV hN1 (by omega) hL
  have b5 : ∀ K, ai 2 (nI (i + 5)) V h1 sb K = K (xs (i + 5)) := fun K => sc_ai hV hN1 (by omega) hL
  have x2 : ∀ K, cv [(12, 186)] h1 b K = K 186 := fun K => MS_cv hm.1
  simp only [s_0_938, s_0_939, s_0_940, s_0_941, s_0_942, s_0_943, s_0_944, ↓reduceIte, eq_self, rts_some, rts_none, nq_int, nq_ref, nq_null, nq_none, okr1_0, okr1_1, okr_b, List.length_nil, List.length_cons, Nat.zero_le, Nat.reduceAdd, Nat.reduceLeDiff, b2i_0, b2i_n0, b2i_1, b2i_n1, ite_not, if_true, if_false, not_true_eq_false, not_false_eq_true, true_and, and_true, false_and, and_false, b1, b2, b3, b4, b5, x2, pls (i := i) (k := 1) (c := 1) rfl, pls (i := i) (k := 2) (c := 2) rfl, pls (i := i) (k := 3) (c := 3) rfl, pls (i := i) (k := 4) (c := 4) rfl, pls (i := i) (k := 5) (c := 5) rfl]
  refine hm.2 _ (fun h2 h2I => ?_)
  simp only [s_0_947, ↓reduceIte, eq_self, rts_some, rts_none, nq_int, nq_ref, nq_null, nq_none, okr1_0, okr1_1, okr_b, List.length_nil, List.length_cons, Nat.zero_le, Nat.reduceAdd, Nat.reduceLeDiff, b2i_0, b2i_n0, b2i_1, b2i_n1, ite_not, if_true, if_false, not_true_eq_false, not_false_eq_true, true_and, and_true, false_and, and_false, if_true]
  exact H h2 h2I
theorem lw_26 (lc : LC V Ev S sb L xs) (hi : i + 6 ≤ L) (hz : Z1 + 12 ≤ BIG) (hI : INV x0 b BIG S Z1 Z2 h) (H : ∀ h2, NXT x0 b BIG S Z1 Z2 h2 → wp V (cdT Ev) mx (d + 40) 0 1221 [some (.ref sb), some (.ref x0), some (.ref b), some (.int (nI i))] [] h2 Q) : wp V (cdT Ev) mx (d + 40) 0 952 [some (.ref sb), some (.ref x0), some (.ref b), some (.int (nI i))] [] h Q := by
  obtain ⟨hV, hsb, hL, he⟩ := lc
  have hN := INV_N hI hsb
  have a1 : ∀ K, ai 2 (nI (i + 1)) V h sb K = K (xs (i + 1)) := fun K => sc_ai hV hN (by omega) hL
  have a2 : ∀ K, ai 2 (nI (i + 2)) V h sb K = K (xs (i + 2)) := fun K => sc_ai hV hN (by omega) hL
  have a3 : ∀ K, ai 2 (nI (i + 3)) V h sb K = K (xs (i + 3)) := fun K => sc_ai hV hN (by omega) hL
  have a4 : ∀ K, ai 2 (nI (i + 4)) V h sb K = K (xs (i + 4)) := fun K => sc_ai hV hN (by omega) hL
  have a5 : ∀ K, ai 2 (nI (i + 5)) V h sb K = K (xs (i + 5)) := fun K => sc_ai hV hN (by omega) hL
  have x1 : ∀ K, cv [(11, 95)] h x0 K = K 95 := fun K => INV_cv hI
  simp only [s_0_952, s_0_953, s_0_954, s_0_955, s_0_956, s_0_957, s_0_958, s_0_959, s_0_960, s_0_961, s_0_962, s_0_963, ↓reduceIte, eq_self, rts_some, rts_none, nq_int, nq_ref, nq_null, nq_none, okr1_0, okr1_1, okr_b, List.length_nil, List.length_cons, Nat.zero_le, Nat.reduceAdd, Nat.reduceLeDiff, b2i_0, b2i_n0, b2i_1, b2i_n1, ite_not, if_true, if_false, not_true_eq_false, not_false_eq_true, true_and, and_true, false_and, and_false, a1, a2, a3, a4, a5, x1, pls (i := i) (k := 1) (c := 1) rfl, pls (i := i) (k := 2) (c := 2) rfl, pls (i := i) (k := 3) (c := 3) rfl, pls (i := i) (k := 4) (c := 4) rfl, pls (i := i) (k := 5) (c := 5) rfl]
  refine L_taken he hI (fun y h1 hm => ?_)
  have hN1 := hm.1.1 sb hsb
  have b1 : ∀ K, ai 2 (nI (i + 1)) V h1 sb K = K (xs (i + 1)) := fun K => sc_ai hV hN1 (by omega) hL
  have b2 : ∀ K, ai 2 (nI (i + 2)) V h1 sb K = K (xs (i + 2)) := fun K => sc_ai hV hN1 (by omega) hL
  have b3 : ∀ K, ai 2 (nI (i + 3)) V h1 sb K = K (xs (i + 3)) := fun K => sc_ai hV hN1 (by omega) hL
  have b4 : ∀ K, ai 2 (nI (i + 4)) V h1 sb K = K (xs (i + 4)) := fun K => sc_ai hV hN1 (by omega) hL
  have b5 : ∀ K, ai 2 (nI (i + 5)) V h1 sb K = K (xs (i + 5)) := fun K => sc_ai hV hN1 (by omega) hL
  have x2 : ∀ K, cv [(12, 187)] h1 b K = K 187 := fun K => MS_cv hm.1
  simp only [s_0_966, s_0_967, s_0_968, s_0_969, s_0_970, s_0_971, s_0_972, s_0_973, s_0_974, s_0_975, s_0_976, s_0_977, ↓reduceIte, eq_self, rts_some, rts_none, nq_int, nq_ref, nq_null, nq_none, okr1_0, okr1_1, okr_b, List.length_nil, List.length_cons, Nat.zero_le, Nat.reduceAdd, Nat.reduceLeDiff, b2i_0, b2i_n0, b2i_1, b2i_n1, ite_not, if_true, if_false, not_true_eq_false, not_false_eq_true, true_and, and_true, false_and, and_false, b1, b2, b3, b4, b5, x2, pls (i := i) (k := 1) (c := 1) rfl, pls (i := i) (k := 2) (c := 2) rfl, pls (i := i) (k := 3) (c := 3) rfl, pls (i := i) (k := 4) (c := 4) rfl, pls (i := i) (k := 5) (c := 5) rfl]
  refine hm.2 _ (fun h2 h2I => ?_)
  simp only [s_0_980, ↓reduceIte, eq_self, rts_some, rts_none, nq_int, nq_ref, nq_null, nq_none, okr1_0, okr1_1, okr_b, List.length_nil, List.length_cons, Nat.zero_le, Nat.reduceAdd, Nat.reduceLeDiff, b2i_0, b2i_n0, b2i_1, b2i_n1, ite_not, if_true, if_false, not_true_eq_false, not_false_eq_true, true_and, and_true, false_and, and_false, if_true]
  exact H h2 h2I
theorem lw_27 (lc : LC V Ev S sb L xs) (hi : i + 6 ≤ L) (hz : Z1 + 12 ≤ BIG) (hI : INV x0 b BIG S Z1 Z2 h) (H : ∀ h2, NXT x0 b BIG S Z1 Z2 h2 → wp V (cdT Ev) mx (d + 40) 0 1221 [some (.ref sb), some (.ref x0), some (.ref b), some (.int (nI i))] [] h2 Q) : wp V (cdT Ev) mx (d + 40) 0 985 [some (.ref sb), some (.ref x0), some (.ref b), some (.int (nI i))] [] h Q := by
  obtain ⟨hV, hsb, hL, he⟩ := lc
  have hN := INV_N hI hsb
  have a1 : ∀ K, ai 2 (nI (i + 1)) V h sb K = K (xs (i + 1)) := fun K => sc_ai hV hN (by omega) hL
  have a2 : ∀ K, ai 2 (nI (i + 2)) V h sb K = K (xs (i + 2)) := fun K => sc_ai hV hN (by omega) hL
  have a3 : ∀ K, ai 2 (nI (i + 3)) V h sb K = K (xs (i + 3)) := fun K => sc_ai hV hN (by omega) hL
  have a4 : ∀ K, ai 2 (nI (i + 4)) V h sb K = K (xs (i + 4)) := fun K => sc_ai hV hN (by omega) hL
  have a5 : ∀ K, ai 2 (nI (i + 5)) V h sb K = K (xs (i + 5)) := fun K => sc_ai hV hN (by omega) hL
  have x1 : ∀ K, cv [(11, 96)] h x0 K = K 96 := fun K => INV_cv hI
  simp only [s_0_985, s_0_986, s_0_987, s_0_988, s_0_989, s_0_990, s_0_991, ↓reduceIte, eq_self, rts_some, rts_none, nq_int, nq_ref, nq_null, nq_none, okr1_0, okr1_1, okr_b, List.length_nil, List.length_cons, Nat.zero_le, Nat.reduceAdd, Nat.reduceLeDiff, b2i_0, b2i_n0, b2i_1, b2i_n1, ite_not, if_true, if_false, not_true_eq_false, not_false_eq_true, true_and, and_true, false_and, and_false, a1, a2, a3, a4, a5, x1, pls (i := i) (k := 1) (c := 1) rfl, pls (i := i) (k := 2) (c := 2) rfl, pls (i := i) (k := 3) (c := 3) rfl, pls (i := i) (k := 4) (c := 4) rfl, pls (i := i) (k := 5) (c := 5) rfl]
  refine L_count hI (fun y h1 hm => ?_)
  have hN1 := hm.1.1 sb hsb
  have b1 : ∀ K, ai 2 (nI (i + 1)) V h1 sb K = K (xs (i + 1)) := fun K => sc_ai hV hN1 (by omega) hL
  have b2 : ∀ K, ai 2 (nI (i + 2)) V h1 sb K = K (xs (i + 2)) := fun K => sc_ai hV hN1 (by omega) hL
  have b3 : ∀ K, ai 2 (nI (i + 3)) V h1 sb K = K (xs (i + 3)) := fun K => sc_ai hV hN1 (by omega) hL
  have b4 : ∀ K, ai 2 (nI (i + 4)) V h1 sb K = K (xs (i + 4)) := fun K => sc_ai hV hN1 (by omega) hL
  have b5 : ∀ K, ai 2 (nI (i + 5)) V h1 sb K = K (xs (i + 5)) := fun K => sc_ai hV hN1 (by omega) hL
  have x2 : ∀ K, cv [(12, 188)] h1 b K = K 188 := fun K => MS_cv hm.1
  simp only [s_0_994, s_0_995, s_0_996, s_0_997, s_0_998, s_0_999, s_0_1000, ↓reduceIte, eq_self, rts_some, rts_none, nq_int, nq_ref, nq_null, nq_none, okr1_0, okr1_1, okr_b, List.length_nil, List.length_cons, Nat.zero_le, Nat.reduceAdd, Nat.reduceLeDiff, b2i_0, b2i_n0, b2i_1, b2i_n1, ite_not, if_true, if_false, not_true_eq_false, not_false_eq_true, true_and, and_true, false_and, and_false, b1, b2, b3, b4, b5, x2, pls (i := i) (k := 1) (c := 1) rfl, pls (i := i) (k := 2) (c := 2) rfl, pls (i := i) (k := 3) (c := 3) rfl, pls (i := i) (k := 4) (c := 4) rfl, pls (i := i) (k := 5) (c := 5) rfl]
  refine hm.2 _ (fun h2 h2I => ?_)
  simp only [s_0_1003, ↓reduceIte, eq_self, rts_some, rts_none, nq_int, nq_ref, nq_null, nq_none, okr1_0, okr1_1, okr_b, List.length_nil, List.length_cons, Nat.zero_le, Nat.reduceAdd, Nat.reduceLeDiff, b2i_0, b2i_n0, b2i_1, b2i_n1, ite_not, if_true, if_false, not_true_eq_false, not_false_eq_true, true_and, and_true, false_and, and_false, if_true]
  exact H h2 h2I
theorem lw_28 (lc : LC V Ev S sb L xs) (hi : i + 6 ≤ L) (hz : Z1 + 12 ≤ BIG) (hI : INV x0 b BIG S Z1 Z2 h) (H : ∀ h2, NXT x0 b BIG S Z1 Z2 h2 → wp V (cdT Ev) mx (d + 40) 0 1221 [some (.ref sb), some (.ref x0), some (.ref b), some (.int (nI i))] [] h2 Q) : wp V (cdT Ev) mx (d + 40) 0 1008 [some (.ref sb), some (.ref x0), some (.ref b), some (.int (nI i))] [] h Q := by
  obtain ⟨hV, hsb, hL, he⟩ := lc
  have hN := INV_N hI hsb
  have a1 : ∀ K, ai 2 (nI (i + 1)) V h sb K = K (xs (i + 1)) := fun K => sc_ai hV hN (by omega) hL
  have a2 : ∀ K, ai 2 (nI (i + 2)) V h sb K = K (xs (i + 2)) := fun K => sc_ai hV hN (by omega) hL
  have a3 : ∀ K, ai 2 (nI (i + 3)) V h sb K = K (xs (i + 3)) := fun K => sc_ai hV hN (by omega) hL
  have a4 : ∀ K, ai 2 (nI (i + 4)) V h sb K = K (xs (i + 4)) := fun K => sc_ai hV hN (by omega) hL
  have a5 : ∀ K, ai 2 (nI (i + 5)) V h sb K = K (xs (i + 5)) := fun K => sc_ai hV hN (by omega) hL
  have x1 : ∀ K, cv [(11, 97)] h x0 K = K 97 := fun K => INV_cv hI
  simp only [s_0_1008, s_0_1009, s_0_1010, s_0_1011, s_0_1012, s_0_1013, s_0_1014, s_0_1015, s_0_1016, s_0_1017, s_0_1018, s_0_1019, s_0_1020, s_0_1021, s_0_1022, s_0_1023, s_0_1024, ↓reduceIte, eq_self, rts_some, rts_none, nq_int, nq_ref, nq_null, nq_none, okr1_0, okr1_1, okr_b, List.length_nil, List.length_cons, Nat.zero_le, Nat.reduceAdd, Nat.reduceLeDiff, b2i_0, b2i_n0, b2i_1, b2i_n1, ite_not, if_true, if_false, not_true_eq_false, not_false_eq_true, true_and, and_true, false_and, and_false, a1, a2, a3, a4, a5, x1, pls (i := i) (k := 1) (c := 1) rfl, pls (i := i) (k := 2) (c := 2) rfl, pls (i := i) (k := 3) (c := 3) rfl, pls (i := i) (k := 4) (c := 4) rfl, pls (i := i) (k := 5) (c := 5) rfl]
  refine L_tape hI (fun y h1 hm => ?_)
  have hN1 := hm.1.1 sb hsb
  have b1 : ∀ K, ai 2 (nI (i + 1)) V h1 sb K = K (xs (i + 1)) := fun K => sc_ai hV hN1 (by omega) hL
  have b2 : ∀ K, ai 2 (nI (i + 2)) V h1 sb K = K (xs (i + 2)) := fun K => sc_ai hV hN1 (by omega) hL
  have b3 : ∀ K, ai 2 (nI (i + 3)) V h1 sb K = K (xs (i + 3)) := fun K => sc_ai hV hN1 (by omega) hL
  have b4 : ∀ K, ai 2 (nI (i + 4)) V h1 sb K = K (xs (i + 4)) := fun K => sc_ai hV hN1 (by omega) hL
  have b5 : ∀ K, ai 2 (nI (i + 5)) V h1 sb K = K (xs (i + 5)) := fun K => sc_ai hV hN1 (by omega) hL
  have x2 : ∀ K, cv [(12, 190)] h1 b K = K 190 := fun K => MS_cv hm.1
  simp only [s_0_1027, s_0_1028, s_0_1029, s_0_1030, s_0_1031, s_0_1032, s_0_1033, s_0_1034, s_0_1035, s_0_1036, s_0_1037, s_0_1038, s_0_1039, s_0_1040, s_0_1041, s_0_1042, s_0_1043, ↓reduceIte, eq_self, rts_some, rts_none, nq_int, nq_ref, nq_null, nq_none, okr1_0, okr1_1, okr_b, List.length_nil, List.length_cons, Nat.zero_le, Nat.reduceAdd, Nat.reduceLeDiff, b2i_0, b2i_n0, b2i_1, b2i_n1, ite_not, if_true, if_false, not_true_eq_false, not_false_eq_true, true_and, and_true, false_and, and_false, b1, b2, b3, b4, b5, x2, pls (i := i) (k := 1) (c := 1) rfl, pls (i := i) (k := 2) (c := 2) rfl, pls (i := i) (k := 3) (c := 3) rfl, pls (i := i) (k := 4) (c := 4) rfl, pls (i := i) (k := 5) (c := 5) rfl]
  refine hm.2 _ (fun h2 h2I => ?_)
  simp only [s_0_1046, ↓reduceIte, eq_self, rts_some, rts_none, nq_int, nq_ref, nq_null, nq_none, okr1_0, okr1_1, okr_b, List.length_nil, List.length_cons, Nat.zero_le, Nat.reduceAdd, Nat.reduceLeDiff, b2i_0, b2i_n0, b2i_1, b2i_n1, ite_not, if_true, if_false, not_true_eq_false, not_false_eq_true, true_and, and_true, false_and, and_false, if_true]
  exact H h2 h2I
theorem lw_29 (lc : LC V Ev S sb L xs) (hi : i + 6 ≤ L) (hz : Z1 + 12 ≤ BIG) (hI : INV x0 b BIG S Z1 Z2 h) (H : ∀ h2, NXT x0 b BIG S Z1 Z2 h2 → wp V (cdT Ev) mx (d + 40) 0 1221 [some (.ref sb), some (.ref x0), some (.ref b), some (.int (nI i))] [] h2 Q) : wp V (cdT Ev) mx (d + 40) 0 1051 [some (.ref sb), some (.ref x0), some (.ref b), some (.int (nI i))] [] h Q := by
  obtain ⟨hV, hsb, hL, he⟩ := lc
  have hN := INV_N hI hsb
  have a1 : ∀ K, ai 2 (nI (i + 1)) V h sb K = K (xs (i + 1)) := fun K => sc_ai hV hN (by omega) hL
  have a2 : ∀ K, ai 2 (nI (i + 2)) V h sb K = K (xs (i + 2)) := fun K => sc_ai hV hN (by omega) hL
  have a3 : ∀ K, ai 2 (nI (i + 3)) V h sb K = K (xs (i + 3)) := fun K => sc_ai hV hN (by omega) hL
  have a4 : ∀ K, ai 2 (nI (i + 4)) V h sb K = K (xs (i + 4)) := fun K => sc_ai hV hN (by omega) hL
  have a5 : ∀ K, ai 2 (nI (i + 5)) V h sb K = K (xs (i + 5)) := fun K => sc_ai hV hN (by omega) hL
  have x1 : ∀ K, cv [(11, 98)] h x0 K = K 98 := fun K => INV_cv hI
  simp only [s_0_1051, s_0_1052, s_0_1053, s_0_1054, s_0_1055, s_0_1056, s_0_1057, s_0_1058, s_0_1059, s_0_1060, s_0_1061, s_0_1062, s_0_1063, s_0_1064, s_0_1065, s_0_1066, s_0_1067, s_0_1068, s_0_1070, s_0_1071, s_0_1072, s_0_1073, s_0_1074, s_0_1075, s_0_1076, s_0_1077, s_0_1080, s_0_1081, s_0_1082, ↓reduceIte, eq_self, rts_some, rts_none, nq_int, nq_ref, nq_null, nq_none, okr1_0, okr1_1, okr_b, List.length_nil, List.length_cons, Nat.zero_le, Nat.reduceAdd, Nat.reduceLeDiff, b2i_0, b2i_n0, b2i_1, b2i_n1, ite_not, if_true, if_false, not_true_eq_false, not_false_eq_true, true_and, and_true, false_and, and_false, a1, a2, a3, a4, a5, x1, pls (i := i) (k := 1) (c := 1) rfl, pls (i := i) (k := 2) (c := 2) rfl, pls (i := i) (k := 3) (c := 3) rfl, pls (i := i) (k := 4) (c := 4) rfl, pls (i := i) (k := 5) (c := 5) rfl]
  refine L_item hI (fun y h1 hm => ?_)
  have hN1 := hm.1.1 sb hsb
  have b1 : ∀ K, ai 2 (nI (i + 1)) V h1 sb K = K (xs (i + 1)) := fun K => sc_ai hV hN1 (by omega) hL
  have b2 : ∀ K, ai 2 (nI (i + 2)) V h1 sb K = K (xs (i + 2)) := fun K => sc_ai hV hN1 (by omega) hL
  have b3 : ∀ K, ai 2 (nI (i + 3)) V h1 sb K = K (xs (i + 3)) := fun K => sc_ai hV hN1 (by omega) hL
  have b4 : ∀ K, ai 2 (nI (i + 4)) V h1 sb K = K (xs (i + 4)) := fun K => sc_ai hV hN1 (by omega) hL
  have b5 : ∀ K, ai 2 (nI (i + 5)) V h1 sb K = K (xs (i + 5)) := fun K => sc_ai hV hN1 (by omega) hL
  have x2 : ∀ K, cv [(12, 191)] h1 b K = K 191 := fun K => MS_cv hm.1
  simp only [s_0_1085, s_0_1086, s_0_1087, s_0_1088, s_0_1089, s_0_1090, s_0_1091, s_0_1092, s_0_1093, s_0_1094, s_0_1095, s_0_1096, s_0_1097, s_0_1098, s_0_1099, s_0_1100, s_0_1101, s_0_1102, s_0_1104, s_0_1105, s_0_1106, s_0_1107, s_0_1108, s_0_1109, s_0_1110, s_0_1111, s_0_1114, s_0_1115, s_0_1116, ↓reduceIte, eq_self, rts_some, rts_none, nq_int, nq_ref, nq_null, nq_none, okr1_0, okr1_1, okr_b, List.length_nil, List.length_cons, Nat.zero_le, Nat.reduceAdd, Nat.reduceLeDiff, b2i_0, b2i_n0, b2i_1, b2i_n1, ite_not, if_true, if_false, not_true_eq_false, not_false_eq_true, true_and, and_true, false_and, and_false, b1, b2, b3, b4, b5, x2, pls (i := i) (k := 1) (c := 1) rfl, pls (i := i) (k := 2) (c := 2) rfl, pls (i := i) (k := 3) (c := 3) rfl, pls (i := i) (k := 4) (c := 4) rfl, pls (i := i) (k := 5) (c := 5) rfl]
  refine hm.2 _ (fun h2 h2I => ?_)
  simp only [s_0_1119, ↓reduceIte, eq_self, rts_some, rts_none, nq_int, nq_ref, nq_null, nq_none, okr1_0, okr1_1, okr_b, List.length_nil, List.length_cons, Nat.zero_le, Nat.reduceAdd, Nat.reduceLeDiff, b2i_0, b2i_n0, b2i_1, b2i_n1, ite_not, if_true, if_false, not_true_eq_false, not_false_eq_true, true_and, and_true, false_and, and_false, if_true]
  exact H h2 h2I
theorem lw_30 (lc : LC V Ev S sb L xs) (hi : i + 6 ≤ L) (hz : Z1 + 12 ≤ BIG) (hI : INV x0 b BIG S Z1 Z2 h) (H : ∀ h2, NXT x0 b BIG S Z1 Z2 h2 → wp V (cdT Ev) mx (d + 40) 0 1221 [some (.ref sb), some (.ref x0), some (.ref b), some (.int (nI i))] [] h2 Q) : wp V (cdT Ev) mx (d + 40) 0 1124 [some (.ref sb), some (.ref x0), some (.ref b), some (.int (nI i))] [] h Q := by
  obtain ⟨hV, hsb, hL, he⟩ := lc
  have hN := INV_N hI hsb
  have a1 : ∀ K, ai 2 (nI (i + 1)) V h sb K = K (xs (i + 1)) := fun K => sc_ai hV hN (by omega) hL
  have a2 : ∀ K, ai 2 (nI (i + 2)) V h sb K = K (xs (i + 2)) := fun K => sc_ai hV hN (by omega) hL
  have a3 : ∀ K, ai 2 (nI (i + 3)) V h sb K = K (xs (i + 3)) := fun K => sc_ai hV hN (by omega) hL
  have a4 : ∀ K, ai 2 (nI (i + 4)) V h sb K = K (xs (i + 4)) := fun K => sc_ai hV hN (by omega) hL
  have a5 : ∀ K, ai 2 (nI (i + 5)) V h sb K = K (xs (i + 5)) := fun K => sc_ai hV hN (by omega) hL
  have x1 : ∀ K, cv [(11, 99)] h x0 K = K 99 := fun K => INV_cv hI
  simp only [s_0_1124, s_0_1125, s_0_1126, s_0_1127, s_0_1128, s_0_1129, s_0_1130, s_0_1131, s_0_1132, s_0_1133, s_0_1134, s_0_1135, ↓reduceIte, eq_self, rts_some, rts_none, nq_int, nq_ref, nq_null, nq_none, okr1_0, okr1_1, okr_b, List.length_nil, List.length_cons, Nat.zero_le, Nat.reduceAdd, Nat.reduceLeDiff, b2i_0, b2i_n0, b2i_1, b2i_n1, ite_not, if_true, if_false, not_true_eq_false, not_false_eq_true, true_and, and_true, false_and, and_false, a1, a2, a3, a4, a5, x1, pls (i := i) (k := 1) (c := 1) rfl, pls (i := i) (k := 2) (c := 2) rfl, pls (i := i) (k := 3) (c := 3) rfl, pls (i := i) (k := 4) (c := 4) rfl, pls (i := i) (k := 5) (c := 5) rfl]
  refine L_read hI (fun y h1 hm => ?_)
  have hN1 := hm.1.1 sb hsb
  have b1 : ∀ K, ai 2 (nI (i + 1)) V h1 sb K = K (xs (i + 1)) := fun K => sc_ai hV hN1 (by omega) hL
  have b2 : ∀ K, ai 2 (nI (i + 2)) V h1 sb K = K (xs (i + 2)) := fun K => sc_ai hV hN1 (by omega) hL
  have b3 : ∀ K, ai 2 (nI (i + 3)) V h1 sb K = K (xs (i + 3)) := fun K => sc_ai hV hN1 (by omega) hL
  have b4 : ∀ K, ai 2 (nI (i + 4)) V h1 sb K = K (xs (i + 4)) := fun K => sc_ai hV hN1 (by omega) hL
  have b5 : ∀ K, ai 2 (nI (i + 5)) V h1 sb K = K (xs (i + 5)) := fun K => sc_ai hV hN1 (by omega) hL
  have x2 : ∀ K, cv [(12, 192)] h1 b K = K 192 := fun K => MS_cv hm.1
  simp only [s_0_1138, s_0_1139, s_0_1140, s_0_1141, s_0_1142, s_0_1143, s_0_1144, s_0_1145, s_0_1146, s_0_1147, s_0_1148, s_0_1149, ↓reduceIte, eq_self, rts_some, rts_none, nq_int, nq_ref, nq_null, nq_none, okr1_0, okr1_1, okr_b, List.length_nil, List.length_cons, Nat.zero_le, Nat.reduceAdd, Nat.reduceLeDiff, b2i_0, b2i_n0, b2i_1, b2i_n1, ite_not, if_true, if_false, not_true_eq_false, not_false_eq_true, true_and, and_true, false_and, and_false, b1, b2, b3, b4, b5, x2, pls (i := i) (k := 1) (c := 1) rfl, pls (i := i) (k := 2) (c := 2) rfl, pls (i := i) (k := 3) (c := 3) rfl, pls (i := i) (k := 4) (c := 4) rfl, pls (i := i) (k := 5) (c := 5) rfl]
  refine hm.2 _ (fun h2 h2I => ?_)
  simp only [s_0_1152, s_0_1153, ↓reduceIte, eq_self, rts_some, rts_none, nq_int, nq_ref, nq_null, nq_none, okr1_0, okr1_1, okr_b, List.length_nil, List.length_cons, Nat.zero_le, Nat.reduceAdd, Nat.reduceLeDiff, b2i_0, b2i_n0, b2i_1, b2i_n1, ite_not, if_true, if_false, not_true_eq_false, not_false_eq_true, true_and, and_true, false_and, and_false, eq_true ((lg_cmp_eq y y).mpr rfl)]
  exact H h2 h2I
theorem lw_31 (lc : LC V Ev S sb L xs) (hi : i + 6 ≤ L) (hz : Z1 + 12 ≤ BIG) (hI : INV x0 b BIG S Z1 Z2 h) (H : ∀ h2, NXT x0 b BIG S Z1 Z2 h2 → wp V (cdT Ev) mx (d + 40) 0 1221 [some (.ref sb), some (.ref x0), some (.ref b), some (.int (nI i))] [] h2 Q) : wp V (cdT Ev) mx (d + 40) 0 1158 [some (.ref sb), some (.ref x0), some (.ref b), some (.int (nI i))] [] h Q := by
  obtain ⟨hV, hsb, hL, he⟩ := lc
  have hN := INV_N hI hsb
  have a1 : ∀ K, ai 2 (nI (i + 1)) V h sb K = K (xs (i + 1)) := fun K => sc_ai hV hN (by omega) hL
  have a2 : ∀ K, ai 2 (nI (i + 2)) V h sb K = K (xs (i + 2)) := fun K => sc_ai hV hN (by omega) hL
  have a3 : ∀ K, ai 2 (nI (i + 3)) V h sb K = K (xs (i + 3)) := fun K => sc_ai hV hN (by omega) hL
  have a4 : ∀ K, ai 2 (nI (i + 4)) V h sb K = K (xs (i + 4)) := fun K => sc_ai hV hN (by omega) hL
  have a5 : ∀ K, ai 2 (nI (i + 5)) V h sb K = K (xs (i + 5)) := fun K => sc_ai hV hN (by omega) hL
  have x1 : ∀ K, cv [(11, 100)] h x0 K = K 100 := fun K => INV_cv hI
  simp only [s_0_1158, s_0_1159, s_0_1160, s_0_1161, s_0_1162, s_0_1163, s_0_1164, s_0_1165, s_0_1166, s_0_1167, s_0_1168, s_0_1169, s_0_1170, s_0_1171, s_0_1172, s_0_1173, s_0_1174, s_0_1175, s_0_1176, s_0_1177, s_0_1178, s_0_1179, s_0_1180, s_0_1181, s_0_1182, s_0_1183, s_0_1184, ↓reduceIte, eq_self, rts_some, rts_none, nq_int, nq_ref, nq_null, nq_none, okr1_0, okr1_1, okr_b, List.length_nil, List.length_cons, Nat.zero_le, Nat.reduceAdd, Nat.reduceLeDiff, b2i_0, b2i_n0, b2i_1, b2i_n1, ite_not, if_true, if_false, not_true_eq_false, not_false_eq_true, true_and, and_true, false_and, and_false, a1, a2, a3, a4, a5, x1, pls (i := i) (k := 1) (c := 1) rfl, pls (i := i) (k := 2) (c := 2) rfl, pls (i := i) (k := 3) (c := 3) rfl, pls (i := i) (k := 4) (c := 4) rfl, pls (i := i) (k := 5) (c := 5) rfl]
  refine L_shift hI (fun y h1 hm => ?_)
  have hN1 := hm.1.1 sb hsb
  have b1 : ∀ K, ai 2 (nI (i + 1)) V h1 sb K = K (xs (i + 1)) := fun K => sc_ai hV hN1 (by omega) hL
  have b2 : ∀ K, ai 2 (nI (i + 2)) V h1 sb K = K (xs (i + 2)) := fun K => sc_ai hV hN1 (by omega) hL
  have b3 : ∀ K, ai 2 (nI (i + 3)) V h1 sb K = K (xs (i + 3)) := fun K => sc_ai hV hN1 (by omega) hL
  have b4 : ∀ K, ai 2 (nI (i + 4)) V h1 sb K = K (xs (i + 4)) := fun K => sc_ai hV hN1 (by omega) hL
  have b5 : ∀ K, ai 2 (nI (i + 5)) V h1 sb K = K (xs (i + 5)) := fun K => sc_ai hV hN1 (by omega) hL
  have x2 : ∀ K, cv [(12, 193)] h1 b K = K 193 := fun K => MS_cv hm.1
  simp only [s_0_1187, s_0_1188, s_0_1189, s_0_1190, s_0_1191, s_0_1192, s_0_1193, s_0_1194, s_0_1195, s_0_1196, s_0_1197, s_0_1198, s_0_1199, s_0_1200, s_0_1201, s_0_1202, s_0_1203, s_0_1204, s_0_1205, s_0_1206, s_0_1207, s_0_1208, s_0_1209, s_0_1210, s_0_1211, s_0_1212, s_0_1213, ↓reduceIte, eq_self, rts_some, rts_none, nq_int, nq_ref, nq_null, nq_none, okr1_0, okr1_1, okr_b, List.length_nil, List.length_cons, Nat.zero_le, Nat.reduceAdd, Nat.reduceLeDiff, b2i_0, b2i_n0, b2i_1, b2i_n1, ite_not, if_true, if_false, not_true_eq_false, not_false_eq_true, true_and, and_true, false_and, and_false, b1, b2, b3, b4, b5, x2, pls (i := i) (k := 1) (c := 1) rfl, pls (i := i) (k := 2) (c := 2) rfl, pls (i := i) (k := 3) (c := 3) rfl, pls (i := i) (k := 4) (c := 4) rfl, pls (i := i) (k := 5) (c := 5) rfl]
  refine hm.2 _ (fun h2 h2I => ?_)
  simp only [s_0_1216, ↓reduceIte, eq_self, rts_some, rts_none, nq_int, nq_ref, nq_null, nq_none, okr1_0, okr1_1, okr_b, List.length_nil, List.length_cons, Nat.zero_le, Nat.reduceAdd, Nat.reduceLeDiff, b2i_0, b2i_n0, b2i_1, b2i_n1, ite_not, if_true, if_false, not_true_eq_false, not_false_eq_true, true_and, and_true, false_and, and_false, if_true]
  exact H h2 h2I
/-- the law's loop -/
theorem law_l (lc : LC V Ev S sb L xs) : ∀ m i Z1 Z2 h, L ≤ i + 6 * m + 5 → i ≤ L → Z1 + 12 * m ≤ BIG → INV x0 b BIG S Z1 Z2 h → (∀ h2, INV x0 b BIG S (Z1 + 12 * m) (Z2 + 230 * m) h2 → Q (some (.int 1)) h2) → wp V (cdT Ev) mx (d + 40) 0 18 [some (.ref sb), some (.ref x0), some (.ref b), some (.int (nI i))] [] h Q := by
  intro m
  induction m with
  | zero =>
    intro i Z1 Z2 h hi hiL hz hI H
    have hN := INV_N hI lc.2.1
    have hL := lc.2.2.1
    have l1 : ∀ K, ln V h sb K = K (nI L) := fun K => sc_ln lc.1 hN
    have t6 : (6 : Int32).toInt = 6 := by decide
    have tl : (nI L - 6 : Int32).toInt = (L : Int) - 6 := by
      rw [i_sub (by rw [nI_toInt (by omega)]; omega) (by rw [nI_toInt (by omega)]; omega), nI_toInt (by omega), t6]
    have hc : (nI L - 6 < nI i) = True := eq_true (by
      rw [Int32.lt_iff_toInt_lt, tl, nI_toInt (by omega)]
      omega)
    rw [s_0_18]
    simp only [s_0_19, s_0_20, s_0_21, s_0_23, s_0_24, s_0_1227, s_0_1228, ↓reduceIte, eq_self, rts_some, rts_none, nq_int, nq_ref, nq_null, nq_none, okr1_0, okr1_1, okr_b, List.length_nil, List.length_cons, Nat.zero_le, Nat.reduceAdd, Nat.reduceLeDiff, b2i_0, b2i_n0, b2i_1, b2i_n1, ite_not, if_true, if_false, not_true_eq_false, not_false_eq_true, true_and, and_true, false_and, and_false, l1, hc]
    exact H h hI
  | succ m ih =>
    intro i Z1 Z2 h hi hiL hz hI H
    have hN := INV_N hI lc.2.1
    have hL := lc.2.2.1
    have l1 : ∀ K, ln V h sb K = K (nI L) := fun K => sc_ln lc.1 hN
    have t6 : (6 : Int32).toInt = 6 := by decide
    have tl : (nI L - 6 : Int32).toInt = (L : Int) - 6 := by
      rw [i_sub (by rw [nI_toInt (by omega)]; omega) (by rw [nI_toInt (by omega)]; omega), nI_toInt (by omega), t6]
    by_cases hd : i + 6 ≤ L
    · have hc : (nI L - 6 < nI i) = False := eq_false (by
        rw [Int32.lt_iff_toInt_lt, tl, nI_toInt (by omega)]
        omega)
      have a0 : ∀ K, ai 2 (nI i) V h sb K = K (xs i) := fun K => sc_ai lc.1 hN (by omega) hL
      have G : ∀ h2, NXT x0 b BIG S Z1 Z2 h2 → wp V (cdT Ev) mx (d + 40) 0 1221 [some (.ref sb), some (.ref x0), some (.ref b), some (.int (nI i))] [] h2 Q := by
        intro h2 hI2
        rw [s_0_1221]
        simp only [s_0_1224, ↓reduceIte, eq_self, rts_some, rts_none, nq_int, nq_ref, nq_null, nq_none, okr1_0, okr1_1, okr_b, List.length_nil, List.length_cons, Nat.zero_le, Nat.reduceAdd, Nat.reduceLeDiff, b2i_0, b2i_n0, b2i_1, b2i_n1, ite_not, if_true, if_false, not_true_eq_false, not_false_eq_true, true_and, and_true, false_and, and_false, pls (i := i) (k := 6) (c := 6) rfl]
        refine ih (i + 6) (Z1 + 12) (Z2 + 230) h2 (by omega) hd (by omega) hI2 (fun h3 hI3 => H h3 (INV_mono (by omega) (by omega) hI3))
      rw [s_0_18]
      simp only [s_0_19, s_0_20, s_0_21, s_0_23, s_0_24, s_0_27, s_0_28, s_0_29, s_0_30, s_0_32, s_0_33, ↓reduceIte, eq_self, rts_some, rts_none, nq_int, nq_ref, nq_null, nq_none, okr1_0, okr1_1, okr_b, List.length_nil, List.length_cons, Nat.zero_le, Nat.reduceAdd, Nat.reduceLeDiff, b2i_0, b2i_n0, b2i_1, b2i_n1, ite_not, if_true, if_false, not_true_eq_false, not_false_eq_true, true_and, and_true, false_and, and_false, l1, hc, a0]
      by_cases y0 : xs i &&& 31 = 0
      · rw [if_pos y0]
        exact lw_0 lc hd (by omega) hI G
      rw [if_neg y0]
      by_cases y1 : xs i &&& 31 = 1
      · rw [if_pos y1]
        exact lw_1 lc hd (by omega) hI G
      rw [if_neg y1]
      by_cases y2 : xs i &&& 31 = 2
      · rw [if_pos y2]
        exact lw_2 lc hd (by omega) hI G
      rw [if_neg y2]
      by_cases y3 : xs i &&& 31 = 3
      · rw [if_pos y3]
        exact lw_3 lc hd (by omega) hI G
      rw [if_neg y3]
      by_cases y4 : xs i &&& 31 = 4
      · rw [if_pos y4]
        exact lw_4 lc hd (by omega) hI G
      rw [if_neg y4]
      by_cases y5 : xs i &&& 31 = 5
      · rw [if_pos y5]
        exact lw_5 lc hd (by omega) hI G
      rw [if_neg y5]
      by_cases y6 : xs i &&& 31 = 6
      · rw [if_pos y6]
        exact lw_6 lc hd (by omega) hI G
      rw [if_neg y6]
      by_cases y7 : xs i &&& 31 = 7
      · rw [if_pos y7]
        exact lw_7 lc hd (by omega) hI G
      rw [if_neg y7]
      by_cases y8 : xs i &&& 31 = 8
      · rw [if_pos y8]
        exact lw_8 lc hd (by omega) hI G
      rw [if_neg y8]
      by_cases y9 : xs i &&& 31 = 9
      · rw [if_pos y9]
        exact lw_9 lc hd (by omega) hI G
      rw [if_neg y9]
      by_cases y10 : xs i &&& 31 = 10
      · rw [if_pos y10]
        exact lw_10 lc hd (by omega) hI G
      rw [if_neg y10]
      by_cases y11 : xs i &&& 31 = 11
      · rw [if_pos y11]
        exact lw_11 lc hd (by omega) hI G
      rw [if_neg y11]
      by_cases y12 : xs i &&& 31 = 12
      · rw [if_pos y12]
        exact lw_12 lc hd (by omega) hI G
      rw [if_neg y12]
      by_cases y13 : xs i &&& 31 = 13
      · rw [if_pos y13]
        exact lw_13 lc hd (by omega) hI G
      rw [if_neg y13]
      by_cases y14 : xs i &&& 31 = 14
      · rw [if_pos y14]
        exact lw_14 lc hd (by omega) hI G
      rw [if_neg y14]
      by_cases y15 : xs i &&& 31 = 15
      · rw [if_pos y15]
        exact lw_15 lc hd (by omega) hI G
      rw [if_neg y15]
      by_cases y16 : xs i &&& 31 = 16
      · rw [if_pos y16]
        exact lw_16 lc hd (by omega) hI G
      rw [if_neg y16]
      by_cases y17 : xs i &&& 31 = 17
      · rw [if_pos y17]
        exact lw_17 lc hd (by omega) hI G
      rw [if_neg y17]
      by_cases y18 : xs i &&& 31 = 18
      · rw [if_pos y18]
        exact lw_18 lc hd (by omega) hI G
      rw [if_neg y18]
      by_cases y19 : xs i &&& 31 = 19
      · rw [if_pos y19]
        exact lw_19 lc hd (by omega) hI G
      rw [if_neg y19]
      by_cases y20 : xs i &&& 31 = 20
      · rw [if_pos y20]
        exact lw_20 lc hd (by omega) hI G
      rw [if_neg y20]
      by_cases y21 : xs i &&& 31 = 21
      · rw [if_pos y21]
        exact lw_21 lc hd (by omega) hI G
      rw [if_neg y21]
      by_cases y22 : xs i &&& 31 = 22
      · rw [if_pos y22]
        exact lw_22 lc hd (by omega) hI G
      rw [if_neg y22]
      by_cases y23 : xs i &&& 31 = 23
      · rw [if_pos y23]
        exact lw_23 lc hd (by omega) hI G
      rw [if_neg y23]
      by_cases y24 : xs i &&& 31 = 24
      · rw [if_pos y24]
        exact lw_24 lc hd (by omega) hI G
      rw [if_neg y24]
      by_cases y25 : xs i &&& 31 = 25
      · rw [if_pos y25]
        exact lw_25 lc hd (by omega) hI G
      rw [if_neg y25]
      by_cases y26 : xs i &&& 31 = 26
      · rw [if_pos y26]
        exact lw_26 lc hd (by omega) hI G
      rw [if_neg y26]
      by_cases y27 : xs i &&& 31 = 27
      · rw [if_pos y27]
        exact lw_27 lc hd (by omega) hI G
      rw [if_neg y27]
      by_cases y28 : xs i &&& 31 = 28
      · rw [if_pos y28]
        exact lw_28 lc hd (by omega) hI G
      rw [if_neg y28]
      by_cases y29 : xs i &&& 31 = 29
      · rw [if_pos y29]
        exact lw_29 lc hd (by omega) hI G
      rw [if_neg y29]
      by_cases y30 : xs i &&& 31 = 30
      · rw [if_pos y30]
        exact lw_30 lc hd (by omega) hI G
      rw [if_neg y30]
      by_cases y31 : xs i &&& 31 = 31
      · rw [if_pos y31]
        exact lw_31 lc hd (by omega) hI G
      rw [if_neg y31]
      exact G h (INV_mono (by omega) (by omega) hI)
    · have hc : (nI L - 6 < nI i) = True := eq_true (by
        rw [Int32.lt_iff_toInt_lt, tl, nI_toInt (by omega)]
        omega)
      rw [s_0_18]
      simp only [s_0_19, s_0_20, s_0_21, s_0_23, s_0_24, s_0_1227, s_0_1228, ↓reduceIte, eq_self, rts_some, rts_none, nq_int, nq_ref, nq_null, nq_none, okr1_0, okr1_1, okr_b, List.length_nil, List.length_cons, Nat.zero_le, Nat.reduceAdd, Nat.reduceLeDiff, b2i_0, b2i_n0, b2i_1, b2i_n1, ite_not, if_true, if_false, not_true_eq_false, not_false_eq_true, true_and, and_true, false_and, and_false, l1, hc]
      exact H h (INV_mono (by omega) (by omega) hI)
end
