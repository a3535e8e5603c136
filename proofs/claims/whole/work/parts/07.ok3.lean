/-! Switches, arrays. -/
/-- a table against its targets -/
def tck (pc : Nat) : Int → List Int → List (Int32 × Nat) → Bool
  | _, [], [] => true
  | lo, o :: os, q :: l => decide (q.1.toInt = lo) && decide ((q.2 : Int) = pc + o) && tck pc (lo + 1) os l
  | _, _, _ => false
theorem tck_in {pc d : Nat} {x : Int32} : ∀ (os : List Int) (l : List (Int32 × Nat)) (lo : Int), tck pc lo os l = true → ¬ x.toInt < lo → x.toInt < lo + os.length → ∃ off, os[(x.toInt - lo).toNat]? = some off ∧ (pc : Int) + off = (swl d x l : Nat) := by
  intro os
  induction os with
  | nil =>
    intro l lo _ h1 h2
    simp at h2
    omega
  | cons o os ih =>
    intro l lo h h1 h2
    cases l with
    | nil => simp [tck] at h
    | cons q l =>
      simp only [tck, Bool.and_eq_true, decide_eq_true_eq] at h
      obtain ⟨⟨e1, e2⟩, e3⟩ := h
      by_cases e : x = q.1
      · subst e
        refine ⟨o, by rw [e1]; simp, ?_⟩
        simp only [swl, if_true]
        exact e2.symm
      · have hne : x.toInt ≠ lo := fun z => e (Int32.toInt_inj.mp (z.trans e1.symm))
        obtain ⟨off, g1, g2⟩ := ih l (lo + 1) e3 (by omega) (by simp at h2; omega)
        refine ⟨off, ?_, ?_⟩
        · rw [show (x.toInt - lo).toNat = (x.toInt - (lo + 1)).toNat + 1 by omega]
          exact g1
        · simp only [swl, if_neg e]
          exact g2
theorem tck_out {pc d : Nat} {x : Int32} : ∀ (os : List Int) (l : List (Int32 × Nat)) (lo : Int), tck pc lo os l = true → (x.toInt < lo ∨ lo + os.length ≤ x.toInt) → swl d x l = d := by
  intro os
  induction os with
  | nil =>
    intro l lo h _
    cases l with
    | nil => rfl
    | cons q l => simp [tck] at h
  | cons o os ih =>
    intro l lo h h1
    cases l with
    | nil => simp [tck] at h
    | cons q l =>
      simp only [tck, Bool.and_eq_true, decide_eq_true_eq] at h
      obtain ⟨⟨e1, e2⟩, e3⟩ := h
      have hne : ¬ x = q.1 := fun z => by
        rw [z, e1] at h1
        simp at h1
        omega
      simp only [swl, if_neg hne]
      exact ih l (lo + 1) e3 (by simp at h1; omega)
section OK3
variable {mt : MT} {Ev : Nat → Value} {y pc : Nat}
theorem ok_tsw {dflt lo hi : Int} {offs : Array Int} {len d : Nat} {l : List (Int32 × Nat)} (hd : decode (mt y).2.1 pc = .ok (.tableswitch dflt lo hi offs, len)) (h0 : (pc : Int) + dflt = (d : Int)) (h1 : hi + 1 = lo + offs.toList.length) (h2 : tck pc lo offs.toList l = true) : OkOp mt Ev y pc (o_sw d l) := by
  intro V p lc e R s m args below meth c Q D cy A H0 sz0 sl0 H locs cells slots la ls st h C hA P hR r hr
  unfold o_sw at hr
  split at hr
  · rename_i x rest
    cases hr
    intro _ _ kk
    by_cases hx : x.toInt < lo ∨ hi < x.toInt
    · refine lv_tableOut (tgt := swl d x l) C.1 C.2.1 hd hx ?_ (kk _ _ _ _ _ P)
      rw [tck_out _ _ _ h2 (by omega)]
      exact h0
    · obtain ⟨off, g1, g2⟩ := tck_in (d := d) (x := x) _ _ _ h2 (by omega) (by omega)
      exact lv_tableIn (tgt := swl d x l) C.1 C.2.1 hd (by omega) (by omega) (by rw [← Array.getElem?_toList]; exact g1) g2 (kk _ _ _ _ _ P)
  · cases hr
theorem ok_lsw {dflt : Int} {ps : Array (Int × Int)} {len d : Nat} {l : List (Int32 × Nat)} (hd : decode (mt y).2.1 pc = .ok (.lookupswitch dflt ps, len)) (hp : (ps.toList.zip (ps.toList.drop 1)).all (fun (a, next) => a.1 < next.1) = true) (h2 : ∀ x : Int32, (pc : Int) + Op.lookupswitch.offset ps.toList dflt x.toInt = (swl d x l : Nat)) : OkOp mt Ev y pc (o_sw d l) := by
  intro V p lc e R s m args below meth c Q D cy A H0 sz0 sl0 H locs cells slots la ls st h C hA P hR r hr
  unfold o_sw at hr
  split at hr
  · rename_i x rest
    cases hr
    exact fun _ _ kk => lv_lookup C.1 C.2.1 hd hp rfl (h2 x) (kk _ _ _ _ _ P)
  · cases hr
theorem cellK {V : Nat → Option AE} {D : va_G} {cy : Nat → ClassId} {A : Nat → Prop} {h : HS} {s : State} {H : Heap} {k a n : Nat} {z : (Nat → Int32) ⊕ (Nat → Int64) ⊕ (Nat → UInt32) ⊕ (Nat → UInt64) ⊕ (Nat → Option Nat)} (hR : Rp V Ev D cy A h s H) (ha : h.1 a = some (.inl (k, n, z))) : H[a]? = some (vp_cell (cy k) (n, z)) := (hR.2.2.2.1 a _ ha).1
theorem lk_cases {V : Nat → Option AE} {h : HS} {a : Nat} {x : AE} (hx : lk V h a = some x) : h.1 a = some x ∨ V (2 * a) = some x := by
  unfold lk at hx
  split at hx
  · rename_i e he
    cases hx
    exact Or.inl he
  · exact Or.inr hx
theorem ok_iald (hd : decode (mt y).2.1 pc = .ok (.iaload, 1)) : OkOp mt Ev y pc (o_iald 2) := by
  intro V p l e R s m args below meth c Q D cy A H0 sz0 sl0 H locs cells slots la ls st h C hA P hR r hr
  unfold o_iald at hr
  split at hr
  · rename_i i a rest
    split at hr
    · rename_i k' n f hl
      split at hr
      · rename_i hk
        subst hk
        split at hr
        · cases hr
        · rename_i hin
          cases hr
          have hlt : i.toNatClampNeg < n := Nat.not_le.mp fun q => hin (Or.inr q)
          intro _ _ kk
          rcases lk_cases hl with g | g
          · exact W.iald (v := .int (f i.toNatClampNeg)) C.1 C.2.1 (cellK P.2.1 g) ((P.2.1.2.1.2 2 _ rfl).1 n (fun j => .int (f j))) (fun q => by cases q) (by show ¬ (i < 0 ∨ (arrV _ _ _).slots.size ≤ _); rw [arrV_size]; exact hin) (by show (arrV _ _ _).slots[_]? = _; rw [arrV_read _ _ hlt]) rfl rfl hd (kk _ _ _ _ _ P)
          · obtain ⟨⟨cell, g1, g2, g3, g4, g4b, g5⟩, -⟩ := P.2.1.2.2.2.2.1 a _ (Or.inl g)
            exact W.iald (v := .int (f i.toNatClampNeg)) C.1 C.2.1 g1 g2 g3 (fun q => q.elim (fun q => hin (Or.inl q)) (fun q => by omega)) (g5 _ hlt) rfl rfl hd (kk _ _ _ _ _ P)
      · cases hr
    · cases hr
  · cases hr
theorem ok_bald (hd : decode (mt y).2.1 pc = .ok (.baload, 1)) : OkOp mt Ev y pc (o_iald 0) := by
  intro V p l e R s m args below meth c Q D cy A H0 sz0 sl0 H locs cells slots la ls st h C hA P hR r hr
  unfold o_iald at hr
  split at hr
  · rename_i i a rest
    split at hr
    · rename_i k' n f hl
      split at hr
      · rename_i hk
        subst hk
        split at hr
        · cases hr
        · rename_i hin
          cases hr
          have hlt : i.toNatClampNeg < n := Nat.not_le.mp fun q => hin (Or.inr q)
          intro _ _ kk
          rcases lk_cases hl with g | g
          · exact W.bald (v := .int (f i.toNatClampNeg)) C.1 C.2.1 (cellK P.2.1 g) ((P.2.1.2.1.2 0 _ rfl).1 n (fun j => .int (f j))) (fun q => by cases q) (by show ¬ (i < 0 ∨ (arrV _ _ _).slots.size ≤ _); rw [arrV_size]; exact hin) (by show (arrV _ _ _).slots[_]? = _; rw [arrV_read _ _ hlt]) rfl rfl hd (kk _ _ _ _ _ P)
          · obtain ⟨⟨cell, g1, g2, g3, g4, g4b, g5⟩, -⟩ := P.2.1.2.2.2.2.1 a _ (Or.inl g)
            exact W.bald (v := .int (f i.toNatClampNeg)) C.1 C.2.1 g1 g2 g3 (fun q => q.elim (fun q => hin (Or.inl q)) (fun q => by omega)) (g5 _ hlt) rfl rfl hd (kk _ _ _ _ _ P)
      · cases hr
    · cases hr
  · cases hr
theorem ok_cald (hd : decode (mt y).2.1 pc = .ok (.caload, 1)) : OkOp mt Ev y pc (o_iald 1) := by
  intro V p l e R s m args below meth c Q D cy A H0 sz0 sl0 H locs cells slots la ls st h C hA P hR r hr
  unfold o_iald at hr
  split at hr
  · rename_i i a rest
    split at hr
    · rename_i k' n f hl
      split at hr
      · rename_i hk
        subst hk
        split at hr
        · cases hr
        · rename_i hin
          cases hr
          have hlt : i.toNatClampNeg < n := Nat.not_le.mp fun q => hin (Or.inr q)
          intro _ _ kk
          rcases lk_cases hl with g | g
          · exact W.cald (v := .int (f i.toNatClampNeg)) C.1 C.2.1 (cellK P.2.1 g) ((P.2.1.2.1.2 1 _ rfl).1 n (fun j => .int (f j))) (fun q => by cases q) (by show ¬ (i < 0 ∨ (arrV _ _ _).slots.size ≤ _); rw [arrV_size]; exact hin) (by show (arrV _ _ _).slots[_]? = _; rw [arrV_read _ _ hlt]) rfl rfl hd (kk _ _ _ _ _ P)
          · obtain ⟨⟨cell, g1, g2, g3, g4, g4b, g5⟩, -⟩ := P.2.1.2.2.2.2.1 a _ (Or.inl g)
            exact W.cald (v := .int (f i.toNatClampNeg)) C.1 C.2.1 g1 g2 g3 (fun q => q.elim (fun q => hin (Or.inl q)) (fun q => by omega)) (g5 _ hlt) rfl rfl hd (kk _ _ _ _ _ P)
      · cases hr
    · cases hr
  · cases hr
theorem ok_lald (hd : decode (mt y).2.1 pc = .ok (.laload, 1)) : OkOp mt Ev y pc o_lald := by
  intro V p l e R s m args below meth c Q D cy A H0 sz0 sl0 H locs cells slots la ls st h C hA P hR r hr
  unfold o_lald at hr
  split at hr
  · rename_i i a rest
    split at hr
    · rename_i n f hl
      split at hr
      · cases hr
      · rename_i hin
        cases hr
        have hlt : i.toNatClampNeg < n := Nat.not_le.mp fun q => hin (Or.inr q)
        exact fun _ _ kk => W.lald (v := .long (f i.toNatClampNeg)) C.1 C.2.1 (cellK P.2.1 hl) ((P.2.1.2.1.2 3 _ rfl).1 n (fun j => .long (f j))) (fun q => by cases q) (by show ¬ (i < 0 ∨ (arrV _ _ _).slots.size ≤ _); rw [arrV_size]; exact hin) (by show (arrV _ _ _).slots[_]? = _; rw [arrV_read _ _ hlt]) rfl rfl hd (kk _ _ _ _ _ P)
    · cases hr
  · cases hr
theorem ok_alen (hd : decode (mt y).2.1 pc = .ok (.arraylength, 1)) : OkOp mt Ev y pc o_alen := by
  intro V p l e R s m args below meth c Q D cy A H0 sz0 sl0 H locs cells slots la ls st h C hA P hR r hr
  unfold o_alen at hr
  split at hr
  · rename_i a rest
    split at hr
    · rename_i k n z hl
      split at hr
      · rename_i hk6
        cases hr
        intro _ _ kk
        rcases lk_cases hl with g | g
        · obtain ⟨f, hf⟩ : ∃ f, vp_cell (cy k) (n, z) = arrV (cy k) n f := by
            rcases z with z | z | z | z | z
            · exact ⟨fun j => .int (z j), rfl⟩
            · exact ⟨fun j => .long (z j), rfl⟩
            · exact ⟨fun j => .float (z j), rfl⟩
            · exact ⟨fun j => .double (z j), rfl⟩
            · exact ⟨fun j => va_rf (z j), rfl⟩
          have hc := cellK P.2.1 g
          rw [hf] at hc
          have hty : (tysA cy)[k]? = some (cy k, tyS k) := by
            rcases (by omega : k = 0 ∨ k = 1 ∨ k = 2 ∨ k = 3 ∨ k = 4 ∨ k = 5) with rfl | rfl | rfl | rfl | rfl | rfl <;> rfl
          exact W.alen C.1 C.2.1 hc ((P.2.1.2.1.2 k _ hty).1 n f) (by rw [arrV_size]) rfl rfl hd (kk _ _ _ _ _ P)
        · rcases z with z | z | z | z | z
          · obtain ⟨⟨cell, g1, g2, g3, g4, g4b, g5⟩, -⟩ := P.2.1.2.2.2.2.1 a _ (Or.inl g)
            exact W.alen C.1 C.2.1 g1 g2 g4b rfl rfl hd (kk _ _ _ _ _ P)
          all_goals exact (P.2.1.2.2.2.2.1 a _ (Or.inl g)).1.elim
      · cases hr
    · cases hr
  · cases hr
theorem ok_aald (hd : decode (mt y).2.1 pc = .ok (.aaload, 1)) : OkOp mt Ev y pc o_aald := by
  intro V p l e R s m args below meth c Q D cy A H0 sz0 sl0 H locs cells slots la ls st h C hA P hR r hr
  unfold o_aald at hr
  split at hr
  · rename_i i a rest
    split at hr
    · rename_i k n f hl
      split at hr
      · rename_i hk
        split at hr
        · cases hr
        · rename_i hin
          cases hr
          have hlt : i.toNatClampNeg < n := Nat.not_le.mp fun q => hin (Or.inr q)
          have hty : (tysA cy)[k]? = some (cy k, tyS k) := by
            rcases hk with rfl | rfl <;> rfl
          exact fun _ _ kk => W.aald (v := va_rf (f i.toNatClampNeg)) (ty := tyS k) C.1 C.2.1 (cellK P.2.1 hl) ((P.2.1.2.1.2 k _ hty).1 n (fun j => va_rf (f j))) (by rcases hk with rfl | rfl <;> rfl) (fun q => by cases q) (by show ¬ (i < 0 ∨ (arrV _ _ _).slots.size ≤ _); rw [arrV_size]; exact hin) (by show (arrV _ _ _).slots[_]? = _; rw [arrV_read _ _ hlt]) rfl rfl hd (kk _ _ _ _ _ P)
      · cases hr
    · cases hr
  · cases hr
theorem ok_iast (hd : decode (mt y).2.1 pc = .ok (.iastore, 1)) : OkOp mt Ev y pc (o_iast 2 (fun x => x)) := by
  intro V p l e R s m args below meth c Q D cy A H0 sz0 sl0 H locs cells slots la ls st h C hA P hR r hr
  unfold o_iast at hr
  split at hr
  · rename_i x i a rest
    split at hr
    · rename_i k' n f hl
      split at hr
      · rename_i hk
        subst hk
        split at hr
        · cases hr
        · rename_i hin
          cases hr
          intro _ _ kk
          refine W.iast C.1 C.2.1 (cellK P.2.1 hl) ((P.2.1.2.1.2 2 _ rfl).1 n (fun j => .int (f j))) (fun q => by cases q) (by show ¬ (i < 0 ∨ (arrV _ _ _).slots.size ≤ _); rw [arrV_size]; exact hin) rfl rfl hd fun H1 e z oq => ?_
          refine kk _ H1 _ _ _ ⟨P.1, P.2.1.put hl ?_ z oq, P.2.2.1.put z oq (P.2.1.2.2.2.1 a _ hl).2, P.2.2.2⟩
          show H1[a]? = some (vp_cell _ _)
          rw [e]
          rw [vp_cell_i, vp_cell_i, arrV_store]
          congr 2
          funext q
          by_cases hq : q = i.toNatClampNeg
          · subst hq
            simp [updV, upd]
            first | done | (unfold vp_nar; rfl)
          · simp [updV, upd, hq]
      · cases hr
    · cases hr
  · cases hr
theorem ok_bast (hd : decode (mt y).2.1 pc = .ok (.bastore, 1)) : OkOp mt Ev y pc (o_iast 0 (fun x => vp_nar .byte x)) := by
  intro V p l e R s m args below meth c Q D cy A H0 sz0 sl0 H locs cells slots la ls st h C hA P hR r hr
  unfold o_iast at hr
  split at hr
  · rename_i x i a rest
    split at hr
    · rename_i k' n f hl
      split at hr
      · rename_i hk
        subst hk
        split at hr
        · cases hr
        · rename_i hin
          cases hr
          intro _ _ kk
          refine W.bast C.1 C.2.1 (cellK P.2.1 hl) ((P.2.1.2.1.2 0 _ rfl).1 n (fun j => .int (f j))) (fun q => by cases q) (by show ¬ (i < 0 ∨ (arrV _ _ _).slots.size ≤ _); rw [arrV_size]; exact hin) rfl rfl hd fun H1 e z oq => ?_
          refine kk _ H1 _ _ _ ⟨P.1, P.2.1.put hl ?_ z oq, P.2.2.1.put z oq (P.2.1.2.2.2.1 a _ hl).2, P.2.2.2⟩
          show H1[a]? = some (vp_cell _ _)
          rw [e]
          rw [vp_cell_i, vp_cell_i, arrV_store]
          congr 2
          funext q
          by_cases hq : q = i.toNatClampNeg
          · subst hq
            simp [updV, upd]
            first | done | (unfold vp_nar; rfl)
          · simp [updV, upd, hq]
      · cases hr
    · cases hr
  · cases hr
theorem ok_cast (hd : decode (mt y).2.1 pc = .ok (.castore, 1)) : OkOp mt Ev y pc (o_iast 1 (fun x => vp_nar .char x)) := by
  intro V p l e R s m args below meth c Q D cy A H0 sz0 sl0 H locs cells slots la ls st h C hA P hR r hr
  unfold o_iast at hr
  split at hr
  · rename_i x i a rest
    split at hr
    · rename_i k' n f hl
      split at hr
      · rename_i hk
        subst hk
        split at hr
        · cases hr
        · rename_i hin
          cases hr
          intro _ _ kk
          refine W.cast C.1 C.2.1 (cellK P.2.1 hl) ((P.2.1.2.1.2 1 _ rfl).1 n (fun j => .int (f j))) (fun q => by cases q) (by show ¬ (i < 0 ∨ (arrV _ _ _).slots.size ≤ _); rw [arrV_size]; exact hin) rfl rfl hd fun H1 e z oq => ?_
          refine kk _ H1 _ _ _ ⟨P.1, P.2.1.put hl ?_ z oq, P.2.2.1.put z oq (P.2.1.2.2.2.1 a _ hl).2, P.2.2.2⟩
          show H1[a]? = some (vp_cell _ _)
          rw [e]
          rw [vp_cell_i, vp_cell_i, arrV_store]
          congr 2
          funext q
          by_cases hq : q = i.toNatClampNeg
          · subst hq
            simp [updV, upd]
            first | done | (unfold vp_nar; rfl)
          · simp [updV, upd, hq]
      · cases hr
    · cases hr
  · cases hr
theorem ok_last (hd : decode (mt y).2.1 pc = .ok (.lastore, 1)) : OkOp mt Ev y pc o_last := by
  intro V p l e R s m args below meth c Q D cy A H0 sz0 sl0 H locs cells slots la ls st h C hA P hR r hr
  unfold o_last at hr
  split at hr
  · rename_i x i a rest
    split at hr
    · rename_i n f hl
      split at hr
      · cases hr
      · rename_i hin
        cases hr
        intro _ _ kk
        refine W.last C.1 C.2.1 (cellK P.2.1 hl) ((P.2.1.2.1.2 3 _ rfl).1 n (fun j => .long (f j))) (fun q => by cases q) (by show ¬ (i < 0 ∨ (arrV _ _ _).slots.size ≤ _); rw [arrV_size]; exact hin) rfl rfl hd fun H1 e z oq => ?_
        refine kk _ H1 _ _ _ ⟨P.1, P.2.1.put hl ?_ z oq, P.2.2.1.put z oq (P.2.1.2.2.2.1 a _ hl).2, P.2.2.2⟩
        show H1[a]? = some (vp_cell _ _)
        rw [e]
        rw [vp_cell_l, vp_cell_l, arrV_store]
        congr 2
        funext q
        by_cases hq : q = i.toNatClampNeg
        · subst hq
          simp [updV, vp_updL]
        · simp [updV, vp_updL, hq]
    · cases hr
  · cases hr
end OK3
