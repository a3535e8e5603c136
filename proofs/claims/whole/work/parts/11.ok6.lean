/-! Stores of references, casts, arraycopy, long[n][k]. -/
section OK6
variable {mt : MT} {Ev : Nat → Value} {y pc : Nat}
/-- objects of the classes cs may stand where E is asked -/
def AsC (cs : List Nat) (E : String) : Prop := ∀ ci ∈ cs, ∃ (K : String) (T : u_T) (N : Nat), vwCl[ci]? = some (K, T, N) ∧ (K = E ∨ Cond.castable K E ∈ lw_sp)
theorem asc_go {s : State} {K E : String} (hsp : ∀ w ∈ lw_sp, va_Nw w s) (h : K = E ∨ Cond.castable K E ∈ lw_sp) (comp c0 : ClassId) (h1 : s.vm.findClass E = some comp) (h2 : s.vm.findClass K = some c0) : s.vm.assignable c0 comp = true := by
  rcases h with rfl | h
  · exact vb_asgS comp c0 h1 h2
  · exact vb_asgC (hsp _ h) comp c0 h1 h2
theorem ok_aast {cs : List Nat} (hd : decode (mt y).2.1 pc = .ok (.aastore, 1)) (hcs : AsC cs RX4) : OkOp mt Ev y pc (o_aast cs) := by
  intro V p l e R s m args below meth c Q D cy A H0 sz0 sl0 H locs cells slots la ls st h C hA P hR r hr
  unfold o_aast at hr
  split at hr
  · rename_i v i a rest
    split at hr
    · rename_i n f ci vs hl hv
      split at hr
      · rename_i hci
        split at hr
        · cases hr
        · rename_i hin
          cases hr
          intro _ _ kk
          obtain ⟨K, T, N, hc, hcast⟩ := hcs ci hci
          have hlt : i.toNatClampNeg < n := Nat.not_le.mp fun q => hin (Or.inr q)
          have h0 : ¬ i < 0 := fun q => hin (Or.inl q)
          obtain ⟨cellV, g1, g3, ⟨kC, hkC⟩, hasg⟩ := va_rAny (E := RX4) P.2.1.2.1 (at1 (P.2.1.2.2.2.1 v _ hv).1) (q0 := 0) rfl hc (asc_go P.2.1.2.2.1.1 hcast)
          obtain ⟨kA, comp, k1, k2, k3, -⟩ := (P.2.1.2.1.2 4 _ rfl).2
          obtain ⟨kE, hkE, -⟩ := Vm.findClass_spec k3
          refine W.aast C.1 C.2.1 (cellK P.2.1 hl) (fun q h => by cases h) (fun h => by cases h) k1 k2 rfl hkE ⟨h0, by show _ < (arrV _ _ _).slots.size; rw [arrV_size]; exact hlt⟩ g1 (fun q h => by rw [h] at g3; cases g3) hkC (hasg _ k3) rfl rfl hd fun H1 e z oq => ?_
          refine kk _ H1 _ _ _ ⟨P.1, P.2.1.put hl ?_ z oq, P.2.2.1.put z oq (P.2.1.2.2.2.1 a _ hl).2, P.2.2.2⟩
          show H1[a]? = some (vp_cell _ _)
          rw [e]
          rw [vp_cell_q, vp_cell_q, arrV_store]
          congr 2
          funext q
          by_cases hq : q = i.toNatClampNeg
          · subst hq
            simp [updV, va_up, va_rf]
          · simp [updV, va_up, hq]
      · cases hr
    · cases hr
  · cases hr
theorem ok_inst {i : Nat} {E : String} {ys ns : List Nat} (hd : decode (mt y).2.1 pc = .ok (.instanceof i, 3)) (w1 : Cond.classLink (mt y).1.cls i E ∈ lw_gd) (hy : AsC ys E) (hn : ∀ ci ∈ ns, ∃ (K : String) (T : u_T) (N : Nat), vwCl[ci]? = some (K, T, N) ∧ (K, E) ∈ ncL) : OkOp mt Ev y pc (o_inst ys ns) := by
  intro V p l e R s m args below meth c Q D cy A H0 sz0 sl0 H locs cells slots la ls st h C hA P hR r hr
  unfold o_inst at hr
  have hts := C.2.2.2.2.1
  split at hr
  · cases hr
    exact fun _ _ kk => lv_instN C.1 C.2.1 hd (kk _ _ _ _ _ P)
  · rename_i a rest
    split at hr
    · rename_i ci vs hl
      split at hr
      · rename_i hci
        cases hr
        obtain ⟨K, T, N, hc, hcast⟩ := hy ci hci
        have hrv := recv_at P.2.1 hl hc
        rcases hcast with rfl | hcast
        · exact fun _ _ kk => va_instS C.1 C.2.1 C.2.2.2.1 (hts _ w1) (P.2.1.2.1.1 ci _ hc).2 hrv hd (kk _ _ _ _ _ P)
        · exact fun _ _ kk => va_instY C.1 C.2.1 C.2.2.2.1 (hts _ w1) (P.2.1.2.2.1.1 _ hcast) hrv hd (kk _ _ _ _ _ P)
      · split at hr
        · rename_i hci
          cases hr
          obtain ⟨K, T, N, hc, hnc⟩ := hn ci hci
          have hrv := recv_at P.2.1 hl hc
          exact fun _ _ kk => va_instNo C.1 C.2.1 C.2.2.2.1 (hts _ w1) (P.2.1.2.2.1.2.2.1 _ hnc) hrv hd (kk _ _ _ _ _ P)
        · cases hr
    · cases hr
  · cases hr
theorem ok_cast2 {i : Nat} {E : String} {ys : List Nat} (hd : decode (mt y).2.1 pc = .ok (.checkcast i, 3)) (w1 : Cond.classLink (mt y).1.cls i E ∈ lw_gd) (hy : AsC ys E) : OkOp mt Ev y pc (o_cast ys) := by
  intro V p l e R s m args below meth c Q D cy A H0 sz0 sl0 H locs cells slots la ls st h C hA P hR r hr
  unfold o_cast at hr
  have hts := C.2.2.2.2.1
  split at hr
  · cases hr
    exact fun _ _ kk => lv_castN C.1 C.2.1 hd (kk _ _ _ _ _ P)
  · rename_i a rest
    split at hr
    · rename_i ci vs hl
      split at hr
      · rename_i hci
        cases hr
        obtain ⟨K, T, N, hc, hcast⟩ := hy ci hci
        have hrv := recv_at P.2.1 hl hc
        rcases hcast with rfl | hcast
        · exact fun _ _ kk => va_castS C.1 C.2.1 C.2.2.2.1 (hts _ w1) (P.2.1.2.1.1 ci _ hc).2 hrv hd (kk _ _ _ _ _ P)
        · exact fun _ _ kk => va_castY C.1 C.2.1 C.2.2.2.1 (hts _ w1) (P.2.1.2.2.1.1 _ hcast) hrv hd (kk _ _ _ _ _ P)
      · cases hr
    · cases hr
  · cases hr
theorem ok_cpyi {i : Nat} (hd : decode (mt y).2.1 pc = .ok (.invokestatic i, 3)) (w1 : Cond.methodLink (mt y).1.cls i arraycopyName ∈ lw_gd) (w2 : Cond.native arraycopyName ∈ lw_gd) (w3 : Cond.static arraycopyName ∈ lw_gd) (w4 : Cond.initialized "java/lang/System" ∈ lw_gd) : OkOp mt Ev y pc o_cpyi := by
  intro V p l e R s m args below meth c Q D cy A H0 sz0 sl0 H locs cells slots la ls st h C hA P hR r hr
  unfold o_cpyi at hr
  have hts := C.2.2.2.2.1
  split at hr
  · rename_i n dp b sp a rest
    split at hr
    · rename_i n0 f n1 g ha hb
      split at hr
      · cases hr
      · rename_i hg
        cases hr
        intro _ _ kk
        have h1 : ¬ sp < 0 := fun q => hg (Or.inl q)
        have h2 : ¬ dp < 0 := fun q => hg (Or.inr (Or.inl q))
        have h3 : ¬ n < 0 := fun q => hg (Or.inr (Or.inr (Or.inl q)))
        have h4 : sp.toNatClampNeg + n.toNatClampNeg ≤ n0 := Nat.not_lt.mp fun q => hg (Or.inr (Or.inr (Or.inr (Or.inl q))))
        have h5 : dp.toNatClampNeg + n.toNatClampNeg ≤ n1 := Nat.not_lt.mp fun q => hg (Or.inr (Or.inr (Or.inr (Or.inr (Or.inl q)))))
        have h6 : rest.length ≤ 4 := Nat.not_lt.mp fun q => hg (Or.inr (Or.inr (Or.inr (Or.inr (Or.inr q)))))
        have nn : ∀ z : Int32, ¬ z < 0 → z.toInt = (z.toNatClampNeg : Int) := by
          intro z hz
          have hz0 : (0 : Int) ≤ z.toInt := by
            have := Int32.not_lt.mp hz
            simpa using Int32.le_iff_toInt_le.mp this
          show z.toInt = ((z.toInt.toNat : Nat) : Int)
          omega
        have hc0 : H[a]? = some (vp_cell (cy 2) (n0, (.inl f))) := cellK P.2.1 ha
        have hc1 : H[b]? = some (vp_cell (cy 2) (n1, (.inl g))) := cellK P.2.1 hb
        intro T hT X
        obtain ⟨-, k0, hk0, cm0, hkk0⟩ := (P.2.1.2.1.2 2 _ rfl).1 n0 (fun j => .int (f j))
        obtain ⟨-, k1, hk1, cm1, hkk1⟩ := (P.2.1.2.1.2 2 _ rfl).1 n1 (fun j => .int (g j))
        obtain ⟨vm', X', step⟩ := X.arraycopy C.1 C.2.2.2.1 (hts _ w1) (hts _ w2) (hts _ w3) (hts _ w4) (src := a) (dst := b) (cs := vp_cell (cy 2) (n0, (.inl f))) (cd := vp_cell (cy 2) (n1, (.inl g))) (srcPos := sp) (destPos := dp) (n := n) (by rw [hT]; exact hc0) (by rw [hT]; exact hc1)
          (fun _ h => by cases h) (fun _ h => by cases h) (fun h => by cases h) (fun h => by cases h) hk0 hk1 hkk0 hkk1 (by first | decide | simp) h1 h2 h3
          (by rw [nn sp h1, nn n h3]; show ¬ _ > ((arrV (cy 2) n0 (fun j => .int (f j))).slots.size : Int); rw [arrV_size]; omega)
          (by rw [nn dp h2, nn n h3]; show ¬ _ > ((arrV (cy 2) n1 (fun j => .int (g j))).slots.size : Int); rw [arrV_size]; omega)
          (fun vm₁ _ i hi => by
            have e : (vp_cell (cy 2) (n0, (.inl f))).slots.getD (sp.toNatClampNeg + i) .null = .int (f (sp.toNatClampNeg + i)) := by
              show (arrV (cy 2) n0 (fun j => .int (f j))).slots.getD _ _ = _
              rw [Array.getD_eq_getD_getElem?, arrV_read _ _ (by omega)]
              rfl
            refine ⟨?_, ?_⟩
            · rw [e]
              rfl
            · rw [e]
              exact trivial)
          (g := F0 m pc la (.int n :: .int dp :: .ref b :: .int sp :: .ref a :: rest)) rfl (by rw [C.2.2.1]; exact P.1.1) (rest := rest) rfl (by rw [C.2.1]; exact hd) hR.1 (by
            show 2 * 0 + _ + (nativeFrameWords "java/lang/System" "arraycopy" 5 + 11) ≤ _
            have h7 : nativeFrameWords "java/lang/System" "arraycopy" 5 ≤ 60 := by decide
            have := cat_sum rest
            omega)
        have e1 : copied (vp_cell (cy 2) (n0, (.inl f))) (vp_cell (cy 2) (n1, (.inl g))) sp dp n = vp_cell (cy 2) (n1, (.inl (va_cpy f g sp.toNatClampNeg dp.toNatClampNeg n.toNatClampNeg))) := va_copied (fun z => .int z) (cy 2) (cy 2) f g h4
        rw [e1] at X' step
        have hl : b < H.size := (Array.getElem?_eq_some_iff.mp hc1).1
        generalize hnc : vp_cell (cy 2) (n1, (.inl (va_cpy f g sp.toNatClampNeg dp.toNatClampNeg n.toNatClampNeg))) = NC at X' step
        have hheap : ((T.setVm vm').setCell b NC).heap = H.setIfInBounds b NC := by rw [← hT]; rfl
        have oq : ∀ q : Nat, q ≠ b → (H.setIfInBounds b NC)[q]? = H[q]? := fun q hq => by simp [Array.getElem?_setIfInBounds, Ne.symm hq]
        have hAb := (P.2.1.2.2.2.1 b _ hb).2
        obtain ⟨t, a1, b1⟩ := kk _ _ _ _ _ ⟨P.1, P.2.1.put (H' := H.setIfInBounds b NC) hb (by show (H.setIfInBounds b NC)[b]? = some (vp_cell _ _); rw [hnc]; simp [Array.getElem?_setIfInBounds, hl]) (by simp) oq, ⟨by simp; exact P.2.2.1.1, fun q g1 g2 => by
            rw [oq q (fun e => g2 (by rw [e]; exact hAb))]
            exact P.2.2.1.2.1 q g1 g2, fun q hq => by
            rcases List.mem_append.mp hq with h | h
            · exact P.2.2.1.2.2 q h
            · obtain ⟨z, -, hz⟩ := List.mem_map.mp h
              rw [← hz]
              exact hAb⟩, P.2.2.2⟩ _ hheap X'
        exact ⟨t, step t a1, b1⟩
    · cases hr
  · cases hr
theorem ok_cpyl {i : Nat} (hd : decode (mt y).2.1 pc = .ok (.invokestatic i, 3)) (w1 : Cond.methodLink (mt y).1.cls i arraycopyName ∈ lw_gd) (w2 : Cond.native arraycopyName ∈ lw_gd) (w3 : Cond.static arraycopyName ∈ lw_gd) (w4 : Cond.initialized "java/lang/System" ∈ lw_gd) : OkOp mt Ev y pc o_cpyl := by
  intro V p l e R s m args below meth c Q D cy A H0 sz0 sl0 H locs cells slots la ls st h C hA P hR r hr
  unfold o_cpyl at hr
  have hts := C.2.2.2.2.1
  split at hr
  · rename_i n dp b sp a rest
    split at hr
    · rename_i n0 f n1 g ha hb
      split at hr
      · cases hr
      · rename_i hg
        cases hr
        intro _ _ kk
        have h1 : ¬ sp < 0 := fun q => hg (Or.inl q)
        have h2 : ¬ dp < 0 := fun q => hg (Or.inr (Or.inl q))
        have h3 : ¬ n < 0 := fun q => hg (Or.inr (Or.inr (Or.inl q)))
        have h4 : sp.toNatClampNeg + n.toNatClampNeg ≤ n0 := Nat.not_lt.mp fun q => hg (Or.inr (Or.inr (Or.inr (Or.inl q))))
        have h5 : dp.toNatClampNeg + n.toNatClampNeg ≤ n1 := Nat.not_lt.mp fun q => hg (Or.inr (Or.inr (Or.inr (Or.inr (Or.inl q)))))
        have h6 : rest.length ≤ 4 := Nat.not_lt.mp fun q => hg (Or.inr (Or.inr (Or.inr (Or.inr (Or.inr q)))))
        have nn : ∀ z : Int32, ¬ z < 0 → z.toInt = (z.toNatClampNeg : Int) := by
          intro z hz
          have hz0 : (0 : Int) ≤ z.toInt := by
            have := Int32.not_lt.mp hz
            simpa using Int32.le_iff_toInt_le.mp this
          show z.toInt = ((z.toInt.toNat : Nat) : Int)
          omega
        have hc0 : H[a]? = some (vp_cell (cy 3) (n0, (.inr (.inl f)))) := cellK P.2.1 ha
        have hc1 : H[b]? = some (vp_cell (cy 3) (n1, (.inr (.inl g)))) := cellK P.2.1 hb
        intro T hT X
        obtain ⟨-, k0, hk0, cm0, hkk0⟩ := (P.2.1.2.1.2 3 _ rfl).1 n0 (fun j => .long (f j))
        obtain ⟨-, k1, hk1, cm1, hkk1⟩ := (P.2.1.2.1.2 3 _ rfl).1 n1 (fun j => .long (g j))
        obtain ⟨vm', X', step⟩ := X.arraycopy C.1 C.2.2.2.1 (hts _ w1) (hts _ w2) (hts _ w3) (hts _ w4) (src := a) (dst := b) (cs := vp_cell (cy 3) (n0, (.inr (.inl f)))) (cd := vp_cell (cy 3) (n1, (.inr (.inl g)))) (srcPos := sp) (destPos := dp) (n := n) (by rw [hT]; exact hc0) (by rw [hT]; exact hc1)
          (fun _ h => by cases h) (fun _ h => by cases h) (fun h => by cases h) (fun h => by cases h) hk0 hk1 hkk0 hkk1 (by first | decide | simp) h1 h2 h3
          (by rw [nn sp h1, nn n h3]; show ¬ _ > ((arrV (cy 3) n0 (fun j => .long (f j))).slots.size : Int); rw [arrV_size]; omega)
          (by rw [nn dp h2, nn n h3]; show ¬ _ > ((arrV (cy 3) n1 (fun j => .long (g j))).slots.size : Int); rw [arrV_size]; omega)
          (fun vm₁ _ i hi => by
            have e : (vp_cell (cy 3) (n0, (.inr (.inl f)))).slots.getD (sp.toNatClampNeg + i) .null = .long (f (sp.toNatClampNeg + i)) := by
              show (arrV (cy 3) n0 (fun j => .long (f j))).slots.getD _ _ = _
              rw [Array.getD_eq_getD_getElem?, arrV_read _ _ (by omega)]
              rfl
            refine ⟨?_, ?_⟩
            · rw [e]
              rfl
            · rw [e]
              exact trivial)
          (g := F0 m pc la (.int n :: .int dp :: .ref b :: .int sp :: .ref a :: rest)) rfl (by rw [C.2.2.1]; exact P.1.1) (rest := rest) rfl (by rw [C.2.1]; exact hd) hR.1 (by
            show 2 * 0 + _ + (nativeFrameWords "java/lang/System" "arraycopy" 5 + 11) ≤ _
            have h7 : nativeFrameWords "java/lang/System" "arraycopy" 5 ≤ 60 := by decide
            have := cat_sum rest
            omega)
        have e1 : copied (vp_cell (cy 3) (n0, (.inr (.inl f)))) (vp_cell (cy 3) (n1, (.inr (.inl g)))) sp dp n = vp_cell (cy 3) (n1, (.inr (.inl (va_cpy f g sp.toNatClampNeg dp.toNatClampNeg n.toNatClampNeg)))) := va_copied (fun z => .long z) (cy 3) (cy 3) f g h4
        rw [e1] at X' step
        have hl : b < H.size := (Array.getElem?_eq_some_iff.mp hc1).1
        generalize hnc : vp_cell (cy 3) (n1, (.inr (.inl (va_cpy f g sp.toNatClampNeg dp.toNatClampNeg n.toNatClampNeg)))) = NC at X' step
        have hheap : ((T.setVm vm').setCell b NC).heap = H.setIfInBounds b NC := by rw [← hT]; rfl
        have oq : ∀ q : Nat, q ≠ b → (H.setIfInBounds b NC)[q]? = H[q]? := fun q hq => by simp [Array.getElem?_setIfInBounds, Ne.symm hq]
        have hAb := (P.2.1.2.2.2.1 b _ hb).2
        obtain ⟨t, a1, b1⟩ := kk _ _ _ _ _ ⟨P.1, P.2.1.put (H' := H.setIfInBounds b NC) hb (by show (H.setIfInBounds b NC)[b]? = some (vp_cell _ _); rw [hnc]; simp [Array.getElem?_setIfInBounds, hl]) (by simp) oq, ⟨by simp; exact P.2.2.1.1, fun q g1 g2 => by
            rw [oq q (fun e => g2 (by rw [e]; exact hAb))]
            exact P.2.2.1.2.1 q g1 g2, fun q hq => by
            rcases List.mem_append.mp hq with h | h
            · exact P.2.2.1.2.2 q h
            · obtain ⟨z, -, hz⟩ := List.mem_map.mp h
              rw [← hz]
              exact hAb⟩, P.2.2.2⟩ _ hheap X'
        exact ⟨t, step t a1, b1⟩
    · cases hr
  · cases hr
end OK6
