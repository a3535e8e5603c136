/-! new long[n][k]. (vr_outer: out of the printed names.) -/
theorem vr_outer (c : ClassId) (N h0 : Nat) : ∀ i : Nat, Jvm.Free.Multi.outerC c N h0 i = arrV c N (fun j => va_rf (if j < i then some (h0 + 1 + j) else none))
  | 0 => by
    show ({ cls := c, slots := Array.replicate N .null, vm := .none } : Cell) = _
    rw [arrV_new]
    refine congrArg (arrV c N) (funext fun j => ?_)
    simp [va_rf]
  | i + 1 => by
    show (Jvm.Free.Multi.outerC c N h0 i).setSlot i (.ref (h0 + 1 + i)) = _
    rw [vr_outer c N h0 i, arrV_store]
    refine congrArg (arrV c N) (funext fun j => ?_)
    by_cases e : j = i
    · subst e
      simp [updV, va_rf]
    · by_cases h : j < i
      · simp [updV, e, h, Nat.lt_succ_of_lt h]
      · simp [updV, e, h, show ¬ j < i + 1 by omega]
theorem hrows_sz (h : HS) (k : Nat) : ∀ n : Nat, (hrows h k n).2.1 = h.2.1 + n ∧ (hrows h k n).2.2 = h.2.2 + n * k
  | 0 => by simp [hrows]
  | n + 1 => by
    obtain ⟨h1, h2⟩ := hrows_sz h k n
    constructor
    · show (hrows h k n).2.1 + 1 = _
      omega
    · show (hrows h k n).2.2 + k = _
      rw [h2, Nat.add_mul]
      omega
theorem hrows_at (h : HS) (k : Nat) (a : Nat) : ∀ n : Nat, (hrows h k n).1 a = if h.2.1 ≤ a ∧ a < h.2.1 + n then some (.inl (3, k, .inr (.inl (fun _ => 0)))) else h.1 a
  | 0 => by
    simp only [hrows]
    rw [if_neg (by omega)]
  | n + 1 => by
    show va_up (hrows h k n).1 (hrows h k n).2.1 _ a = _
    unfold va_up
    rw [(hrows_sz h k n).1, hrows_at h k a n]
    by_cases e : a = h.2.1 + n
    · rw [if_pos e, if_pos (by omega)]
    · rw [if_neg e]
      by_cases e2 : h.2.1 ≤ a ∧ a < h.2.1 + n
      · rw [if_pos e2, if_pos (by omega)]
      · rw [if_neg e2, if_neg (by omega)]
section OK7
variable {mt : MT} {Ev : Nat → Value} {y pc : Nat}
theorem ok_mna {i : Nat} (hd : decode (mt y).2.1 pc = .ok (.multianewarray i 2, 4)) (w1 : Cond.classLink (mt y).1.cls i ("[" ++ (FieldType.array .long).toString) ∈ lw_gd) (w2 : Cond.arrayClass .long ∈ lw_gd) : OkOp mt Ev y pc o_mna := by
  intro V p l e R s m args below meth c Q D cy A H0 sz0 sl0 H locs cells slots la ls st h C hA P hR r hr
  unfold o_mna at hr
  have hts := C.2.2.2.2.1
  split at hr
  · rename_i k n rest
    split at hr
    · cases hr
    · rename_i hg
      cases hr
      have hn : ¬ n < 0 := fun q => hg (Or.inl q)
      have hk : ¬ k < 0 := fun q => hg (Or.inr (Or.inl q))
      have hn1 : n.toNatClampNeg ≤ 1000 := Nat.not_lt.mp fun q => hg (Or.inr (Or.inr (Or.inl q)))
      have hk1 : k.toNatClampNeg ≤ 1000 := Nat.not_lt.mp fun q => hg (Or.inr (Or.inr (Or.inr q)))
      have hsz := P.2.1.1
      have c1 := P.2.2.2.1
      have c2 := P.2.2.2.2
      generalize hou : (.inl (5, n.toNatClampNeg, .inr (.inr (.inr (.inr (fun i => if i < n.toNatClampNeg then some (h.2.1 + 1 + i) else none))))) : AE) = ou
      intro b1 b2 kk
      have r1 := hrows_sz (hnew h ou n.toNatClampNeg) k.toNatClampNeg n.toNatClampNeg
      have z1 : (hnew h ou n.toNatClampNeg).2.1 = h.2.1 + 1 := rfl
      have z2 : (hnew h ou n.toNatClampNeg).2.2 = h.2.2 + n.toNatClampNeg := rfl
      rw [r1.1, z1] at b1
      rw [r1.2, z2] at b2
      have hRA : s.vm.findClass (FieldType.array .long).toString = some (cy 3) := (P.2.1.2.1.2 3 _ rfl).2
      have hRB : s.vm.findClass ("[" ++ (FieldType.array .long).toString) = some (cy 5) := (P.2.1.2.1.2 5 _ rfl).2
      intro T hT Xs
      obtain ⟨vm₁, cA, comp, -, fA, fC, hO, -, X', step⟩ := Xs.multianewarray2F C.1 C.2.2.2.1 (hts _ w1) (over_moved (Vm.Alike.refl _) (P.2.1.2.2.1.2.1 (.arrayOver (.array .long)) (by simp [aoL]))) (hts _ w2) (g := F0 m pc la (.int k :: .int n :: rest)) rfl (by rw [C.2.1]; exact hd) rfl hn hk (by omega) (by show k.toNatClampNeg * 8 ≤ _; omega) (by omega) rfl rfl (by omega) (by omega)
      cases hRA.symm.trans fC
      have hcA : cA = cy 5 := Option.some.inj (fA.symm.trans hRB)
      subst hcA
      generalize hF : Jvm.Free.Multi.fill (T.setVm vm₁) (cy 5) (cy 3) n.toNatClampNeg k.toNatClampNeg (defaultValue .long) n.toNatClampNeg = F at X' step
      have hTh : (T.setVm vm₁).heap = H := hT
      obtain ⟨f1, f2, -, -⟩ := Jvm.Free.Multi.fill_facts (T.setVm vm₁) (cy 5) (cy 3) n.toNatClampNeg k.toNatClampNeg (defaultValue .long) n.toNatClampNeg
      rw [hF, hTh] at f1 f2
      have hold : ∀ x : Nat, x < H.size → F.heap[x]? = H[x]? := fun x hx => by
        have := Jvm.Free.Multi.fill_old (T.setVm vm₁) (cy 5) (cy 3) n.toNatClampNeg k.toNatClampNeg (defaultValue .long) (a := x) (by rw [hTh]; exact hx) n.toNatClampNeg
        rw [hF, hTh] at this
        exact this
      have hin9 : ∀ c9 : ClassId, Jvm.Free.Multi.innerC c9 k.toNatClampNeg (defaultValue .long) = vp_cell c9 (k.toNatClampNeg, .inr (.inl (fun _ => 0))) := fun c9 => by
        rw [vp_cell_l]
        exact arrV_new c9 k.toNatClampNeg (.long 0)
      have hrow : ∀ j : Nat, j < n.toNatClampNeg → F.heap[H.size + 1 + j]? = some (vp_cell (cy 3) (k.toNatClampNeg, .inr (.inl (fun _ => 0)))) := fun j hj => by
        have := Jvm.Free.Multi.fill_inner (T.setVm vm₁) (cy 5) (cy 3) n.toNatClampNeg k.toNatClampNeg (defaultValue .long) n.toNatClampNeg j hj
        rw [hF, hTh, hin9] at this
        exact this
      have hout : Jvm.Free.Multi.outerC (cy 5) n.toNatClampNeg H.size n.toNatClampNeg = vp_cell (cy 5) (n.toNatClampNeg, .inr (.inr (.inr (.inr (fun i => if i < n.toNatClampNeg then some (H.size + 1 + i) else none))))) := by
        rw [vp_cell_q]
        exact vr_outer (cy 5) n.toNatClampNeg H.size n.toNatClampNeg
      rw [hout] at f2
      have hAh : ∀ q, h.2.1 ≤ q → A q := fun q hq => hA _ (Nat.le_trans (by rw [← hsz]; exact P.2.2.1.1) hq)
      have hPs : Ps mt Ev V y s D cy A H0 sz0 sl0 la ls (hrows (hnew h ou n.toNatClampNeg) k.toNatClampNeg n.toNatClampNeg) F.heap locs (cells + 1 + n.toNatClampNeg) (slots + n.toNatClampNeg + n.toNatClampNeg * k.toNatClampNeg) := by
        refine ⟨P.1, ⟨by rw [r1.1, z1, f1, hsz], P.2.1.2.1, P.2.1.2.2.1, fun a x ha => ?_, fun a x ha => ?_, fun q hq => (P.2.1.2.2.2.2.2 q hq).kept (fun b hb _ => hold b hb)⟩, ⟨by rw [f1]; have := P.2.2.1.1; omega, fun x h1 h2 => (hold x (Nat.lt_of_lt_of_le h1 P.2.2.1.1)).trans (P.2.2.1.2.1 x h1 h2), P.2.2.1.2.2⟩, by rw [r1.1, z1]; omega, by rw [r1.2, z2]; omega⟩
        · rw [hrows_at] at ha
          split at ha
          · rename_i hrng
            rw [z1] at hrng
            cases ha
            refine ⟨?_, hAh a (by omega)⟩
            obtain ⟨j, rfl⟩ : ∃ j, a = h.2.1 + 1 + j := ⟨a - (h.2.1 + 1), by omega⟩
            show F.heap[h.2.1 + 1 + j]? = some (vp_cell _ _)
            rw [← hsz]
            exact hrow j (by omega)
          · by_cases eb : a = h.2.1
            · subst eb
              simp only [hnew, va_up, if_true] at ha
              cases ha
              refine ⟨?_, hAh _ (Nat.le_refl _)⟩
              rw [← hou]
              show F.heap[h.2.1]? = some (vp_cell _ _)
              rw [← hsz]
              exact f2
            · simp only [hnew, va_up, if_neg eb] at ha
              obtain ⟨g1, g2⟩ := P.2.1.2.2.2.1 a x ha
              exact ⟨g1.kept (hold a g1.lt), g2⟩
        · obtain ⟨g1, g2⟩ := P.2.1.2.2.2.2.1 a x ha
          exact ⟨g1.kept (hold a g1.lt), g2⟩
      obtain ⟨t, a1, b1⟩ := kk _ _ _ _ _ hPs F rfl X'
      refine ⟨t, step t ?_, b1⟩
      have e9 : T.heap.size = h.2.1 := by rw [hT, hsz]
      rw [e9]
      exact a1
  · cases hr
end OK7
