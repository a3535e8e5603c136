/-! Fields, new objects and arrays, casts, ends. -/
/-- a field k of the classes cs, as an instruction names it -/
def FC (cs : List Nat) (k : Nat) (rf nm ds : String) : Prop := ∀ ci ∈ cs, ∃ (K : String) (T : u_T) (N : Nat), vwCl[ci]? = some (K, T, N) ∧ (∀ w ∈ u_ws K T N, w ∈ lw_gd) ∧ k < N ∧ (T k).2.1 = nm ∧ (T k).2.2.1 = ds ∧ ((T k).1 = rf ∨ Cond.sameField rf (T k).1 nm ds ∈ lw_gd)
/-- classes whose fields' types and names are as the tables have them -/
def TC (cs : List Nat) : Prop := ∀ ci ∈ cs, ∃ (K : String) (T : u_T) (N : Nat) (ty : Nat → FieldType), vwCl[ci]? = some (K, T, N) ∧ (∀ k, k < N → parseFieldDescriptor (T k).2.2.1 = some (ty k)) ∧ ∀ a, a < N → ∀ b, b < N → a ≠ b → (T a).2.1 ≠ (T b).2.1
/-- whether field k of the classes cs is final, and whose it is -/
def FF (cs : List Nat) (k : Nat) (own : String) (fin : Bool) : Prop := ∀ ci ∈ cs, ∃ (K : String) (T : u_T) (N : Nat), vwCl[ci]? = some (K, T, N) ∧ (T k).2.2.2 = fin ∧ (fin = true → (T k).1 = own)
def OV (t : Nat) (ty : FieldType) : Prop := ∀ v, okv t v = true → narrow ty v = v ∧ fits ty v = true
theorem ov_int : OV 0 .int := by
  intro v hv
  cases v <;> first | exact ⟨rfl, rfl⟩ | cases hv
theorem ov_bool : OV 1 .boolean := by
  intro v hv
  cases v with
  | int x =>
    simp only [okv, Bool.or_eq_true, beq_iff_eq] at hv
    rcases hv with rfl | rfl <;> exact ⟨by decide, by decide⟩
  | _ => cases hv
theorem ov_obj (n : String) : OV 2 (.object n) := by
  intro v hv
  cases v <;> first | exact ⟨rfl, rfl⟩ | cases hv
theorem ov_arr (t : FieldType) : OV 2 (.array t) := by
  intro v hv
  cases v <;> first | exact ⟨rfl, rfl⟩ | cases hv
section OK4
variable {mt : MT} {Ev : Nat → Value} {y pc : Nat}
theorem at1 {D : va_G} {a : Nat} {e : va_E} {H : Heap} (h : va_at D vwCl (a, e) H) : va_P D vwCl [(a, e)] H := by
  intro k q hk
  have h0 : k < 1 := (List.getElem?_eq_some_iff.mp hk).1
  rw [show k = 0 by omega] at hk
  cases hk
  exact h
theorem ok_getf {i k : Nat} {cs : List Nat} {rf nm ds : String} (hd : decode (mt y).2.1 pc = .ok (.getfield i, 3)) (hf : FC cs k rf nm ds) (hw : Cond.fieldLink (mt y).1.cls i rf nm ds ∈ lw_gd) : OkOp mt Ev y pc (o_getf k cs) := by
  intro V p l e R s m args below meth c Q D cy A H0 sz0 sl0 H locs cells slots la ls st h C hA P hR r hr
  unfold o_getf at hr
  split at hr
  · rename_i a rest
    split at hr
    · rename_i ci vs hl
      split at hr
      · rename_i hci
        split at hr
        · rename_i v hv
          cases hr
          obtain ⟨K, T, N, h1, h2, h3, h4, h5, h6⟩ := hf ci hci
          exact fun _ _ kk => va_get C.1 C.2.1 C.2.2.2.2.1 h2 C.2.2.2.1 P.2.1.2.1 (at1 (P.2.1.2.2.2.1 a _ hl).1) 0 rfl h1 k h3 (by rw [h4, h5]; exact C.2.2.2.2.1 _ hw) (fun x hx => by
            rcases h6 with h6 | h6
            · rw [h6] at hx; exact hx
            · rw [h4, h5] at hx ⊢
              exact u_same (C.2.2.2.2.1 _ h6) x hx) hv hd (kk _ _ _ _ _ P)
        · cases hr
      · cases hr
    · cases hr
  · cases hr
theorem ok_gets {i k : Nat} {nm ds : String} (hd : decode (mt y).2.1 pc = .ok (.getfield i, 3)) (hk : (k = 0 ∧ nm = "value" ∧ ds = "[B") ∨ (k = 1 ∧ nm = "coder" ∧ ds = "B")) (hw : Cond.fieldLink (mt y).1.cls i RJ0 nm ds ∈ lw_gd) : OkOp mt Ev y pc (o_gets k) := by
  intro V p l e R s m args below meth c Q D cy A H0 sz0 sl0 H locs cells slots la ls st h C hA P hR r hr
  unfold o_gets at hr
  split at hr
  · rename_i a rest
    split at hr
    · rename_i ci vs hl
      split at hr
      · rename_i v hv
        cases hr
        obtain ⟨⟨-, hlen, o1, o2⟩, -⟩ := P.2.1.2.2.2.2.1 a _ (Or.inr hl)
        intro _ _ kk
        rcases hk with ⟨rfl, rfl, rfl⟩ | ⟨rfl, rfl, rfl⟩
        · obtain ⟨cf, kf, fi, f, cell, g1, g2, g3, g4, g5, -⟩ := o1
          have hv2 : vs.getD 0 .null = v := by simp [hv]
          rw [hv2] at g5
          exact W.getf C.1 C.2.1 C.2.2.2.1 (C.2.2.2.2.1 _ hw) g1 g2 g3 g4 g5 rfl rfl hd (kk _ _ _ _ _ P)
        · obtain ⟨cf, kf, fi, f, cell, g1, g2, g3, g4, g5, -⟩ := o2
          have hv2 : vs.getD 1 .null = v := by simp [hv]
          rw [hv2] at g5
          exact W.getf C.1 C.2.1 C.2.2.2.1 (C.2.2.2.2.1 _ hw) g1 g2 g3 g4 g5 rfl rfl hd (kk _ _ _ _ _ P)
      · cases hr
    · cases hr
  · cases hr
theorem ok_putf {i k t : Nat} {cs : List Nat} {rf nm ds : String} {ty : FieldType} {fin : Bool} (hd : decode (mt y).2.1 pc = .ok (.putfield i, 3)) (hf : FC cs k rf nm ds) (hw : Cond.fieldLink (mt y).1.cls i rf nm ds ∈ lw_gd) (ht : TC cs) (hff : FF cs k (mt y).1.cls fin) (hin : fin = true → (mt y).1.name = "<init>") (hty : parseFieldDescriptor ds = some ty) (hov : OV t ty) : OkOp mt Ev y pc (o_putf k cs t) := by
  intro V p l e R s m args below meth c Q D cy A H0 sz0 sl0 H locs cells slots la ls st h C hA P hR r hr
  unfold o_putf at hr
  split at hr
  · rename_i v a rest
    split at hr
    · rename_i ci vs hl
      split at hr
      · rename_i hg
        obtain ⟨hci, hlen, hv⟩ := hg
        cases hr
        obtain ⟨K, T, N, hc, h2, h3, h4, h5, h6⟩ := hf ci hci
        obtain ⟨K', T', N', tyf, hc', t2, t3⟩ := ht ci hci
        cases hc.symm.trans hc'
        obtain ⟨K', T', N', hc', f2, f3⟩ := hff ci hci
        cases hc.symm.trans hc'
        obtain ⟨hn, hfit⟩ := hov v hv
        have hts := C.2.2.2.2.1
        have hK := P.2.1.2.1
        have hsame : ∀ x, s.fieldFound? (T k).1 (T k).2.1 (T k).2.2.1 = some x → s.fieldFound? rf (T k).2.1 (T k).2.2.1 = some x := fun x hx => by
          rcases h6 with h6 | h6
          · rw [h6] at hx; exact hx
          · rw [h4, h5] at hx ⊢
            exact u_same (hts _ h6) x hx
        have hlink : (Cond.fieldLink (mt y).1.cls i rf (T k).2.1 (T k).2.2.1).before args s = true := by rw [h4, h5]; exact hts _ hw
        have hap := va_apart (own := (mt y).1.cls) hts h2 tyf t2 t3 hK hc
        obtain ⟨r, q0, cell, q1, q2, q3, q4⟩ := (P.2.1.2.2.2.1 a _ hl).1
        have hr2 : r = (K, T, N) := Option.some.inj (q0.symm.trans hc)
        subst hr2
        obtain ⟨hSl, hfc, kC, hkC, hkind⟩ := hK.1 ci _ hc
        obtain ⟨cf, kf, fi, f, hi, hsl⟩ := hSl k h3
        have hlay := hts _ (h2 _ (u_in_lay h3))
        unfold u_lay at hlay
        have hst := (u_facts hfc hkC (u_lays hts h2 h3) hi).1
        have hd2 : parseFieldDescriptor (T k).2.2.1 = some ty := by rw [h5]; exact hty
        intro _ _ kk
        have fin9 : ∀ H' : Heap, H'[a]? = some (cell.setSlot f.slot v) → H'.size = H.size → (∀ q, q ≠ a → H'[q]? = H[q]?) → W p l e R s m args below meth c H' (locs ++ [⟨a, f.slot⟩]) cells slots Q (F0 m (pc + 3) la rest) := by
          intro H' e1 e2 e3
          rw [hsl] at e1 ⊢
          exact kk _ H' _ _ _ ⟨P.1, P.2.1.put hl ⟨_, hc, t_OB.to (V := updV (vp_V vs) k v) ⟨_, e1, q2, q3, t_set q4 hap h3 v⟩ (fun j _ => vp_updV_set hlen v j)⟩ e2 e3, P.2.2.1.put e2 e3 (P.2.1.2.2.2.1 a _ hl).2, P.2.2.2⟩
        cases fin with
        | false =>
          rw [if_neg (by rw [f2]; decide)] at hlay
          have h7 := u_store hfc hkC hkind hlay hi hd2 hn hfit
          exact W.putK C.1 C.2.1 (f := f) ⟨C.2.2.2.1, hlink, ⟨_, _, _, hsame _ hi⟩, hst⟩ (by rw [q2]; exact h7) q1 q3 (by rw [hsl]; exact k2_hasslot (q4 k h3)) rfl rfl hd fin9
        | true =>
          rw [if_pos f2] at hlay
          have hcf : m.cls = cf := by
            obtain ⟨_, _, c', _, _, _, -, -, hf', -, -, -, hown2, -⟩ := Cond.laysFinal_spec hlay
            have e1 : c' = cf := by have := hi.symm.trans hf'; simp at this; exact this.1.symm
            rw [f3 rfl] at hown2
            rw [← e1]; exact Option.some.inj (C.2.2.2.1.symm.trans hown2)
          have h7 := u_fits hfc hkC hkind (Or.inr hlay) hi hd2 hn hfit
          exact W.putFinK C.1 C.2.1 C.2.2.2.1 hlink (hsame _ hi) hst hcf (C.2.2.2.2.2.2.2 (hin rfl)) (by rw [q2]; exact h7) q1 q3 (by rw [hsl]; exact k2_hasslot (q4 k h3)) rfl rfl hd fin9
      · cases hr
    · cases hr
  · cases hr
theorem ok_new {i ci : Nat} {fs : List Value} {K : String} {T : u_T} {N : Nat} {ty : Nat → FieldType} (hd : decode (mt y).2.1 pc = .ok (.new i, 3)) (hc : vwCl[ci]? = some (K, T, N)) (hin : ∀ w ∈ u_ws K T N, w ∈ lw_gd) (hty : ∀ k, k < N → parseFieldDescriptor (T k).2.2.1 = some (ty k)) (hfs : ∀ j, j < N → defaultValue (ty j) = vp_V fs j) (hN : fs.length = N) (w1 : Cond.classLink (mt y).1.cls i K ∈ lw_gd) (w2 : Cond.instantiable K N ∈ lw_gd) (w3 : Cond.initialized K ∈ lw_gd) : OkOp mt Ev y pc (o_new ci fs) := by
  intro V p l e R s m args below meth c Q D cy A H0 sz0 sl0 H locs cells slots la ls st h C hA P hR r hr
  cases hr
  have hts := C.2.2.2.2.1
  have hKn := P.2.1.2.1.1 ci _ hc
  have hz := P.2.1.1
  intro b1 b2 kk
  have b1 : h.2.1 + 1 ≤ R.cells + sz0 := b1
  have b2 : h.2.2 + fs.length ≤ R.slots + sl0 := b2
  have c1 := P.2.2.2.1
  have c2 := P.2.2.2.2
  refine W.newcK C.1 C.2.1 C.2.2.2.1 (hts _ w1) (hts _ w2) (hts _ w3) rfl hd (by omega) (by omega) hKn.2.1 hz fun H1 kC hkC e1 z1 o1 => ?_
  have hAh : A h.2.1 := hA _ (by rw [← hz]; exact P.2.2.1.1)
  refine kk _ H1 _ _ _ ⟨P.1, P.2.1.push ⟨_, hc, (u_born ty hts hin hKn hkC e1 hty).to hfs⟩ hAh (by rw [hz]; exact z1) (fun q hq => o1 q (by rw [← hz]; exact hq)), ⟨Nat.le_trans P.2.2.1.1 (by omega), fun x h1 h2 => (o1 x (by rw [← hz]; exact Nat.lt_of_lt_of_le h1 P.2.2.1.1)).trans (P.2.2.1.2.1 x h1 h2), P.2.2.1.2.2⟩, ?_, ?_⟩
  · show cells + 1 + sz0 = h.2.1 + 1
    omega
  · show slots + N + sl0 = h.2.2 + fs.length
    omega
theorem ok_newa {at_ : ArrayType} {k : Nat} {z : (Nat → Int32) ⊕ (Nat → Int64) ⊕ (Nat → UInt32) ⊕ (Nat → UInt64) ⊕ (Nat → Option Nat)} (hd : decode (mt y).2.1 pc = .ok (.newarray at_, 2)) (hk : k < 4) (hty : newarray.typeOf at_ = tyS k) (hz : ∀ (cA : ClassId) (n : Nat), vp_cell cA (n, z) = arrV cA n (fun _ => defaultValue (tyS k))) (hcb : componentBytes (tyS k) ≤ 8) (w1 : Cond.arrayClass (tyS k) ∈ lw_gd) : OkOp mt Ev y pc (o_newa k z 2) := by
  intro V p l e R s m args below meth c Q D cy A H0 sz0 sl0 H locs cells slots la ls st h C hA P hR r hr
  unfold o_newa at hr
  split at hr
  · rename_i n rest
    split at hr
    · cases hr
    · rename_i hg
      cases hr
      have hts := C.2.2.2.2.1
      have hsz := P.2.1.1
      intro b1 b2 kk
      have b1 : h.2.1 + 1 ≤ R.cells + sz0 := b1
      have b2 : h.2.2 + n.toNatClampNeg ≤ R.slots + sl0 := b2
      have c1 := P.2.2.2.1
      have c2 := P.2.2.2.2
      have hn0 : ¬ n < 0 := fun q => hg (Or.inl q)
      have hn1 : n.toNatClampNeg ≤ 1000 := Nat.not_lt.mp fun q => hg (Or.inr q)
      have hty2 : (tysA cy)[k]? = some (cy k, tyS k) := by
        rcases (by omega : k = 0 ∨ k = 1 ∨ k = 2 ∨ k = 3) with rfl | rfl | rfl | rfl <;> rfl
      have hRA : s.vm.findClass ("[" ++ (tyS k).toString) = some (cy k) := by
        have := (P.2.1.2.1.2 k _ hty2).2
        rcases (by omega : k = 0 ∨ k = 1 ∨ k = 2 ∨ k = 3) with rfl | rfl | rfl | rfl <;> exact this
      refine va_newaK C.1 C.2.1 (by rw [hty]; exact hts _ w1) rfl hd rfl hn0 rfl (by rw [hty]; exact Nat.le_trans (Nat.mul_le_mul hn1 hcb) (by decide)) (by omega) (by omega) hsz fun H1 cA e1 z1 o1 _ hnm => ?_
      rw [hty] at e1 hnm
      cases hnm.symm.trans hRA
      have hAh : A h.2.1 := hA _ (by rw [← hsz]; exact P.2.2.1.1)
      refine kk _ H1 _ _ _ ⟨P.1, P.2.1.push (by show H1[h.2.1]? = some (vp_cell _ _); rw [hz]; exact e1) hAh (by rw [hsz]; exact z1) (fun q hq => o1 q (by rw [← hsz]; exact hq)), ⟨Nat.le_trans P.2.2.1.1 (by omega), fun x h1 h2 => (o1 x (by rw [← hsz]; exact Nat.lt_of_lt_of_le h1 P.2.2.1.1)).trans (P.2.2.1.2.1 x h1 h2), P.2.2.1.2.2⟩, ?_, ?_⟩
      · show cells + 1 + sz0 = h.2.1 + 1
        omega
      · show slots + n.toNatClampNeg + sl0 = h.2.2 + n.toNatClampNeg
        omega
  · cases hr
theorem ok_anew {i : Nat} (hd : decode (mt y).2.1 pc = .ok (.anewarray i, 3)) (w1 : Cond.classLink (mt y).1.cls i RX4 ∈ lw_gd) : OkOp mt Ev y pc (o_newa 4 (.inr (.inr (.inr (.inr (fun _ => none))))) 3) := by
  intro V p l e R s m args below meth c Q D cy A H0 sz0 sl0 H locs cells slots la ls st h C hA P hR r hr
  unfold o_newa at hr
  split at hr
  · rename_i n rest
    split at hr
    · cases hr
    · rename_i hg
      cases hr
      have hts := C.2.2.2.2.1
      have hsz := P.2.1.1
      intro b1 b2 kk
      have b1 : h.2.1 + 1 ≤ R.cells + sz0 := b1
      have b2 : h.2.2 + n.toNatClampNeg ≤ R.slots + sl0 := b2
      have c1 := P.2.2.2.1
      have c2 := P.2.2.2.2
      have hn0 : ¬ n < 0 := fun q => hg (Or.inl q)
      have hn1 : n.toNatClampNeg ≤ 1000 := Nat.not_lt.mp fun q => hg (Or.inr q)
      obtain ⟨kA0, comp0, -, -, -, hRA⟩ := (P.2.1.2.1.2 4 _ rfl).2
      refine W.anew C.1 C.2.1 C.2.2.2.1 (hts _ w1) (va_AO.use (P.2.1.2.2.1.2.1 _ (by simp [aoL]))) rfl hd rfl hn0 (by omega) (by omega) (by omega) fun cA kA comp f1 f2 f3 f4 => ?_
      cases f1.symm.trans hRA
      generalize hH1 : H.push ({ cls := cy 4, slots := Array.replicate n.toNatClampNeg .null, vm := .none } : Cell) = H1
      have z1 : H1.size = H.size + 1 := by rw [← hH1, Array.size_push]
      have e1 : H1[H.size]? = some (arrV (cy 4) n.toNatClampNeg (fun _ => .null)) := by rw [← hH1, Array.getElem?_push_size, ← arrV_new]
      have o1 : ∀ q : Nat, q < H.size → H1[q]? = H[q]? := fun q hq => by rw [← hH1, Array.getElem?_push, if_neg (Nat.ne_of_lt hq)]
      have hAh : A h.2.1 := hA _ (by rw [← hsz]; exact P.2.2.1.1)
      rw [hsz]
      refine kk _ H1 _ _ _ ⟨P.1, P.2.1.push (by show H1[h.2.1]? = some (vp_cell _ _); rw [← hsz]; exact e1) hAh z1 o1, ⟨Nat.le_trans P.2.2.1.1 (by omega), fun x h1 h2 => (o1 x (Nat.lt_of_lt_of_le h1 P.2.2.1.1)).trans (P.2.2.1.2.1 x h1 h2), P.2.2.1.2.2⟩, ?_, ?_⟩
      · show cells + 1 + sz0 = h.2.1 + 1
        omega
      · show slots + n.toNatClampNeg + sl0 = h.2.2 + n.toNatClampNeg
        omega
  · cases hr
end OK4
