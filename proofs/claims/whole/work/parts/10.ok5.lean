/-! Calls as operations; ends; the rest. -/
theorem stk_s {st : List Value} {n : Nat} : st = (st.take n).reverse.reverse ++ st.drop n := by rw [List.reverse_reverse, List.take_append_drop]
theorem stk_i {st : List Value} {n b : Nat} (hb : st[n]? = some (.ref b)) : st = (st.take n).reverse.reverse ++ .ref b :: st.drop (n + 1) ∧ (st.take (n + 1)).reverse = .ref b :: (st.take n).reverse ∧ (st.take n).reverse.length = n := by
  obtain ⟨hlt, he⟩ := List.getElem?_eq_some_iff.mp hb
  refine ⟨?_, ?_, by simp; omega⟩
  · rw [List.reverse_reverse, ← he, List.getElem_cons_drop hlt, List.take_append_drop]
  · rw [List.take_succ, hb]
    simp
theorem tabl_mem {tab : List (Nat × Nat)} {ci y : Nat} (h : tabl tab ci = some y) : (ci, y) ∈ tab := by
  induction tab with
  | nil => cases h
  | cons q l ih =>
    simp only [tabl] at h
    split at h
    · rename_i e
      cases h
      subst e
      exact List.mem_cons_self
    · exact List.mem_cons_of_mem _ (ih h)
/-- what of a method's name a call asks -/
def NmOk (x : MethodName) (n : Nat) : Prop := x.cls ≠ "java/lang/invoke/MethodHandle" ∧ x.cls ≠ "java/lang/invoke/VarHandle" ∧ (parseMethodDescriptor x.desc).map (fun d => d.parameters.length) = some n
abbrev CdW (mt : MT) (y : Nat) : Prop := Cond.code (mt y).1 (mt y).2.1 (mt y).2.2.1 (mt y).2.2.2 ∈ lw_gd
section OK5
variable {mt : MT} {Ev : Nat → Value} {y pc : Nat}
theorem recv_at {V : Nat → Option AE} {D : va_G} {cy : Nat → ClassId} {A : Nat → Prop} {h : HS} {s : State} {H : Heap} {b ci : Nat} {fs : List Value} {q : vw_C} (hR : Rp V Ev D cy A h s H) (hb : h.1 b = some (.inr (ci, fs))) (hc : vwCl[ci]? = some q) : ∃ cell : Cell, H[b]? = some cell ∧ cell.vm.isStatics = false ∧ s.vm.findClass q.1 = some cell.cls := va_recv hR.2.1 (at1 (hR.2.2.2.1 b _ hb).1) hc (q0 := 0) rfl
theorem ok_cs {i y' n : Nat} (hd : decode (mt y).2.1 pc = .ok (.invokestatic i, 3)) (w1 : Cond.methodLink (mt y).1.cls i (mt y').1 ∈ lw_gd) (w2 : Cond.static (mt y').1 ∈ lw_gd) (w3 : Cond.initialized (mt y').1.cls ∈ lw_gd) (w4 : CdW mt y') (hn : NmOk (mt y').1 n) : OkOp mt Ev y pc (o_cs y' n) := by
  intro V p l e R s m args below meth c Q D cy A H0 sz0 sl0 H locs cells slots la ls st h C hA P hR r hr
  unfold o_cs at hr
  split at hr
  · rename_i hg
    cases hr
    have hts := C.2.2.2.2.1
    intro r h' d hM hf hlo b1 b2 kk
    obtain ⟨m1, m2, m3, hM⟩ := hM
    have c1 := P.2.2.2.1
    have c2 := P.2.2.2.2
    have hlen : (st.take n).reverse.length = n := by simp; omega
    exact call_go hA P m1 m2 (va_runS (As := (st.take n).reverse) (rest := st.drop n) ⟨C.1, C.2.1, C.2.2.1, C.2.2.2.1, hts⟩ hM ⟨callB_of n hts (gd_in w4) rfl rfl rfl (hts _ w3) (hts _ w1) hn (room_go m3 hf hlo _ _), hts _ w2⟩ ⟨pre_blind, pre_at P.2.1⟩ rfl hlen P.1.1 stk_s (lv_room (by have := cat_sum (st.drop n); omega)) hd ⟨by omega, by omega⟩) kk
  · cases hr
theorem ok_csN {i y' n : Nat} {host : String} (hd : decode (mt y).2.1 pc = .ok (.invokestatic i, 3)) (w1 : Cond.methodLinkNest (mt y).1.cls i (mt y').1 host ∈ lw_sp) (w2 : Cond.static (mt y').1 ∈ lw_gd) (w3 : Cond.initialized (mt y').1.cls ∈ lw_gd) (w4 : CdW mt y') (hn : NmOk (mt y').1 n) : OkOp mt Ev y pc (o_cs y' n) := by
  intro V p l e R s m args below meth c Q D cy A H0 sz0 sl0 H locs cells slots la ls st h C hA P hR r hr
  unfold o_cs at hr
  split at hr
  · rename_i hg
    cases hr
    have hts := C.2.2.2.2.1
    intro r h' d hM hf hlo b1 b2 kk
    obtain ⟨m1, m2, m3, hM⟩ := hM
    have c1 := P.2.2.2.1
    have c2 := P.2.2.2.2
    have hlen : (st.take n).reverse.length = n := by simp; omega
    exact call_go hA P m1 m2 (va_runSN (As := (st.take n).reverse) (rest := st.drop n) ⟨C.1, C.2.1, C.2.2.1, C.2.2.2.1, hts⟩ hM ⟨va_cnB n hts (gd_in w4) rfl rfl rfl (P.2.1.2.2.1.1 _ w1) (hts _ w3) hn (room_go m3 hf hlo _ _), hts _ w2, trivial⟩ ⟨pre_blind, pre_at P.2.1⟩ rfl hlen P.1.1 stk_s (lv_room (by have := cat_sum (st.drop n); omega)) hd ⟨by omega, by omega⟩) kk
  · cases hr
theorem ok_ci {i y' n : Nat} (hd : decode (mt y).2.1 pc = .ok (.invokespecial i, 3)) (w1 : Cond.methodLink (mt y).1.cls i (mt y').1 ∈ lw_gd) (w2 : Cond.instanceMethod (mt y').1 ∈ lw_gd) (w3 : Cond.initialized (mt y').1.cls ∈ lw_gd) (w4 : CdW mt y') (hn : NmOk (mt y').1 n) (hi : (mt y').1.name = "<init>") (hret : (mt y').2.2.2 = none) : OkOp mt Ev y pc (o_ci y' n) := by
  intro V p l e R s m args below meth c Q D cy A H0 sz0 sl0 H locs cells slots la ls st h C hA P hR r hr
  unfold o_ci at hr
  split at hr
  · rename_i b hb
    split at hr
    · rename_i hg
      cases hr
      have hts := C.2.2.2.2.1
      intro r h' d hM hf hlo b1 b2 kk
      obtain ⟨m1, m2, m3, hM⟩ := hM
      have c1 := P.2.2.2.1
      have c2 := P.2.2.2.2
      obtain ⟨s1, s2, s3⟩ := stk_i hb
      rw [s2] at hM
      exact call_go hA P m1 m2 (va_runI (As := (st.take n).reverse) (rest := st.drop (n + 1)) (b := b) ⟨C.1, C.2.1, C.2.2.1, C.2.2.2.1, hts⟩ hM (cwI (bytes := (mt y').2.1) (maxL := (mt y').2.2.1) n hts (gd_in w4) (by unfold wsM; rw [hret]) rfl rfl (hts _ w3) (hts _ w1) (hts _ w2) hi hn (room_go m3 hf hlo _ _)) ⟨pre_blind, pre_at P.2.1⟩ rfl s3 P.1.1 s1 (lv_room (by have := cat_sum (st.drop (n + 1)); omega)) hd ⟨by omega, by omega⟩) kk
    · cases hr
  · cases hr
theorem ok_ciN {i y' n : Nat} {host : String} (hd : decode (mt y).2.1 pc = .ok (.invokespecial i, 3)) (w1 : Cond.methodLinkNest (mt y).1.cls i (mt y').1 host ∈ lw_sp) (w2 : Cond.instanceMethod (mt y').1 ∈ lw_gd) (w3 : Cond.initialized (mt y').1.cls ∈ lw_gd) (w4 : CdW mt y') (hn : NmOk (mt y').1 n) (hi : (mt y').1.name = "<init>") (hret : (mt y').2.2.2 = none) : OkOp mt Ev y pc (o_ci y' n) := by
  intro V p l e R s m args below meth c Q D cy A H0 sz0 sl0 H locs cells slots la ls st h C hA P hR r hr
  unfold o_ci at hr
  split at hr
  · rename_i b hb
    split at hr
    · rename_i hg
      cases hr
      have hts := C.2.2.2.2.1
      intro r h' d hM hf hlo b1 b2 kk
      obtain ⟨m1, m2, m3, hM⟩ := hM
      have c1 := P.2.2.2.1
      have c2 := P.2.2.2.2
      obtain ⟨s1, s2, s3⟩ := stk_i hb
      rw [s2] at hM
      exact call_go hA P m1 m2 (va_runIN (As := (st.take n).reverse) (rest := st.drop (n + 1)) (b := b) ⟨C.1, C.2.1, C.2.2.1, C.2.2.2.1, hts⟩ hM ⟨va_cnB (bytes := (mt y').2.1) (maxL := (mt y').2.2.1) n hts (gd_in w4) (by unfold wsM; rw [hret]) rfl rfl (P.2.1.2.2.1.1 _ w1) (hts _ w3) hn (room_go m3 hf hlo _ _), hi, hts _ w2⟩ ⟨pre_blind, pre_at P.2.1⟩ rfl s3 P.1.1 s1 (lv_room (by have := cat_sum (st.drop (n + 1)); omega)) hd ⟨by omega, by omega⟩) kk
    · cases hr
  · cases hr
/-- how a method of an object of class ci is come to: the class's own, or by the class's place under another -/
def VC (mt : MT) (own : String) (i n ci y' : Nat) : Prop := ∃ (K : String) (T : u_T) (N : Nat), vwCl[ci]? = some (K, T, N) ∧ CdW mt y' ∧
  (((mt y').1.cls = K ∧ NmOk (mt y').1 n ∧ Cond.methodLink own i (mt y').1 ∈ lw_gd ∧ Cond.instanceMethod (mt y').1 ∈ lw_gd ∧ Cond.selects K (mt y').1 (mt y').1 ∈ lw_gd ∧ Cond.initialized K ∈ lw_gd) ∨
   (∃ (x : MethodName) (owner : String), NmOk ⟨owner, x.name, x.desc⟩ n ∧ Cond.methodLink own i x ∈ lw_gd ∧ Cond.sameMethod x.cls owner x.name x.desc ∈ lw_gd ∧ Cond.selects K x (mt y').1 ∈ lw_gd ∧ Cond.instanceMethod (mt y').1 ∈ lw_gd ∧ Cond.initialized (mt y').1.cls ∈ lw_gd ∧ (Cond.declares ⟨owner, x.name, x.desc⟩ ∈ lw_sp ∨ (Cond.instanceMethod ⟨owner, x.name, x.desc⟩ ∈ lw_gd ∧ ∃ b0 m0 r0, Cond.code ⟨owner, x.name, x.desc⟩ b0 m0 r0 ∈ lw_gd))))
theorem goodIn1 {w : Cond} (h : w ∈ lw_gd) : w ∈ lw_gd ∧ ((w.onTables && w.keeps) = true ∨ ∃ ty, w = .arrayClass ty) := ⟨h, good_of_word (List.mem_filter.mp h).2⟩
theorem ok_cv {i n : Nat} {tab : List (Nat × Nat)} (hd : decode (mt y).2.1 pc = .ok (.invokevirtual i, 3)) (ht : ∀ q ∈ tab, VC mt (mt y).1.cls i n q.1 q.2) : OkOp mt Ev y pc (o_cv tab n) := by
  intro V p l e R s m args below meth c Q D cy A H0 sz0 sl0 H locs cells slots la ls st h C hA P hR r hr
  unfold o_cv at hr
  split at hr
  · rename_i b hb
    split at hr
    · rename_i ci fs hbc
      split at hr
      · rename_i y' hy'
        split at hr
        · rename_i hg
          cases hr
          have hts := C.2.2.2.2.1
          obtain ⟨K, T, N, hc, w4, hv⟩ := ht _ (tabl_mem hy')
          have hrv := recv_at P.2.1 hbc hc
          intro r h' d hM hf hlo b1 b2 kk
          obtain ⟨m1, m2, m3, hM⟩ := hM
          have c1 := P.2.2.2.1
          have c2 := P.2.2.2.2
          obtain ⟨s1, s2, s3⟩ := stk_i hb
          rw [s2] at hM
          have hG := gd_in w4
          rcases hv with ⟨e1, v1, v2, v3, v4, v5⟩ | ⟨x, owner, v1, v2, v3, v4, v5, v6, v7⟩
          · refine call_go hA P m1 m2 (va_runV (C := K) (As := (st.take n).reverse) (rest := st.drop (n + 1)) (b := b) ⟨C.1, C.2.1, C.2.2.1, C.2.2.2.1, hts⟩ hM (cwV (bytes := (mt y').2.1) (maxL := (mt y').2.2.1) (ret := (mt y').2.2.2) n hts ?_ rfl rfl rfl ⟨e1, v1⟩ (room_go m3 hf hlo _ _)) ⟨pre_blind, hrv, pre_at P.2.1⟩ rfl s3 P.1.1 s1 (lv_room (by have := cat_sum (st.drop (n + 1)); omega)) hd ⟨by omega, by omega⟩) kk
            intro w hw
            simp only [wsV, List.mem_append, List.mem_cons, List.not_mem_nil, or_false] at hw
            rcases hw with (rfl | rfl | rfl | rfl) | hw
            · exact goodIn1 v2
            · exact goodIn1 v3
            · exact goodIn1 v4
            · exact goodIn1 v5
            · exact hG w hw
          · have hcu : va_CU R s args (mt y).1.cls K owner i x (mt y').1 (mt y').2.1 (mt y').2.2.1 (mt y').2.2.2 (wsM mt y') (rmD d (h'.2.1 - h.2.1) (h'.2.2 - h.2.2)) (h'.2.1 - h.2.1) (h'.2.2 - h.2.2) n := by
              rcases v7 with v7 | ⟨v7, bq, mq, rq, v8⟩
              · refine va_cwA n hts ?_ rfl rfl rfl (P.2.1.2.2.1.1 _ v7) v1 (room_go m3 hf hlo _ _)
                intro w hw
                simp only [va_wsU, List.mem_append, List.mem_cons, List.not_mem_nil, or_false] at hw
                rcases hw with (rfl | rfl | rfl | rfl | rfl) | hw
                · exact goodIn1 v2
                · exact goodIn1 v3
                · exact goodIn1 v4
                · exact goodIn1 v5
                · exact goodIn1 v6
                · exact hG w hw
              · refine va_cwO n hts ?_ rfl rfl rfl v8 v1 (room_go m3 hf hlo _ _)
                intro w hw
                simp only [va_wsO, List.mem_append, List.mem_cons, List.not_mem_nil, or_false] at hw
                rcases hw with (rfl | rfl | rfl | rfl | rfl | rfl) | hw
                · exact goodIn1 v2
                · exact goodIn1 v3
                · exact goodIn1 v7
                · exact goodIn1 v4
                · exact goodIn1 v5
                · exact goodIn1 v6
                · exact hG w hw
            exact call_go hA P m1 m2 (va_runU (C := K) (As := (st.take n).reverse) (rest := st.drop (n + 1)) (b := b) ⟨C.1, C.2.1, C.2.2.1, C.2.2.2.1, hts⟩ hM hcu ⟨pre_blind, hrv, pre_at P.2.1⟩ rfl s3 P.1.1 s1 (lv_room (by have := cat_sum (st.drop (n + 1)); omega)) hd ⟨by omega, by omega⟩) kk
        · cases hr
      · cases hr
    · cases hr
  · cases hr
/-- super.m(..) of an object of class ci -/
def SC (mt : MT) (own : String) (i n ci y' : Nat) : Prop := ∃ (K : String) (T : u_T) (N : Nat) (x : MethodName) (owner : String), vwCl[ci]? = some (K, T, N) ∧ CdW mt y' ∧ (mt y').1 = ⟨owner, x.name, x.desc⟩ ∧ (parseMethodDescriptor x.desc).map (fun d => d.parameters.length) = some n ∧ x.name ≠ "<init>" ∧ Cond.methodLink own i x ∈ lw_gd ∧ Cond.sameMethod x.cls owner x.name x.desc ∈ lw_gd ∧ Cond.superclass own x.cls ∈ lw_gd ∧ (x.cls = owner ∨ Cond.superclass x.cls owner ∈ lw_gd) ∧ Cond.instanceMethod ⟨owner, x.name, x.desc⟩ ∈ lw_gd ∧ Cond.initialized owner ∈ lw_gd
theorem ok_csu {i n : Nat} {tab : List (Nat × Nat)} (hd : decode (mt y).2.1 pc = .ok (.invokespecial i, 3)) (ht : ∀ q ∈ tab, SC mt (mt y).1.cls i n q.1 q.2) : OkOp mt Ev y pc (o_cv tab n) := by
  intro V p l e R s m args below meth c Q D cy A H0 sz0 sl0 H locs cells slots la ls st h C hA P hR r hr
  unfold o_cv at hr
  split at hr
  · rename_i b hb
    split at hr
    · rename_i ci fs hbc
      split at hr
      · rename_i y' hy'
        split at hr
        · rename_i hg
          cases hr
          have hts := C.2.2.2.2.1
          obtain ⟨K, T, N, x, owner, hc, w4, hnm, hpn, hno, v1, v2, v3, v4, v5, v6⟩ := ht _ (tabl_mem hy')
          have hrv := recv_at P.2.1 hbc hc
          intro r h' d hM hf hlo b1 b2 kk
          obtain ⟨m1, m2, m3, hM⟩ := hM
          have c1 := P.2.2.2.1
          have c2 := P.2.2.2.2
          obtain ⟨s1, s2, s3⟩ := stk_i hb
          have hG := gd_in w4
          dsimp only at hnm hM
          rw [s2, hnm] at hM
          exact call_go hA P m1 m2 (sv_runSU (K := K) (As := (st.take n).reverse) (rest := st.drop (n + 1)) (b := b) (bytes := (mt y').2.1) (maxL := (mt y').2.2.1) (ret := (mt y').2.2.2) (P.2.1.2.1.1 ci _ hc).2 ⟨C.1, C.2.1, C.2.2.1, C.2.2.2.1, hts⟩ hM rfl rfl (room_go m3 hf hlo _ _) hG (by unfold wsM; rw [hnm]; exact List.mem_cons_self) (hts _ v1) (hts _ v2) (hts _ v3) (v4.imp id (fun z => hts _ z)) (hts _ v5) (hts _ v6) hno hpn ⟨pre_blind, hrv, pre_at P.2.1⟩ rfl s3 P.1.1 s1 (lv_room (by have := cat_sum (st.drop (n + 1)); omega)) hd ⟨by omega, by omega⟩) kk
        · cases hr
      · cases hr
    · cases hr
  · cases hr
theorem ok_cstr {i y' n : Nat} (hd : decode (mt y).2.1 pc = .ok (.invokevirtual i, 3)) (e1 : (mt y').1.cls = RJ0) (v1 : NmOk (mt y').1 n) (v2 : Cond.methodLink (mt y).1.cls i (mt y').1 ∈ lw_gd) (v3 : Cond.instanceMethod (mt y').1 ∈ lw_gd) (v4 : Cond.selects RJ0 (mt y').1 (mt y').1 ∈ lw_gd) (v5 : Cond.initialized RJ0 ∈ lw_gd) (w4 : CdW mt y') : OkOp mt Ev y pc (o_cstr y' n) := by
  intro V p l e R s m args below meth c Q D cy A H0 sz0 sl0 H locs cells slots la ls st h C hA P hR r hr
  unfold o_cstr at hr
  split at hr
  · rename_i b hb
    split at hr
    · rename_i q hbc
      split at hr
      · rename_i hg
        cases hr
        have hts := C.2.2.2.2.1
        obtain ⟨⟨hrv, -⟩, -⟩ := P.2.1.2.2.2.2.1 b _ (Or.inr hbc)
        intro r h' d hM hf hlo b1 b2 kk
        obtain ⟨m1, m2, m3, hM⟩ := hM
        have c1 := P.2.2.2.1
        have c2 := P.2.2.2.2
        obtain ⟨s1, s2, s3⟩ := stk_i hb
        rw [s2] at hM
        have hG := gd_in w4
        refine call_go hA P m1 m2 (va_runV (C := RJ0) (As := (st.take n).reverse) (rest := st.drop (n + 1)) (b := b) ⟨C.1, C.2.1, C.2.2.1, C.2.2.2.1, hts⟩ hM (cwV (bytes := (mt y').2.1) (maxL := (mt y').2.2.1) (ret := (mt y').2.2.2) n hts ?_ rfl rfl rfl ⟨e1, v1⟩ (room_go m3 hf hlo _ _)) ⟨pre_blind, hrv, pre_at P.2.1⟩ rfl s3 P.1.1 s1 (lv_room (by have := cat_sum (st.drop (n + 1)); omega)) hd ⟨by omega, by omega⟩) kk
        intro w hw
        simp only [wsV, List.mem_append, List.mem_cons, List.not_mem_nil, or_false] at hw
        rcases hw with (rfl | rfl | rfl | rfl) | hw
        · exact goodIn1 v2
        · exact goodIn1 v3
        · exact goodIn1 v4
        · exact goodIn1 v5
        · exact hG w hw
      · cases hr
    · cases hr
  · cases hr
theorem ok_oi {i : Nat} (hd : decode (mt y).2.1 pc = .ok (.invokespecial i, 3)) (w1 : Cond.methodLink (mt y).1.cls i Lib.objectInit ∈ lw_gd) (w2 : Cond.instanceMethod Lib.objectInit ∈ lw_gd) (w3 : Cond.code Lib.objectInit ⟨#[0xb1]⟩ 1 none ∈ lw_gd) : OkOp mt Ev y pc o_oi := by
  intro V p l e R s m args below meth c Q D cy A H0 sz0 sl0 H locs cells slots la ls st h C hA P hR r hr
  unfold o_oi at hr
  split at hr
  · rename_i a rest
    split at hr
    · rename_i hg
      cases hr
      have hts := C.2.2.2.2.1
      exact fun _ _ kk => W.objInit C.1 C.2.1 C.2.2.2.1 (hts _ w1) (hts _ w2) (hts _ w3) rfl (by rw [C.2.2.1]; exact P.1.1) rfl hd hR.1 (by show 2 * 0 + _ + 12 ≤ _; have := cat_sum rest; omega) (kk _ _ _ _ _ P)
    · cases hr
  · cases hr
theorem ok_reti {t : Nat} {ty : FieldType} (hd : decode (mt y).2.1 pc = .ok (.ireturn, 1)) (hty : (mt y).2.2.2 = some ty) (ht : (t = 0 ∧ ty = .int) ∨ (t = 1 ∧ ty = .boolean) ∨ (t = 4 ∧ ty = .char) ∨ (t = 5 ∧ ty = .byte)) : OkOp mt Ev y pc (o_ret t) := by
  intro V p l e R s m args below meth c Q D cy A H0 sz0 sl0 H locs cells slots la ls st h C hA P hR r hr
  unfold o_ret at hr
  split at hr
  · rename_i v
    split at hr
    · rename_i hv
      cases hr
      rcases ht with ⟨rfl, rfl⟩ | ⟨rfl, rfl⟩ | ⟨rfl, rfl⟩ | ⟨rfl, rfl⟩
      · cases v <;> first | exact Or.inl ⟨_, _, rfl, rfl, hd, hty, rfl⟩ | cases hv
      · cases v with
        | int x =>
          simp only [okr, Bool.or_eq_true, beq_iff_eq] at hv
          refine Or.inl ⟨_, _, rfl, rfl, hd, hty, ?_⟩
          rcases hv with rfl | rfl <;> decide
        | _ => cases hv
      · cases v with
        | int x =>
          simp only [okr, beq_iff_eq] at hv
          refine Or.inl ⟨_, _, rfl, rfl, hd, hty, ?_⟩
          rw [hv]
          exact pk_nc x
        | _ => cases hv
      · cases v with
        | int x =>
          simp only [okr, beq_iff_eq] at hv
          refine Or.inl ⟨_, _, rfl, rfl, hd, hty, ?_⟩
          rw [hv]
          exact pk_nb x
        | _ => cases hv
    · cases hr
  · cases hr
theorem ok_retl (hd : decode (mt y).2.1 pc = .ok (.lreturn, 1)) (hty : (mt y).2.2.2 = some .long) : OkOp mt Ev y pc (o_ret 2) := by
  intro V p l e R s m args below meth c Q D cy A H0 sz0 sl0 H locs cells slots la ls st h C hA P hR r hr
  unfold o_ret at hr
  split at hr
  · rename_i v
    split at hr
    · rename_i hv
      cases hr
      cases v <;> first | exact Or.inr (Or.inl ⟨_, rfl, rfl, hd, hty⟩) | cases hv
    · cases hr
  · cases hr
theorem ok_reta {rt : FieldType} (hd : decode (mt y).2.1 pc = .ok (.areturn, 1)) (hty : (mt y).2.2.2 = some rt) (hrt : (∃ n, rt = .object n) ∨ ∃ t, rt = .array t) : OkOp mt Ev y pc (o_ret 3) := by
  intro V p l e R s m args below meth c Q D cy A H0 sz0 sl0 H locs cells slots la ls st h C hA P hR r hr
  unfold o_ret at hr
  split at hr
  · rename_i v
    split at hr
    · rename_i hv
      cases hr
      cases v <;> first | exact Or.inr (Or.inr (Or.inl ⟨_, _, rfl, rfl, Or.inl rfl, hd, hty, hrt⟩)) | exact Or.inr (Or.inr (Or.inl ⟨_, _, rfl, rfl, Or.inr ⟨_, rfl⟩, hd, hty, hrt⟩)) | cases hv
    · cases hr
  · cases hr
theorem ok_retv (hd : decode (mt y).2.1 pc = .ok (.return_, 1)) (hty : (mt y).2.2.2 = none) : OkOp mt Ev y pc o_retv := by
  intro V p l e R s m args below meth c Q D cy A H0 sz0 sl0 H locs cells slots la ls st h C hA P hR r hr
  unfold o_retv at hr
  split at hr
  · cases hr
    exact Or.inr (Or.inr (Or.inr ⟨rfl, rfl, hd, hty⟩))
  · cases hr
end OK5
