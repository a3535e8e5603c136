/-! Arithmetic, branches. -/
section OK2
variable {mt : MT} {Ev : Nat → Value} {y pc : Nat}
theorem ok_iadd (hd : decode (mt y).2.1 pc = .ok (.iadd, 1)) : OkOp mt Ev y pc (o_ib (fun x y => x + y)) := by
  intro V p l e R s m args below meth c Q D cy A H0 sz0 sl0 H locs cells slots la ls st h C hA P hR r hr
  unfold o_ib at hr
  split at hr
  · cases hr
    exact fun _ _ kk => lv_iadd C.1 C.2.1 hd (kk _ _ _ _ _ P)
  · cases hr
theorem ok_isub (hd : decode (mt y).2.1 pc = .ok (.isub, 1)) : OkOp mt Ev y pc (o_ib (fun x y => x - y)) := by
  intro V p l e R s m args below meth c Q D cy A H0 sz0 sl0 H locs cells slots la ls st h C hA P hR r hr
  unfold o_ib at hr
  split at hr
  · cases hr
    exact fun _ _ kk => lv_isub C.1 C.2.1 hd (kk _ _ _ _ _ P)
  · cases hr
theorem ok_imul (hd : decode (mt y).2.1 pc = .ok (.imul, 1)) : OkOp mt Ev y pc (o_ib (fun x y => x * y)) := by
  intro V p l e R s m args below meth c Q D cy A H0 sz0 sl0 H locs cells slots la ls st h C hA P hR r hr
  unfold o_ib at hr
  split at hr
  · cases hr
    exact fun _ _ kk => lv_imul C.1 C.2.1 hd (kk _ _ _ _ _ P)
  · cases hr
theorem ok_iand (hd : decode (mt y).2.1 pc = .ok (.iand, 1)) : OkOp mt Ev y pc (o_ib (fun x y => x &&& y)) := by
  intro V p l e R s m args below meth c Q D cy A H0 sz0 sl0 H locs cells slots la ls st h C hA P hR r hr
  unfold o_ib at hr
  split at hr
  · cases hr
    exact fun _ _ kk => lv_iand C.1 C.2.1 hd (kk _ _ _ _ _ P)
  · cases hr
theorem ok_ior (hd : decode (mt y).2.1 pc = .ok (.ior, 1)) : OkOp mt Ev y pc (o_ib (fun x y => x ||| y)) := by
  intro V p l e R s m args below meth c Q D cy A H0 sz0 sl0 H locs cells slots la ls st h C hA P hR r hr
  unfold o_ib at hr
  split at hr
  · cases hr
    exact fun _ _ kk => lv_ior C.1 C.2.1 hd (kk _ _ _ _ _ P)
  · cases hr
theorem ok_ixor (hd : decode (mt y).2.1 pc = .ok (.ixor, 1)) : OkOp mt Ev y pc (o_ib (fun x y => x ^^^ y)) := by
  intro V p l e R s m args below meth c Q D cy A H0 sz0 sl0 H locs cells slots la ls st h C hA P hR r hr
  unfold o_ib at hr
  split at hr
  · cases hr
    exact fun _ _ kk => lv_ixor C.1 C.2.1 hd (kk _ _ _ _ _ P)
  · cases hr
theorem ok_ishl (hd : decode (mt y).2.1 pc = .ok (.ishl, 1)) : OkOp mt Ev y pc (o_ib (fun x y => x <<< (y &&& 31))) := by
  intro V p l e R s m args below meth c Q D cy A H0 sz0 sl0 H locs cells slots la ls st h C hA P hR r hr
  unfold o_ib at hr
  split at hr
  · cases hr
    exact fun _ _ kk => lv_ishl C.1 C.2.1 hd (kk _ _ _ _ _ P)
  · cases hr
theorem ok_ishr (hd : decode (mt y).2.1 pc = .ok (.ishr, 1)) : OkOp mt Ev y pc (o_ib (fun x y => x >>> (y &&& 31))) := by
  intro V p l e R s m args below meth c Q D cy A H0 sz0 sl0 H locs cells slots la ls st h C hA P hR r hr
  unfold o_ib at hr
  split at hr
  · cases hr
    exact fun _ _ kk => lv_ishr C.1 C.2.1 hd (kk _ _ _ _ _ P)
  · cases hr
theorem ok_iushr (hd : decode (mt y).2.1 pc = .ok (.iushr, 1)) : OkOp mt Ev y pc (o_ib (fun x y => (x.toUInt32 >>> (y.toUInt32 &&& Int32.toUInt32 31)).toInt32)) := by
  intro V p l e R s m args below meth c Q D cy A H0 sz0 sl0 H locs cells slots la ls st h C hA P hR r hr
  unfold o_ib at hr
  split at hr
  · cases hr
    exact fun _ _ kk => lv_iushr C.1 C.2.1 hd rfl (kk _ _ _ _ _ P)
  · cases hr
theorem ok_ineg (hd : decode (mt y).2.1 pc = .ok (.ineg, 1)) : OkOp mt Ev y pc (o_iu (fun x => -x)) := by
  intro V p l e R s m args below meth c Q D cy A H0 sz0 sl0 H locs cells slots la ls st h C hA P hR r hr
  unfold o_iu at hr
  split at hr
  · cases hr
    exact fun _ _ kk => lv_ineg C.1 C.2.1 hd (kk _ _ _ _ _ P)
  · cases hr
theorem ok_i2b (hd : decode (mt y).2.1 pc = .ok (.i2b, 1)) : OkOp mt Ev y pc (o_iu (fun x => x.toInt8.toInt32)) := by
  intro V p l e R s m args below meth c Q D cy A H0 sz0 sl0 H locs cells slots la ls st h C hA P hR r hr
  unfold o_iu at hr
  split at hr
  · cases hr
    exact fun _ _ kk => lv_i2b C.1 C.2.1 hd rfl (kk _ _ _ _ _ P)
  · cases hr
theorem ok_i2s (hd : decode (mt y).2.1 pc = .ok (.i2s, 1)) : OkOp mt Ev y pc (o_iu (fun x => x.toInt16.toInt32)) := by
  intro V p l e R s m args below meth c Q D cy A H0 sz0 sl0 H locs cells slots la ls st h C hA P hR r hr
  unfold o_iu at hr
  split at hr
  · cases hr
    exact fun _ _ kk => lv_i2s C.1 C.2.1 hd rfl (kk _ _ _ _ _ P)
  · cases hr
theorem ok_i2c (hd : decode (mt y).2.1 pc = .ok (.i2c, 1)) : OkOp mt Ev y pc (o_iu (fun x => (x.toUInt32 % 65536).toInt32)) := by
  intro V p l e R s m args below meth c Q D cy A H0 sz0 sl0 H locs cells slots la ls st h C hA P hR r hr
  unfold o_iu at hr
  split at hr
  · cases hr
    exact fun _ _ kk => lv_i2c C.1 C.2.1 hd rfl (kk _ _ _ _ _ P)
  · cases hr
theorem ok_i2l (hd : decode (mt y).2.1 pc = .ok (.i2l, 1)) : OkOp mt Ev y pc (o_i2l) := by
  intro V p l e R s m args below meth c Q D cy A H0 sz0 sl0 H locs cells slots la ls st h C hA P hR r hr
  unfold o_i2l at hr
  split at hr
  · cases hr
    exact fun _ _ kk => lv_i2l C.1 C.2.1 hd rfl (kk _ _ _ _ _ P)
  · cases hr
theorem ok_l2i (hd : decode (mt y).2.1 pc = .ok (.l2i, 1)) : OkOp mt Ev y pc (o_l2i) := by
  intro V p l e R s m args below meth c Q D cy A H0 sz0 sl0 H locs cells slots la ls st h C hA P hR r hr
  unfold o_l2i at hr
  split at hr
  · cases hr
    exact fun _ _ kk => lv_l2i C.1 C.2.1 hd rfl (kk _ _ _ _ _ P)
  · cases hr
theorem ok_ladd (hd : decode (mt y).2.1 pc = .ok (.ladd, 1)) : OkOp mt Ev y pc (o_lb (fun x y => x + y)) := by
  intro V p l e R s m args below meth c Q D cy A H0 sz0 sl0 H locs cells slots la ls st h C hA P hR r hr
  unfold o_lb at hr
  split at hr
  · cases hr
    exact fun _ _ kk => lv_ladd C.1 C.2.1 hd (kk _ _ _ _ _ P)
  · cases hr
theorem ok_land (hd : decode (mt y).2.1 pc = .ok (.land, 1)) : OkOp mt Ev y pc (o_lb (fun x y => x &&& y)) := by
  intro V p l e R s m args below meth c Q D cy A H0 sz0 sl0 H locs cells slots la ls st h C hA P hR r hr
  unfold o_lb at hr
  split at hr
  · cases hr
    exact fun _ _ kk => lv_land C.1 C.2.1 hd (kk _ _ _ _ _ P)
  · cases hr
theorem ok_lor (hd : decode (mt y).2.1 pc = .ok (.lor, 1)) : OkOp mt Ev y pc (o_lb (fun x y => x ||| y)) := by
  intro V p l e R s m args below meth c Q D cy A H0 sz0 sl0 H locs cells slots la ls st h C hA P hR r hr
  unfold o_lb at hr
  split at hr
  · cases hr
    exact fun _ _ kk => lv_lor C.1 C.2.1 hd (kk _ _ _ _ _ P)
  · cases hr
theorem ok_lshl (hd : decode (mt y).2.1 pc = .ok (.lshl, 1)) : OkOp mt Ev y pc (o_lshl) := by
  intro V p l e R s m args below meth c Q D cy A H0 sz0 sl0 H locs cells slots la ls st h C hA P hR r hr
  unfold o_lshl at hr
  split at hr
  · cases hr
    exact fun _ _ kk => lv_lshl C.1 C.2.1 hd rfl (kk _ _ _ _ _ P)
  · cases hr
theorem ok_lcmp (hd : decode (mt y).2.1 pc = .ok (.lcmp, 1)) : OkOp mt Ev y pc o_lcmp := by
  intro V p l e R s m args below meth c Q D cy A H0 sz0 sl0 H locs cells slots la ls st h C hA P hR r hr
  unfold o_lcmp at hr
  split at hr
  · cases hr
    exact fun _ _ kk => W.lcmp C.1 C.2.1 hd (kk _ _ _ _ _ P)
  · cases hr
theorem ok_idiv (hd : decode (mt y).2.1 pc = .ok (.idiv, 1)) : OkOp mt Ev y pc (o_ibz (fun x y => x / y)) := by
  intro V p l e R s m args below meth c Q D cy A H0 sz0 sl0 H locs cells slots la ls st h C hA P hR r hr
  unfold o_ibz at hr
  split at hr
  · split at hr
    · cases hr
    · rename_i hz
      cases hr
      exact fun _ _ kk => lv_idiv C.1 C.2.1 hd hz (kk _ _ _ _ _ P)
  · cases hr
theorem ok_irem (hd : decode (mt y).2.1 pc = .ok (.irem, 1)) : OkOp mt Ev y pc (o_ibz (fun x y => x - x / y * y)) := by
  intro V p l e R s m args below meth c Q D cy A H0 sz0 sl0 H locs cells slots la ls st h C hA P hR r hr
  unfold o_ibz at hr
  split at hr
  · split at hr
    · cases hr
    · rename_i hz
      cases hr
      exact fun _ _ kk => lv_irem C.1 C.2.1 hd hz (kk _ _ _ _ _ P)
  · cases hr
theorem ok_ldiv (hd : decode (mt y).2.1 pc = .ok (.ldiv, 1)) : OkOp mt Ev y pc (o_lbz (fun x y => x / y)) := by
  intro V p l e R s m args below meth c Q D cy A H0 sz0 sl0 H locs cells slots la ls st h C hA P hR r hr
  unfold o_lbz at hr
  split at hr
  · split at hr
    · cases hr
    · rename_i hz
      cases hr
      exact fun _ _ kk => lv_ldiv C.1 C.2.1 hd hz (kk _ _ _ _ _ P)
  · cases hr
theorem ok_lrem (hd : decode (mt y).2.1 pc = .ok (.lrem, 1)) : OkOp mt Ev y pc (o_lbz (fun x y => x - x / y * y)) := by
  intro V p l e R s m args below meth c Q D cy A H0 sz0 sl0 H locs cells slots la ls st h C hA P hR r hr
  unfold o_lbz at hr
  split at hr
  · split at hr
    · cases hr
    · rename_i hz
      cases hr
      exact fun _ _ kk => lv_lrem C.1 C.2.1 hd hz (kk _ _ _ _ _ P)
  · cases hr
theorem is1_cat {v : Value} (h : is1 v = true) : v.category = 1 := by
  cases v <;> first | rfl | cases h
theorem ok_dup (hd : decode (mt y).2.1 pc = .ok (.dup, 1)) : OkOp mt Ev y pc o_dup := by
  intro V p l e R s m args below meth c Q D cy A H0 sz0 sl0 H locs cells slots la ls st h C hA P hR r hr
  unfold o_dup at hr
  split at hr
  · split at hr
    · rename_i hz
      cases hr
      exact fun _ _ kk => lv_dup C.1 C.2.1 hd (is1_cat hz) (kk _ _ _ _ _ P)
    · cases hr
  · cases hr
theorem ok_pop (hd : decode (mt y).2.1 pc = .ok (.pop, 1)) : OkOp mt Ev y pc o_pop := by
  intro V p l e R s m args below meth c Q D cy A H0 sz0 sl0 H locs cells slots la ls st h C hA P hR r hr
  unfold o_pop at hr
  split at hr
  · split at hr
    · rename_i hz
      cases hr
      exact fun _ _ kk => lv_pop C.1 C.2.1 hd (is1_cat hz) (kk _ _ _ _ _ P)
    · cases hr
  · cases hr
theorem ok_dup2 (hd : decode (mt y).2.1 pc = .ok (.dup2, 1)) : OkOp mt Ev y pc o_dup2 := by
  intro V p l e R s m args below meth c Q D cy A H0 sz0 sl0 H locs cells slots la ls st h C hA P hR r hr
  unfold o_dup2 at hr
  split at hr
  · split at hr
    · rename_i hz
      cases hr
      exact fun _ _ kk => lv_dup2_11 C.1 C.2.1 hd (is1_cat hz.1) (is1_cat hz.2) (kk _ _ _ _ _ P)
    · cases hr
  · cases hr
theorem ok_if_eq {off : Int} {tgt : Nat} (hd : decode (mt y).2.1 pc = .ok (.ifCond .eq off, 3)) (ht : (pc : Int) + off = (tgt : Int)) : OkOp mt Ev y pc (o_if1 (fun x => decide (x = 0)) tgt) := by
  intro V p l e R s m args below meth c Q D cy A H0 sz0 sl0 H locs cells slots la ls st h C hA P hR r hr
  unfold o_if1 at hr
  split at hr
  · split at hr
    · rename_i hz
      cases hr
      exact fun _ _ kk => lv_if_eq C.1 C.2.1 hd ht (fun _ => kk _ _ _ _ _ P) (fun q => absurd (by simpa using hz) q)
    · rename_i hz
      cases hr
      exact fun _ _ kk => lv_if_eq C.1 C.2.1 hd ht (fun q => absurd (by simpa using q) hz) (fun _ => kk _ _ _ _ _ P)
  · cases hr
theorem ok_if_ne {off : Int} {tgt : Nat} (hd : decode (mt y).2.1 pc = .ok (.ifCond .ne off, 3)) (ht : (pc : Int) + off = (tgt : Int)) : OkOp mt Ev y pc (o_if1 (fun x => decide (¬ x = 0)) tgt) := by
  intro V p l e R s m args below meth c Q D cy A H0 sz0 sl0 H locs cells slots la ls st h C hA P hR r hr
  unfold o_if1 at hr
  split at hr
  · split at hr
    · rename_i hz
      cases hr
      exact fun _ _ kk => lv_if_ne C.1 C.2.1 hd ht (fun _ => kk _ _ _ _ _ P) (fun q => absurd q (by simpa using hz))
    · rename_i hz
      cases hr
      exact fun _ _ kk => lv_if_ne C.1 C.2.1 hd ht (fun q => absurd (by simpa using q) hz) (fun _ => kk _ _ _ _ _ P)
  · cases hr
theorem ok_if_lt {off : Int} {tgt : Nat} (hd : decode (mt y).2.1 pc = .ok (.ifCond .lt off, 3)) (ht : (pc : Int) + off = (tgt : Int)) : OkOp mt Ev y pc (o_if1 (fun x => decide (x < 0)) tgt) := by
  intro V p l e R s m args below meth c Q D cy A H0 sz0 sl0 H locs cells slots la ls st h C hA P hR r hr
  unfold o_if1 at hr
  split at hr
  · split at hr
    · rename_i hz
      cases hr
      exact fun _ _ kk => lv_if_lt C.1 C.2.1 hd ht (fun _ => kk _ _ _ _ _ P) (fun q => absurd (by simpa using hz) q)
    · rename_i hz
      cases hr
      exact fun _ _ kk => lv_if_lt C.1 C.2.1 hd ht (fun q => absurd (by simpa using q) hz) (fun _ => kk _ _ _ _ _ P)
  · cases hr
theorem ok_if_ge {off : Int} {tgt : Nat} (hd : decode (mt y).2.1 pc = .ok (.ifCond .ge off, 3)) (ht : (pc : Int) + off = (tgt : Int)) : OkOp mt Ev y pc (o_if1 (fun x => decide (0 ≤ x)) tgt) := by
  intro V p l e R s m args below meth c Q D cy A H0 sz0 sl0 H locs cells slots la ls st h C hA P hR r hr
  unfold o_if1 at hr
  split at hr
  · split at hr
    · rename_i hz
      cases hr
      exact fun _ _ kk => lv_if_ge C.1 C.2.1 hd ht (fun _ => kk _ _ _ _ _ P) (fun q => absurd (by simpa using hz) q)
    · rename_i hz
      cases hr
      exact fun _ _ kk => lv_if_ge C.1 C.2.1 hd ht (fun q => absurd (by simpa using q) hz) (fun _ => kk _ _ _ _ _ P)
  · cases hr
theorem ok_if_gt {off : Int} {tgt : Nat} (hd : decode (mt y).2.1 pc = .ok (.ifCond .gt off, 3)) (ht : (pc : Int) + off = (tgt : Int)) : OkOp mt Ev y pc (o_if1 (fun x => decide (0 < x)) tgt) := by
  intro V p l e R s m args below meth c Q D cy A H0 sz0 sl0 H locs cells slots la ls st h C hA P hR r hr
  unfold o_if1 at hr
  split at hr
  · split at hr
    · rename_i hz
      cases hr
      exact fun _ _ kk => lv_if_gt C.1 C.2.1 hd ht (fun _ => kk _ _ _ _ _ P) (fun q => absurd (by simpa using hz) q)
    · rename_i hz
      cases hr
      exact fun _ _ kk => lv_if_gt C.1 C.2.1 hd ht (fun q => absurd (by simpa using q) hz) (fun _ => kk _ _ _ _ _ P)
  · cases hr
theorem ok_if_le {off : Int} {tgt : Nat} (hd : decode (mt y).2.1 pc = .ok (.ifCond .le off, 3)) (ht : (pc : Int) + off = (tgt : Int)) : OkOp mt Ev y pc (o_if1 (fun x => decide (x ≤ 0)) tgt) := by
  intro V p l e R s m args below meth c Q D cy A H0 sz0 sl0 H locs cells slots la ls st h C hA P hR r hr
  unfold o_if1 at hr
  split at hr
  · split at hr
    · rename_i hz
      cases hr
      exact fun _ _ kk => lv_if_le C.1 C.2.1 hd ht (fun _ => kk _ _ _ _ _ P) (fun q => absurd (by simpa using hz) q)
    · rename_i hz
      cases hr
      exact fun _ _ kk => lv_if_le C.1 C.2.1 hd ht (fun q => absurd (by simpa using q) hz) (fun _ => kk _ _ _ _ _ P)
  · cases hr
theorem ok_icmp_eq {off : Int} {tgt : Nat} (hd : decode (mt y).2.1 pc = .ok (.if_icmp .eq off, 3)) (ht : (pc : Int) + off = (tgt : Int)) : OkOp mt Ev y pc (o_if2 (fun x y => decide (x = y)) tgt) := by
  intro V p l e R s m args below meth c Q D cy A H0 sz0 sl0 H locs cells slots la ls st h C hA P hR r hr
  unfold o_if2 at hr
  split at hr
  · split at hr
    · rename_i hz
      cases hr
      exact fun _ _ kk => lv_icmp_eq C.1 C.2.1 hd ht (fun _ => kk _ _ _ _ _ P) (fun q => absurd (by simpa using hz) q)
    · rename_i hz
      cases hr
      exact fun _ _ kk => lv_icmp_eq C.1 C.2.1 hd ht (fun q => absurd (by simpa using q) hz) (fun _ => kk _ _ _ _ _ P)
  · cases hr
theorem ok_icmp_ne {off : Int} {tgt : Nat} (hd : decode (mt y).2.1 pc = .ok (.if_icmp .ne off, 3)) (ht : (pc : Int) + off = (tgt : Int)) : OkOp mt Ev y pc (o_if2 (fun x y => decide (¬ x = y)) tgt) := by
  intro V p l e R s m args below meth c Q D cy A H0 sz0 sl0 H locs cells slots la ls st h C hA P hR r hr
  unfold o_if2 at hr
  split at hr
  · split at hr
    · rename_i hz
      cases hr
      exact fun _ _ kk => lv_icmp_ne C.1 C.2.1 hd ht (fun _ => kk _ _ _ _ _ P) (fun q => absurd q (by simpa using hz))
    · rename_i hz
      cases hr
      exact fun _ _ kk => lv_icmp_ne C.1 C.2.1 hd ht (fun q => absurd (by simpa using q) hz) (fun _ => kk _ _ _ _ _ P)
  · cases hr
theorem ok_icmp_lt {off : Int} {tgt : Nat} (hd : decode (mt y).2.1 pc = .ok (.if_icmp .lt off, 3)) (ht : (pc : Int) + off = (tgt : Int)) : OkOp mt Ev y pc (o_if2 (fun x y => decide (x < y)) tgt) := by
  intro V p l e R s m args below meth c Q D cy A H0 sz0 sl0 H locs cells slots la ls st h C hA P hR r hr
  unfold o_if2 at hr
  split at hr
  · split at hr
    · rename_i hz
      cases hr
      exact fun _ _ kk => lv_icmp_lt C.1 C.2.1 hd ht (fun _ => kk _ _ _ _ _ P) (fun q => absurd (by simpa using hz) q)
    · rename_i hz
      cases hr
      exact fun _ _ kk => lv_icmp_lt C.1 C.2.1 hd ht (fun q => absurd (by simpa using q) hz) (fun _ => kk _ _ _ _ _ P)
  · cases hr
theorem ok_icmp_ge {off : Int} {tgt : Nat} (hd : decode (mt y).2.1 pc = .ok (.if_icmp .ge off, 3)) (ht : (pc : Int) + off = (tgt : Int)) : OkOp mt Ev y pc (o_if2 (fun x y => decide (y ≤ x)) tgt) := by
  intro V p l e R s m args below meth c Q D cy A H0 sz0 sl0 H locs cells slots la ls st h C hA P hR r hr
  unfold o_if2 at hr
  split at hr
  · split at hr
    · rename_i hz
      cases hr
      exact fun _ _ kk => lv_icmp_ge C.1 C.2.1 hd ht (fun _ => kk _ _ _ _ _ P) (fun q => absurd (by simpa using hz) q)
    · rename_i hz
      cases hr
      exact fun _ _ kk => lv_icmp_ge C.1 C.2.1 hd ht (fun q => absurd (by simpa using q) hz) (fun _ => kk _ _ _ _ _ P)
  · cases hr
theorem ok_icmp_gt {off : Int} {tgt : Nat} (hd : decode (mt y).2.1 pc = .ok (.if_icmp .gt off, 3)) (ht : (pc : Int) + off = (tgt : Int)) : OkOp mt Ev y pc (o_if2 (fun x y => decide (y < x)) tgt) := by
  intro V p l e R s m args below meth c Q D cy A H0 sz0 sl0 H locs cells slots la ls st h C hA P hR r hr
  unfold o_if2 at hr
  split at hr
  · split at hr
    · rename_i hz
      cases hr
      exact fun _ _ kk => lv_icmp_gt C.1 C.2.1 hd ht (fun _ => kk _ _ _ _ _ P) (fun q => absurd (by simpa using hz) q)
    · rename_i hz
      cases hr
      exact fun _ _ kk => lv_icmp_gt C.1 C.2.1 hd ht (fun q => absurd (by simpa using q) hz) (fun _ => kk _ _ _ _ _ P)
  · cases hr
theorem ok_icmp_le {off : Int} {tgt : Nat} (hd : decode (mt y).2.1 pc = .ok (.if_icmp .le off, 3)) (ht : (pc : Int) + off = (tgt : Int)) : OkOp mt Ev y pc (o_if2 (fun x y => decide (x ≤ y)) tgt) := by
  intro V p l e R s m args below meth c Q D cy A H0 sz0 sl0 H locs cells slots la ls st h C hA P hR r hr
  unfold o_if2 at hr
  split at hr
  · split at hr
    · rename_i hz
      cases hr
      exact fun _ _ kk => lv_icmp_le C.1 C.2.1 hd ht (fun _ => kk _ _ _ _ _ P) (fun q => absurd (by simpa using hz) q)
    · rename_i hz
      cases hr
      exact fun _ _ kk => lv_icmp_le C.1 C.2.1 hd ht (fun q => absurd (by simpa using q) hz) (fun _ => kk _ _ _ _ _ P)
  · cases hr
theorem ok_goto {off : Int} {tgt : Nat} (hd : decode (mt y).2.1 pc = .ok (.goto off, 3)) (ht : (pc : Int) + off = (tgt : Int)) : OkOp mt Ev y pc (o_goto tgt) := by
  intro V p l e R s m args below meth c Q D cy A H0 sz0 sl0 H locs cells slots la ls st h C hA P hR r hr
  cases hr
  exact fun _ _ kk => lv_goto C.1 C.2.1 hd ht (kk _ _ _ _ _ P)
theorem ok_ifnull {off : Int} {tgt : Nat} (hd : decode (mt y).2.1 pc = .ok (.ifnull off, 3)) (ht : (pc : Int) + off = (tgt : Int)) : OkOp mt Ev y pc (o_ifnull tgt) := by
  intro V p l e R s m args below meth c Q D cy A H0 sz0 sl0 H locs cells slots la ls st h C hA P hR r hr
  unfold o_ifnull at hr
  split at hr
  · cases hr
    exact fun _ _ kk => lv_ifnullN C.1 C.2.1 hd ht (kk _ _ _ _ _ P)
  · cases hr
    exact fun _ _ kk => lv_ifnull C.1 C.2.1 hd (kk _ _ _ _ _ P)
  · cases hr
theorem ok_ifnonnull {off : Int} {tgt : Nat} (hd : decode (mt y).2.1 pc = .ok (.ifnonnull off, 3)) (ht : (pc : Int) + off = (tgt : Int)) : OkOp mt Ev y pc (o_ifnonnull tgt) := by
  intro V p l e R s m args below meth c Q D cy A H0 sz0 sl0 H locs cells slots la ls st h C hA P hR r hr
  unfold o_ifnonnull at hr
  split at hr
  · cases hr
    exact fun _ _ kk => lv_ifnonnullN C.1 C.2.1 hd (kk _ _ _ _ _ P)
  · cases hr
    exact fun _ _ kk => lv_ifnonnull C.1 C.2.1 hd ht (kk _ _ _ _ _ P)
  · cases hr
theorem ok_bad : OkOp mt Ev y pc o_bad := by
  intro V p l e R s m args below meth c Q D cy A H0 sz0 sl0 H locs cells slots la ls st h C hA P hR r hr
  cases hr
end OK2
