/-! Operations held against instructions, one by one. -/
section
variable {Ev : Nat → Value}
theorem k_114_0 : OkOp mt Ev 114 0 (o_aload 0 1) := ok_aload_n (k := 0) (by decide +kernel) rfl
theorem k_114_1 : OkOp mt Ev 114 1 (o_getf 0 [11]) := ok_getf (i := 12) (rf := "BridgeSentences") (nm := "now") (ds := "LBridgeSentences$World;") (by decide +kernel) fc_37 wd_218
theorem k_114_4 : OkOp mt Ev 114 4 (o_aload 1 1) := ok_aload_n (k := 1) (by decide +kernel) rfl
theorem k_114_5 : OkOp mt Ev 114 5 (o_getf 1 [1, 2, 3, 4, 5, 6, 8]) := ok_getf (i := 77) (rf := "BridgeSentences$One") (nm := "number") (ds := "I") (by decide +kernel) fc_12 wd_275
theorem k_114_8 : OkOp mt Ev 114 8 (o_cv [(10, 63)] 1) := ok_cv (i := 296) (by decide +kernel) vc_135
theorem k_114_11 : OkOp mt Ev 114 11 (o_istore 2 1) := ok_istore_n (k := 2) (by decide +kernel) rfl
theorem k_114_12 : OkOp mt Ev 114 12 (o_iload 2 1) := ok_iload_n (k := 2) (by decide +kernel) rfl
theorem k_114_13 : OkOp mt Ev 114 13 (o_push (.int (-2)) 2) := ok_bipush (n := -2) (by decide +kernel) (by decide +kernel)
theorem k_114_15 : OkOp mt Ev 114 15 (o_if2 (fun x y => decide (¬ x = y)) 22) := ok_icmp_ne (off := 7) (by decide +kernel) (by decide +kernel)
theorem k_114_18 : OkOp mt Ev 114 18 (o_push (.int (4096)) 3) := ok_sipush (n := 4096) (by decide +kernel) (by decide +kernel)
theorem k_114_21 : OkOp mt Ev 114 21 (o_ret 0) := ok_reti (ty := .int) (by decide +kernel) rfl (Or.inl ⟨rfl, rfl⟩)
theorem k_114_22 : OkOp mt Ev 114 22 (o_iload 2 1) := ok_iload_n (k := 2) (by decide +kernel) rfl
theorem k_114_23 : OkOp mt Ev 114 23 (o_push (.int (-3)) 2) := ok_bipush (n := -3) (by decide +kernel) (by decide +kernel)
theorem k_114_25 : OkOp mt Ev 114 25 (o_if2 (fun x y => decide (¬ x = y)) 30) := ok_icmp_ne (off := 5) (by decide +kernel) (by decide +kernel)
theorem k_114_28 : OkOp mt Ev 114 28 (o_push (.int (0)) 1) := ok_iconst (n := 0) (by decide +kernel) (by decide +kernel)
theorem k_114_29 : OkOp mt Ev 114 29 (o_ret 0) := ok_reti (ty := .int) (by decide +kernel) rfl (Or.inl ⟨rfl, rfl⟩)
theorem k_114_30 : OkOp mt Ev 114 30 (o_iload 2 1) := ok_iload_n (k := 2) (by decide +kernel) rfl
theorem k_114_31 : OkOp mt Ev 114 31 (o_if1 (fun x => decide (0 ≤ x)) 45) := ok_if_ge (off := 14) (by decide +kernel) (by decide +kernel)
theorem k_114_34 : OkOp mt Ev 114 34 (o_aload 0 1) := ok_aload_n (k := 0) (by decide +kernel) rfl
theorem k_114_35 : OkOp mt Ev 114 35 (o_getf 0 [11]) := ok_getf (i := 12) (rf := "BridgeSentences") (nm := "now") (ds := "LBridgeSentences$World;") (by decide +kernel) fc_37 wd_218
theorem k_114_38 : OkOp mt Ev 114 38 (o_aload 1 1) := ok_aload_n (k := 1) (by decide +kernel) rfl
theorem k_114_39 : OkOp mt Ev 114 39 (o_cv [(10, 66)] 1) := ok_cv (i := 299) (by decide +kernel) vc_136
theorem k_114_42 : OkOp mt Ev 114 42 (o_goto 54) := ok_goto (off := 12) (by decide +kernel) (by decide +kernel)
theorem k_114_45 : OkOp mt Ev 114 45 (o_aload 0 1) := ok_aload_n (k := 0) (by decide +kernel) rfl
theorem k_114_46 : OkOp mt Ev 114 46 (o_getf 0 [11]) := ok_getf (i := 12) (rf := "BridgeSentences") (nm := "now") (ds := "LBridgeSentences$World;") (by decide +kernel) fc_37 wd_218
theorem k_114_49 : OkOp mt Ev 114 49 (o_aload 1 1) := ok_aload_n (k := 1) (by decide +kernel) rfl
theorem k_114_50 : OkOp mt Ev 114 50 (o_iload 2 1) := ok_iload_n (k := 2) (by decide +kernel) rfl
theorem k_114_51 : OkOp mt Ev 114 51 (o_cv [(10, 65)] 2) := ok_cv (i := 302) (by decide +kernel) vc_137
theorem k_114_54 : OkOp mt Ev 114 54 (o_ret 0) := ok_reti (ty := .int) (by decide +kernel) rfl (Or.inl ⟨rfl, rfl⟩)
theorem kt_114 : ∀ pc o, cd_X11_hadSets Ev pc = some o → OkOp mt Ev 114 pc o ∧ Gw o := (tN_ok (tN_ok (tN_ok (tN_ok (tL_ok ⟨k_114_0, gw_aload⟩) (tN_ok (tL_ok ⟨k_114_1, gw_getf⟩) (tL_ok ⟨k_114_4, gw_aload⟩))) (tN_ok (tN_ok (tL_ok ⟨k_114_5, gw_getf⟩) (tL_ok ⟨k_114_8, gw_cv⟩)) (tN_ok (tL_ok ⟨k_114_11, gw_istore⟩) (tL_ok ⟨k_114_12, gw_iload⟩)))) (tN_ok (tN_ok (tL_ok ⟨k_114_13, gw_push⟩) (tN_ok (tL_ok ⟨k_114_15, gw_if2⟩) (tL_ok ⟨k_114_18, gw_push⟩))) (tN_ok (tN_ok (tL_ok ⟨k_114_21, gw_ret⟩) (tL_ok ⟨k_114_22, gw_iload⟩)) (tN_ok (tL_ok ⟨k_114_23, gw_push⟩) (tL_ok ⟨k_114_25, gw_if2⟩))))) (tN_ok (tN_ok (tN_ok (tL_ok ⟨k_114_28, gw_push⟩) (tN_ok (tL_ok ⟨k_114_29, gw_ret⟩) (tL_ok ⟨k_114_30, gw_iload⟩))) (tN_ok (tN_ok (tL_ok ⟨k_114_31, gw_if1⟩) (tL_ok ⟨k_114_34, gw_aload⟩)) (tN_ok (tL_ok ⟨k_114_35, gw_getf⟩) (tL_ok ⟨k_114_38, gw_aload⟩)))) (tN_ok (tN_ok (tN_ok (tL_ok ⟨k_114_39, gw_cv⟩) (tL_ok ⟨k_114_42, gw_goto⟩)) (tN_ok (tL_ok ⟨k_114_45, gw_aload⟩) (tL_ok ⟨k_114_46, gw_getf⟩))) (tN_ok (tN_ok (tL_ok ⟨k_114_49, gw_aload⟩) (tL_ok ⟨k_114_50, gw_iload⟩)) (tN_ok (tL_ok ⟨k_114_51, gw_cv⟩) (tL_ok ⟨k_114_54, gw_ret⟩))))))
theorem k_115_0 : OkOp mt Ev 115 0 (o_aload 0 1) := ok_aload_n (k := 0) (by decide +kernel) rfl
theorem k_115_1 : OkOp mt Ev 115 1 (o_getf 0 [11]) := ok_getf (i := 12) (rf := "BridgeSentences") (nm := "now") (ds := "LBridgeSentences$World;") (by decide +kernel) fc_37 wd_218
theorem k_115_4 : OkOp mt Ev 115 4 (o_aload 1 1) := ok_aload_n (k := 1) (by decide +kernel) rfl
theorem k_115_5 : OkOp mt Ev 115 5 (o_getf 1 [1, 2, 3, 4, 5, 6, 8]) := ok_getf (i := 77) (rf := "BridgeSentences$One") (nm := "number") (ds := "I") (by decide +kernel) fc_12 wd_275
theorem k_115_8 : OkOp mt Ev 115 8 (o_cv [(10, 63)] 1) := ok_cv (i := 296) (by decide +kernel) vc_135
theorem k_115_11 : OkOp mt Ev 115 11 (o_istore 2 1) := ok_istore_n (k := 2) (by decide +kernel) rfl
theorem k_115_12 : OkOp mt Ev 115 12 (o_iload 2 1) := ok_iload_n (k := 2) (by decide +kernel) rfl
theorem k_115_13 : OkOp mt Ev 115 13 (o_if1 (fun x => decide (0 ≤ x)) 20) := ok_if_ge (off := 7) (by decide +kernel) (by decide +kernel)
theorem k_115_16 : OkOp mt Ev 115 16 (o_push (.int (0)) 1) := ok_iconst (n := 0) (by decide +kernel) (by decide +kernel)
theorem k_115_17 : OkOp mt Ev 115 17 (o_goto 23) := ok_goto (off := 6) (by decide +kernel) (by decide +kernel)
theorem k_115_20 : OkOp mt Ev 115 20 (o_push (.int (1)) 1) := ok_iconst (n := 1) (by decide +kernel) (by decide +kernel)
theorem k_115_21 : OkOp mt Ev 115 21 (o_iload 2 1) := ok_iload_n (k := 2) (by decide +kernel) rfl
theorem k_115_22 : OkOp mt Ev 115 22 (o_ib (fun x y => x <<< (y &&& 31))) := ok_ishl (by decide +kernel)
theorem k_115_23 : OkOp mt Ev 115 23 (o_ret 0) := ok_reti (ty := .int) (by decide +kernel) rfl (Or.inl ⟨rfl, rfl⟩)
theorem kt_115 : ∀ pc o, cd_X11_leastHad Ev pc = some o → OkOp mt Ev 115 pc o ∧ Gw o := (tN_ok (tN_ok (tN_ok (tL_ok ⟨k_115_0, gw_aload⟩) (tN_ok (tL_ok ⟨k_115_1, gw_getf⟩) (tL_ok ⟨k_115_4, gw_aload⟩))) (tN_ok (tN_ok (tL_ok ⟨k_115_5, gw_getf⟩) (tL_ok ⟨k_115_8, gw_cv⟩)) (tN_ok (tL_ok ⟨k_115_11, gw_istore⟩) (tL_ok ⟨k_115_12, gw_iload⟩)))) (tN_ok (tN_ok (tL_ok ⟨k_115_13, gw_if1⟩) (tN_ok (tL_ok ⟨k_115_16, gw_push⟩) (tL_ok ⟨k_115_17, gw_goto⟩))) (tN_ok (tN_ok (tL_ok ⟨k_115_20, gw_push⟩) (tL_ok ⟨k_115_21, gw_iload⟩)) (tN_ok (tL_ok ⟨k_115_22, gw_ib⟩) (tL_ok ⟨k_115_23, gw_ret⟩)))))
theorem k_116_0 : OkOp mt Ev 116 0 (o_aload 0 1) := ok_aload_n (k := 0) (by decide +kernel) rfl
theorem k_116_1 : OkOp mt Ev 116 1 (o_getf 0 [11]) := ok_getf (i := 12) (rf := "BridgeSentences") (nm := "now") (ds := "LBridgeSentences$World;") (by decide +kernel) fc_37 wd_218
theorem k_116_4 : OkOp mt Ev 116 4 (o_aload 1 1) := ok_aload_n (k := 1) (by decide +kernel) rfl
theorem k_116_5 : OkOp mt Ev 116 5 (o_aload 1 1) := ok_aload_n (k := 1) (by decide +kernel) rfl
theorem k_116_6 : OkOp mt Ev 116 6 (o_getf 3 [1, 2, 3, 4, 5, 6, 8]) := ok_getf (i := 70) (rf := "BridgeSentences$One") (nm := "has") (ds := "I") (by decide +kernel) fc_14 wd_287
theorem k_116_9 : OkOp mt Ev 116 9 (o_cv [(10, 58)] 2) := ok_cv (i := 94) (by decide +kernel) vc_113
theorem k_116_12 : OkOp mt Ev 116 12 (o_iload 2 1) := ok_iload_n (k := 2) (by decide +kernel) rfl
theorem k_116_13 : OkOp mt Ev 116 13 (o_cs 117 2) := ok_cs (i := 305) (by decide +kernel) wd_779 wd_780 wd_56 wd_781 nk_31
theorem k_116_16 : OkOp mt Ev 116 16 (o_if1 (fun x => decide (x = 0)) 21) := ok_if_eq (off := 5) (by decide +kernel) (by decide +kernel)
theorem k_116_19 : OkOp mt Ev 116 19 (o_push (.int (0)) 1) := ok_iconst (n := 0) (by decide +kernel) (by decide +kernel)
theorem k_116_20 : OkOp mt Ev 116 20 (o_ret 0) := ok_reti (ty := .int) (by decide +kernel) rfl (Or.inl ⟨rfl, rfl⟩)
theorem k_116_21 : OkOp mt Ev 116 21 (o_push (.int (0)) 1) := ok_iconst (n := 0) (by decide +kernel) (by decide +kernel)
theorem k_116_22 : OkOp mt Ev 116 22 (o_istore 3 1) := ok_istore_n (k := 3) (by decide +kernel) rfl
theorem k_116_23 : OkOp mt Ev 116 23 (o_iload 3 1) := ok_iload_n (k := 3) (by decide +kernel) rfl
theorem k_116_24 : OkOp mt Ev 116 24 (o_push (.int (12)) 2) := ok_bipush (n := 12) (by decide +kernel) (by decide +kernel)
theorem k_116_26 : OkOp mt Ev 116 26 (o_if2 (fun x y => decide (y ≤ x)) 73) := ok_icmp_ge (off := 47) (by decide +kernel) (by decide +kernel)
theorem k_116_29 : OkOp mt Ev 116 29 (o_aload 1 1) := ok_aload_n (k := 1) (by decide +kernel) rfl
theorem k_116_30 : OkOp mt Ev 116 30 (o_getf 3 [1, 2, 3, 4, 5, 6, 8]) := ok_getf (i := 70) (rf := "BridgeSentences$One") (nm := "has") (ds := "I") (by decide +kernel) fc_14 wd_287
theorem k_116_33 : OkOp mt Ev 116 33 (o_iload 3 1) := ok_iload_n (k := 3) (by decide +kernel) rfl
theorem k_116_34 : OkOp mt Ev 116 34 (o_ib (fun x y => x >>> (y &&& 31))) := ok_ishr (by decide +kernel)
theorem k_116_35 : OkOp mt Ev 116 35 (o_push (.int (1)) 1) := ok_iconst (n := 1) (by decide +kernel) (by decide +kernel)
theorem k_116_36 : OkOp mt Ev 116 36 (o_ib (fun x y => x &&& y)) := ok_iand (by decide +kernel)
theorem k_116_37 : OkOp mt Ev 116 37 (o_if1 (fun x => decide (¬ x = 0)) 67) := ok_if_ne (off := 30) (by decide +kernel) (by decide +kernel)
theorem k_116_40 : OkOp mt Ev 116 40 (o_aload 0 1) := ok_aload_n (k := 0) (by decide +kernel) rfl
theorem k_116_41 : OkOp mt Ev 116 41 (o_getf 0 [11]) := ok_getf (i := 12) (rf := "BridgeSentences") (nm := "now") (ds := "LBridgeSentences$World;") (by decide +kernel) fc_37 wd_218
theorem k_116_44 : OkOp mt Ev 116 44 (o_aload 1 1) := ok_aload_n (k := 1) (by decide +kernel) rfl
theorem k_116_45 : OkOp mt Ev 116 45 (o_aload 1 1) := ok_aload_n (k := 1) (by decide +kernel) rfl
theorem k_116_46 : OkOp mt Ev 116 46 (o_getf 3 [1, 2, 3, 4, 5, 6, 8]) := ok_getf (i := 70) (rf := "BridgeSentences$One") (nm := "has") (ds := "I") (by decide +kernel) fc_14 wd_287
theorem k_116_49 : OkOp mt Ev 116 49 (o_push (.int (1)) 1) := ok_iconst (n := 1) (by decide +kernel) (by decide +kernel)
theorem k_116_50 : OkOp mt Ev 116 50 (o_iload 3 1) := ok_iload_n (k := 3) (by decide +kernel) rfl
theorem k_116_51 : OkOp mt Ev 116 51 (o_ib (fun x y => x <<< (y &&& 31))) := ok_ishl (by decide +kernel)
theorem k_116_52 : OkOp mt Ev 116 52 (o_ib (fun x y => x ||| y)) := ok_ior (by decide +kernel)
theorem k_116_53 : OkOp mt Ev 116 53 (o_cv [(10, 58)] 2) := ok_cv (i := 94) (by decide +kernel) vc_113
theorem k_116_56 : OkOp mt Ev 116 56 (o_iload 2 1) := ok_iload_n (k := 2) (by decide +kernel) rfl
theorem k_116_57 : OkOp mt Ev 116 57 (o_cs 117 2) := ok_cs (i := 305) (by decide +kernel) wd_779 wd_780 wd_56 wd_781 nk_31
theorem k_116_60 : OkOp mt Ev 116 60 (o_if1 (fun x => decide (x = 0)) 67) := ok_if_eq (off := 7) (by decide +kernel) (by decide +kernel)
theorem k_116_63 : OkOp mt Ev 116 63 (o_push (.int (1)) 1) := ok_iconst (n := 1) (by decide +kernel) (by decide +kernel)
theorem k_116_64 : OkOp mt Ev 116 64 (o_iload 3 1) := ok_iload_n (k := 3) (by decide +kernel) rfl
theorem k_116_65 : OkOp mt Ev 116 65 (o_ib (fun x y => x <<< (y &&& 31))) := ok_ishl (by decide +kernel)
theorem k_116_66 : OkOp mt Ev 116 66 (o_ret 0) := ok_reti (ty := .int) (by decide +kernel) rfl (Or.inl ⟨rfl, rfl⟩)
theorem k_116_67 : OkOp mt Ev 116 67 (o_iinc 3 (1)) := ok_iinc (n := 1) (by decide +kernel) (by decide +kernel)
theorem k_116_70 : OkOp mt Ev 116 70 (o_goto 23) := ok_goto (off := -47) (by decide +kernel) (by decide +kernel)
theorem k_116_73 : OkOp mt Ev 116 73 (o_push (.int (-5)) 2) := ok_bipush (n := -5) (by decide +kernel) (by decide +kernel)
theorem k_116_75 : OkOp mt Ev 116 75 (o_ret 0) := ok_reti (ty := .int) (by decide +kernel) rfl (Or.inl ⟨rfl, rfl⟩)
theorem kt_116 : ∀ pc o, cd_X11_decoyOf Ev pc = some o → OkOp mt Ev 116 pc o ∧ Gw o := (tN_ok (tN_ok (tN_ok (tN_ok (tN_ok (tL_ok ⟨k_116_0, gw_aload⟩) (tL_ok ⟨k_116_1, gw_getf⟩)) (tN_ok (tL_ok ⟨k_116_4, gw_aload⟩) (tN_ok (tL_ok ⟨k_116_5, gw_aload⟩) (tL_ok ⟨k_116_6, gw_getf⟩)))) (tN_ok (tN_ok (tL_ok ⟨k_116_9, gw_cv⟩) (tN_ok (tL_ok ⟨k_116_12, gw_iload⟩) (tL_ok ⟨k_116_13, gw_cs⟩))) (tN_ok (tL_ok ⟨k_116_16, gw_if1⟩) (tN_ok (tL_ok ⟨k_116_19, gw_push⟩) (tL_ok ⟨k_116_20, gw_ret⟩))))) (tN_ok (tN_ok (tN_ok (tL_ok ⟨k_116_21, gw_push⟩) (tL_ok ⟨k_116_22, gw_istore⟩)) (tN_ok (tL_ok ⟨k_116_23, gw_iload⟩) (tN_ok (tL_ok ⟨k_116_24, gw_push⟩) (tL_ok ⟨k_116_26, gw_if2⟩)))) (tN_ok (tN_ok (tL_ok ⟨k_116_29, gw_aload⟩) (tN_ok (tL_ok ⟨k_116_30, gw_getf⟩) (tL_ok ⟨k_116_33, gw_iload⟩))) (tN_ok (tL_ok ⟨k_116_34, gw_ib⟩) (tN_ok (tL_ok ⟨k_116_35, gw_push⟩) (tL_ok ⟨k_116_36, gw_ib⟩)))))) (tN_ok (tN_ok (tN_ok (tN_ok (tL_ok ⟨k_116_37, gw_if1⟩) (tL_ok ⟨k_116_40, gw_aload⟩)) (tN_ok (tL_ok ⟨k_116_41, gw_getf⟩) (tN_ok (tL_ok ⟨k_116_44, gw_aload⟩) (tL_ok ⟨k_116_45, gw_aload⟩)))) (tN_ok (tN_ok (tL_ok ⟨k_116_46, gw_getf⟩) (tN_ok (tL_ok ⟨k_116_49, gw_push⟩) (tL_ok ⟨k_116_50, gw_iload⟩))) (tN_ok (tL_ok ⟨k_116_51, gw_ib⟩) (tN_ok (tL_ok ⟨k_116_52, gw_ib⟩) (tL_ok ⟨k_116_53, gw_cv⟩))))) (tN_ok (tN_ok (tN_ok (tL_ok ⟨k_116_56, gw_iload⟩) (tL_ok ⟨k_116_57, gw_cs⟩)) (tN_ok (tL_ok ⟨k_116_60, gw_if1⟩) (tN_ok (tL_ok ⟨k_116_63, gw_push⟩) (tL_ok ⟨k_116_64, gw_iload⟩)))) (tN_ok (tN_ok (tL_ok ⟨k_116_65, gw_ib⟩) (tN_ok (tL_ok ⟨k_116_66, gw_ret⟩) (tL_ok ⟨k_116_67, gw_iinc⟩))) (tN_ok (tL_ok ⟨k_116_70, gw_goto⟩) (tN_ok (tL_ok ⟨k_116_73, gw_push⟩) (tL_ok ⟨k_116_75, gw_ret⟩)))))))
theorem k_117_0 : OkOp mt Ev 117 0 (o_iload 0 1) := ok_iload_n (k := 0) (by decide +kernel) rfl
theorem k_117_1 : OkOp mt Ev 117 1 (o_if1 (fun x => decide (x < 0)) 13) := ok_if_lt (off := 12) (by decide +kernel) (by decide +kernel)
theorem k_117_4 : OkOp mt Ev 117 4 (o_iload 0 1) := ok_iload_n (k := 0) (by decide +kernel) rfl
theorem k_117_5 : OkOp mt Ev 117 5 (o_iload 1 1) := ok_iload_n (k := 1) (by decide +kernel) rfl
theorem k_117_6 : OkOp mt Ev 117 6 (o_if2 (fun x y => decide (x = y)) 13) := ok_icmp_eq (off := 7) (by decide +kernel) (by decide +kernel)
theorem k_117_9 : OkOp mt Ev 117 9 (o_push (.int (1)) 1) := ok_iconst (n := 1) (by decide +kernel) (by decide +kernel)
theorem k_117_10 : OkOp mt Ev 117 10 (o_goto 14) := ok_goto (off := 4) (by decide +kernel) (by decide +kernel)
theorem k_117_13 : OkOp mt Ev 117 13 (o_push (.int (0)) 1) := ok_iconst (n := 0) (by decide +kernel) (by decide +kernel)
theorem k_117_14 : OkOp mt Ev 117 14 (o_ret 1) := ok_reti (ty := .boolean) (by decide +kernel) rfl (Or.inr (Or.inl ⟨rfl, rfl⟩))
theorem kt_117 : ∀ pc o, cd_X11_isOther Ev pc = some o → OkOp mt Ev 117 pc o ∧ Gw o := (tN_ok (tN_ok (tN_ok (tL_ok ⟨k_117_0, gw_iload⟩) (tL_ok ⟨k_117_1, gw_if1⟩)) (tN_ok (tL_ok ⟨k_117_4, gw_iload⟩) (tL_ok ⟨k_117_5, gw_iload⟩))) (tN_ok (tN_ok (tL_ok ⟨k_117_6, gw_if2⟩) (tL_ok ⟨k_117_9, gw_push⟩)) (tN_ok (tL_ok ⟨k_117_10, gw_goto⟩) (tN_ok (tL_ok ⟨k_117_13, gw_push⟩) (tL_ok ⟨k_117_14, gw_ret⟩)))))
theorem k_118_0 : OkOp mt Ev 118 0 (o_aload 0 1) := ok_aload_n (k := 0) (by decide +kernel) rfl
theorem k_118_1 : OkOp mt Ev 118 1 (o_getf 1 [11]) := ok_getf (i := 18) (rf := "BridgeSentences") (nm := "trial") (ds := "LBridgeSentences$World;") (by decide +kernel) fc_38 wd_219
theorem k_118_4 : OkOp mt Ev 118 4 (o_aload 0 1) := ok_aload_n (k := 0) (by decide +kernel) rfl
theorem k_118_5 : OkOp mt Ev 118 5 (o_getf 0 [11]) := ok_getf (i := 12) (rf := "BridgeSentences") (nm := "now") (ds := "LBridgeSentences$World;") (by decide +kernel) fc_37 wd_218
theorem k_118_8 : OkOp mt Ev 118 8 (o_cv [(10, 49)] 1) := ok_cv (i := 180) (by decide +kernel) vc_124
theorem k_118_11 : OkOp mt Ev 118 11 (o_push (.int (0)) 1) := ok_iconst (n := 0) (by decide +kernel) (by decide +kernel)
theorem k_118_12 : OkOp mt Ev 118 12 (o_istore 2 1) := ok_istore_n (k := 2) (by decide +kernel) rfl
theorem k_118_13 : OkOp mt Ev 118 13 (o_iload 2 1) := ok_iload_n (k := 2) (by decide +kernel) rfl
theorem k_118_14 : OkOp mt Ev 118 14 (o_push (.int (60)) 2) := ok_bipush (n := 60) (by decide +kernel) (by decide +kernel)
theorem k_118_16 : OkOp mt Ev 118 16 (o_if2 (fun x y => decide (y < x)) 51) := ok_icmp_gt (off := 35) (by decide +kernel) (by decide +kernel)
theorem k_118_19 : OkOp mt Ev 118 19 (o_aload 0 1) := ok_aload_n (k := 0) (by decide +kernel) rfl
theorem k_118_20 : OkOp mt Ev 118 20 (o_getf 1 [11]) := ok_getf (i := 18) (rf := "BridgeSentences") (nm := "trial") (ds := "LBridgeSentences$World;") (by decide +kernel) fc_38 wd_219
theorem k_118_23 : OkOp mt Ev 118 23 (o_getf 4 [10]) := ok_getf (i := 161) (rf := "BridgeSentences$World") (nm := "heardSet") (ds := "I") (by decide +kernel) fc_34 wd_128
theorem k_118_26 : OkOp mt Ev 118 26 (o_iload 1 1) := ok_iload_n (k := 1) (by decide +kernel) rfl
theorem k_118_27 : OkOp mt Ev 118 27 (o_ib (fun x y => x >>> (y &&& 31))) := ok_ishr (by decide +kernel)
theorem k_118_28 : OkOp mt Ev 118 28 (o_push (.int (1)) 1) := ok_iconst (n := 1) (by decide +kernel) (by decide +kernel)
theorem k_118_29 : OkOp mt Ev 118 29 (o_ib (fun x y => x &&& y)) := ok_iand (by decide +kernel)
theorem k_118_30 : OkOp mt Ev 118 30 (o_push (.int (1)) 1) := ok_iconst (n := 1) (by decide +kernel) (by decide +kernel)
theorem k_118_31 : OkOp mt Ev 118 31 (o_if2 (fun x y => decide (¬ x = y)) 36) := ok_icmp_ne (off := 5) (by decide +kernel) (by decide +kernel)
theorem k_118_34 : OkOp mt Ev 118 34 (o_iload 2 1) := ok_iload_n (k := 2) (by decide +kernel) rfl
theorem k_118_35 : OkOp mt Ev 118 35 (o_ret 0) := ok_reti (ty := .int) (by decide +kernel) rfl (Or.inl ⟨rfl, rfl⟩)
theorem k_118_36 : OkOp mt Ev 118 36 (o_aload 0 1) := ok_aload_n (k := 0) (by decide +kernel) rfl
theorem k_118_37 : OkOp mt Ev 118 37 (o_getf 1 [11]) := ok_getf (i := 18) (rf := "BridgeSentences") (nm := "trial") (ds := "LBridgeSentences$World;") (by decide +kernel) fc_38 wd_219
theorem k_118_40 : OkOp mt Ev 118 40 (o_push (.int (2147483647)) 2) := ok_ldc (i := 184) (by decide +kernel) wd_731
theorem k_118_42 : OkOp mt Ev 118 42 (o_cv [(10, 60)] 1) := ok_cv (i := 308) (by decide +kernel) vc_138
theorem k_118_45 : OkOp mt Ev 118 45 (o_iinc 2 (1)) := ok_iinc (n := 1) (by decide +kernel) (by decide +kernel)
theorem k_118_48 : OkOp mt Ev 118 48 (o_goto 13) := ok_goto (off := -35) (by decide +kernel) (by decide +kernel)
theorem k_118_51 : OkOp mt Ev 118 51 (o_push (.int (-5)) 2) := ok_bipush (n := -5) (by decide +kernel) (by decide +kernel)
theorem k_118_53 : OkOp mt Ev 118 53 (o_ret 0) := ok_reti (ty := .int) (by decide +kernel) rfl (Or.inl ⟨rfl, rfl⟩)
theorem kt_118 : ∀ pc o, cd_X11_comesOf Ev pc = some o → OkOp mt Ev 118 pc o ∧ Gw o := (tN_ok (tN_ok (tN_ok (tN_ok (tL_ok ⟨k_118_0, gw_aload⟩) (tN_ok (tL_ok ⟨k_118_1, gw_getf⟩) (tL_ok ⟨k_118_4, gw_aload⟩))) (tN_ok (tN_ok (tL_ok ⟨k_118_5, gw_getf⟩) (tL_ok ⟨k_118_8, gw_cv⟩)) (tN_ok (tL_ok ⟨k_118_11, gw_push⟩) (tL_ok ⟨k_118_12, gw_istore⟩)))) (tN_ok (tN_ok (tL_ok ⟨k_118_13, gw_iload⟩) (tN_ok (tL_ok ⟨k_118_14, gw_push⟩) (tL_ok ⟨k_118_16, gw_if2⟩))) (tN_ok (tN_ok (tL_ok ⟨k_118_19, gw_aload⟩) (tL_ok ⟨k_118_20, gw_getf⟩)) (tN_ok (tL_ok ⟨k_118_23, gw_getf⟩) (tL_ok ⟨k_118_26, gw_iload⟩))))) (tN_ok (tN_ok (tN_ok (tL_ok ⟨k_118_27, gw_ib⟩) (tN_ok (tL_ok ⟨k_118_28, gw_push⟩) (tL_ok ⟨k_118_29, gw_ib⟩))) (tN_ok (tN_ok (tL_ok ⟨k_118_30, gw_push⟩) (tL_ok ⟨k_118_31, gw_if2⟩)) (tN_ok (tL_ok ⟨k_118_34, gw_iload⟩) (tL_ok ⟨k_118_35, gw_ret⟩)))) (tN_ok (tN_ok (tN_ok (tL_ok ⟨k_118_36, gw_aload⟩) (tL_ok ⟨k_118_37, gw_getf⟩)) (tN_ok (tL_ok ⟨k_118_40, gw_push⟩) (tL_ok ⟨k_118_42, gw_cv⟩))) (tN_ok (tN_ok (tL_ok ⟨k_118_45, gw_iinc⟩) (tL_ok ⟨k_118_48, gw_goto⟩)) (tN_ok (tL_ok ⟨k_118_51, gw_push⟩) (tL_ok ⟨k_118_53, gw_ret⟩))))))
theorem k_119_0 : OkOp mt Ev 119 0 (o_push (.int (0)) 1) := ok_iconst (n := 0) (by decide +kernel) (by decide +kernel)
theorem k_119_1 : OkOp mt Ev 119 1 (o_istore 2 1) := ok_istore_n (k := 2) (by decide +kernel) rfl
theorem k_119_2 : OkOp mt Ev 119 2 (o_aload 0 1) := ok_aload_n (k := 0) (by decide +kernel) rfl
theorem k_119_3 : OkOp mt Ev 119 3 (o_getf 1 [11]) := ok_getf (i := 18) (rf := "BridgeSentences") (nm := "trial") (ds := "LBridgeSentences$World;") (by decide +kernel) fc_38 wd_219
theorem k_119_6 : OkOp mt Ev 119 6 (o_aload 0 1) := ok_aload_n (k := 0) (by decide +kernel) rfl
theorem k_119_7 : OkOp mt Ev 119 7 (o_getf 0 [11]) := ok_getf (i := 12) (rf := "BridgeSentences") (nm := "now") (ds := "LBridgeSentences$World;") (by decide +kernel) fc_37 wd_218
theorem k_119_10 : OkOp mt Ev 119 10 (o_cv [(10, 49)] 1) := ok_cv (i := 180) (by decide +kernel) vc_124
theorem k_119_13 : OkOp mt Ev 119 13 (o_push (.int (0)) 1) := ok_iconst (n := 0) (by decide +kernel) (by decide +kernel)
theorem k_119_14 : OkOp mt Ev 119 14 (o_istore 3 1) := ok_istore_n (k := 3) (by decide +kernel) rfl
theorem k_119_15 : OkOp mt Ev 119 15 (o_iload 3 1) := ok_iload_n (k := 3) (by decide +kernel) rfl
theorem k_119_16 : OkOp mt Ev 119 16 (o_push (.int (20)) 2) := ok_bipush (n := 20) (by decide +kernel) (by decide +kernel)
theorem k_119_18 : OkOp mt Ev 119 18 (o_if2 (fun x y => decide (y < x)) 53) := ok_icmp_gt (off := 35) (by decide +kernel) (by decide +kernel)
theorem k_119_21 : OkOp mt Ev 119 21 (o_aload 0 1) := ok_aload_n (k := 0) (by decide +kernel) rfl
theorem k_119_22 : OkOp mt Ev 119 22 (o_getf 1 [11]) := ok_getf (i := 18) (rf := "BridgeSentences") (nm := "trial") (ds := "LBridgeSentences$World;") (by decide +kernel) fc_38 wd_219
theorem k_119_25 : OkOp mt Ev 119 25 (o_getf 0 [10]) := ok_getf (i := 127) (rf := "BridgeSentences$World") (nm := "worths") (ds := "[I") (by decide +kernel) fc_26 wd_120
theorem k_119_28 : OkOp mt Ev 119 28 (o_iload 1 1) := ok_iload_n (k := 1) (by decide +kernel) rfl
theorem k_119_29 : OkOp mt Ev 119 29 (o_iload 3 1) := ok_iload_n (k := 3) (by decide +kernel) rfl
theorem k_119_30 : OkOp mt Ev 119 30 (o_iast 2 (fun x => x)) := ok_iast (by decide +kernel)
theorem k_119_31 : OkOp mt Ev 119 31 (o_aload 0 1) := ok_aload_n (k := 0) (by decide +kernel) rfl
theorem k_119_32 : OkOp mt Ev 119 32 (o_getf 1 [11]) := ok_getf (i := 18) (rf := "BridgeSentences") (nm := "trial") (ds := "LBridgeSentences$World;") (by decide +kernel) fc_38 wd_219
theorem k_119_35 : OkOp mt Ev 119 35 (o_cv [(10, 64)] 0) := ok_cv (i := 312) (by decide +kernel) vc_139
theorem k_119_38 : OkOp mt Ev 119 38 (o_if1 (fun x => decide (x = 0)) 47) := ok_if_eq (off := 9) (by decide +kernel) (by decide +kernel)
theorem k_119_41 : OkOp mt Ev 119 41 (o_iload 2 1) := ok_iload_n (k := 2) (by decide +kernel) rfl
theorem k_119_42 : OkOp mt Ev 119 42 (o_push (.int (1)) 1) := ok_iconst (n := 1) (by decide +kernel) (by decide +kernel)
theorem k_119_43 : OkOp mt Ev 119 43 (o_iload 3 1) := ok_iload_n (k := 3) (by decide +kernel) rfl
theorem k_119_44 : OkOp mt Ev 119 44 (o_ib (fun x y => x <<< (y &&& 31))) := ok_ishl (by decide +kernel)
theorem k_119_45 : OkOp mt Ev 119 45 (o_ib (fun x y => x ||| y)) := ok_ior (by decide +kernel)
theorem k_119_46 : OkOp mt Ev 119 46 (o_istore 2 1) := ok_istore_n (k := 2) (by decide +kernel) rfl
theorem k_119_47 : OkOp mt Ev 119 47 (o_iinc 3 (1)) := ok_iinc (n := 1) (by decide +kernel) (by decide +kernel)
theorem k_119_50 : OkOp mt Ev 119 50 (o_goto 15) := ok_goto (off := -35) (by decide +kernel) (by decide +kernel)
theorem k_119_53 : OkOp mt Ev 119 53 (o_iload 2 1) := ok_iload_n (k := 2) (by decide +kernel) rfl
theorem k_119_54 : OkOp mt Ev 119 54 (o_ret 0) := ok_reti (ty := .int) (by decide +kernel) rfl (Or.inl ⟨rfl, rfl⟩)
theorem kt_119 : ∀ pc o, cd_X11_worthsOf Ev pc = some o → OkOp mt Ev 119 pc o ∧ Gw o := (tN_ok (tN_ok (tN_ok (tN_ok (tN_ok (tL_ok ⟨k_119_0, gw_push⟩) (tL_ok ⟨k_119_1, gw_istore⟩)) (tN_ok (tL_ok ⟨k_119_2, gw_aload⟩) (tL_ok ⟨k_119_3, gw_getf⟩))) (tN_ok (tN_ok (tL_ok ⟨k_119_6, gw_aload⟩) (tL_ok ⟨k_119_7, gw_getf⟩)) (tN_ok (tL_ok ⟨k_119_10, gw_cv⟩) (tL_ok ⟨k_119_13, gw_push⟩)))) (tN_ok (tN_ok (tN_ok (tL_ok ⟨k_119_14, gw_istore⟩) (tL_ok ⟨k_119_15, gw_iload⟩)) (tN_ok (tL_ok ⟨k_119_16, gw_push⟩) (tL_ok ⟨k_119_18, gw_if2⟩))) (tN_ok (tN_ok (tL_ok ⟨k_119_21, gw_aload⟩) (tL_ok ⟨k_119_22, gw_getf⟩)) (tN_ok (tL_ok ⟨k_119_25, gw_getf⟩) (tL_ok ⟨k_119_28, gw_iload⟩))))) (tN_ok (tN_ok (tN_ok (tN_ok (tL_ok ⟨k_119_29, gw_iload⟩) (tL_ok ⟨k_119_30, gw_iast⟩)) (tN_ok (tL_ok ⟨k_119_31, gw_aload⟩) (tL_ok ⟨k_119_32, gw_getf⟩))) (tN_ok (tN_ok (tL_ok ⟨k_119_35, gw_cv⟩) (tL_ok ⟨k_119_38, gw_if1⟩)) (tN_ok (tL_ok ⟨k_119_41, gw_iload⟩) (tL_ok ⟨k_119_42, gw_push⟩)))) (tN_ok (tN_ok (tN_ok (tL_ok ⟨k_119_43, gw_iload⟩) (tL_ok ⟨k_119_44, gw_ib⟩)) (tN_ok (tL_ok ⟨k_119_45, gw_ib⟩) (tL_ok ⟨k_119_46, gw_istore⟩))) (tN_ok (tN_ok (tL_ok ⟨k_119_47, gw_iinc⟩) (tL_ok ⟨k_119_50, gw_goto⟩)) (tN_ok (tL_ok ⟨k_119_53, gw_iload⟩) (tL_ok ⟨k_119_54, gw_ret⟩))))))
theorem k_120_0 : OkOp mt Ev 120 0 (o_aload 0 1) := ok_aload_n (k := 0) (by decide +kernel) rfl
theorem k_120_1 : OkOp mt Ev 120 1 (o_getf 1 [11]) := ok_getf (i := 18) (rf := "BridgeSentences") (nm := "trial") (ds := "LBridgeSentences$World;") (by decide +kernel) fc_38 wd_219
theorem k_120_4 : OkOp mt Ev 120 4 (o_iload 1 1) := ok_iload_n (k := 1) (by decide +kernel) rfl
theorem k_120_5 : OkOp mt Ev 120 5 (o_cv [(10, 51)] 1) := ok_cv (i := 80) (by decide +kernel) vc_112
theorem k_120_8 : OkOp mt Ev 120 8 (o_astore 3 1) := ok_astore_n (k := 3) (by decide +kernel) rfl
theorem k_120_9 : OkOp mt Ev 120 9 (o_aload 3 1) := ok_aload_n (k := 3) (by decide +kernel) rfl
theorem k_120_10 : OkOp mt Ev 120 10 (o_ifnonnull 15) := ok_ifnonnull (off := 5) (by decide +kernel) (by decide +kernel)
theorem k_120_13 : OkOp mt Ev 120 13 (o_push (.int (0)) 1) := ok_iconst (n := 0) (by decide +kernel) (by decide +kernel)
theorem k_120_14 : OkOp mt Ev 120 14 (o_ret 1) := ok_reti (ty := .boolean) (by decide +kernel) rfl (Or.inr (Or.inl ⟨rfl, rfl⟩))
theorem k_120_15 : OkOp mt Ev 120 15 (o_aload 3 1) := ok_aload_n (k := 3) (by decide +kernel) rfl
theorem k_120_16 : OkOp mt Ev 120 16 (o_iload 2 1) := ok_iload_n (k := 2) (by decide +kernel) rfl
theorem k_120_17 : OkOp mt Ev 120 17 (o_putf 2 [1, 2, 3, 4, 5, 6, 8] 0) := ok_putf (i := 65) (rf := "BridgeSentences$One") (nm := "v") (ds := "I") (ty := .int) (fin := false) (by decide +kernel) fc_13 wd_282 (tc_1_2_3_4_5_6_8) ff_42 (by decide) (by decide +kernel) ov_int
theorem k_120_20 : OkOp mt Ev 120 20 (o_aload 0 1) := ok_aload_n (k := 0) (by decide +kernel) rfl
theorem k_120_21 : OkOp mt Ev 120 21 (o_getf 1 [11]) := ok_getf (i := 18) (rf := "BridgeSentences") (nm := "trial") (ds := "LBridgeSentences$World;") (by decide +kernel) fc_38 wd_219
theorem k_120_24 : OkOp mt Ev 120 24 (o_iload 1 1) := ok_iload_n (k := 1) (by decide +kernel) rfl
theorem k_120_25 : OkOp mt Ev 120 25 (o_cv [(10, 63)] 1) := ok_cv (i := 296) (by decide +kernel) vc_135
theorem k_120_28 : OkOp mt Ev 120 28 (o_istore 4 2) := ok_istore (by decide +kernel)
theorem k_120_30 : OkOp mt Ev 120 30 (o_iload 4 2) := ok_iload (by decide +kernel)
theorem k_120_32 : OkOp mt Ev 120 32 (o_push (.int (-2)) 2) := ok_bipush (n := -2) (by decide +kernel) (by decide +kernel)
theorem k_120_34 : OkOp mt Ev 120 34 (o_if2 (fun x y => decide (x = y)) 54) := ok_icmp_eq (off := 20) (by decide +kernel) (by decide +kernel)
theorem k_120_37 : OkOp mt Ev 120 37 (o_iload 4 2) := ok_iload (by decide +kernel)
theorem k_120_39 : OkOp mt Ev 120 39 (o_aload 0 1) := ok_aload_n (k := 0) (by decide +kernel) rfl
theorem k_120_40 : OkOp mt Ev 120 40 (o_getf 1 [11]) := ok_getf (i := 18) (rf := "BridgeSentences") (nm := "trial") (ds := "LBridgeSentences$World;") (by decide +kernel) fc_38 wd_219
theorem k_120_43 : OkOp mt Ev 120 43 (o_aload 3 1) := ok_aload_n (k := 3) (by decide +kernel) rfl
theorem k_120_44 : OkOp mt Ev 120 44 (o_aload 3 1) := ok_aload_n (k := 3) (by decide +kernel) rfl
theorem k_120_45 : OkOp mt Ev 120 45 (o_getf 3 [1, 2, 3, 4, 5, 6, 8]) := ok_getf (i := 70) (rf := "BridgeSentences$One") (nm := "has") (ds := "I") (by decide +kernel) fc_14 wd_287
theorem k_120_48 : OkOp mt Ev 120 48 (o_cv [(10, 58)] 2) := ok_cv (i := 94) (by decide +kernel) vc_113
theorem k_120_51 : OkOp mt Ev 120 51 (o_if2 (fun x y => decide (¬ x = y)) 58) := ok_icmp_ne (off := 7) (by decide +kernel) (by decide +kernel)
theorem k_120_54 : OkOp mt Ev 120 54 (o_push (.int (1)) 1) := ok_iconst (n := 1) (by decide +kernel) (by decide +kernel)
theorem k_120_55 : OkOp mt Ev 120 55 (o_goto 59) := ok_goto (off := 4) (by decide +kernel) (by decide +kernel)
theorem k_120_58 : OkOp mt Ev 120 58 (o_push (.int (0)) 1) := ok_iconst (n := 0) (by decide +kernel) (by decide +kernel)
theorem k_120_59 : OkOp mt Ev 120 59 (o_ret 1) := ok_reti (ty := .boolean) (by decide +kernel) rfl (Or.inr (Or.inl ⟨rfl, rfl⟩))
theorem kt_120 : ∀ pc o, cd_X11_isSoWithV Ev pc = some o → OkOp mt Ev 120 pc o ∧ Gw o := (tN_ok (tN_ok (tN_ok (tN_ok (tN_ok (tL_ok ⟨k_120_0, gw_aload⟩) (tL_ok ⟨k_120_1, gw_getf⟩)) (tN_ok (tL_ok ⟨k_120_4, gw_iload⟩) (tL_ok ⟨k_120_5, gw_cv⟩))) (tN_ok (tN_ok (tL_ok ⟨k_120_8, gw_astore⟩) (tL_ok ⟨k_120_9, gw_aload⟩)) (tN_ok (tL_ok ⟨k_120_10, gw_ifnonnull⟩) (tL_ok ⟨k_120_13, gw_push⟩)))) (tN_ok (tN_ok (tN_ok (tL_ok ⟨k_120_14, gw_ret⟩) (tL_ok ⟨k_120_15, gw_aload⟩)) (tN_ok (tL_ok ⟨k_120_16, gw_iload⟩) (tL_ok ⟨k_120_17, gw_putf⟩))) (tN_ok (tN_ok (tL_ok ⟨k_120_20, gw_aload⟩) (tL_ok ⟨k_120_21, gw_getf⟩)) (tN_ok (tL_ok ⟨k_120_24, gw_iload⟩) (tL_ok ⟨k_120_25, gw_cv⟩))))) (tN_ok (tN_ok (tN_ok (tN_ok (tL_ok ⟨k_120_28, gw_istore⟩) (tL_ok ⟨k_120_30, gw_iload⟩)) (tN_ok (tL_ok ⟨k_120_32, gw_push⟩) (tL_ok ⟨k_120_34, gw_if2⟩))) (tN_ok (tN_ok (tL_ok ⟨k_120_37, gw_iload⟩) (tL_ok ⟨k_120_39, gw_aload⟩)) (tN_ok (tL_ok ⟨k_120_40, gw_getf⟩) (tL_ok ⟨k_120_43, gw_aload⟩)))) (tN_ok (tN_ok (tN_ok (tL_ok ⟨k_120_44, gw_aload⟩) (tL_ok ⟨k_120_45, gw_getf⟩)) (tN_ok (tL_ok ⟨k_120_48, gw_cv⟩) (tL_ok ⟨k_120_51, gw_if2⟩))) (tN_ok (tN_ok (tL_ok ⟨k_120_54, gw_push⟩) (tL_ok ⟨k_120_55, gw_goto⟩)) (tN_ok (tL_ok ⟨k_120_58, gw_push⟩) (tL_ok ⟨k_120_59, gw_ret⟩))))))
theorem k_121_0 : OkOp mt Ev 121 0 (o_aload 0 1) := ok_aload_n (k := 0) (by decide +kernel) rfl
theorem k_121_1 : OkOp mt Ev 121 1 (o_getf 1 [11]) := ok_getf (i := 18) (rf := "BridgeSentences") (nm := "trial") (ds := "LBridgeSentences$World;") (by decide +kernel) fc_38 wd_219
theorem k_121_4 : OkOp mt Ev 121 4 (o_iload 2 1) := ok_iload_n (k := 2) (by decide +kernel) rfl
theorem k_121_5 : OkOp mt Ev 121 5 (o_cv [(10, 51)] 1) := ok_cv (i := 80) (by decide +kernel) vc_112
theorem k_121_8 : OkOp mt Ev 121 8 (o_astore 3 1) := ok_astore_n (k := 3) (by decide +kernel) rfl
theorem k_121_9 : OkOp mt Ev 121 9 (o_iload 1 1) := ok_iload_n (k := 1) (by decide +kernel) rfl
theorem k_121_10 : OkOp mt Ev 121 10 (o_if1 (fun x => decide (¬ x = 0)) 25) := ok_if_ne (off := 15) (by decide +kernel) (by decide +kernel)
theorem k_121_13 : OkOp mt Ev 121 13 (o_aload 0 1) := ok_aload_n (k := 0) (by decide +kernel) rfl
theorem k_121_14 : OkOp mt Ev 121 14 (o_getf 1 [11]) := ok_getf (i := 18) (rf := "BridgeSentences") (nm := "trial") (ds := "LBridgeSentences$World;") (by decide +kernel) fc_38 wd_219
theorem k_121_17 : OkOp mt Ev 121 17 (o_push (.int (2147483647)) 2) := ok_ldc (i := 184) (by decide +kernel) wd_731
theorem k_121_19 : OkOp mt Ev 121 19 (o_cv [(10, 60)] 1) := ok_cv (i := 308) (by decide +kernel) vc_138
theorem k_121_22 : OkOp mt Ev 121 22 (o_goto 69) := ok_goto (off := 47) (by decide +kernel) (by decide +kernel)
theorem k_121_25 : OkOp mt Ev 121 25 (o_iload 1 1) := ok_iload_n (k := 1) (by decide +kernel) rfl
theorem k_121_26 : OkOp mt Ev 121 26 (o_push (.int (3)) 1) := ok_iconst (n := 3) (by decide +kernel) (by decide +kernel)
theorem k_121_27 : OkOp mt Ev 121 27 (o_if2 (fun x y => decide (¬ x = y)) 51) := ok_icmp_ne (off := 24) (by decide +kernel) (by decide +kernel)
theorem k_121_30 : OkOp mt Ev 121 30 (o_aload 0 1) := ok_aload_n (k := 0) (by decide +kernel) rfl
theorem k_121_31 : OkOp mt Ev 121 31 (o_getf 1 [11]) := ok_getf (i := 18) (rf := "BridgeSentences") (nm := "trial") (ds := "LBridgeSentences$World;") (by decide +kernel) fc_38 wd_219
theorem k_121_34 : OkOp mt Ev 121 34 (o_push (.int (1)) 1) := ok_iconst (n := 1) (by decide +kernel) (by decide +kernel)
theorem k_121_35 : OkOp mt Ev 121 35 (o_iload 2 1) := ok_iload_n (k := 2) (by decide +kernel) rfl
theorem k_121_36 : OkOp mt Ev 121 36 (o_ib (fun x y => x <<< (y &&& 31))) := ok_ishl (by decide +kernel)
theorem k_121_37 : OkOp mt Ev 121 37 (o_aload 0 1) := ok_aload_n (k := 0) (by decide +kernel) rfl
theorem k_121_38 : OkOp mt Ev 121 38 (o_getf 1 [11]) := ok_getf (i := 18) (rf := "BridgeSentences") (nm := "trial") (ds := "LBridgeSentences$World;") (by decide +kernel) fc_38 wd_219
theorem k_121_41 : OkOp mt Ev 121 41 (o_getf 3 [10]) := ok_getf (i := 158) (rf := "BridgeSentences$World") (nm := "takenSet") (ds := "I") (by decide +kernel) fc_33 wd_126
theorem k_121_44 : OkOp mt Ev 121 44 (o_ib (fun x y => x &&& y)) := ok_iand (by decide +kernel)
theorem k_121_45 : OkOp mt Ev 121 45 (o_cv [(10, 62)] 1) := ok_cv (i := 316) (by decide +kernel) vc_140
theorem k_121_48 : OkOp mt Ev 121 48 (o_goto 69) := ok_goto (off := 21) (by decide +kernel) (by decide +kernel)
theorem k_121_51 : OkOp mt Ev 121 51 (o_aload 3 1) := ok_aload_n (k := 3) (by decide +kernel) rfl
theorem k_121_52 : OkOp mt Ev 121 52 (o_ifnull 69) := ok_ifnull (off := 17) (by decide +kernel) (by decide +kernel)
theorem k_121_55 : OkOp mt Ev 121 55 (o_aload 3 1) := ok_aload_n (k := 3) (by decide +kernel) rfl
theorem k_121_56 : OkOp mt Ev 121 56 (o_iload 1 1) := ok_iload_n (k := 1) (by decide +kernel) rfl
theorem k_121_57 : OkOp mt Ev 121 57 (o_push (.int (1)) 1) := ok_iconst (n := 1) (by decide +kernel) (by decide +kernel)
theorem k_121_58 : OkOp mt Ev 121 58 (o_if2 (fun x y => decide (¬ x = y)) 65) := ok_icmp_ne (off := 7) (by decide +kernel) (by decide +kernel)
theorem k_121_61 : OkOp mt Ev 121 61 (o_push (.int (1)) 1) := ok_iconst (n := 1) (by decide +kernel) (by decide +kernel)
theorem k_121_62 : OkOp mt Ev 121 62 (o_goto 66) := ok_goto (off := 4) (by decide +kernel) (by decide +kernel)
theorem k_121_65 : OkOp mt Ev 121 65 (o_push (.int (0)) 1) := ok_iconst (n := 0) (by decide +kernel) (by decide +kernel)
theorem k_121_66 : OkOp mt Ev 121 66 (o_putf 4 [1, 2, 3, 4, 5, 6, 8] 1) := ok_putf (i := 87) (rf := "BridgeSentences$One") (nm := "isBeyond") (ds := "Z") (ty := .boolean) (fin := false) (by decide +kernel) fc_15 wd_292 (tc_1_2_3_4_5_6_8) ff_45 (by decide) (by decide +kernel) ov_bool
theorem k_121_69 : OkOp mt Ev 121 69 (o_retv) := ok_retv (by decide +kernel) rfl
theorem kt_121 : ∀ pc o, cd_X11_goRow Ev pc = some o → OkOp mt Ev 121 pc o ∧ Gw o := (tN_ok (tN_ok (tN_ok (tN_ok (tN_ok (tL_ok ⟨k_121_0, gw_aload⟩) (tL_ok ⟨k_121_1, gw_getf⟩)) (tN_ok (tL_ok ⟨k_121_4, gw_iload⟩) (tL_ok ⟨k_121_5, gw_cv⟩))) (tN_ok (tN_ok (tL_ok ⟨k_121_8, gw_astore⟩) (tL_ok ⟨k_121_9, gw_iload⟩)) (tN_ok (tL_ok ⟨k_121_10, gw_if1⟩) (tN_ok (tL_ok ⟨k_121_13, gw_aload⟩) (tL_ok ⟨k_121_14, gw_getf⟩))))) (tN_ok (tN_ok (tN_ok (tL_ok ⟨k_121_17, gw_push⟩) (tL_ok ⟨k_121_19, gw_cv⟩)) (tN_ok (tL_ok ⟨k_121_22, gw_goto⟩) (tL_ok ⟨k_121_25, gw_iload⟩))) (tN_ok (tN_ok (tL_ok ⟨k_121_26, gw_push⟩) (tL_ok ⟨k_121_27, gw_if2⟩)) (tN_ok (tL_ok ⟨k_121_30, gw_aload⟩) (tN_ok (tL_ok ⟨k_121_31, gw_getf⟩) (tL_ok ⟨k_121_34, gw_push⟩)))))) (tN_ok (tN_ok (tN_ok (tN_ok (tL_ok ⟨k_121_35, gw_iload⟩) (tL_ok ⟨k_121_36, gw_ib⟩)) (tN_ok (tL_ok ⟨k_121_37, gw_aload⟩) (tL_ok ⟨k_121_38, gw_getf⟩))) (tN_ok (tN_ok (tL_ok ⟨k_121_41, gw_getf⟩) (tL_ok ⟨k_121_44, gw_ib⟩)) (tN_ok (tL_ok ⟨k_121_45, gw_cv⟩) (tN_ok (tL_ok ⟨k_121_48, gw_goto⟩) (tL_ok ⟨k_121_51, gw_aload⟩))))) (tN_ok (tN_ok (tN_ok (tL_ok ⟨k_121_52, gw_ifnull⟩) (tL_ok ⟨k_121_55, gw_aload⟩)) (tN_ok (tL_ok ⟨k_121_56, gw_iload⟩) (tN_ok (tL_ok ⟨k_121_57, gw_push⟩) (tL_ok ⟨k_121_58, gw_if2⟩)))) (tN_ok (tN_ok (tL_ok ⟨k_121_61, gw_push⟩) (tL_ok ⟨k_121_62, gw_goto⟩)) (tN_ok (tL_ok ⟨k_121_65, gw_push⟩) (tN_ok (tL_ok ⟨k_121_66, gw_putf⟩) (tL_ok ⟨k_121_69, gw_retv⟩)))))))
theorem k_122_0 : OkOp mt Ev 122 0 (o_aload 0 1) := ok_aload_n (k := 0) (by decide +kernel) rfl
theorem k_122_1 : OkOp mt Ev 122 1 (o_oi) := ok_oi (i := 3) (by decide +kernel) wd_981 wd_83 wd_84
theorem k_122_4 : OkOp mt Ev 122 4 (o_aload 0 1) := ok_aload_n (k := 0) (by decide +kernel) rfl
theorem k_122_5 : OkOp mt Ev 122 5 (o_cs 124 0) := ok_cs (i := 9) (by decide +kernel) wd_982 wd_983 wd_62 wd_984 nk_32
theorem k_122_8 : OkOp mt Ev 122 8 (o_putf 0 [12] 2) := ok_putf (i := 15) (rf := "BridgeSentencesModel") (nm := "now") (ds := "[I") (ty := (.array .int)) (fin := true) (by decide +kernel) fc_47 wd_985 (tc_12) ff_51 (by decide) (by decide +kernel) (ov_arr .int)
theorem k_122_11 : OkOp mt Ev 122 11 (o_aload 0 1) := ok_aload_n (k := 0) (by decide +kernel) rfl
theorem k_122_12 : OkOp mt Ev 122 12 (o_push (.int (120)) 2) := ok_bipush (n := 120) (by decide +kernel) (by decide +kernel)
theorem k_122_14 : OkOp mt Ev 122 14 (o_newa 2 (.inl (fun _ => 0)) 2) := ok_newa (at_ := .int) (by decide +kernel) (by decide) rfl (fun _ _ => rfl) (by decide) wd_118
theorem k_122_16 : OkOp mt Ev 122 16 (o_putf 1 [12] 2) := ok_putf (i := 19) (rf := "BridgeSentencesModel") (nm := "mind") (ds := "[I") (ty := (.array .int)) (fin := true) (by decide +kernel) fc_48 wd_986 (tc_12) ff_52 (by decide) (by decide +kernel) (ov_arr .int)
theorem k_122_19 : OkOp mt Ev 122 19 (o_aload 0 1) := ok_aload_n (k := 0) (by decide +kernel) rfl
theorem k_122_20 : OkOp mt Ev 122 20 (o_push (.int (120)) 2) := ok_bipush (n := 120) (by decide +kernel) (by decide +kernel)
theorem k_122_22 : OkOp mt Ev 122 22 (o_newa 2 (.inl (fun _ => 0)) 2) := ok_newa (at_ := .int) (by decide +kernel) (by decide) rfl (fun _ _ => rfl) (by decide) wd_118
theorem k_122_24 : OkOp mt Ev 122 24 (o_putf 2 [12] 2) := ok_putf (i := 22) (rf := "BridgeSentencesModel") (nm := "then") (ds := "[I") (ty := (.array .int)) (fin := true) (by decide +kernel) fc_49 wd_987 (tc_12) ff_53 (by decide) (by decide +kernel) (ov_arr .int)
theorem k_122_27 : OkOp mt Ev 122 27 (o_aload 0 1) := ok_aload_n (k := 0) (by decide +kernel) rfl
theorem k_122_28 : OkOp mt Ev 122 28 (o_push (.int (100)) 2) := ok_bipush (n := 100) (by decide +kernel) (by decide +kernel)
theorem k_122_30 : OkOp mt Ev 122 30 (o_newa 2 (.inl (fun _ => 0)) 2) := ok_newa (at_ := .int) (by decide +kernel) (by decide) rfl (fun _ _ => rfl) (by decide) wd_118
theorem k_122_32 : OkOp mt Ev 122 32 (o_putf 4 [12] 2) := ok_putf (i := 25) (rf := "BridgeSentencesModel") (nm := "text") (ds := "[I") (ty := (.array .int)) (fin := true) (by decide +kernel) fc_50 wd_989 (tc_12) ff_54 (by decide) (by decide +kernel) (ov_arr .int)
theorem k_122_35 : OkOp mt Ev 122 35 (o_aload 0 1) := ok_aload_n (k := 0) (by decide +kernel) rfl
theorem k_122_36 : OkOp mt Ev 122 36 (o_push (.int (600)) 3) := ok_sipush (n := 600) (by decide +kernel) (by decide +kernel)
theorem k_122_39 : OkOp mt Ev 122 39 (o_newa 2 (.inl (fun _ => 0)) 2) := ok_newa (at_ := .int) (by decide +kernel) (by decide) rfl (fun _ _ => rfl) (by decide) wd_118
theorem k_122_41 : OkOp mt Ev 122 41 (o_putf 6 [12] 2) := ok_putf (i := 28) (rf := "BridgeSentencesModel") (nm := "rules") (ds := "[I") (ty := (.array .int)) (fin := true) (by decide +kernel) fc_51 wd_991 (tc_12) ff_55 (by decide) (by decide +kernel) (ov_arr .int)
theorem k_122_44 : OkOp mt Ev 122 44 (o_aload 0 1) := ok_aload_n (k := 0) (by decide +kernel) rfl
theorem k_122_45 : OkOp mt Ev 122 45 (o_push (.int (6)) 2) := ok_bipush (n := 6) (by decide +kernel) (by decide +kernel)
theorem k_122_47 : OkOp mt Ev 122 47 (o_newa 2 (.inl (fun _ => 0)) 2) := ok_newa (at_ := .int) (by decide +kernel) (by decide) rfl (fun _ _ => rfl) (by decide) wd_118
theorem k_122_49 : OkOp mt Ev 122 49 (o_putf 7 [12] 2) := ok_putf (i := 31) (rf := "BridgeSentencesModel") (nm := "sizes") (ds := "[I") (ty := (.array .int)) (fin := true) (by decide +kernel) fc_52 wd_992 (tc_12) ff_56 (by decide) (by decide +kernel) (ov_arr .int)
theorem k_122_52 : OkOp mt Ev 122 52 (o_aload 0 1) := ok_aload_n (k := 0) (by decide +kernel) rfl
theorem k_122_53 : OkOp mt Ev 122 53 (o_push (.int (100)) 2) := ok_bipush (n := 100) (by decide +kernel) (by decide +kernel)
theorem k_122_55 : OkOp mt Ev 122 55 (o_newa 2 (.inl (fun _ => 0)) 2) := ok_newa (at_ := .int) (by decide +kernel) (by decide) rfl (fun _ _ => rfl) (by decide) wd_118
theorem k_122_57 : OkOp mt Ev 122 57 (o_putf 9 [12] 2) := ok_putf (i := 34) (rf := "BridgeSentencesModel") (nm := "read") (ds := "[I") (ty := (.array .int)) (fin := true) (by decide +kernel) fc_53 wd_994 (tc_12) ff_57 (by decide) (by decide +kernel) (ov_arr .int)
theorem k_122_60 : OkOp mt Ev 122 60 (o_aload 0 1) := ok_aload_n (k := 0) (by decide +kernel) rfl
theorem k_122_61 : OkOp mt Ev 122 61 (o_push (.int (6)) 2) := ok_bipush (n := 6) (by decide +kernel) (by decide +kernel)
theorem k_122_63 : OkOp mt Ev 122 63 (o_newa 2 (.inl (fun _ => 0)) 2) := ok_newa (at_ := .int) (by decide +kernel) (by decide) rfl (fun _ _ => rfl) (by decide) wd_118
theorem k_122_65 : OkOp mt Ev 122 65 (o_putf 16 [12] 2) := ok_putf (i := 37) (rf := "BridgeSentencesModel") (nm := "names") (ds := "[I") (ty := (.array .int)) (fin := true) (by decide +kernel) fc_54 wd_1001 (tc_12) ff_58 (by decide) (by decide +kernel) (ov_arr .int)
theorem k_122_68 : OkOp mt Ev 122 68 (o_aload 0 1) := ok_aload_n (k := 0) (by decide +kernel) rfl
theorem k_122_69 : OkOp mt Ev 122 69 (o_push (.int (6)) 2) := ok_bipush (n := 6) (by decide +kernel) (by decide +kernel)
theorem k_122_71 : OkOp mt Ev 122 71 (o_newa 1 (.inl (fun _ => 0)) 2) := ok_newa (at_ := .char) (by decide +kernel) (by decide) rfl (fun _ _ => rfl) (by decide) wd_1073
theorem k_122_73 : OkOp mt Ev 122 73 (o_dup) := ok_dup (by decide +kernel)
theorem k_122_74 : OkOp mt Ev 122 74 (o_push (.int (0)) 1) := ok_iconst (n := 0) (by decide +kernel) (by decide +kernel)
theorem k_122_75 : OkOp mt Ev 122 75 (o_push (.int (112)) 2) := ok_bipush (n := 112) (by decide +kernel) (by decide +kernel)
theorem k_122_77 : OkOp mt Ev 122 77 (o_iast 1 (fun x => vp_nar .char x)) := ok_cast (by decide +kernel)
theorem k_122_78 : OkOp mt Ev 122 78 (o_dup) := ok_dup (by decide +kernel)
theorem k_122_79 : OkOp mt Ev 122 79 (o_push (.int (1)) 1) := ok_iconst (n := 1) (by decide +kernel) (by decide +kernel)
theorem k_122_80 : OkOp mt Ev 122 80 (o_push (.int (107)) 2) := ok_bipush (n := 107) (by decide +kernel) (by decide +kernel)
theorem k_122_82 : OkOp mt Ev 122 82 (o_iast 1 (fun x => vp_nar .char x)) := ok_cast (by decide +kernel)
theorem k_122_83 : OkOp mt Ev 122 83 (o_dup) := ok_dup (by decide +kernel)
theorem k_122_84 : OkOp mt Ev 122 84 (o_push (.int (2)) 1) := ok_iconst (n := 2) (by decide +kernel) (by decide +kernel)
theorem k_122_85 : OkOp mt Ev 122 85 (o_push (.int (118)) 2) := ok_bipush (n := 118) (by decide +kernel) (by decide +kernel)
theorem k_122_87 : OkOp mt Ev 122 87 (o_iast 1 (fun x => vp_nar .char x)) := ok_cast (by decide +kernel)
theorem k_122_88 : OkOp mt Ev 122 88 (o_dup) := ok_dup (by decide +kernel)
theorem k_122_89 : OkOp mt Ev 122 89 (o_push (.int (3)) 1) := ok_iconst (n := 3) (by decide +kernel) (by decide +kernel)
theorem k_122_90 : OkOp mt Ev 122 90 (o_push (.int (115)) 2) := ok_bipush (n := 115) (by decide +kernel) (by decide +kernel)
theorem k_122_92 : OkOp mt Ev 122 92 (o_iast 1 (fun x => vp_nar .char x)) := ok_cast (by decide +kernel)
theorem k_122_93 : OkOp mt Ev 122 93 (o_dup) := ok_dup (by decide +kernel)
theorem k_122_94 : OkOp mt Ev 122 94 (o_push (.int (4)) 1) := ok_iconst (n := 4) (by decide +kernel) (by decide +kernel)
theorem k_122_95 : OkOp mt Ev 122 95 (o_push (.int (119)) 2) := ok_bipush (n := 119) (by decide +kernel) (by decide +kernel)
theorem k_122_97 : OkOp mt Ev 122 97 (o_iast 1 (fun x => vp_nar .char x)) := ok_cast (by decide +kernel)
theorem k_122_98 : OkOp mt Ev 122 98 (o_dup) := ok_dup (by decide +kernel)
theorem k_122_99 : OkOp mt Ev 122 99 (o_push (.int (5)) 1) := ok_iconst (n := 5) (by decide +kernel) (by decide +kernel)
theorem k_122_100 : OkOp mt Ev 122 100 (o_push (.int (100)) 2) := ok_bipush (n := 100) (by decide +kernel) (by decide +kernel)
theorem k_122_102 : OkOp mt Ev 122 102 (o_iast 1 (fun x => vp_nar .char x)) := ok_cast (by decide +kernel)
theorem k_122_103 : OkOp mt Ev 122 103 (o_putf 17 [12] 2) := ok_putf (i := 40) (rf := "BridgeSentencesModel") (nm := "letters") (ds := "[C") (ty := (.array .char)) (fin := true) (by decide +kernel) fc_55 wd_1002 (tc_12) ff_59 (by decide) (by decide +kernel) (ov_arr .char)
theorem k_122_106 : OkOp mt Ev 122 106 (o_aload 0 1) := ok_aload_n (k := 0) (by decide +kernel) rfl
theorem k_122_107 : OkOp mt Ev 122 107 (o_push (.int (3)) 1) := ok_iconst (n := 3) (by decide +kernel) (by decide +kernel)
theorem k_122_108 : OkOp mt Ev 122 108 (o_newa 1 (.inl (fun _ => 0)) 2) := ok_newa (at_ := .char) (by decide +kernel) (by decide) rfl (fun _ _ => rfl) (by decide) wd_1073
theorem k_122_110 : OkOp mt Ev 122 110 (o_dup) := ok_dup (by decide +kernel)
theorem k_122_111 : OkOp mt Ev 122 111 (o_push (.int (0)) 1) := ok_iconst (n := 0) (by decide +kernel) (by decide +kernel)
theorem k_122_112 : OkOp mt Ev 122 112 (o_push (.int (112)) 2) := ok_bipush (n := 112) (by decide +kernel) (by decide +kernel)
theorem k_122_114 : OkOp mt Ev 122 114 (o_iast 1 (fun x => vp_nar .char x)) := ok_cast (by decide +kernel)
theorem k_122_115 : OkOp mt Ev 122 115 (o_dup) := ok_dup (by decide +kernel)
theorem k_122_116 : OkOp mt Ev 122 116 (o_push (.int (1)) 1) := ok_iconst (n := 1) (by decide +kernel) (by decide +kernel)
theorem k_122_117 : OkOp mt Ev 122 117 (o_push (.int (104)) 2) := ok_bipush (n := 104) (by decide +kernel) (by decide +kernel)
theorem k_122_119 : OkOp mt Ev 122 119 (o_iast 1 (fun x => vp_nar .char x)) := ok_cast (by decide +kernel)
theorem k_122_120 : OkOp mt Ev 122 120 (o_dup) := ok_dup (by decide +kernel)
theorem k_122_121 : OkOp mt Ev 122 121 (o_push (.int (2)) 1) := ok_iconst (n := 2) (by decide +kernel) (by decide +kernel)
theorem k_122_122 : OkOp mt Ev 122 122 (o_push (.int (102)) 2) := ok_bipush (n := 102) (by decide +kernel) (by decide +kernel)
theorem k_122_124 : OkOp mt Ev 122 124 (o_iast 1 (fun x => vp_nar .char x)) := ok_cast (by decide +kernel)
theorem k_122_125 : OkOp mt Ev 122 125 (o_putf 18 [12] 2) := ok_putf (i := 44) (rf := "BridgeSentencesModel") (nm := "begins") (ds := "[C") (ty := (.array .char)) (fin := true) (by decide +kernel) fc_56 wd_1003 (tc_12) ff_60 (by decide) (by decide +kernel) (ov_arr .char)
theorem k_122_128 : OkOp mt Ev 122 128 (o_aload 0 1) := ok_aload_n (k := 0) (by decide +kernel) rfl
theorem k_122_129 : OkOp mt Ev 122 129 (o_push (.int (15)) 2) := ok_bipush (n := 15) (by decide +kernel) (by decide +kernel)
theorem k_122_131 : OkOp mt Ev 122 131 (o_newa 1 (.inl (fun _ => 0)) 2) := ok_newa (at_ := .char) (by decide +kernel) (by decide) rfl (fun _ _ => rfl) (by decide) wd_1073
theorem k_122_133 : OkOp mt Ev 122 133 (o_dup) := ok_dup (by decide +kernel)
theorem k_122_134 : OkOp mt Ev 122 134 (o_push (.int (0)) 1) := ok_iconst (n := 0) (by decide +kernel) (by decide +kernel)
theorem k_122_135 : OkOp mt Ev 122 135 (o_push (.int (112)) 2) := ok_bipush (n := 112) (by decide +kernel) (by decide +kernel)
theorem k_122_137 : OkOp mt Ev 122 137 (o_iast 1 (fun x => vp_nar .char x)) := ok_cast (by decide +kernel)
theorem k_122_138 : OkOp mt Ev 122 138 (o_dup) := ok_dup (by decide +kernel)
theorem k_122_139 : OkOp mt Ev 122 139 (o_push (.int (1)) 1) := ok_iconst (n := 1) (by decide +kernel) (by decide +kernel)
theorem k_122_140 : OkOp mt Ev 122 140 (o_push (.int (114)) 2) := ok_bipush (n := 114) (by decide +kernel) (by decide +kernel)
theorem k_122_142 : OkOp mt Ev 122 142 (o_iast 1 (fun x => vp_nar .char x)) := ok_cast (by decide +kernel)
theorem k_122_143 : OkOp mt Ev 122 143 (o_dup) := ok_dup (by decide +kernel)
theorem k_122_144 : OkOp mt Ev 122 144 (o_push (.int (2)) 1) := ok_iconst (n := 2) (by decide +kernel) (by decide +kernel)
theorem k_122_145 : OkOp mt Ev 122 145 (o_push (.int (101)) 2) := ok_bipush (n := 101) (by decide +kernel) (by decide +kernel)
theorem k_122_147 : OkOp mt Ev 122 147 (o_iast 1 (fun x => vp_nar .char x)) := ok_cast (by decide +kernel)
theorem k_122_148 : OkOp mt Ev 122 148 (o_dup) := ok_dup (by decide +kernel)
theorem k_122_149 : OkOp mt Ev 122 149 (o_push (.int (3)) 1) := ok_iconst (n := 3) (by decide +kernel) (by decide +kernel)
theorem k_122_150 : OkOp mt Ev 122 150 (o_push (.int (115)) 2) := ok_bipush (n := 115) (by decide +kernel) (by decide +kernel)
theorem k_122_152 : OkOp mt Ev 122 152 (o_iast 1 (fun x => vp_nar .char x)) := ok_cast (by decide +kernel)
theorem k_122_153 : OkOp mt Ev 122 153 (o_dup) := ok_dup (by decide +kernel)
theorem k_122_154 : OkOp mt Ev 122 154 (o_push (.int (4)) 1) := ok_iconst (n := 4) (by decide +kernel) (by decide +kernel)
theorem k_122_155 : OkOp mt Ev 122 155 (o_push (.int (115)) 2) := ok_bipush (n := 115) (by decide +kernel) (by decide +kernel)
theorem k_122_157 : OkOp mt Ev 122 157 (o_iast 1 (fun x => vp_nar .char x)) := ok_cast (by decide +kernel)
theorem k_122_158 : OkOp mt Ev 122 158 (o_dup) := ok_dup (by decide +kernel)
theorem k_122_159 : OkOp mt Ev 122 159 (o_push (.int (5)) 1) := ok_iconst (n := 5) (by decide +kernel) (by decide +kernel)
theorem k_122_160 : OkOp mt Ev 122 160 (o_push (.int (104)) 2) := ok_bipush (n := 104) (by decide +kernel) (by decide +kernel)
theorem k_122_162 : OkOp mt Ev 122 162 (o_iast 1 (fun x => vp_nar .char x)) := ok_cast (by decide +kernel)
theorem k_122_163 : OkOp mt Ev 122 163 (o_dup) := ok_dup (by decide +kernel)
theorem k_122_164 : OkOp mt Ev 122 164 (o_push (.int (6)) 2) := ok_bipush (n := 6) (by decide +kernel) (by decide +kernel)
theorem k_122_166 : OkOp mt Ev 122 166 (o_push (.int (111)) 2) := ok_bipush (n := 111) (by decide +kernel) (by decide +kernel)
theorem k_122_168 : OkOp mt Ev 122 168 (o_iast 1 (fun x => vp_nar .char x)) := ok_cast (by decide +kernel)
theorem k_122_169 : OkOp mt Ev 122 169 (o_dup) := ok_dup (by decide +kernel)
theorem k_122_170 : OkOp mt Ev 122 170 (o_push (.int (7)) 2) := ok_bipush (n := 7) (by decide +kernel) (by decide +kernel)
theorem k_122_172 : OkOp mt Ev 122 172 (o_push (.int (108)) 2) := ok_bipush (n := 108) (by decide +kernel) (by decide +kernel)
theorem k_122_174 : OkOp mt Ev 122 174 (o_iast 1 (fun x => vp_nar .char x)) := ok_cast (by decide +kernel)
theorem k_122_175 : OkOp mt Ev 122 175 (o_dup) := ok_dup (by decide +kernel)
theorem k_122_176 : OkOp mt Ev 122 176 (o_push (.int (8)) 2) := ok_bipush (n := 8) (by decide +kernel) (by decide +kernel)
theorem k_122_178 : OkOp mt Ev 122 178 (o_push (.int (100)) 2) := ok_bipush (n := 100) (by decide +kernel) (by decide +kernel)
theorem k_122_180 : OkOp mt Ev 122 180 (o_iast 1 (fun x => vp_nar .char x)) := ok_cast (by decide +kernel)
theorem k_122_181 : OkOp mt Ev 122 181 (o_dup) := ok_dup (by decide +kernel)
theorem k_122_182 : OkOp mt Ev 122 182 (o_push (.int (9)) 2) := ok_bipush (n := 9) (by decide +kernel) (by decide +kernel)
theorem k_122_184 : OkOp mt Ev 122 184 (o_push (.int (0)) 1) := ok_iconst (n := 0) (by decide +kernel) (by decide +kernel)
theorem k_122_185 : OkOp mt Ev 122 185 (o_iast 1 (fun x => vp_nar .char x)) := ok_cast (by decide +kernel)
theorem k_122_186 : OkOp mt Ev 122 186 (o_dup) := ok_dup (by decide +kernel)
theorem k_122_187 : OkOp mt Ev 122 187 (o_push (.int (10)) 2) := ok_bipush (n := 10) (by decide +kernel) (by decide +kernel)
theorem k_122_189 : OkOp mt Ev 122 189 (o_push (.int (102)) 2) := ok_bipush (n := 102) (by decide +kernel) (by decide +kernel)
theorem k_122_191 : OkOp mt Ev 122 191 (o_iast 1 (fun x => vp_nar .char x)) := ok_cast (by decide +kernel)
theorem k_122_192 : OkOp mt Ev 122 192 (o_dup) := ok_dup (by decide +kernel)
theorem k_122_193 : OkOp mt Ev 122 193 (o_push (.int (11)) 2) := ok_bipush (n := 11) (by decide +kernel) (by decide +kernel)
theorem k_122_195 : OkOp mt Ev 122 195 (o_push (.int (114)) 2) := ok_bipush (n := 114) (by decide +kernel) (by decide +kernel)
theorem k_122_197 : OkOp mt Ev 122 197 (o_iast 1 (fun x => vp_nar .char x)) := ok_cast (by decide +kernel)
theorem k_122_198 : OkOp mt Ev 122 198 (o_dup) := ok_dup (by decide +kernel)
theorem k_122_199 : OkOp mt Ev 122 199 (o_push (.int (12)) 2) := ok_bipush (n := 12) (by decide +kernel) (by decide +kernel)
theorem k_122_201 : OkOp mt Ev 122 201 (o_push (.int (101)) 2) := ok_bipush (n := 101) (by decide +kernel) (by decide +kernel)
theorem k_122_203 : OkOp mt Ev 122 203 (o_iast 1 (fun x => vp_nar .char x)) := ok_cast (by decide +kernel)
theorem k_122_204 : OkOp mt Ev 122 204 (o_dup) := ok_dup (by decide +kernel)
theorem k_122_205 : OkOp mt Ev 122 205 (o_push (.int (13)) 2) := ok_bipush (n := 13) (by decide +kernel) (by decide +kernel)
theorem k_122_207 : OkOp mt Ev 122 207 (o_push (.int (101)) 2) := ok_bipush (n := 101) (by decide +kernel) (by decide +kernel)
theorem k_122_209 : OkOp mt Ev 122 209 (o_iast 1 (fun x => vp_nar .char x)) := ok_cast (by decide +kernel)
theorem k_122_210 : OkOp mt Ev 122 210 (o_dup) := ok_dup (by decide +kernel)
theorem k_122_211 : OkOp mt Ev 122 211 (o_push (.int (14)) 2) := ok_bipush (n := 14) (by decide +kernel) (by decide +kernel)
theorem k_122_213 : OkOp mt Ev 122 213 (o_push (.int (0)) 1) := ok_iconst (n := 0) (by decide +kernel) (by decide +kernel)
theorem k_122_214 : OkOp mt Ev 122 214 (o_iast 1 (fun x => vp_nar .char x)) := ok_cast (by decide +kernel)
theorem k_122_215 : OkOp mt Ev 122 215 (o_putf 19 [12] 2) := ok_putf (i := 47) (rf := "BridgeSentencesModel") (nm := "words") (ds := "[C") (ty := (.array .char)) (fin := true) (by decide +kernel) fc_57 wd_1004 (tc_12) ff_61 (by decide) (by decide +kernel) (ov_arr .char)
theorem k_122_218 : OkOp mt Ev 122 218 (o_aload 0 1) := ok_aload_n (k := 0) (by decide +kernel) rfl
theorem k_122_219 : OkOp mt Ev 122 219 (o_push (.int (12)) 2) := ok_bipush (n := 12) (by decide +kernel) (by decide +kernel)
theorem k_122_221 : OkOp mt Ev 122 221 (o_newa 2 (.inl (fun _ => 0)) 2) := ok_newa (at_ := .int) (by decide +kernel) (by decide) rfl (fun _ _ => rfl) (by decide) wd_118
theorem k_122_223 : OkOp mt Ev 122 223 (o_putf 20 [12] 2) := ok_putf (i := 50) (rf := "BridgeSentencesModel") (nm := "sums") (ds := "[I") (ty := (.array .int)) (fin := true) (by decide +kernel) fc_58 wd_1005 (tc_12) ff_62 (by decide) (by decide +kernel) (ov_arr .int)
theorem k_122_226 : OkOp mt Ev 122 226 (o_aload 0 1) := ok_aload_n (k := 0) (by decide +kernel) rfl
theorem k_122_227 : OkOp mt Ev 122 227 (o_push (.int (7)) 2) := ok_bipush (n := 7) (by decide +kernel) (by decide +kernel)
theorem k_122_229 : OkOp mt Ev 122 229 (o_newa 2 (.inl (fun _ => 0)) 2) := ok_newa (at_ := .int) (by decide +kernel) (by decide) rfl (fun _ _ => rfl) (by decide) wd_118
theorem k_122_231 : OkOp mt Ev 122 231 (o_dup) := ok_dup (by decide +kernel)
theorem k_122_232 : OkOp mt Ev 122 232 (o_push (.int (0)) 1) := ok_iconst (n := 0) (by decide +kernel) (by decide +kernel)
theorem k_122_233 : OkOp mt Ev 122 233 (o_push (.int (-1)) 1) := ok_iconst (n := -1) (by decide +kernel) (by decide +kernel)
theorem k_122_234 : OkOp mt Ev 122 234 (o_iast 2 (fun x => x)) := ok_iast (by decide +kernel)
theorem k_122_235 : OkOp mt Ev 122 235 (o_dup) := ok_dup (by decide +kernel)
theorem k_122_236 : OkOp mt Ev 122 236 (o_push (.int (1)) 1) := ok_iconst (n := 1) (by decide +kernel) (by decide +kernel)
theorem k_122_237 : OkOp mt Ev 122 237 (o_push (.int (0)) 1) := ok_iconst (n := 0) (by decide +kernel) (by decide +kernel)
theorem k_122_238 : OkOp mt Ev 122 238 (o_iast 2 (fun x => x)) := ok_iast (by decide +kernel)
theorem k_122_239 : OkOp mt Ev 122 239 (o_dup) := ok_dup (by decide +kernel)
theorem k_122_240 : OkOp mt Ev 122 240 (o_push (.int (2)) 1) := ok_iconst (n := 2) (by decide +kernel) (by decide +kernel)
theorem k_122_241 : OkOp mt Ev 122 241 (o_push (.int (0)) 1) := ok_iconst (n := 0) (by decide +kernel) (by decide +kernel)
theorem k_122_242 : OkOp mt Ev 122 242 (o_iast 2 (fun x => x)) := ok_iast (by decide +kernel)
theorem k_122_243 : OkOp mt Ev 122 243 (o_dup) := ok_dup (by decide +kernel)
theorem k_122_244 : OkOp mt Ev 122 244 (o_push (.int (3)) 1) := ok_iconst (n := 3) (by decide +kernel) (by decide +kernel)
theorem k_122_245 : OkOp mt Ev 122 245 (o_push (.int (0)) 1) := ok_iconst (n := 0) (by decide +kernel) (by decide +kernel)
theorem k_122_246 : OkOp mt Ev 122 246 (o_iast 2 (fun x => x)) := ok_iast (by decide +kernel)
theorem k_122_247 : OkOp mt Ev 122 247 (o_dup) := ok_dup (by decide +kernel)
theorem k_122_248 : OkOp mt Ev 122 248 (o_push (.int (4)) 1) := ok_iconst (n := 4) (by decide +kernel) (by decide +kernel)
theorem k_122_249 : OkOp mt Ev 122 249 (o_push (.int (1)) 1) := ok_iconst (n := 1) (by decide +kernel) (by decide +kernel)
theorem k_122_250 : OkOp mt Ev 122 250 (o_iast 2 (fun x => x)) := ok_iast (by decide +kernel)
theorem k_122_251 : OkOp mt Ev 122 251 (o_dup) := ok_dup (by decide +kernel)
theorem k_122_252 : OkOp mt Ev 122 252 (o_push (.int (5)) 1) := ok_iconst (n := 5) (by decide +kernel) (by decide +kernel)
theorem k_122_253 : OkOp mt Ev 122 253 (o_push (.int (2)) 1) := ok_iconst (n := 2) (by decide +kernel) (by decide +kernel)
theorem k_122_254 : OkOp mt Ev 122 254 (o_iast 2 (fun x => x)) := ok_iast (by decide +kernel)
theorem k_122_255 : OkOp mt Ev 122 255 (o_dup) := ok_dup (by decide +kernel)
theorem k_122_256 : OkOp mt Ev 122 256 (o_push (.int (6)) 2) := ok_bipush (n := 6) (by decide +kernel) (by decide +kernel)
theorem k_122_258 : OkOp mt Ev 122 258 (o_push (.int (3)) 1) := ok_iconst (n := 3) (by decide +kernel) (by decide +kernel)
theorem k_122_259 : OkOp mt Ev 122 259 (o_iast 2 (fun x => x)) := ok_iast (by decide +kernel)
theorem k_122_260 : OkOp mt Ev 122 260 (o_putf 21 [12] 2) := ok_putf (i := 53) (rf := "BridgeSentencesModel") (nm := "above") (ds := "[I") (ty := (.array .int)) (fin := true) (by decide +kernel) fc_59 wd_1006 (tc_12) ff_63 (by decide) (by decide +kernel) (ov_arr .int)
theorem k_122_263 : OkOp mt Ev 122 263 (o_aload 0 1) := ok_aload_n (k := 0) (by decide +kernel) rfl
theorem k_122_264 : OkOp mt Ev 122 264 (o_push (.int (21)) 2) := ok_bipush (n := 21) (by decide +kernel) (by decide +kernel)
theorem k_122_266 : OkOp mt Ev 122 266 (o_newa 2 (.inl (fun _ => 0)) 2) := ok_newa (at_ := .int) (by decide +kernel) (by decide) rfl (fun _ _ => rfl) (by decide) wd_118
theorem k_122_268 : OkOp mt Ev 122 268 (o_dup) := ok_dup (by decide +kernel)
theorem k_122_269 : OkOp mt Ev 122 269 (o_push (.int (0)) 1) := ok_iconst (n := 0) (by decide +kernel) (by decide +kernel)
theorem k_122_270 : OkOp mt Ev 122 270 (o_push (.int (10)) 2) := ok_bipush (n := 10) (by decide +kernel) (by decide +kernel)
theorem k_122_272 : OkOp mt Ev 122 272 (o_iast 2 (fun x => x)) := ok_iast (by decide +kernel)
theorem k_122_273 : OkOp mt Ev 122 273 (o_dup) := ok_dup (by decide +kernel)
theorem k_122_274 : OkOp mt Ev 122 274 (o_push (.int (1)) 1) := ok_iconst (n := 1) (by decide +kernel) (by decide +kernel)
theorem k_122_275 : OkOp mt Ev 122 275 (o_push (.int (11)) 2) := ok_bipush (n := 11) (by decide +kernel) (by decide +kernel)
theorem k_122_277 : OkOp mt Ev 122 277 (o_iast 2 (fun x => x)) := ok_iast (by decide +kernel)
theorem k_122_278 : OkOp mt Ev 122 278 (o_dup) := ok_dup (by decide +kernel)
theorem k_122_279 : OkOp mt Ev 122 279 (o_push (.int (2)) 1) := ok_iconst (n := 2) (by decide +kernel) (by decide +kernel)
theorem k_122_280 : OkOp mt Ev 122 280 (o_push (.int (12)) 2) := ok_bipush (n := 12) (by decide +kernel) (by decide +kernel)
theorem k_122_282 : OkOp mt Ev 122 282 (o_iast 2 (fun x => x)) := ok_iast (by decide +kernel)
theorem k_122_283 : OkOp mt Ev 122 283 (o_dup) := ok_dup (by decide +kernel)
theorem k_122_284 : OkOp mt Ev 122 284 (o_push (.int (3)) 1) := ok_iconst (n := 3) (by decide +kernel) (by decide +kernel)
theorem k_122_285 : OkOp mt Ev 122 285 (o_push (.int (0)) 1) := ok_iconst (n := 0) (by decide +kernel) (by decide +kernel)
theorem k_122_286 : OkOp mt Ev 122 286 (o_iast 2 (fun x => x)) := ok_iast (by decide +kernel)
theorem k_122_287 : OkOp mt Ev 122 287 (o_dup) := ok_dup (by decide +kernel)
theorem k_122_288 : OkOp mt Ev 122 288 (o_push (.int (4)) 1) := ok_iconst (n := 4) (by decide +kernel) (by decide +kernel)
theorem k_122_289 : OkOp mt Ev 122 289 (o_push (.int (20)) 2) := ok_bipush (n := 20) (by decide +kernel) (by decide +kernel)
theorem k_122_291 : OkOp mt Ev 122 291 (o_iast 2 (fun x => x)) := ok_iast (by decide +kernel)
theorem k_122_292 : OkOp mt Ev 122 292 (o_dup) := ok_dup (by decide +kernel)
theorem k_122_293 : OkOp mt Ev 122 293 (o_push (.int (5)) 1) := ok_iconst (n := 5) (by decide +kernel) (by decide +kernel)
theorem k_122_294 : OkOp mt Ev 122 294 (o_push (.int (0)) 1) := ok_iconst (n := 0) (by decide +kernel) (by decide +kernel)
theorem k_122_295 : OkOp mt Ev 122 295 (o_iast 2 (fun x => x)) := ok_iast (by decide +kernel)
theorem k_122_296 : OkOp mt Ev 122 296 (o_dup) := ok_dup (by decide +kernel)
theorem k_122_297 : OkOp mt Ev 122 297 (o_push (.int (6)) 2) := ok_bipush (n := 6) (by decide +kernel) (by decide +kernel)
theorem k_122_299 : OkOp mt Ev 122 299 (o_push (.int (30)) 2) := ok_bipush (n := 30) (by decide +kernel) (by decide +kernel)
theorem k_122_301 : OkOp mt Ev 122 301 (o_iast 2 (fun x => x)) := ok_iast (by decide +kernel)
theorem k_122_302 : OkOp mt Ev 122 302 (o_dup) := ok_dup (by decide +kernel)
theorem k_122_303 : OkOp mt Ev 122 303 (o_push (.int (7)) 2) := ok_bipush (n := 7) (by decide +kernel) (by decide +kernel)
theorem k_122_305 : OkOp mt Ev 122 305 (o_push (.int (0)) 1) := ok_iconst (n := 0) (by decide +kernel) (by decide +kernel)
theorem k_122_306 : OkOp mt Ev 122 306 (o_iast 2 (fun x => x)) := ok_iast (by decide +kernel)
theorem k_122_307 : OkOp mt Ev 122 307 (o_dup) := ok_dup (by decide +kernel)
theorem k_122_308 : OkOp mt Ev 122 308 (o_push (.int (8)) 2) := ok_bipush (n := 8) (by decide +kernel) (by decide +kernel)
theorem k_122_310 : OkOp mt Ev 122 310 (o_push (.int (0)) 1) := ok_iconst (n := 0) (by decide +kernel) (by decide +kernel)
theorem k_122_311 : OkOp mt Ev 122 311 (o_iast 2 (fun x => x)) := ok_iast (by decide +kernel)
theorem k_122_312 : OkOp mt Ev 122 312 (o_dup) := ok_dup (by decide +kernel)
theorem k_122_313 : OkOp mt Ev 122 313 (o_push (.int (9)) 2) := ok_bipush (n := 9) (by decide +kernel) (by decide +kernel)
theorem k_122_315 : OkOp mt Ev 122 315 (o_push (.int (0)) 1) := ok_iconst (n := 0) (by decide +kernel) (by decide +kernel)
theorem k_122_316 : OkOp mt Ev 122 316 (o_iast 2 (fun x => x)) := ok_iast (by decide +kernel)
theorem k_122_317 : OkOp mt Ev 122 317 (o_dup) := ok_dup (by decide +kernel)
theorem k_122_318 : OkOp mt Ev 122 318 (o_push (.int (10)) 2) := ok_bipush (n := 10) (by decide +kernel) (by decide +kernel)
theorem k_122_320 : OkOp mt Ev 122 320 (o_push (.int (0)) 1) := ok_iconst (n := 0) (by decide +kernel) (by decide +kernel)
theorem k_122_321 : OkOp mt Ev 122 321 (o_iast 2 (fun x => x)) := ok_iast (by decide +kernel)
theorem k_122_322 : OkOp mt Ev 122 322 (o_dup) := ok_dup (by decide +kernel)
theorem k_122_323 : OkOp mt Ev 122 323 (o_push (.int (11)) 2) := ok_bipush (n := 11) (by decide +kernel) (by decide +kernel)
theorem k_122_325 : OkOp mt Ev 122 325 (o_push (.int (40)) 2) := ok_bipush (n := 40) (by decide +kernel) (by decide +kernel)
theorem k_122_327 : OkOp mt Ev 122 327 (o_iast 2 (fun x => x)) := ok_iast (by decide +kernel)
theorem k_122_328 : OkOp mt Ev 122 328 (o_dup) := ok_dup (by decide +kernel)
theorem k_122_329 : OkOp mt Ev 122 329 (o_push (.int (12)) 2) := ok_bipush (n := 12) (by decide +kernel) (by decide +kernel)
theorem k_122_331 : OkOp mt Ev 122 331 (o_push (.int (50)) 2) := ok_bipush (n := 50) (by decide +kernel) (by decide +kernel)
theorem k_122_333 : OkOp mt Ev 122 333 (o_iast 2 (fun x => x)) := ok_iast (by decide +kernel)
theorem k_122_334 : OkOp mt Ev 122 334 (o_dup) := ok_dup (by decide +kernel)
theorem k_122_335 : OkOp mt Ev 122 335 (o_push (.int (13)) 2) := ok_bipush (n := 13) (by decide +kernel) (by decide +kernel)
theorem k_122_337 : OkOp mt Ev 122 337 (o_push (.int (51)) 2) := ok_bipush (n := 51) (by decide +kernel) (by decide +kernel)
theorem k_122_339 : OkOp mt Ev 122 339 (o_iast 2 (fun x => x)) := ok_iast (by decide +kernel)
theorem k_122_340 : OkOp mt Ev 122 340 (o_dup) := ok_dup (by decide +kernel)
theorem k_122_341 : OkOp mt Ev 122 341 (o_push (.int (14)) 2) := ok_bipush (n := 14) (by decide +kernel) (by decide +kernel)
theorem k_122_343 : OkOp mt Ev 122 343 (o_push (.int (0)) 1) := ok_iconst (n := 0) (by decide +kernel) (by decide +kernel)
theorem k_122_344 : OkOp mt Ev 122 344 (o_iast 2 (fun x => x)) := ok_iast (by decide +kernel)
theorem k_122_345 : OkOp mt Ev 122 345 (o_dup) := ok_dup (by decide +kernel)
theorem k_122_346 : OkOp mt Ev 122 346 (o_push (.int (15)) 2) := ok_bipush (n := 15) (by decide +kernel) (by decide +kernel)
theorem k_122_348 : OkOp mt Ev 122 348 (o_push (.int (0)) 1) := ok_iconst (n := 0) (by decide +kernel) (by decide +kernel)
theorem k_122_349 : OkOp mt Ev 122 349 (o_iast 2 (fun x => x)) := ok_iast (by decide +kernel)
theorem k_122_350 : OkOp mt Ev 122 350 (o_dup) := ok_dup (by decide +kernel)
theorem k_122_351 : OkOp mt Ev 122 351 (o_push (.int (16)) 2) := ok_bipush (n := 16) (by decide +kernel) (by decide +kernel)
theorem k_122_353 : OkOp mt Ev 122 353 (o_push (.int (0)) 1) := ok_iconst (n := 0) (by decide +kernel) (by decide +kernel)
theorem k_122_354 : OkOp mt Ev 122 354 (o_iast 2 (fun x => x)) := ok_iast (by decide +kernel)
theorem k_122_355 : OkOp mt Ev 122 355 (o_dup) := ok_dup (by decide +kernel)
theorem k_122_356 : OkOp mt Ev 122 356 (o_push (.int (17)) 2) := ok_bipush (n := 17) (by decide +kernel) (by decide +kernel)
theorem k_122_358 : OkOp mt Ev 122 358 (o_push (.int (60)) 2) := ok_bipush (n := 60) (by decide +kernel) (by decide +kernel)
theorem k_122_360 : OkOp mt Ev 122 360 (o_iast 2 (fun x => x)) := ok_iast (by decide +kernel)
theorem k_122_361 : OkOp mt Ev 122 361 (o_dup) := ok_dup (by decide +kernel)
theorem k_122_362 : OkOp mt Ev 122 362 (o_push (.int (18)) 2) := ok_bipush (n := 18) (by decide +kernel) (by decide +kernel)
theorem k_122_364 : OkOp mt Ev 122 364 (o_push (.int (71)) 2) := ok_bipush (n := 71) (by decide +kernel) (by decide +kernel)
theorem k_122_366 : OkOp mt Ev 122 366 (o_iast 2 (fun x => x)) := ok_iast (by decide +kernel)
theorem k_122_367 : OkOp mt Ev 122 367 (o_dup) := ok_dup (by decide +kernel)
theorem k_122_368 : OkOp mt Ev 122 368 (o_push (.int (19)) 2) := ok_bipush (n := 19) (by decide +kernel) (by decide +kernel)
theorem k_122_370 : OkOp mt Ev 122 370 (o_push (.int (70)) 2) := ok_bipush (n := 70) (by decide +kernel) (by decide +kernel)
theorem k_122_372 : OkOp mt Ev 122 372 (o_iast 2 (fun x => x)) := ok_iast (by decide +kernel)
theorem k_122_373 : OkOp mt Ev 122 373 (o_dup) := ok_dup (by decide +kernel)
theorem k_122_374 : OkOp mt Ev 122 374 (o_push (.int (20)) 2) := ok_bipush (n := 20) (by decide +kernel) (by decide +kernel)
theorem k_122_376 : OkOp mt Ev 122 376 (o_push (.int (0)) 1) := ok_iconst (n := 0) (by decide +kernel) (by decide +kernel)
theorem k_122_377 : OkOp mt Ev 122 377 (o_iast 2 (fun x => x)) := ok_iast (by decide +kernel)
theorem k_122_378 : OkOp mt Ev 122 378 (o_putf 22 [12] 2) := ok_putf (i := 56) (rf := "BridgeSentencesModel") (nm := "bodies") (ds := "[I") (ty := (.array .int)) (fin := true) (by decide +kernel) fc_60 wd_1007 (tc_12) ff_64 (by decide) (by decide +kernel) (ov_arr .int)
theorem k_122_381 : OkOp mt Ev 122 381 (o_aload 0 1) := ok_aload_n (k := 0) (by decide +kernel) rfl
theorem k_122_382 : OkOp mt Ev 122 382 (o_push (.int (20)) 2) := ok_bipush (n := 20) (by decide +kernel) (by decide +kernel)
theorem k_122_384 : OkOp mt Ev 122 384 (o_newa 2 (.inl (fun _ => 0)) 2) := ok_newa (at_ := .int) (by decide +kernel) (by decide) rfl (fun _ _ => rfl) (by decide) wd_118
theorem k_122_386 : OkOp mt Ev 122 386 (o_putf 23 [12] 2) := ok_putf (i := 59) (rf := "BridgeSentencesModel") (nm := "trace") (ds := "[I") (ty := (.array .int)) (fin := true) (by decide +kernel) fc_61 wd_1008 (tc_12) ff_65 (by decide) (by decide +kernel) (ov_arr .int)
theorem k_122_389 : OkOp mt Ev 122 389 (o_aload 0 1) := ok_aload_n (k := 0) (by decide +kernel) rfl
theorem k_122_390 : OkOp mt Ev 122 390 (o_push (.int (6)) 2) := ok_bipush (n := 6) (by decide +kernel) (by decide +kernel)
theorem k_122_392 : OkOp mt Ev 122 392 (o_newa 2 (.inl (fun _ => 0)) 2) := ok_newa (at_ := .int) (by decide +kernel) (by decide) rfl (fun _ _ => rfl) (by decide) wd_118
theorem k_122_394 : OkOp mt Ev 122 394 (o_dup) := ok_dup (by decide +kernel)
theorem k_122_395 : OkOp mt Ev 122 395 (o_push (.int (0)) 1) := ok_iconst (n := 0) (by decide +kernel) (by decide +kernel)
theorem k_122_396 : OkOp mt Ev 122 396 (o_push (.int (-1)) 1) := ok_iconst (n := -1) (by decide +kernel) (by decide +kernel)
theorem k_122_397 : OkOp mt Ev 122 397 (o_iast 2 (fun x => x)) := ok_iast (by decide +kernel)
theorem k_122_398 : OkOp mt Ev 122 398 (o_dup) := ok_dup (by decide +kernel)
theorem k_122_399 : OkOp mt Ev 122 399 (o_push (.int (1)) 1) := ok_iconst (n := 1) (by decide +kernel) (by decide +kernel)
theorem k_122_400 : OkOp mt Ev 122 400 (o_push (.int (-1)) 1) := ok_iconst (n := -1) (by decide +kernel) (by decide +kernel)
theorem k_122_401 : OkOp mt Ev 122 401 (o_iast 2 (fun x => x)) := ok_iast (by decide +kernel)
theorem k_122_402 : OkOp mt Ev 122 402 (o_dup) := ok_dup (by decide +kernel)
theorem k_122_403 : OkOp mt Ev 122 403 (o_push (.int (2)) 1) := ok_iconst (n := 2) (by decide +kernel) (by decide +kernel)
theorem k_122_404 : OkOp mt Ev 122 404 (o_push (.int (-1)) 1) := ok_iconst (n := -1) (by decide +kernel) (by decide +kernel)
theorem k_122_405 : OkOp mt Ev 122 405 (o_iast 2 (fun x => x)) := ok_iast (by decide +kernel)
theorem k_122_406 : OkOp mt Ev 122 406 (o_dup) := ok_dup (by decide +kernel)
theorem k_122_407 : OkOp mt Ev 122 407 (o_push (.int (3)) 1) := ok_iconst (n := 3) (by decide +kernel) (by decide +kernel)
theorem k_122_408 : OkOp mt Ev 122 408 (o_push (.int (-1)) 1) := ok_iconst (n := -1) (by decide +kernel) (by decide +kernel)
theorem k_122_409 : OkOp mt Ev 122 409 (o_iast 2 (fun x => x)) := ok_iast (by decide +kernel)
theorem k_122_410 : OkOp mt Ev 122 410 (o_dup) := ok_dup (by decide +kernel)
theorem k_122_411 : OkOp mt Ev 122 411 (o_push (.int (4)) 1) := ok_iconst (n := 4) (by decide +kernel) (by decide +kernel)
theorem k_122_412 : OkOp mt Ev 122 412 (o_push (.int (-1)) 1) := ok_iconst (n := -1) (by decide +kernel) (by decide +kernel)
theorem k_122_413 : OkOp mt Ev 122 413 (o_iast 2 (fun x => x)) := ok_iast (by decide +kernel)
theorem k_122_414 : OkOp mt Ev 122 414 (o_dup) := ok_dup (by decide +kernel)
theorem k_122_415 : OkOp mt Ev 122 415 (o_push (.int (5)) 1) := ok_iconst (n := 5) (by decide +kernel) (by decide +kernel)
theorem k_122_416 : OkOp mt Ev 122 416 (o_push (.int (-1)) 1) := ok_iconst (n := -1) (by decide +kernel) (by decide +kernel)
theorem k_122_417 : OkOp mt Ev 122 417 (o_iast 2 (fun x => x)) := ok_iast (by decide +kernel)
theorem k_122_418 : OkOp mt Ev 122 418 (o_putf 25 [12] 2) := ok_putf (i := 62) (rf := "BridgeSentencesModel") (nm := "sorts") (ds := "[I") (ty := (.array .int)) (fin := true) (by decide +kernel) fc_62 wd_1010 (tc_12) ff_66 (by decide) (by decide +kernel) (ov_arr .int)
theorem k_122_421 : OkOp mt Ev 122 421 (o_aload 0 1) := ok_aload_n (k := 0) (by decide +kernel) rfl
theorem k_122_422 : OkOp mt Ev 122 422 (o_push (.int (6)) 2) := ok_bipush (n := 6) (by decide +kernel) (by decide +kernel)
theorem k_122_424 : OkOp mt Ev 122 424 (o_newa 2 (.inl (fun _ => 0)) 2) := ok_newa (at_ := .int) (by decide +kernel) (by decide) rfl (fun _ _ => rfl) (by decide) wd_118
theorem k_122_426 : OkOp mt Ev 122 426 (o_putf 26 [12] 2) := ok_putf (i := 65) (rf := "BridgeSentencesModel") (nm := "lengths") (ds := "[I") (ty := (.array .int)) (fin := true) (by decide +kernel) fc_63 wd_1011 (tc_12) ff_67 (by decide) (by decide +kernel) (ov_arr .int)
theorem k_122_429 : OkOp mt Ev 122 429 (o_aload 0 1) := ok_aload_n (k := 0) (by decide +kernel) rfl
theorem k_122_430 : OkOp mt Ev 122 430 (o_push (.int (360)) 3) := ok_sipush (n := 360) (by decide +kernel) (by decide +kernel)
theorem k_122_433 : OkOp mt Ev 122 433 (o_newa 3 (.inr (.inl (fun _ => 0))) 2) := ok_newa (at_ := .long) (by decide +kernel) (by decide) rfl (fun _ _ => rfl) (by decide) wd_249
theorem k_122_435 : OkOp mt Ev 122 435 (o_putf 27 [12] 2) := ok_putf (i := 68) (rf := "BridgeSentencesModel") (nm := "items") (ds := "[J") (ty := (.array .long)) (fin := true) (by decide +kernel) fc_64 wd_1012 (tc_12) ff_68 (by decide) (by decide +kernel) (ov_arr .long)
theorem k_122_438 : OkOp mt Ev 122 438 (o_aload 0 1) := ok_aload_n (k := 0) (by decide +kernel) rfl
theorem k_122_439 : OkOp mt Ev 122 439 (o_push (.int (60)) 2) := ok_bipush (n := 60) (by decide +kernel) (by decide +kernel)
theorem k_122_441 : OkOp mt Ev 122 441 (o_newa 3 (.inr (.inl (fun _ => 0))) 2) := ok_newa (at_ := .long) (by decide +kernel) (by decide) rfl (fun _ _ => rfl) (by decide) wd_249
theorem k_122_443 : OkOp mt Ev 122 443 (o_putf 28 [12] 2) := ok_putf (i := 72) (rf := "BridgeSentencesModel") (nm := "moved") (ds := "[J") (ty := (.array .long)) (fin := true) (by decide +kernel) fc_65 wd_1013 (tc_12) ff_69 (by decide) (by decide +kernel) (ov_arr .long)
theorem k_122_446 : OkOp mt Ev 122 446 (o_retv) := ok_retv (by decide +kernel) rfl
theorem kt_122 : ∀ pc o, cd_X12_init Ev pc = some o → OkOp mt Ev 122 pc o ∧ Gw o := (tN_ok (tN_ok (tN_ok (tN_ok (tN_ok (tN_ok (tN_ok (tN_ok (tL_ok ⟨k_122_0, gw_aload⟩) (tL_ok ⟨k_122_1, gw_oi⟩)) (tN_ok (tL_ok ⟨k_122_4, gw_aload⟩) (tL_ok ⟨k_122_5, gw_cs⟩))) (tN_ok (tN_ok (tL_ok ⟨k_122_8, gw_putf⟩) (tL_ok ⟨k_122_11, gw_aload⟩)) (tN_ok (tL_ok ⟨k_122_12, gw_push⟩) (tN_ok (tL_ok ⟨k_122_14, gw_newa⟩) (tL_ok ⟨k_122_16, gw_putf⟩))))) (tN_ok (tN_ok (tN_ok (tL_ok ⟨k_122_19, gw_aload⟩) (tL_ok ⟨k_122_20, gw_push⟩)) (tN_ok (tL_ok ⟨k_122_22, gw_newa⟩) (tN_ok (tL_ok ⟨k_122_24, gw_putf⟩) (tL_ok ⟨k_122_27, gw_aload⟩)))) (tN_ok (tN_ok (tL_ok ⟨k_122_28, gw_push⟩) (tL_ok ⟨k_122_30, gw_newa⟩)) (tN_ok (tL_ok ⟨k_122_32, gw_putf⟩) (tN_ok (tL_ok ⟨k_122_35, gw_aload⟩) (tL_ok ⟨k_122_36, gw_push⟩)))))) (tN_ok (tN_ok (tN_ok (tN_ok (tL_ok ⟨k_122_39, gw_newa⟩) (tL_ok ⟨k_122_41, gw_putf⟩)) (tN_ok (tL_ok ⟨k_122_44, gw_aload⟩) (tL_ok ⟨k_122_45, gw_push⟩))) (tN_ok (tN_ok (tL_ok ⟨k_122_47, gw_newa⟩) (tL_ok ⟨k_122_49, gw_putf⟩)) (tN_ok (tL_ok ⟨k_122_52, gw_aload⟩) (tN_ok (tL_ok ⟨k_122_53, gw_push⟩) (tL_ok ⟨k_122_55, gw_newa⟩))))) (tN_ok (tN_ok (tN_ok (tL_ok ⟨k_122_57, gw_putf⟩) (tL_ok ⟨k_122_60, gw_aload⟩)) (tN_ok (tL_ok ⟨k_122_61, gw_push⟩) (tN_ok (tL_ok ⟨k_122_63, gw_newa⟩) (tL_ok ⟨k_122_65, gw_putf⟩)))) (tN_ok (tN_ok (tL_ok ⟨k_122_68, gw_aload⟩) (tL_ok ⟨k_122_69, gw_push⟩)) (tN_ok (tL_ok ⟨k_122_71, gw_newa⟩) (tN_ok (tL_ok ⟨k_122_73, gw_dup⟩) (tL_ok ⟨k_122_74, gw_push⟩))))))) (tN_ok (tN_ok (tN_ok (tN_ok (tN_ok (tL_ok ⟨k_122_75, gw_push⟩) (tL_ok ⟨k_122_77, gw_iast⟩)) (tN_ok (tL_ok ⟨k_122_78, gw_dup⟩) (tL_ok ⟨k_122_79, gw_push⟩))) (tN_ok (tN_ok (tL_ok ⟨k_122_80, gw_push⟩) (tL_ok ⟨k_122_82, gw_iast⟩)) (tN_ok (tL_ok ⟨k_122_83, gw_dup⟩) (tN_ok (tL_ok ⟨k_122_84, gw_push⟩) (tL_ok ⟨k_122_85, gw_push⟩))))) (tN_ok (tN_ok (tN_ok (tL_ok ⟨k_122_87, gw_iast⟩) (tL_ok ⟨k_122_88, gw_dup⟩)) (tN_ok (tL_ok ⟨k_122_89, gw_push⟩) (tN_ok (tL_ok ⟨k_122_90, gw_push⟩) (tL_ok ⟨k_122_92, gw_iast⟩)))) (tN_ok (tN_ok (tL_ok ⟨k_122_93, gw_dup⟩) (tL_ok ⟨k_122_94, gw_push⟩)) (tN_ok (tL_ok ⟨k_122_95, gw_push⟩) (tN_ok (tL_ok ⟨k_122_97, gw_iast⟩) (tL_ok ⟨k_122_98, gw_dup⟩)))))) (tN_ok (tN_ok (tN_ok (tN_ok (tL_ok ⟨k_122_99, gw_push⟩) (tL_ok ⟨k_122_100, gw_push⟩)) (tN_ok (tL_ok ⟨k_122_102, gw_iast⟩) (tN_ok (tL_ok ⟨k_122_103, gw_putf⟩) (tL_ok ⟨k_122_106, gw_aload⟩)))) (tN_ok (tN_ok (tL_ok ⟨k_122_107, gw_push⟩) (tL_ok ⟨k_122_108, gw_newa⟩)) (tN_ok (tL_ok ⟨k_122_110, gw_dup⟩) (tN_ok (tL_ok ⟨k_122_111, gw_push⟩) (tL_ok ⟨k_122_112, gw_push⟩))))) (tN_ok (tN_ok (tN_ok (tL_ok ⟨k_122_114, gw_iast⟩) (tL_ok ⟨k_122_115, gw_dup⟩)) (tN_ok (tL_ok ⟨k_122_116, gw_push⟩) (tN_ok (tL_ok ⟨k_122_117, gw_push⟩) (tL_ok ⟨k_122_119, gw_iast⟩)))) (tN_ok (tN_ok (tL_ok ⟨k_122_120, gw_dup⟩) (tL_ok ⟨k_122_121, gw_push⟩)) (tN_ok (tL_ok ⟨k_122_122, gw_push⟩) (tN_ok (tL_ok ⟨k_122_124, gw_iast⟩) (tL_ok ⟨k_122_125, gw_putf⟩)))))))) (tN_ok (tN_ok (tN_ok (tN_ok (tN_ok (tN_ok (tL_ok ⟨k_122_128, gw_aload⟩) (tL_ok ⟨k_122_129, gw_push⟩)) (tN_ok (tL_ok ⟨k_122_131, gw_newa⟩) (tL_ok ⟨k_122_133, gw_dup⟩))) (tN_ok (tN_ok (tL_ok ⟨k_122_134, gw_push⟩) (tL_ok ⟨k_122_135, gw_push⟩)) (tN_ok (tL_ok ⟨k_122_137, gw_iast⟩) (tN_ok (tL_ok ⟨k_122_138, gw_dup⟩) (tL_ok ⟨k_122_139, gw_push⟩))))) (tN_ok (tN_ok (tN_ok (tL_ok ⟨k_122_140, gw_push⟩) (tL_ok ⟨k_122_142, gw_iast⟩)) (tN_ok (tL_ok ⟨k_122_143, gw_dup⟩) (tN_ok (tL_ok ⟨k_122_144, gw_push⟩) (tL_ok ⟨k_122_145, gw_push⟩)))) (tN_ok (tN_ok (tL_ok ⟨k_122_147, gw_iast⟩) (tL_ok ⟨k_122_148, gw_dup⟩)) (tN_ok (tL_ok ⟨k_122_149, gw_push⟩) (tN_ok (tL_ok ⟨k_122_150, gw_push⟩) (tL_ok ⟨k_122_152, gw_iast⟩)))))) (tN_ok (tN_ok (tN_ok (tN_ok (tL_ok ⟨k_122_153, gw_dup⟩) (tL_ok ⟨k_122_154, gw_push⟩)) (tN_ok (tL_ok ⟨k_122_155, gw_push⟩) (tN_ok (tL_ok ⟨k_122_157, gw_iast⟩) (tL_ok ⟨k_122_158, gw_dup⟩)))) (tN_ok (tN_ok (tL_ok ⟨k_122_159, gw_push⟩) (tL_ok ⟨k_122_160, gw_push⟩)) (tN_ok (tL_ok ⟨k_122_162, gw_iast⟩) (tN_ok (tL_ok ⟨k_122_163, gw_dup⟩) (tL_ok ⟨k_122_164, gw_push⟩))))) (tN_ok (tN_ok (tN_ok (tL_ok ⟨k_122_166, gw_push⟩) (tL_ok ⟨k_122_168, gw_iast⟩)) (tN_ok (tL_ok ⟨k_122_169, gw_dup⟩) (tN_ok (tL_ok ⟨k_122_170, gw_push⟩) (tL_ok ⟨k_122_172, gw_push⟩)))) (tN_ok (tN_ok (tL_ok ⟨k_122_174, gw_iast⟩) (tL_ok ⟨k_122_175, gw_dup⟩)) (tN_ok (tL_ok ⟨k_122_176, gw_push⟩) (tN_ok (tL_ok ⟨k_122_178, gw_push⟩) (tL_ok ⟨k_122_180, gw_iast⟩))))))) (tN_ok (tN_ok (tN_ok (tN_ok (tN_ok (tL_ok ⟨k_122_181, gw_dup⟩) (tL_ok ⟨k_122_182, gw_push⟩)) (tN_ok (tL_ok ⟨k_122_184, gw_push⟩) (tL_ok ⟨k_122_185, gw_iast⟩))) (tN_ok (tN_ok (tL_ok ⟨k_122_186, gw_dup⟩) (tL_ok ⟨k_122_187, gw_push⟩)) (tN_ok (tL_ok ⟨k_122_189, gw_push⟩) (tN_ok (tL_ok ⟨k_122_191, gw_iast⟩) (tL_ok ⟨k_122_192, gw_dup⟩))))) (tN_ok (tN_ok (tN_ok (tL_ok ⟨k_122_193, gw_push⟩) (tL_ok ⟨k_122_195, gw_push⟩)) (tN_ok (tL_ok ⟨k_122_197, gw_iast⟩) (tN_ok (tL_ok ⟨k_122_198, gw_dup⟩) (tL_ok ⟨k_122_199, gw_push⟩)))) (tN_ok (tN_ok (tL_ok ⟨k_122_201, gw_push⟩) (tL_ok ⟨k_122_203, gw_iast⟩)) (tN_ok (tL_ok ⟨k_122_204, gw_dup⟩) (tN_ok (tL_ok ⟨k_122_205, gw_push⟩) (tL_ok ⟨k_122_207, gw_push⟩)))))) (tN_ok (tN_ok (tN_ok (tN_ok (tL_ok ⟨k_122_209, gw_iast⟩) (tL_ok ⟨k_122_210, gw_dup⟩)) (tN_ok (tL_ok ⟨k_122_211, gw_push⟩) (tN_ok (tL_ok ⟨k_122_213, gw_push⟩) (tL_ok ⟨k_122_214, gw_iast⟩)))) (tN_ok (tN_ok (tL_ok ⟨k_122_215, gw_putf⟩) (tL_ok ⟨k_122_218, gw_aload⟩)) (tN_ok (tL_ok ⟨k_122_219, gw_push⟩) (tN_ok (tL_ok ⟨k_122_221, gw_newa⟩) (tL_ok ⟨k_122_223, gw_putf⟩))))) (tN_ok (tN_ok (tN_ok (tL_ok ⟨k_122_226, gw_aload⟩) (tL_ok ⟨k_122_227, gw_push⟩)) (tN_ok (tL_ok ⟨k_122_229, gw_newa⟩) (tN_ok (tL_ok ⟨k_122_231, gw_dup⟩) (tL_ok ⟨k_122_232, gw_push⟩)))) (tN_ok (tN_ok (tL_ok ⟨k_122_233, gw_push⟩) (tL_ok ⟨k_122_234, gw_iast⟩)) (tN_ok (tL_ok ⟨k_122_235, gw_dup⟩) (tN_ok (tL_ok ⟨k_122_236, gw_push⟩) (tL_ok ⟨k_122_237, gw_push⟩))))))))) (tN_ok (tN_ok (tN_ok (tN_ok (tN_ok (tN_ok (tN_ok (tL_ok ⟨k_122_238, gw_iast⟩) (tL_ok ⟨k_122_239, gw_dup⟩)) (tN_ok (tL_ok ⟨k_122_240, gw_push⟩) (tL_ok ⟨k_122_241, gw_push⟩))) (tN_ok (tN_ok (tL_ok ⟨k_122_242, gw_iast⟩) (tL_ok ⟨k_122_243, gw_dup⟩)) (tN_ok (tL_ok ⟨k_122_244, gw_push⟩) (tN_ok (tL_ok ⟨k_122_245, gw_push⟩) (tL_ok ⟨k_122_246, gw_iast⟩))))) (tN_ok (tN_ok (tN_ok (tL_ok ⟨k_122_247, gw_dup⟩) (tL_ok ⟨k_122_248, gw_push⟩)) (tN_ok (tL_ok ⟨k_122_249, gw_push⟩) (tN_ok (tL_ok ⟨k_122_250, gw_iast⟩) (tL_ok ⟨k_122_251, gw_dup⟩)))) (tN_ok (tN_ok (tL_ok ⟨k_122_252, gw_push⟩) (tL_ok ⟨k_122_253, gw_push⟩)) (tN_ok (tL_ok ⟨k_122_254, gw_iast⟩) (tN_ok (tL_ok ⟨k_122_255, gw_dup⟩) (tL_ok ⟨k_122_256, gw_push⟩)))))) (tN_ok (tN_ok (tN_ok (tN_ok (tL_ok ⟨k_122_258, gw_push⟩) (tL_ok ⟨k_122_259, gw_iast⟩)) (tN_ok (tL_ok ⟨k_122_260, gw_putf⟩) (tL_ok ⟨k_122_263, gw_aload⟩))) (tN_ok (tN_ok (tL_ok ⟨k_122_264, gw_push⟩) (tL_ok ⟨k_122_266, gw_newa⟩)) (tN_ok (tL_ok ⟨k_122_268, gw_dup⟩) (tN_ok (tL_ok ⟨k_122_269, gw_push⟩) (tL_ok ⟨k_122_270, gw_push⟩))))) (tN_ok (tN_ok (tN_ok (tL_ok ⟨k_122_272, gw_iast⟩) (tL_ok ⟨k_122_273, gw_dup⟩)) (tN_ok (tL_ok ⟨k_122_274, gw_push⟩) (tN_ok (tL_ok ⟨k_122_275, gw_push⟩) (tL_ok ⟨k_122_277, gw_iast⟩)))) (tN_ok (tN_ok (tL_ok ⟨k_122_278, gw_dup⟩) (tL_ok ⟨k_122_279, gw_push⟩)) (tN_ok (tL_ok ⟨k_122_280, gw_push⟩) (tN_ok (tL_ok ⟨k_122_282, gw_iast⟩) (tL_ok ⟨k_122_283, gw_dup⟩))))))) (tN_ok (tN_ok (tN_ok (tN_ok (tN_ok (tL_ok ⟨k_122_284, gw_push⟩) (tL_ok ⟨k_122_285, gw_push⟩)) (tN_ok (tL_ok ⟨k_122_286, gw_iast⟩) (tL_ok ⟨k_122_287, gw_dup⟩))) (tN_ok (tN_ok (tL_ok ⟨k_122_288, gw_push⟩) (tL_ok ⟨k_122_289, gw_push⟩)) (tN_ok (tL_ok ⟨k_122_291, gw_iast⟩) (tN_ok (tL_ok ⟨k_122_292, gw_dup⟩) (tL_ok ⟨k_122_293, gw_push⟩))))) (tN_ok (tN_ok (tN_ok (tL_ok ⟨k_122_294, gw_push⟩) (tL_ok ⟨k_122_295, gw_iast⟩)) (tN_ok (tL_ok ⟨k_122_296, gw_dup⟩) (tN_ok (tL_ok ⟨k_122_297, gw_push⟩) (tL_ok ⟨k_122_299, gw_push⟩)))) (tN_ok (tN_ok (tL_ok ⟨k_122_301, gw_iast⟩) (tL_ok ⟨k_122_302, gw_dup⟩)) (tN_ok (tL_ok ⟨k_122_303, gw_push⟩) (tN_ok (tL_ok ⟨k_122_305, gw_push⟩) (tL_ok ⟨k_122_306, gw_iast⟩)))))) (tN_ok (tN_ok (tN_ok (tN_ok (tL_ok ⟨k_122_307, gw_dup⟩) (tL_ok ⟨k_122_308, gw_push⟩)) (tN_ok (tL_ok ⟨k_122_310, gw_push⟩) (tN_ok (tL_ok ⟨k_122_311, gw_iast⟩) (tL_ok ⟨k_122_312, gw_dup⟩)))) (tN_ok (tN_ok (tL_ok ⟨k_122_313, gw_push⟩) (tL_ok ⟨k_122_315, gw_push⟩)) (tN_ok (tL_ok ⟨k_122_316, gw_iast⟩) (tN_ok (tL_ok ⟨k_122_317, gw_dup⟩) (tL_ok ⟨k_122_318, gw_push⟩))))) (tN_ok (tN_ok (tN_ok (tL_ok ⟨k_122_320, gw_push⟩) (tL_ok ⟨k_122_321, gw_iast⟩)) (tN_ok (tL_ok ⟨k_122_322, gw_dup⟩) (tN_ok (tL_ok ⟨k_122_323, gw_push⟩) (tL_ok ⟨k_122_325, gw_push⟩)))) (tN_ok (tN_ok (tL_ok ⟨k_122_327, gw_iast⟩) (tL_ok ⟨k_122_328, gw_dup⟩)) (tN_ok (tL_ok ⟨k_122_329, gw_push⟩) (tN_ok (tL_ok ⟨k_122_331, gw_push⟩) (tL_ok ⟨k_122_333, gw_iast⟩)))))))) (tN_ok (tN_ok (tN_ok (tN_ok (tN_ok (tN_ok (tL_ok ⟨k_122_334, gw_dup⟩) (tL_ok ⟨k_122_335, gw_push⟩)) (tN_ok (tL_ok ⟨k_122_337, gw_push⟩) (tL_ok ⟨k_122_339, gw_iast⟩))) (tN_ok (tN_ok (tL_ok ⟨k_122_340, gw_dup⟩) (tL_ok ⟨k_122_341, gw_push⟩)) (tN_ok (tL_ok ⟨k_122_343, gw_push⟩) (tN_ok (tL_ok ⟨k_122_344, gw_iast⟩) (tL_ok ⟨k_122_345, gw_dup⟩))))) (tN_ok (tN_ok (tN_ok (tL_ok ⟨k_122_346, gw_push⟩) (tL_ok ⟨k_122_348, gw_push⟩)) (tN_ok (tL_ok ⟨k_122_349, gw_iast⟩) (tN_ok (tL_ok ⟨k_122_350, gw_dup⟩) (tL_ok ⟨k_122_351, gw_push⟩)))) (tN_ok (tN_ok (tL_ok ⟨k_122_353, gw_push⟩) (tL_ok ⟨k_122_354, gw_iast⟩)) (tN_ok (tL_ok ⟨k_122_355, gw_dup⟩) (tN_ok (tL_ok ⟨k_122_356, gw_push⟩) (tL_ok ⟨k_122_358, gw_push⟩)))))) (tN_ok (tN_ok (tN_ok (tN_ok (tL_ok ⟨k_122_360, gw_iast⟩) (tL_ok ⟨k_122_361, gw_dup⟩)) (tN_ok (tL_ok ⟨k_122_362, gw_push⟩) (tN_ok (tL_ok ⟨k_122_364, gw_push⟩) (tL_ok ⟨k_122_366, gw_iast⟩)))) (tN_ok (tN_ok (tL_ok ⟨k_122_367, gw_dup⟩) (tL_ok ⟨k_122_368, gw_push⟩)) (tN_ok (tL_ok ⟨k_122_370, gw_push⟩) (tN_ok (tL_ok ⟨k_122_372, gw_iast⟩) (tL_ok ⟨k_122_373, gw_dup⟩))))) (tN_ok (tN_ok (tN_ok (tL_ok ⟨k_122_374, gw_push⟩) (tL_ok ⟨k_122_376, gw_push⟩)) (tN_ok (tL_ok ⟨k_122_377, gw_iast⟩) (tN_ok (tL_ok ⟨k_122_378, gw_putf⟩) (tL_ok ⟨k_122_381, gw_aload⟩)))) (tN_ok (tN_ok (tL_ok ⟨k_122_382, gw_push⟩) (tL_ok ⟨k_122_384, gw_newa⟩)) (tN_ok (tL_ok ⟨k_122_386, gw_putf⟩) (tN_ok (tL_ok ⟨k_122_389, gw_aload⟩) (tL_ok ⟨k_122_390, gw_push⟩))))))) (tN_ok (tN_ok (tN_ok (tN_ok (tN_ok (tL_ok ⟨k_122_392, gw_newa⟩) (tL_ok ⟨k_122_394, gw_dup⟩)) (tN_ok (tL_ok ⟨k_122_395, gw_push⟩) (tL_ok ⟨k_122_396, gw_push⟩))) (tN_ok (tN_ok (tL_ok ⟨k_122_397, gw_iast⟩) (tL_ok ⟨k_122_398, gw_dup⟩)) (tN_ok (tL_ok ⟨k_122_399, gw_push⟩) (tN_ok (tL_ok ⟨k_122_400, gw_push⟩) (tL_ok ⟨k_122_401, gw_iast⟩))))) (tN_ok (tN_ok (tN_ok (tL_ok ⟨k_122_402, gw_dup⟩) (tL_ok ⟨k_122_403, gw_push⟩)) (tN_ok (tL_ok ⟨k_122_404, gw_push⟩) (tN_ok (tL_ok ⟨k_122_405, gw_iast⟩) (tL_ok ⟨k_122_406, gw_dup⟩)))) (tN_ok (tN_ok (tL_ok ⟨k_122_407, gw_push⟩) (tL_ok ⟨k_122_408, gw_push⟩)) (tN_ok (tL_ok ⟨k_122_409, gw_iast⟩) (tN_ok (tL_ok ⟨k_122_410, gw_dup⟩) (tL_ok ⟨k_122_411, gw_push⟩)))))) (tN_ok (tN_ok (tN_ok (tN_ok (tL_ok ⟨k_122_412, gw_push⟩) (tL_ok ⟨k_122_413, gw_iast⟩)) (tN_ok (tL_ok ⟨k_122_414, gw_dup⟩) (tN_ok (tL_ok ⟨k_122_415, gw_push⟩) (tL_ok ⟨k_122_416, gw_push⟩)))) (tN_ok (tN_ok (tL_ok ⟨k_122_417, gw_iast⟩) (tL_ok ⟨k_122_418, gw_putf⟩)) (tN_ok (tL_ok ⟨k_122_421, gw_aload⟩) (tN_ok (tL_ok ⟨k_122_422, gw_push⟩) (tL_ok ⟨k_122_424, gw_newa⟩))))) (tN_ok (tN_ok (tN_ok (tL_ok ⟨k_122_426, gw_putf⟩) (tL_ok ⟨k_122_429, gw_aload⟩)) (tN_ok (tL_ok ⟨k_122_430, gw_push⟩) (tN_ok (tL_ok ⟨k_122_433, gw_newa⟩) (tL_ok ⟨k_122_435, gw_putf⟩)))) (tN_ok (tN_ok (tL_ok ⟨k_122_438, gw_aload⟩) (tL_ok ⟨k_122_439, gw_push⟩)) (tN_ok (tL_ok ⟨k_122_441, gw_newa⟩) (tN_ok (tL_ok ⟨k_122_443, gw_putf⟩) (tL_ok ⟨k_122_446, gw_retv⟩))))))))))
theorem k_123_0 : OkOp mt Ev 123 0 (o_iload 0 1) := ok_iload_n (k := 0) (by decide +kernel) rfl
theorem k_123_1 : OkOp mt Ev 123 1 (o_iload 1 1) := ok_iload_n (k := 1) (by decide +kernel) rfl
theorem k_123_2 : OkOp mt Ev 123 2 (o_if2 (fun x y => decide (x < y)) 14) := ok_icmp_lt (off := 12) (by decide +kernel) (by decide +kernel)
theorem k_123_5 : OkOp mt Ev 123 5 (o_iload 0 1) := ok_iload_n (k := 0) (by decide +kernel) rfl
theorem k_123_6 : OkOp mt Ev 123 6 (o_iload 2 1) := ok_iload_n (k := 2) (by decide +kernel) rfl
theorem k_123_7 : OkOp mt Ev 123 7 (o_if2 (fun x y => decide (y < x)) 14) := ok_icmp_gt (off := 7) (by decide +kernel) (by decide +kernel)
theorem k_123_10 : OkOp mt Ev 123 10 (o_push (.int (1)) 1) := ok_iconst (n := 1) (by decide +kernel) (by decide +kernel)
theorem k_123_11 : OkOp mt Ev 123 11 (o_goto 15) := ok_goto (off := 4) (by decide +kernel) (by decide +kernel)
theorem k_123_14 : OkOp mt Ev 123 14 (o_push (.int (0)) 1) := ok_iconst (n := 0) (by decide +kernel) (by decide +kernel)
theorem k_123_15 : OkOp mt Ev 123 15 (o_ret 1) := ok_reti (ty := .boolean) (by decide +kernel) rfl (Or.inr (Or.inl ⟨rfl, rfl⟩))
theorem kt_123 : ∀ pc o, cd_X12_isIn Ev pc = some o → OkOp mt Ev 123 pc o ∧ Gw o := (tN_ok (tN_ok (tN_ok (tL_ok ⟨k_123_0, gw_iload⟩) (tL_ok ⟨k_123_1, gw_iload⟩)) (tN_ok (tL_ok ⟨k_123_2, gw_if2⟩) (tN_ok (tL_ok ⟨k_123_5, gw_iload⟩) (tL_ok ⟨k_123_6, gw_iload⟩)))) (tN_ok (tN_ok (tL_ok ⟨k_123_7, gw_if2⟩) (tL_ok ⟨k_123_10, gw_push⟩)) (tN_ok (tL_ok ⟨k_123_11, gw_goto⟩) (tN_ok (tL_ok ⟨k_123_14, gw_push⟩) (tL_ok ⟨k_123_15, gw_ret⟩)))))
theorem k_124_0 : OkOp mt Ev 124 0 (o_push (.int (120)) 2) := ok_bipush (n := 120) (by decide +kernel) (by decide +kernel)
theorem k_124_2 : OkOp mt Ev 124 2 (o_newa 2 (.inl (fun _ => 0)) 2) := ok_newa (at_ := .int) (by decide +kernel) (by decide) rfl (fun _ _ => rfl) (by decide) wd_118
theorem k_124_4 : OkOp mt Ev 124 4 (o_astore 0 1) := ok_astore_n (k := 0) (by decide +kernel) rfl
theorem k_124_5 : OkOp mt Ev 124 5 (o_push (.int (0)) 1) := ok_iconst (n := 0) (by decide +kernel) (by decide +kernel)
theorem k_124_6 : OkOp mt Ev 124 6 (o_istore 1 1) := ok_istore_n (k := 1) (by decide +kernel) rfl
theorem k_124_7 : OkOp mt Ev 124 7 (o_iload 1 1) := ok_iload_n (k := 1) (by decide +kernel) rfl
theorem k_124_8 : OkOp mt Ev 124 8 (o_push (.int (12)) 2) := ok_bipush (n := 12) (by decide +kernel) (by decide +kernel)
theorem k_124_10 : OkOp mt Ev 124 10 (o_if2 (fun x y => decide (y ≤ x)) 24) := ok_icmp_ge (off := 14) (by decide +kernel) (by decide +kernel)
theorem k_124_13 : OkOp mt Ev 124 13 (o_aload 0 1) := ok_aload_n (k := 0) (by decide +kernel) rfl
theorem k_124_14 : OkOp mt Ev 124 14 (o_iload 1 1) := ok_iload_n (k := 1) (by decide +kernel) rfl
theorem k_124_15 : OkOp mt Ev 124 15 (o_push (.int (10)) 2) := ok_bipush (n := 10) (by decide +kernel) (by decide +kernel)
theorem k_124_17 : OkOp mt Ev 124 17 (o_iast 2 (fun x => x)) := ok_iast (by decide +kernel)
theorem k_124_18 : OkOp mt Ev 124 18 (o_iinc 1 (1)) := ok_iinc (n := 1) (by decide +kernel) (by decide +kernel)
theorem k_124_21 : OkOp mt Ev 124 21 (o_goto 7) := ok_goto (off := -14) (by decide +kernel) (by decide +kernel)
theorem k_124_24 : OkOp mt Ev 124 24 (o_aload 0 1) := ok_aload_n (k := 0) (by decide +kernel) rfl
theorem k_124_25 : OkOp mt Ev 124 25 (o_ret 3) := ok_reta (by decide +kernel) rfl (Or.inr ⟨_, rfl⟩)
theorem kt_124 : ∀ pc o, cd_X12_fresh Ev pc = some o → OkOp mt Ev 124 pc o ∧ Gw o := (tN_ok (tN_ok (tN_ok (tN_ok (tL_ok ⟨k_124_0, gw_push⟩) (tL_ok ⟨k_124_2, gw_newa⟩)) (tN_ok (tL_ok ⟨k_124_4, gw_astore⟩) (tL_ok ⟨k_124_5, gw_push⟩))) (tN_ok (tN_ok (tL_ok ⟨k_124_6, gw_istore⟩) (tL_ok ⟨k_124_7, gw_iload⟩)) (tN_ok (tL_ok ⟨k_124_8, gw_push⟩) (tL_ok ⟨k_124_10, gw_if2⟩)))) (tN_ok (tN_ok (tN_ok (tL_ok ⟨k_124_13, gw_aload⟩) (tL_ok ⟨k_124_14, gw_iload⟩)) (tN_ok (tL_ok ⟨k_124_15, gw_push⟩) (tL_ok ⟨k_124_17, gw_iast⟩))) (tN_ok (tN_ok (tL_ok ⟨k_124_18, gw_iinc⟩) (tL_ok ⟨k_124_21, gw_goto⟩)) (tN_ok (tL_ok ⟨k_124_24, gw_aload⟩) (tL_ok ⟨k_124_25, gw_ret⟩)))))
theorem k_125_0 : OkOp mt Ev 125 0 (o_push (.int (0)) 1) := ok_iconst (n := 0) (by decide +kernel) (by decide +kernel)
theorem k_125_1 : OkOp mt Ev 125 1 (o_istore 2 1) := ok_istore_n (k := 2) (by decide +kernel) rfl
theorem k_125_2 : OkOp mt Ev 125 2 (o_iload 2 1) := ok_iload_n (k := 2) (by decide +kernel) rfl
theorem k_125_3 : OkOp mt Ev 125 3 (o_push (.int (120)) 2) := ok_bipush (n := 120) (by decide +kernel) (by decide +kernel)
theorem k_125_5 : OkOp mt Ev 125 5 (o_if2 (fun x y => decide (y ≤ x)) 20) := ok_icmp_ge (off := 15) (by decide +kernel) (by decide +kernel)
theorem k_125_8 : OkOp mt Ev 125 8 (o_aload 1 1) := ok_aload_n (k := 1) (by decide +kernel) rfl
theorem k_125_9 : OkOp mt Ev 125 9 (o_iload 2 1) := ok_iload_n (k := 2) (by decide +kernel) rfl
theorem k_125_10 : OkOp mt Ev 125 10 (o_aload 0 1) := ok_aload_n (k := 0) (by decide +kernel) rfl
theorem k_125_11 : OkOp mt Ev 125 11 (o_iload 2 1) := ok_iload_n (k := 2) (by decide +kernel) rfl
theorem k_125_12 : OkOp mt Ev 125 12 (o_iald 2) := ok_iald (by decide +kernel)
theorem k_125_13 : OkOp mt Ev 125 13 (o_iast 2 (fun x => x)) := ok_iast (by decide +kernel)
theorem k_125_14 : OkOp mt Ev 125 14 (o_iinc 2 (1)) := ok_iinc (n := 1) (by decide +kernel) (by decide +kernel)
theorem k_125_17 : OkOp mt Ev 125 17 (o_goto 2) := ok_goto (off := -15) (by decide +kernel) (by decide +kernel)
theorem k_125_20 : OkOp mt Ev 125 20 (o_retv) := ok_retv (by decide +kernel) rfl
theorem kt_125 : ∀ pc o, cd_X12_move Ev pc = some o → OkOp mt Ev 125 pc o ∧ Gw o := (tN_ok (tN_ok (tN_ok (tL_ok ⟨k_125_0, gw_push⟩) (tN_ok (tL_ok ⟨k_125_1, gw_istore⟩) (tL_ok ⟨k_125_2, gw_iload⟩))) (tN_ok (tN_ok (tL_ok ⟨k_125_3, gw_push⟩) (tL_ok ⟨k_125_5, gw_if2⟩)) (tN_ok (tL_ok ⟨k_125_8, gw_aload⟩) (tL_ok ⟨k_125_9, gw_iload⟩)))) (tN_ok (tN_ok (tL_ok ⟨k_125_10, gw_aload⟩) (tN_ok (tL_ok ⟨k_125_11, gw_iload⟩) (tL_ok ⟨k_125_12, gw_iald⟩))) (tN_ok (tN_ok (tL_ok ⟨k_125_13, gw_iast⟩) (tL_ok ⟨k_125_14, gw_iinc⟩)) (tN_ok (tL_ok ⟨k_125_17, gw_goto⟩) (tL_ok ⟨k_125_20, gw_retv⟩)))))
theorem k_126_0 : OkOp mt Ev 126 0 (o_aload 0 1) := ok_aload_n (k := 0) (by decide +kernel) rfl
theorem k_126_1 : OkOp mt Ev 126 1 (o_push (.int (1)) 1) := ok_iconst (n := 1) (by decide +kernel) (by decide +kernel)
theorem k_126_2 : OkOp mt Ev 126 2 (o_putf 3 [12] 1) := ok_putf (i := 75) (rf := "BridgeSentencesModel") (nm := "kept") (ds := "Z") (ty := .boolean) (fin := false) (by decide +kernel) fc_66 wd_988 (tc_12) ff_70 (by decide) (by decide +kernel) ov_bool
theorem k_126_5 : OkOp mt Ev 126 5 (o_aload 0 1) := ok_aload_n (k := 0) (by decide +kernel) rfl
theorem k_126_6 : OkOp mt Ev 126 6 (o_getf 0 [12]) := ok_getf (i := 15) (rf := "BridgeSentencesModel") (nm := "now") (ds := "[I") (by decide +kernel) fc_47 wd_985
theorem k_126_9 : OkOp mt Ev 126 9 (o_aload 0 1) := ok_aload_n (k := 0) (by decide +kernel) rfl
theorem k_126_10 : OkOp mt Ev 126 10 (o_getf 2 [12]) := ok_getf (i := 22) (rf := "BridgeSentencesModel") (nm := "then") (ds := "[I") (by decide +kernel) fc_49 wd_987
theorem k_126_13 : OkOp mt Ev 126 13 (o_cs 125 2) := ok_cs (i := 79) (by decide +kernel) wd_1078 wd_1079 wd_62 wd_1080 nk_33
theorem k_126_16 : OkOp mt Ev 126 16 (o_aload 0 1) := ok_aload_n (k := 0) (by decide +kernel) rfl
theorem k_126_17 : OkOp mt Ev 126 17 (o_getf 0 [12]) := ok_getf (i := 15) (rf := "BridgeSentencesModel") (nm := "now") (ds := "[I") (by decide +kernel) fc_47 wd_985
theorem k_126_20 : OkOp mt Ev 126 20 (o_push (.int (68)) 2) := ok_bipush (n := 68) (by decide +kernel) (by decide +kernel)
theorem k_126_22 : OkOp mt Ev 126 22 (o_iald 2) := ok_iald (by decide +kernel)
theorem k_126_23 : OkOp mt Ev 126 23 (o_ret 0) := ok_reti (ty := .int) (by decide +kernel) rfl (Or.inl ⟨rfl, rfl⟩)
theorem kt_126 : ∀ pc o, cd_X12_image Ev pc = some o → OkOp mt Ev 126 pc o ∧ Gw o := (tN_ok (tN_ok (tN_ok (tL_ok ⟨k_126_0, gw_aload⟩) (tN_ok (tL_ok ⟨k_126_1, gw_push⟩) (tL_ok ⟨k_126_2, gw_putf⟩))) (tN_ok (tL_ok ⟨k_126_5, gw_aload⟩) (tN_ok (tL_ok ⟨k_126_6, gw_getf⟩) (tL_ok ⟨k_126_9, gw_aload⟩)))) (tN_ok (tN_ok (tL_ok ⟨k_126_10, gw_getf⟩) (tN_ok (tL_ok ⟨k_126_13, gw_cs⟩) (tL_ok ⟨k_126_16, gw_aload⟩))) (tN_ok (tN_ok (tL_ok ⟨k_126_17, gw_getf⟩) (tL_ok ⟨k_126_20, gw_push⟩)) (tN_ok (tL_ok ⟨k_126_22, gw_iald⟩) (tL_ok ⟨k_126_23, gw_ret⟩)))))
theorem k_127_0 : OkOp mt Ev 127 0 (o_aload 0 1) := ok_aload_n (k := 0) (by decide +kernel) rfl
theorem k_127_1 : OkOp mt Ev 127 1 (o_getf 3 [12]) := ok_getf (i := 75) (rf := "BridgeSentencesModel") (nm := "kept") (ds := "Z") (by decide +kernel) fc_66 wd_988
theorem k_127_4 : OkOp mt Ev 127 4 (o_if1 (fun x => decide (¬ x = 0)) 10) := ok_if_ne (off := 6) (by decide +kernel) (by decide +kernel)
theorem k_127_7 : OkOp mt Ev 127 7 (o_push (.int (-3)) 2) := ok_bipush (n := -3) (by decide +kernel) (by decide +kernel)
theorem k_127_9 : OkOp mt Ev 127 9 (o_ret 0) := ok_reti (ty := .int) (by decide +kernel) rfl (Or.inl ⟨rfl, rfl⟩)
theorem k_127_10 : OkOp mt Ev 127 10 (o_aload 0 1) := ok_aload_n (k := 0) (by decide +kernel) rfl
theorem k_127_11 : OkOp mt Ev 127 11 (o_getf 2 [12]) := ok_getf (i := 22) (rf := "BridgeSentencesModel") (nm := "then") (ds := "[I") (by decide +kernel) fc_49 wd_987
theorem k_127_14 : OkOp mt Ev 127 14 (o_aload 0 1) := ok_aload_n (k := 0) (by decide +kernel) rfl
theorem k_127_15 : OkOp mt Ev 127 15 (o_getf 0 [12]) := ok_getf (i := 15) (rf := "BridgeSentencesModel") (nm := "now") (ds := "[I") (by decide +kernel) fc_47 wd_985
theorem k_127_18 : OkOp mt Ev 127 18 (o_cs 125 2) := ok_cs (i := 79) (by decide +kernel) wd_1078 wd_1079 wd_62 wd_1080 nk_33
theorem k_127_21 : OkOp mt Ev 127 21 (o_aload 0 1) := ok_aload_n (k := 0) (by decide +kernel) rfl
theorem k_127_22 : OkOp mt Ev 127 22 (o_getf 0 [12]) := ok_getf (i := 15) (rf := "BridgeSentencesModel") (nm := "now") (ds := "[I") (by decide +kernel) fc_47 wd_985
theorem k_127_25 : OkOp mt Ev 127 25 (o_push (.int (68)) 2) := ok_bipush (n := 68) (by decide +kernel) (by decide +kernel)
theorem k_127_27 : OkOp mt Ev 127 27 (o_iald 2) := ok_iald (by decide +kernel)
theorem k_127_28 : OkOp mt Ev 127 28 (o_ret 0) := ok_reti (ty := .int) (by decide +kernel) rfl (Or.inl ⟨rfl, rfl⟩)
theorem kt_127 : ∀ pc o, cd_X12_undo Ev pc = some o → OkOp mt Ev 127 pc o ∧ Gw o := (tN_ok (tN_ok (tN_ok (tL_ok ⟨k_127_0, gw_aload⟩) (tN_ok (tL_ok ⟨k_127_1, gw_getf⟩) (tL_ok ⟨k_127_4, gw_if1⟩))) (tN_ok (tN_ok (tL_ok ⟨k_127_7, gw_push⟩) (tL_ok ⟨k_127_9, gw_ret⟩)) (tN_ok (tL_ok ⟨k_127_10, gw_aload⟩) (tL_ok ⟨k_127_11, gw_getf⟩)))) (tN_ok (tN_ok (tN_ok (tL_ok ⟨k_127_14, gw_aload⟩) (tL_ok ⟨k_127_15, gw_getf⟩)) (tN_ok (tL_ok ⟨k_127_18, gw_cs⟩) (tL_ok ⟨k_127_21, gw_aload⟩))) (tN_ok (tN_ok (tL_ok ⟨k_127_22, gw_getf⟩) (tL_ok ⟨k_127_25, gw_push⟩)) (tN_ok (tL_ok ⟨k_127_27, gw_iald⟩) (tL_ok ⟨k_127_28, gw_ret⟩)))))
theorem k_128_0 : OkOp mt Ev 128 0 (o_iload 1 1) := ok_iload_n (k := 1) (by decide +kernel) rfl
theorem k_128_1 : OkOp mt Ev 128 1 (o_push (.int (0)) 1) := ok_iconst (n := 0) (by decide +kernel) (by decide +kernel)
theorem k_128_2 : OkOp mt Ev 128 2 (o_aload 0 1) := ok_aload_n (k := 0) (by decide +kernel) rfl
theorem k_128_3 : OkOp mt Ev 128 3 (o_getf 0 [12]) := ok_getf (i := 15) (rf := "BridgeSentencesModel") (nm := "now") (ds := "[I") (by decide +kernel) fc_47 wd_985
theorem k_128_6 : OkOp mt Ev 128 6 (o_push (.int (68)) 2) := ok_bipush (n := 68) (by decide +kernel) (by decide +kernel)
theorem k_128_8 : OkOp mt Ev 128 8 (o_iald 2) := ok_iald (by decide +kernel)
theorem k_128_9 : OkOp mt Ev 128 9 (o_push (.int (1)) 1) := ok_iconst (n := 1) (by decide +kernel) (by decide +kernel)
theorem k_128_10 : OkOp mt Ev 128 10 (o_ib (fun x y => x - y)) := ok_isub (by decide +kernel)
theorem k_128_11 : OkOp mt Ev 128 11 (o_cs 123 3) := ok_cs (i := 83) (by decide +kernel) wd_1089 wd_1090 wd_62 wd_1091 nk_34
theorem k_128_14 : OkOp mt Ev 128 14 (o_ret 1) := ok_reti (ty := .boolean) (by decide +kernel) rfl (Or.inr (Or.inl ⟨rfl, rfl⟩))
theorem kt_128 : ∀ pc o, cd_X12_isOne Ev pc = some o → OkOp mt Ev 128 pc o ∧ Gw o := (tN_ok (tN_ok (tN_ok (tL_ok ⟨k_128_0, gw_iload⟩) (tL_ok ⟨k_128_1, gw_push⟩)) (tN_ok (tL_ok ⟨k_128_2, gw_aload⟩) (tN_ok (tL_ok ⟨k_128_3, gw_getf⟩) (tL_ok ⟨k_128_6, gw_push⟩)))) (tN_ok (tN_ok (tL_ok ⟨k_128_8, gw_iald⟩) (tL_ok ⟨k_128_9, gw_push⟩)) (tN_ok (tL_ok ⟨k_128_10, gw_ib⟩) (tN_ok (tL_ok ⟨k_128_11, gw_cs⟩) (tL_ok ⟨k_128_14, gw_ret⟩)))))
theorem k_129_0 : OkOp mt Ev 129 0 (o_iload 0 1) := ok_iload_n (k := 0) (by decide +kernel) rfl
theorem k_129_1 : OkOp mt Ev 129 1 (o_push (.int (0)) 1) := ok_iconst (n := 0) (by decide +kernel) (by decide +kernel)
theorem k_129_2 : OkOp mt Ev 129 2 (o_push (.int (11)) 2) := ok_bipush (n := 11) (by decide +kernel) (by decide +kernel)
theorem k_129_4 : OkOp mt Ev 129 4 (o_cs 123 3) := ok_cs (i := 83) (by decide +kernel) wd_1089 wd_1090 wd_62 wd_1091 nk_34
theorem k_129_7 : OkOp mt Ev 129 7 (o_ret 1) := ok_reti (ty := .boolean) (by decide +kernel) rfl (Or.inr (Or.inl ⟨rfl, rfl⟩))
theorem kt_129 : ∀ pc o, cd_X12_isSentence Ev pc = some o → OkOp mt Ev 129 pc o ∧ Gw o := (tN_ok (tN_ok (tL_ok ⟨k_129_0, gw_iload⟩) (tL_ok ⟨k_129_1, gw_push⟩)) (tN_ok (tL_ok ⟨k_129_2, gw_push⟩) (tN_ok (tL_ok ⟨k_129_4, gw_cs⟩) (tL_ok ⟨k_129_7, gw_ret⟩))))
theorem k_130_0 : OkOp mt Ev 130 0 (o_iload 0 1) := ok_iload_n (k := 0) (by decide +kernel) rfl
theorem k_130_1 : OkOp mt Ev 130 1 (o_push (.int (-1)) 1) := ok_iconst (n := -1) (by decide +kernel) (by decide +kernel)
theorem k_130_2 : OkOp mt Ev 130 2 (o_if2 (fun x y => decide (¬ x = y)) 10) := ok_icmp_ne (off := 8) (by decide +kernel) (by decide +kernel)
theorem k_130_5 : OkOp mt Ev 130 5 (o_push (.int (-5)) 2) := ok_bipush (n := -5) (by decide +kernel) (by decide +kernel)
theorem k_130_7 : OkOp mt Ev 130 7 (o_goto 11) := ok_goto (off := 4) (by decide +kernel) (by decide +kernel)
theorem k_130_10 : OkOp mt Ev 130 10 (o_iload 0 1) := ok_iload_n (k := 0) (by decide +kernel) rfl
theorem k_130_11 : OkOp mt Ev 130 11 (o_ret 0) := ok_reti (ty := .int) (by decide +kernel) rfl (Or.inl ⟨rfl, rfl⟩)
theorem kt_130 : ∀ pc o, cd_X12_orNever Ev pc = some o → OkOp mt Ev 130 pc o ∧ Gw o := (tN_ok (tN_ok (tL_ok ⟨k_130_0, gw_iload⟩) (tN_ok (tL_ok ⟨k_130_1, gw_push⟩) (tL_ok ⟨k_130_2, gw_if2⟩))) (tN_ok (tN_ok (tL_ok ⟨k_130_5, gw_push⟩) (tL_ok ⟨k_130_7, gw_goto⟩)) (tN_ok (tL_ok ⟨k_130_10, gw_iload⟩) (tL_ok ⟨k_130_11, gw_ret⟩))))
theorem k_131_0 : OkOp mt Ev 131 0 (o_push (.int (0)) 1) := ok_iconst (n := 0) (by decide +kernel) (by decide +kernel)
theorem k_131_1 : OkOp mt Ev 131 1 (o_istore 1 1) := ok_istore_n (k := 1) (by decide +kernel) rfl
theorem k_131_2 : OkOp mt Ev 131 2 (o_push (.int (0)) 1) := ok_iconst (n := 0) (by decide +kernel) (by decide +kernel)
theorem k_131_3 : OkOp mt Ev 131 3 (o_istore 2 1) := ok_istore_n (k := 2) (by decide +kernel) rfl
theorem k_131_4 : OkOp mt Ev 131 4 (o_iload 2 1) := ok_iload_n (k := 2) (by decide +kernel) rfl
theorem k_131_5 : OkOp mt Ev 131 5 (o_push (.int (12)) 2) := ok_bipush (n := 12) (by decide +kernel) (by decide +kernel)
theorem k_131_7 : OkOp mt Ev 131 7 (o_if2 (fun x y => decide (y ≤ x)) 24) := ok_icmp_ge (off := 17) (by decide +kernel) (by decide +kernel)
theorem k_131_10 : OkOp mt Ev 131 10 (o_iload 1 1) := ok_iload_n (k := 1) (by decide +kernel) rfl
theorem k_131_11 : OkOp mt Ev 131 11 (o_iload 0 1) := ok_iload_n (k := 0) (by decide +kernel) rfl
theorem k_131_12 : OkOp mt Ev 131 12 (o_iload 2 1) := ok_iload_n (k := 2) (by decide +kernel) rfl
theorem k_131_13 : OkOp mt Ev 131 13 (o_ib (fun x y => x >>> (y &&& 31))) := ok_ishr (by decide +kernel)
theorem k_131_14 : OkOp mt Ev 131 14 (o_push (.int (1)) 1) := ok_iconst (n := 1) (by decide +kernel) (by decide +kernel)
theorem k_131_15 : OkOp mt Ev 131 15 (o_ib (fun x y => x &&& y)) := ok_iand (by decide +kernel)
theorem k_131_16 : OkOp mt Ev 131 16 (o_ib (fun x y => x + y)) := ok_iadd (by decide +kernel)
theorem k_131_17 : OkOp mt Ev 131 17 (o_istore 1 1) := ok_istore_n (k := 1) (by decide +kernel) rfl
theorem k_131_18 : OkOp mt Ev 131 18 (o_iinc 2 (1)) := ok_iinc (n := 1) (by decide +kernel) (by decide +kernel)
theorem k_131_21 : OkOp mt Ev 131 21 (o_goto 4) := ok_goto (off := -17) (by decide +kernel) (by decide +kernel)
theorem k_131_24 : OkOp mt Ev 131 24 (o_iload 1 1) := ok_iload_n (k := 1) (by decide +kernel) rfl
theorem k_131_25 : OkOp mt Ev 131 25 (o_ret 0) := ok_reti (ty := .int) (by decide +kernel) rfl (Or.inl ⟨rfl, rfl⟩)
theorem kt_131 : ∀ pc o, cd_X12_many Ev pc = some o → OkOp mt Ev 131 pc o ∧ Gw o := (tN_ok (tN_ok (tN_ok (tN_ok (tL_ok ⟨k_131_0, gw_push⟩) (tL_ok ⟨k_131_1, gw_istore⟩)) (tN_ok (tL_ok ⟨k_131_2, gw_push⟩) (tL_ok ⟨k_131_3, gw_istore⟩))) (tN_ok (tN_ok (tL_ok ⟨k_131_4, gw_iload⟩) (tL_ok ⟨k_131_5, gw_push⟩)) (tN_ok (tL_ok ⟨k_131_7, gw_if2⟩) (tN_ok (tL_ok ⟨k_131_10, gw_iload⟩) (tL_ok ⟨k_131_11, gw_iload⟩))))) (tN_ok (tN_ok (tN_ok (tL_ok ⟨k_131_12, gw_iload⟩) (tL_ok ⟨k_131_13, gw_ib⟩)) (tN_ok (tL_ok ⟨k_131_14, gw_push⟩) (tN_ok (tL_ok ⟨k_131_15, gw_ib⟩) (tL_ok ⟨k_131_16, gw_ib⟩)))) (tN_ok (tN_ok (tL_ok ⟨k_131_17, gw_istore⟩) (tL_ok ⟨k_131_18, gw_iinc⟩)) (tN_ok (tL_ok ⟨k_131_21, gw_goto⟩) (tN_ok (tL_ok ⟨k_131_24, gw_iload⟩) (tL_ok ⟨k_131_25, gw_ret⟩))))))
theorem k_132_0 : OkOp mt Ev 132 0 (o_aload 0 1) := ok_aload_n (k := 0) (by decide +kernel) rfl
theorem k_132_1 : OkOp mt Ev 132 1 (o_getf 0 [12]) := ok_getf (i := 15) (rf := "BridgeSentencesModel") (nm := "now") (ds := "[I") (by decide +kernel) fc_47 wd_985
theorem k_132_4 : OkOp mt Ev 132 4 (o_push (.int (14)) 2) := ok_bipush (n := 14) (by decide +kernel) (by decide +kernel)
theorem k_132_6 : OkOp mt Ev 132 6 (o_push (.int (9)) 2) := ok_bipush (n := 9) (by decide +kernel) (by decide +kernel)
theorem k_132_8 : OkOp mt Ev 132 8 (o_iload 1 1) := ok_iload_n (k := 1) (by decide +kernel) rfl
theorem k_132_9 : OkOp mt Ev 132 9 (o_ib (fun x y => x * y)) := ok_imul (by decide +kernel)
theorem k_132_10 : OkOp mt Ev 132 10 (o_ib (fun x y => x + y)) := ok_iadd (by decide +kernel)
theorem k_132_11 : OkOp mt Ev 132 11 (o_iload 2 1) := ok_iload_n (k := 2) (by decide +kernel) rfl
theorem k_132_12 : OkOp mt Ev 132 12 (o_ib (fun x y => x + y)) := ok_iadd (by decide +kernel)
theorem k_132_13 : OkOp mt Ev 132 13 (o_iald 2) := ok_iald (by decide +kernel)
theorem k_132_14 : OkOp mt Ev 132 14 (o_ret 0) := ok_reti (ty := .int) (by decide +kernel) rfl (Or.inl ⟨rfl, rfl⟩)
theorem kt_132 : ∀ pc o, cd_X12_number Ev pc = some o → OkOp mt Ev 132 pc o ∧ Gw o := (tN_ok (tN_ok (tN_ok (tL_ok ⟨k_132_0, gw_aload⟩) (tL_ok ⟨k_132_1, gw_getf⟩)) (tN_ok (tL_ok ⟨k_132_4, gw_push⟩) (tN_ok (tL_ok ⟨k_132_6, gw_push⟩) (tL_ok ⟨k_132_8, gw_iload⟩)))) (tN_ok (tN_ok (tL_ok ⟨k_132_9, gw_ib⟩) (tN_ok (tL_ok ⟨k_132_10, gw_ib⟩) (tL_ok ⟨k_132_11, gw_iload⟩))) (tN_ok (tL_ok ⟨k_132_12, gw_ib⟩) (tN_ok (tL_ok ⟨k_132_13, gw_iald⟩) (tL_ok ⟨k_132_14, gw_ret⟩)))))
theorem k_133_0 : OkOp mt Ev 133 0 (o_aload 0 1) := ok_aload_n (k := 0) (by decide +kernel) rfl
theorem k_133_1 : OkOp mt Ev 133 1 (o_iload 1 1) := ok_iload_n (k := 1) (by decide +kernel) rfl
theorem k_133_2 : OkOp mt Ev 133 2 (o_iload 2 1) := ok_iload_n (k := 2) (by decide +kernel) rfl
theorem k_133_3 : OkOp mt Ev 133 3 (o_cv [(12, 132)] 2) := ok_cv (i := 87) (by decide +kernel) vc_141
theorem k_133_6 : OkOp mt Ev 133 6 (o_istore 4 2) := ok_istore (by decide +kernel)
theorem k_133_8 : OkOp mt Ev 133 8 (o_aload 0 1) := ok_aload_n (k := 0) (by decide +kernel) rfl
theorem k_133_9 : OkOp mt Ev 133 9 (o_getf 0 [12]) := ok_getf (i := 15) (rf := "BridgeSentencesModel") (nm := "now") (ds := "[I") (by decide +kernel) fc_47 wd_985
theorem k_133_12 : OkOp mt Ev 133 12 (o_push (.int (14)) 2) := ok_bipush (n := 14) (by decide +kernel) (by decide +kernel)
theorem k_133_14 : OkOp mt Ev 133 14 (o_push (.int (9)) 2) := ok_bipush (n := 9) (by decide +kernel) (by decide +kernel)
theorem k_133_16 : OkOp mt Ev 133 16 (o_iload 1 1) := ok_iload_n (k := 1) (by decide +kernel) rfl
theorem k_133_17 : OkOp mt Ev 133 17 (o_ib (fun x y => x * y)) := ok_imul (by decide +kernel)
theorem k_133_18 : OkOp mt Ev 133 18 (o_ib (fun x y => x + y)) := ok_iadd (by decide +kernel)
theorem k_133_19 : OkOp mt Ev 133 19 (o_iload 2 1) := ok_iload_n (k := 2) (by decide +kernel) rfl
theorem k_133_20 : OkOp mt Ev 133 20 (o_ib (fun x y => x + y)) := ok_iadd (by decide +kernel)
theorem k_133_21 : OkOp mt Ev 133 21 (o_iload 3 1) := ok_iload_n (k := 3) (by decide +kernel) rfl
theorem k_133_22 : OkOp mt Ev 133 22 (o_iast 2 (fun x => x)) := ok_iast (by decide +kernel)
theorem k_133_23 : OkOp mt Ev 133 23 (o_iload 4 2) := ok_iload (by decide +kernel)
theorem k_133_25 : OkOp mt Ev 133 25 (o_ret 0) := ok_reti (ty := .int) (by decide +kernel) rfl (Or.inl ⟨rfl, rfl⟩)
theorem kt_133 : ∀ pc o, cd_X12_change Ev pc = some o → OkOp mt Ev 133 pc o ∧ Gw o := (tN_ok (tN_ok (tN_ok (tN_ok (tL_ok ⟨k_133_0, gw_aload⟩) (tL_ok ⟨k_133_1, gw_iload⟩)) (tN_ok (tL_ok ⟨k_133_2, gw_iload⟩) (tL_ok ⟨k_133_3, gw_cv⟩))) (tN_ok (tN_ok (tL_ok ⟨k_133_6, gw_istore⟩) (tL_ok ⟨k_133_8, gw_aload⟩)) (tN_ok (tL_ok ⟨k_133_9, gw_getf⟩) (tN_ok (tL_ok ⟨k_133_12, gw_push⟩) (tL_ok ⟨k_133_14, gw_push⟩))))) (tN_ok (tN_ok (tN_ok (tL_ok ⟨k_133_16, gw_iload⟩) (tL_ok ⟨k_133_17, gw_ib⟩)) (tN_ok (tL_ok ⟨k_133_18, gw_ib⟩) (tL_ok ⟨k_133_19, gw_iload⟩))) (tN_ok (tN_ok (tL_ok ⟨k_133_20, gw_ib⟩) (tL_ok ⟨k_133_21, gw_iload⟩)) (tN_ok (tL_ok ⟨k_133_22, gw_iast⟩) (tN_ok (tL_ok ⟨k_133_23, gw_iload⟩) (tL_ok ⟨k_133_25, gw_ret⟩))))))
theorem k_134_0 : OkOp mt Ev 134 0 (o_iload 1 1) := ok_iload_n (k := 1) (by decide +kernel) rfl
theorem k_134_1 : OkOp mt Ev 134 1 (o_push (.int (0)) 1) := ok_iconst (n := 0) (by decide +kernel) (by decide +kernel)
theorem k_134_2 : OkOp mt Ev 134 2 (o_push (.int (6)) 2) := ok_bipush (n := 6) (by decide +kernel) (by decide +kernel)
theorem k_134_4 : OkOp mt Ev 134 4 (o_cs 123 3) := ok_cs (i := 83) (by decide +kernel) wd_1089 wd_1090 wd_62 wd_1091 nk_34
theorem k_134_7 : OkOp mt Ev 134 7 (o_if1 (fun x => decide (¬ x = 0)) 12) := ok_if_ne (off := 5) (by decide +kernel) (by decide +kernel)
theorem k_134_10 : OkOp mt Ev 134 10 (o_push (.int (-1)) 1) := ok_iconst (n := -1) (by decide +kernel) (by decide +kernel)
theorem k_134_11 : OkOp mt Ev 134 11 (o_ret 0) := ok_reti (ty := .int) (by decide +kernel) rfl (Or.inl ⟨rfl, rfl⟩)
theorem k_134_12 : OkOp mt Ev 134 12 (o_iload 2 1) := ok_iload_n (k := 2) (by decide +kernel) rfl
theorem k_134_13 : OkOp mt Ev 134 13 (o_push (.int (0)) 1) := ok_iconst (n := 0) (by decide +kernel) (by decide +kernel)
theorem k_134_14 : OkOp mt Ev 134 14 (o_push (.int (9)) 2) := ok_bipush (n := 9) (by decide +kernel) (by decide +kernel)
theorem k_134_16 : OkOp mt Ev 134 16 (o_cs 123 3) := ok_cs (i := 83) (by decide +kernel) wd_1089 wd_1090 wd_62 wd_1091 nk_34
theorem k_134_19 : OkOp mt Ev 134 19 (o_if1 (fun x => decide (x = 0)) 33) := ok_if_eq (off := 14) (by decide +kernel) (by decide +kernel)
theorem k_134_22 : OkOp mt Ev 134 22 (o_iload 3 1) := ok_iload_n (k := 3) (by decide +kernel) rfl
theorem k_134_23 : OkOp mt Ev 134 23 (o_push (.int (0)) 1) := ok_iconst (n := 0) (by decide +kernel) (by decide +kernel)
theorem k_134_24 : OkOp mt Ev 134 24 (o_push (.int (4095)) 3) := ok_sipush (n := 4095) (by decide +kernel) (by decide +kernel)
theorem k_134_27 : OkOp mt Ev 134 27 (o_cs 123 3) := ok_cs (i := 83) (by decide +kernel) wd_1089 wd_1090 wd_62 wd_1091 nk_34
theorem k_134_30 : OkOp mt Ev 134 30 (o_if1 (fun x => decide (¬ x = 0)) 36) := ok_if_ne (off := 6) (by decide +kernel) (by decide +kernel)
theorem k_134_33 : OkOp mt Ev 134 33 (o_push (.int (-2)) 2) := ok_bipush (n := -2) (by decide +kernel) (by decide +kernel)
theorem k_134_35 : OkOp mt Ev 134 35 (o_ret 0) := ok_reti (ty := .int) (by decide +kernel) rfl (Or.inl ⟨rfl, rfl⟩)
theorem k_134_36 : OkOp mt Ev 134 36 (o_aload 0 1) := ok_aload_n (k := 0) (by decide +kernel) rfl
theorem k_134_37 : OkOp mt Ev 134 37 (o_getf 0 [12]) := ok_getf (i := 15) (rf := "BridgeSentencesModel") (nm := "now") (ds := "[I") (by decide +kernel) fc_47 wd_985
theorem k_134_40 : OkOp mt Ev 134 40 (o_push (.int (68)) 2) := ok_bipush (n := 68) (by decide +kernel) (by decide +kernel)
theorem k_134_42 : OkOp mt Ev 134 42 (o_iald 2) := ok_iald (by decide +kernel)
theorem k_134_43 : OkOp mt Ev 134 43 (o_istore 4 2) := ok_istore (by decide +kernel)
theorem k_134_45 : OkOp mt Ev 134 45 (o_iload 4 2) := ok_iload (by decide +kernel)
theorem k_134_47 : OkOp mt Ev 134 47 (o_push (.int (6)) 2) := ok_bipush (n := 6) (by decide +kernel) (by decide +kernel)
theorem k_134_49 : OkOp mt Ev 134 49 (o_if2 (fun x y => decide (¬ x = y)) 55) := ok_icmp_ne (off := 6) (by decide +kernel) (by decide +kernel)
theorem k_134_52 : OkOp mt Ev 134 52 (o_push (.int (-4)) 2) := ok_bipush (n := -4) (by decide +kernel) (by decide +kernel)
theorem k_134_54 : OkOp mt Ev 134 54 (o_ret 0) := ok_reti (ty := .int) (by decide +kernel) rfl (Or.inl ⟨rfl, rfl⟩)
theorem k_134_55 : OkOp mt Ev 134 55 (o_push (.int (0)) 1) := ok_iconst (n := 0) (by decide +kernel) (by decide +kernel)
theorem k_134_56 : OkOp mt Ev 134 56 (o_istore 5 2) := ok_istore (by decide +kernel)
theorem k_134_58 : OkOp mt Ev 134 58 (o_iload 5 2) := ok_iload (by decide +kernel)
theorem k_134_60 : OkOp mt Ev 134 60 (o_push (.int (9)) 2) := ok_bipush (n := 9) (by decide +kernel) (by decide +kernel)
theorem k_134_62 : OkOp mt Ev 134 62 (o_if2 (fun x y => decide (y ≤ x)) 81) := ok_icmp_ge (off := 19) (by decide +kernel) (by decide +kernel)
theorem k_134_65 : OkOp mt Ev 134 65 (o_aload 0 1) := ok_aload_n (k := 0) (by decide +kernel) rfl
theorem k_134_66 : OkOp mt Ev 134 66 (o_iload 4 2) := ok_iload (by decide +kernel)
theorem k_134_68 : OkOp mt Ev 134 68 (o_iload 5 2) := ok_iload (by decide +kernel)
theorem k_134_70 : OkOp mt Ev 134 70 (o_push (.int (0)) 1) := ok_iconst (n := 0) (by decide +kernel) (by decide +kernel)
theorem k_134_71 : OkOp mt Ev 134 71 (o_cv [(12, 133)] 3) := ok_cv (i := 91) (by decide +kernel) vc_142
theorem k_134_74 : OkOp mt Ev 134 74 (o_pop) := ok_pop (by decide +kernel)
theorem k_134_75 : OkOp mt Ev 134 75 (o_iinc 5 (1)) := ok_iinc (n := 1) (by decide +kernel) (by decide +kernel)
theorem k_134_78 : OkOp mt Ev 134 78 (o_goto 58) := ok_goto (off := -20) (by decide +kernel) (by decide +kernel)
theorem k_134_81 : OkOp mt Ev 134 81 (o_aload 0 1) := ok_aload_n (k := 0) (by decide +kernel) rfl
theorem k_134_82 : OkOp mt Ev 134 82 (o_iload 4 2) := ok_iload (by decide +kernel)
theorem k_134_84 : OkOp mt Ev 134 84 (o_push (.int (0)) 1) := ok_iconst (n := 0) (by decide +kernel) (by decide +kernel)
theorem k_134_85 : OkOp mt Ev 134 85 (o_iload 1 1) := ok_iload_n (k := 1) (by decide +kernel) rfl
theorem k_134_86 : OkOp mt Ev 134 86 (o_cv [(12, 133)] 3) := ok_cv (i := 91) (by decide +kernel) vc_142
theorem k_134_89 : OkOp mt Ev 134 89 (o_pop) := ok_pop (by decide +kernel)
theorem k_134_90 : OkOp mt Ev 134 90 (o_aload 0 1) := ok_aload_n (k := 0) (by decide +kernel) rfl
theorem k_134_91 : OkOp mt Ev 134 91 (o_iload 4 2) := ok_iload (by decide +kernel)
theorem k_134_93 : OkOp mt Ev 134 93 (o_push (.int (1)) 1) := ok_iconst (n := 1) (by decide +kernel) (by decide +kernel)
theorem k_134_94 : OkOp mt Ev 134 94 (o_iload 2 1) := ok_iload_n (k := 2) (by decide +kernel) rfl
theorem k_134_95 : OkOp mt Ev 134 95 (o_cv [(12, 133)] 3) := ok_cv (i := 91) (by decide +kernel) vc_142
theorem k_134_98 : OkOp mt Ev 134 98 (o_pop) := ok_pop (by decide +kernel)
theorem k_134_99 : OkOp mt Ev 134 99 (o_aload 0 1) := ok_aload_n (k := 0) (by decide +kernel) rfl
theorem k_134_100 : OkOp mt Ev 134 100 (o_iload 4 2) := ok_iload (by decide +kernel)
theorem k_134_102 : OkOp mt Ev 134 102 (o_push (.int (2)) 1) := ok_iconst (n := 2) (by decide +kernel) (by decide +kernel)
theorem k_134_103 : OkOp mt Ev 134 103 (o_iload 3 1) := ok_iload_n (k := 3) (by decide +kernel) rfl
theorem k_134_104 : OkOp mt Ev 134 104 (o_cv [(12, 133)] 3) := ok_cv (i := 91) (by decide +kernel) vc_142
theorem k_134_107 : OkOp mt Ev 134 107 (o_pop) := ok_pop (by decide +kernel)
theorem k_134_108 : OkOp mt Ev 134 108 (o_aload 0 1) := ok_aload_n (k := 0) (by decide +kernel) rfl
theorem k_134_109 : OkOp mt Ev 134 109 (o_getf 0 [12]) := ok_getf (i := 15) (rf := "BridgeSentencesModel") (nm := "now") (ds := "[I") (by decide +kernel) fc_47 wd_985
theorem k_134_112 : OkOp mt Ev 134 112 (o_push (.int (68)) 2) := ok_bipush (n := 68) (by decide +kernel) (by decide +kernel)
theorem k_134_114 : OkOp mt Ev 134 114 (o_dup2) := ok_dup2 (by decide +kernel)
theorem k_134_115 : OkOp mt Ev 134 115 (o_iald 2) := ok_iald (by decide +kernel)
theorem k_134_116 : OkOp mt Ev 134 116 (o_push (.int (1)) 1) := ok_iconst (n := 1) (by decide +kernel) (by decide +kernel)
theorem k_134_117 : OkOp mt Ev 134 117 (o_ib (fun x y => x + y)) := ok_iadd (by decide +kernel)
theorem k_134_118 : OkOp mt Ev 134 118 (o_iast 2 (fun x => x)) := ok_iast (by decide +kernel)
theorem k_134_119 : OkOp mt Ev 134 119 (o_iload 4 2) := ok_iload (by decide +kernel)
theorem k_134_121 : OkOp mt Ev 134 121 (o_ret 0) := ok_reti (ty := .int) (by decide +kernel) rfl (Or.inl ⟨rfl, rfl⟩)
theorem kt_134 : ∀ pc o, cd_X12_one Ev pc = some o → OkOp mt Ev 134 pc o ∧ Gw o := (tN_ok (tN_ok (tN_ok (tN_ok (tN_ok (tN_ok (tL_ok ⟨k_134_0, gw_iload⟩) (tL_ok ⟨k_134_1, gw_push⟩)) (tN_ok (tL_ok ⟨k_134_2, gw_push⟩) (tL_ok ⟨k_134_4, gw_cs⟩))) (tN_ok (tN_ok (tL_ok ⟨k_134_7, gw_if1⟩) (tL_ok ⟨k_134_10, gw_push⟩)) (tN_ok (tL_ok ⟨k_134_11, gw_ret⟩) (tL_ok ⟨k_134_12, gw_iload⟩)))) (tN_ok (tN_ok (tN_ok (tL_ok ⟨k_134_13, gw_push⟩) (tL_ok ⟨k_134_14, gw_push⟩)) (tN_ok (tL_ok ⟨k_134_16, gw_cs⟩) (tL_ok ⟨k_134_19, gw_if1⟩))) (tN_ok (tN_ok (tL_ok ⟨k_134_22, gw_iload⟩) (tL_ok ⟨k_134_23, gw_push⟩)) (tN_ok (tL_ok ⟨k_134_24, gw_push⟩) (tN_ok (tL_ok ⟨k_134_27, gw_cs⟩) (tL_ok ⟨k_134_30, gw_if1⟩)))))) (tN_ok (tN_ok (tN_ok (tN_ok (tL_ok ⟨k_134_33, gw_push⟩) (tL_ok ⟨k_134_35, gw_ret⟩)) (tN_ok (tL_ok ⟨k_134_36, gw_aload⟩) (tL_ok ⟨k_134_37, gw_getf⟩))) (tN_ok (tN_ok (tL_ok ⟨k_134_40, gw_push⟩) (tL_ok ⟨k_134_42, gw_iald⟩)) (tN_ok (tL_ok ⟨k_134_43, gw_istore⟩) (tN_ok (tL_ok ⟨k_134_45, gw_iload⟩) (tL_ok ⟨k_134_47, gw_push⟩))))) (tN_ok (tN_ok (tN_ok (tL_ok ⟨k_134_49, gw_if2⟩) (tL_ok ⟨k_134_52, gw_push⟩)) (tN_ok (tL_ok ⟨k_134_54, gw_ret⟩) (tL_ok ⟨k_134_55, gw_push⟩))) (tN_ok (tN_ok (tL_ok ⟨k_134_56, gw_istore⟩) (tL_ok ⟨k_134_58, gw_iload⟩)) (tN_ok (tL_ok ⟨k_134_60, gw_push⟩) (tN_ok (tL_ok ⟨k_134_62, gw_if2⟩) (tL_ok ⟨k_134_65, gw_aload⟩))))))) (tN_ok (tN_ok (tN_ok (tN_ok (tN_ok (tL_ok ⟨k_134_66, gw_iload⟩) (tL_ok ⟨k_134_68, gw_iload⟩)) (tN_ok (tL_ok ⟨k_134_70, gw_push⟩) (tL_ok ⟨k_134_71, gw_cv⟩))) (tN_ok (tN_ok (tL_ok ⟨k_134_74, gw_pop⟩) (tL_ok ⟨k_134_75, gw_iinc⟩)) (tN_ok (tL_ok ⟨k_134_78, gw_goto⟩) (tL_ok ⟨k_134_81, gw_aload⟩)))) (tN_ok (tN_ok (tN_ok (tL_ok ⟨k_134_82, gw_iload⟩) (tL_ok ⟨k_134_84, gw_push⟩)) (tN_ok (tL_ok ⟨k_134_85, gw_iload⟩) (tL_ok ⟨k_134_86, gw_cv⟩))) (tN_ok (tN_ok (tL_ok ⟨k_134_89, gw_pop⟩) (tL_ok ⟨k_134_90, gw_aload⟩)) (tN_ok (tL_ok ⟨k_134_91, gw_iload⟩) (tN_ok (tL_ok ⟨k_134_93, gw_push⟩) (tL_ok ⟨k_134_94, gw_iload⟩)))))) (tN_ok (tN_ok (tN_ok (tN_ok (tL_ok ⟨k_134_95, gw_cv⟩) (tL_ok ⟨k_134_98, gw_pop⟩)) (tN_ok (tL_ok ⟨k_134_99, gw_aload⟩) (tL_ok ⟨k_134_100, gw_iload⟩))) (tN_ok (tN_ok (tL_ok ⟨k_134_102, gw_push⟩) (tL_ok ⟨k_134_103, gw_iload⟩)) (tN_ok (tL_ok ⟨k_134_104, gw_cv⟩) (tN_ok (tL_ok ⟨k_134_107, gw_pop⟩) (tL_ok ⟨k_134_108, gw_aload⟩))))) (tN_ok (tN_ok (tN_ok (tL_ok ⟨k_134_109, gw_getf⟩) (tL_ok ⟨k_134_112, gw_push⟩)) (tN_ok (tL_ok ⟨k_134_114, gw_dup2⟩) (tL_ok ⟨k_134_115, gw_iald⟩))) (tN_ok (tN_ok (tL_ok ⟨k_134_116, gw_push⟩) (tL_ok ⟨k_134_117, gw_ib⟩)) (tN_ok (tL_ok ⟨k_134_118, gw_iast⟩) (tN_ok (tL_ok ⟨k_134_119, gw_iload⟩) (tL_ok ⟨k_134_121, gw_ret⟩))))))))
theorem k_135_0 : OkOp mt Ev 135 0 (o_aload 0 1) := ok_aload_n (k := 0) (by decide +kernel) rfl
theorem k_135_1 : OkOp mt Ev 135 1 (o_iload 1 1) := ok_iload_n (k := 1) (by decide +kernel) rfl
theorem k_135_2 : OkOp mt Ev 135 2 (o_cv [(12, 128)] 1) := ok_cv (i := 95) (by decide +kernel) vc_143
theorem k_135_5 : OkOp mt Ev 135 5 (o_if1 (fun x => decide (¬ x = 0)) 10) := ok_if_ne (off := 5) (by decide +kernel) (by decide +kernel)
theorem k_135_8 : OkOp mt Ev 135 8 (o_push (.int (-1)) 1) := ok_iconst (n := -1) (by decide +kernel) (by decide +kernel)
theorem k_135_9 : OkOp mt Ev 135 9 (o_ret 0) := ok_reti (ty := .int) (by decide +kernel) rfl (Or.inl ⟨rfl, rfl⟩)
theorem k_135_10 : OkOp mt Ev 135 10 (o_iload 2 1) := ok_iload_n (k := 2) (by decide +kernel) rfl
theorem k_135_11 : OkOp mt Ev 135 11 (o_sw 69 [(5, 40), (6, 49), (7, 55), (8, 62)]) := ok_tsw (dflt := 58) (lo := 5) (hi := 8) (offs := #[29, 38, 44, 51]) (len := 29) (by decide +kernel) (by decide +kernel) (by decide +kernel) (by decide +kernel)
theorem k_135_40 : OkOp mt Ev 135 40 (o_aload 0 1) := ok_aload_n (k := 0) (by decide +kernel) rfl
theorem k_135_41 : OkOp mt Ev 135 41 (o_iload 1 1) := ok_iload_n (k := 1) (by decide +kernel) rfl
theorem k_135_42 : OkOp mt Ev 135 42 (o_cv [(12, 157)] 1) := ok_cv (i := 99) (by decide +kernel) vc_144
theorem k_135_45 : OkOp mt Ev 135 45 (o_cs 130 1) := ok_cs (i := 103) (by decide +kernel) wd_1173 wd_1174 wd_62 wd_1175 nk_35
theorem k_135_48 : OkOp mt Ev 135 48 (o_ret 0) := ok_reti (ty := .int) (by decide +kernel) rfl (Or.inl ⟨rfl, rfl⟩)
theorem k_135_49 : OkOp mt Ev 135 49 (o_aload 0 1) := ok_aload_n (k := 0) (by decide +kernel) rfl
theorem k_135_50 : OkOp mt Ev 135 50 (o_iload 1 1) := ok_iload_n (k := 1) (by decide +kernel) rfl
theorem k_135_51 : OkOp mt Ev 135 51 (o_cv [(12, 165)] 1) := ok_cv (i := 106) (by decide +kernel) vc_145
theorem k_135_54 : OkOp mt Ev 135 54 (o_ret 0) := ok_reti (ty := .int) (by decide +kernel) rfl (Or.inl ⟨rfl, rfl⟩)
theorem k_135_55 : OkOp mt Ev 135 55 (o_aload 0 1) := ok_aload_n (k := 0) (by decide +kernel) rfl
theorem k_135_56 : OkOp mt Ev 135 56 (o_iload 1 1) := ok_iload_n (k := 1) (by decide +kernel) rfl
theorem k_135_57 : OkOp mt Ev 135 57 (o_push (.int (1)) 1) := ok_iconst (n := 1) (by decide +kernel) (by decide +kernel)
theorem k_135_58 : OkOp mt Ev 135 58 (o_cv [(12, 172)] 2) := ok_cv (i := 109) (by decide +kernel) vc_146
theorem k_135_61 : OkOp mt Ev 135 61 (o_ret 0) := ok_reti (ty := .int) (by decide +kernel) rfl (Or.inl ⟨rfl, rfl⟩)
theorem k_135_62 : OkOp mt Ev 135 62 (o_aload 0 1) := ok_aload_n (k := 0) (by decide +kernel) rfl
theorem k_135_63 : OkOp mt Ev 135 63 (o_iload 1 1) := ok_iload_n (k := 1) (by decide +kernel) rfl
theorem k_135_64 : OkOp mt Ev 135 64 (o_push (.int (0)) 1) := ok_iconst (n := 0) (by decide +kernel) (by decide +kernel)
theorem k_135_65 : OkOp mt Ev 135 65 (o_cv [(12, 172)] 2) := ok_cv (i := 109) (by decide +kernel) vc_146
theorem k_135_68 : OkOp mt Ev 135 68 (o_ret 0) := ok_reti (ty := .int) (by decide +kernel) rfl (Or.inl ⟨rfl, rfl⟩)
theorem k_135_69 : OkOp mt Ev 135 69 (o_iload 2 1) := ok_iload_n (k := 2) (by decide +kernel) rfl
theorem k_135_70 : OkOp mt Ev 135 70 (o_push (.int (0)) 1) := ok_iconst (n := 0) (by decide +kernel) (by decide +kernel)
theorem k_135_71 : OkOp mt Ev 135 71 (o_push (.int (4)) 1) := ok_iconst (n := 4) (by decide +kernel) (by decide +kernel)
theorem k_135_72 : OkOp mt Ev 135 72 (o_cs 123 3) := ok_cs (i := 83) (by decide +kernel) wd_1089 wd_1090 wd_62 wd_1091 nk_34
theorem k_135_75 : OkOp mt Ev 135 75 (o_if1 (fun x => decide (x = 0)) 87) := ok_if_eq (off := 12) (by decide +kernel) (by decide +kernel)
theorem k_135_78 : OkOp mt Ev 135 78 (o_aload 0 1) := ok_aload_n (k := 0) (by decide +kernel) rfl
theorem k_135_79 : OkOp mt Ev 135 79 (o_iload 1 1) := ok_iload_n (k := 1) (by decide +kernel) rfl
theorem k_135_80 : OkOp mt Ev 135 80 (o_iload 2 1) := ok_iload_n (k := 2) (by decide +kernel) rfl
theorem k_135_81 : OkOp mt Ev 135 81 (o_cv [(12, 132)] 2) := ok_cv (i := 87) (by decide +kernel) vc_141
theorem k_135_84 : OkOp mt Ev 135 84 (o_goto 88) := ok_goto (off := 4) (by decide +kernel) (by decide +kernel)
theorem k_135_87 : OkOp mt Ev 135 87 (o_push (.int (-1)) 1) := ok_iconst (n := -1) (by decide +kernel) (by decide +kernel)
theorem k_135_88 : OkOp mt Ev 135 88 (o_ret 0) := ok_reti (ty := .int) (by decide +kernel) rfl (Or.inl ⟨rfl, rfl⟩)
theorem kt_135 : ∀ pc o, cd_X12_of Ev pc = some o → OkOp mt Ev 135 pc o ∧ Gw o := (tN_ok (tN_ok (tN_ok (tN_ok (tN_ok (tL_ok ⟨k_135_0, gw_aload⟩) (tL_ok ⟨k_135_1, gw_iload⟩)) (tN_ok (tL_ok ⟨k_135_2, gw_cv⟩) (tL_ok ⟨k_135_5, gw_if1⟩))) (tN_ok (tN_ok (tL_ok ⟨k_135_8, gw_push⟩) (tL_ok ⟨k_135_9, gw_ret⟩)) (tN_ok (tL_ok ⟨k_135_10, gw_iload⟩) (tN_ok (tL_ok ⟨k_135_11, gw_sw⟩) (tL_ok ⟨k_135_40, gw_aload⟩))))) (tN_ok (tN_ok (tN_ok (tL_ok ⟨k_135_41, gw_iload⟩) (tL_ok ⟨k_135_42, gw_cv⟩)) (tN_ok (tL_ok ⟨k_135_45, gw_cs⟩) (tN_ok (tL_ok ⟨k_135_48, gw_ret⟩) (tL_ok ⟨k_135_49, gw_aload⟩)))) (tN_ok (tN_ok (tL_ok ⟨k_135_50, gw_iload⟩) (tL_ok ⟨k_135_51, gw_cv⟩)) (tN_ok (tL_ok ⟨k_135_54, gw_ret⟩) (tN_ok (tL_ok ⟨k_135_55, gw_aload⟩) (tL_ok ⟨k_135_56, gw_iload⟩)))))) (tN_ok (tN_ok (tN_ok (tN_ok (tL_ok ⟨k_135_57, gw_push⟩) (tL_ok ⟨k_135_58, gw_cv⟩)) (tN_ok (tL_ok ⟨k_135_61, gw_ret⟩) (tN_ok (tL_ok ⟨k_135_62, gw_aload⟩) (tL_ok ⟨k_135_63, gw_iload⟩)))) (tN_ok (tN_ok (tL_ok ⟨k_135_64, gw_push⟩) (tL_ok ⟨k_135_65, gw_cv⟩)) (tN_ok (tL_ok ⟨k_135_68, gw_ret⟩) (tN_ok (tL_ok ⟨k_135_69, gw_iload⟩) (tL_ok ⟨k_135_70, gw_push⟩))))) (tN_ok (tN_ok (tN_ok (tL_ok ⟨k_135_71, gw_push⟩) (tL_ok ⟨k_135_72, gw_cs⟩)) (tN_ok (tL_ok ⟨k_135_75, gw_if1⟩) (tN_ok (tL_ok ⟨k_135_78, gw_aload⟩) (tL_ok ⟨k_135_79, gw_iload⟩)))) (tN_ok (tN_ok (tL_ok ⟨k_135_80, gw_iload⟩) (tL_ok ⟨k_135_81, gw_cv⟩)) (tN_ok (tL_ok ⟨k_135_84, gw_goto⟩) (tN_ok (tL_ok ⟨k_135_87, gw_push⟩) (tL_ok ⟨k_135_88, gw_ret⟩)))))))
theorem k_136_0 : OkOp mt Ev 136 0 (o_aload 0 1) := ok_aload_n (k := 0) (by decide +kernel) rfl
theorem k_136_1 : OkOp mt Ev 136 1 (o_iload 1 1) := ok_iload_n (k := 1) (by decide +kernel) rfl
theorem k_136_2 : OkOp mt Ev 136 2 (o_cv [(12, 128)] 1) := ok_cv (i := 95) (by decide +kernel) vc_143
theorem k_136_5 : OkOp mt Ev 136 5 (o_if1 (fun x => decide (x = 0)) 15) := ok_if_eq (off := 10) (by decide +kernel) (by decide +kernel)
theorem k_136_8 : OkOp mt Ev 136 8 (o_iload 2 1) := ok_iload_n (k := 2) (by decide +kernel) rfl
theorem k_136_9 : OkOp mt Ev 136 9 (o_cs 129 1) := ok_cs (i := 113) (by decide +kernel) wd_1192 wd_1193 wd_62 wd_1194 nk_36
theorem k_136_12 : OkOp mt Ev 136 12 (o_if1 (fun x => decide (¬ x = 0)) 19) := ok_if_ne (off := 7) (by decide +kernel) (by decide +kernel)
theorem k_136_15 : OkOp mt Ev 136 15 (o_push (.int (-10001)) 3) := ok_sipush (n := -10001) (by decide +kernel) (by decide +kernel)
theorem k_136_18 : OkOp mt Ev 136 18 (o_ret 0) := ok_reti (ty := .int) (by decide +kernel) rfl (Or.inl ⟨rfl, rfl⟩)
theorem k_136_19 : OkOp mt Ev 136 19 (o_aload 0 1) := ok_aload_n (k := 0) (by decide +kernel) rfl
theorem k_136_20 : OkOp mt Ev 136 20 (o_iload 1 1) := ok_iload_n (k := 1) (by decide +kernel) rfl
theorem k_136_21 : OkOp mt Ev 136 21 (o_iload 2 1) := ok_iload_n (k := 2) (by decide +kernel) rfl
theorem k_136_22 : OkOp mt Ev 136 22 (o_cv [(12, 152)] 2) := ok_cv (i := 116) (by decide +kernel) vc_147
theorem k_136_25 : OkOp mt Ev 136 25 (o_aload 0 1) := ok_aload_n (k := 0) (by decide +kernel) rfl
theorem k_136_26 : OkOp mt Ev 136 26 (o_iload 1 1) := ok_iload_n (k := 1) (by decide +kernel) rfl
theorem k_136_27 : OkOp mt Ev 136 27 (o_iload 2 1) := ok_iload_n (k := 2) (by decide +kernel) rfl
theorem k_136_28 : OkOp mt Ev 136 28 (o_aload 0 1) := ok_aload_n (k := 0) (by decide +kernel) rfl
theorem k_136_29 : OkOp mt Ev 136 29 (o_getf 14 [12]) := ok_getf (i := 120) (rf := "BridgeSentencesModel") (nm := "sum") (ds := "I") (by decide +kernel) fc_67 wd_999
theorem k_136_32 : OkOp mt Ev 136 32 (o_aload 0 1) := ok_aload_n (k := 0) (by decide +kernel) rfl
theorem k_136_33 : OkOp mt Ev 136 33 (o_iload 1 1) := ok_iload_n (k := 1) (by decide +kernel) rfl
theorem k_136_34 : OkOp mt Ev 136 34 (o_push (.int (2)) 1) := ok_iconst (n := 2) (by decide +kernel) (by decide +kernel)
theorem k_136_35 : OkOp mt Ev 136 35 (o_cv [(12, 132)] 2) := ok_cv (i := 87) (by decide +kernel) vc_141
theorem k_136_38 : OkOp mt Ev 136 38 (o_cv [(12, 154)] 4) := ok_cv (i := 124) (by decide +kernel) vc_148
theorem k_136_41 : OkOp mt Ev 136 41 (o_ret 0) := ok_reti (ty := .int) (by decide +kernel) rfl (Or.inl ⟨rfl, rfl⟩)
theorem kt_136 : ∀ pc o, cd_X12_urge Ev pc = some o → OkOp mt Ev 136 pc o ∧ Gw o := (tN_ok (tN_ok (tN_ok (tN_ok (tL_ok ⟨k_136_0, gw_aload⟩) (tN_ok (tL_ok ⟨k_136_1, gw_iload⟩) (tL_ok ⟨k_136_2, gw_cv⟩))) (tN_ok (tL_ok ⟨k_136_5, gw_if1⟩) (tN_ok (tL_ok ⟨k_136_8, gw_iload⟩) (tL_ok ⟨k_136_9, gw_cs⟩)))) (tN_ok (tN_ok (tL_ok ⟨k_136_12, gw_if1⟩) (tN_ok (tL_ok ⟨k_136_15, gw_push⟩) (tL_ok ⟨k_136_18, gw_ret⟩))) (tN_ok (tL_ok ⟨k_136_19, gw_aload⟩) (tN_ok (tL_ok ⟨k_136_20, gw_iload⟩) (tL_ok ⟨k_136_21, gw_iload⟩))))) (tN_ok (tN_ok (tN_ok (tL_ok ⟨k_136_22, gw_cv⟩) (tN_ok (tL_ok ⟨k_136_25, gw_aload⟩) (tL_ok ⟨k_136_26, gw_iload⟩))) (tN_ok (tL_ok ⟨k_136_27, gw_iload⟩) (tN_ok (tL_ok ⟨k_136_28, gw_aload⟩) (tL_ok ⟨k_136_29, gw_getf⟩)))) (tN_ok (tN_ok (tL_ok ⟨k_136_32, gw_aload⟩) (tN_ok (tL_ok ⟨k_136_33, gw_iload⟩) (tL_ok ⟨k_136_34, gw_push⟩))) (tN_ok (tL_ok ⟨k_136_35, gw_cv⟩) (tN_ok (tL_ok ⟨k_136_38, gw_cv⟩) (tL_ok ⟨k_136_41, gw_ret⟩))))))
theorem k_137_0 : OkOp mt Ev 137 0 (o_aload 0 1) := ok_aload_n (k := 0) (by decide +kernel) rfl
theorem k_137_1 : OkOp mt Ev 137 1 (o_iload 1 1) := ok_iload_n (k := 1) (by decide +kernel) rfl
theorem k_137_2 : OkOp mt Ev 137 2 (o_cv [(12, 128)] 1) := ok_cv (i := 95) (by decide +kernel) vc_143
theorem k_137_5 : OkOp mt Ev 137 5 (o_if1 (fun x => decide (¬ x = 0)) 10) := ok_if_ne (off := 5) (by decide +kernel) (by decide +kernel)
theorem k_137_8 : OkOp mt Ev 137 8 (o_push (.int (-1)) 1) := ok_iconst (n := -1) (by decide +kernel) (by decide +kernel)
theorem k_137_9 : OkOp mt Ev 137 9 (o_ret 0) := ok_reti (ty := .int) (by decide +kernel) rfl (Or.inl ⟨rfl, rfl⟩)
theorem k_137_10 : OkOp mt Ev 137 10 (o_iload 2 1) := ok_iload_n (k := 2) (by decide +kernel) rfl
theorem k_137_11 : OkOp mt Ev 137 11 (o_push (.int (0)) 1) := ok_iconst (n := 0) (by decide +kernel) (by decide +kernel)
theorem k_137_12 : OkOp mt Ev 137 12 (o_push (.int (4095)) 3) := ok_sipush (n := 4095) (by decide +kernel) (by decide +kernel)
theorem k_137_15 : OkOp mt Ev 137 15 (o_cs 123 3) := ok_cs (i := 83) (by decide +kernel) wd_1089 wd_1090 wd_62 wd_1091 nk_34
theorem k_137_18 : OkOp mt Ev 137 18 (o_if1 (fun x => decide (x = 0)) 31) := ok_if_eq (off := 13) (by decide +kernel) (by decide +kernel)
theorem k_137_21 : OkOp mt Ev 137 21 (o_aload 0 1) := ok_aload_n (k := 0) (by decide +kernel) rfl
theorem k_137_22 : OkOp mt Ev 137 22 (o_iload 1 1) := ok_iload_n (k := 1) (by decide +kernel) rfl
theorem k_137_23 : OkOp mt Ev 137 23 (o_push (.int (2)) 1) := ok_iconst (n := 2) (by decide +kernel) (by decide +kernel)
theorem k_137_24 : OkOp mt Ev 137 24 (o_iload 2 1) := ok_iload_n (k := 2) (by decide +kernel) rfl
theorem k_137_25 : OkOp mt Ev 137 25 (o_cv [(12, 133)] 3) := ok_cv (i := 91) (by decide +kernel) vc_142
theorem k_137_28 : OkOp mt Ev 137 28 (o_goto 33) := ok_goto (off := 5) (by decide +kernel) (by decide +kernel)
theorem k_137_31 : OkOp mt Ev 137 31 (o_push (.int (-2)) 2) := ok_bipush (n := -2) (by decide +kernel) (by decide +kernel)
theorem k_137_33 : OkOp mt Ev 137 33 (o_ret 0) := ok_reti (ty := .int) (by decide +kernel) rfl (Or.inl ⟨rfl, rfl⟩)
theorem kt_137 : ∀ pc o, cd_X12_learn Ev pc = some o → OkOp mt Ev 137 pc o ∧ Gw o := (tN_ok (tN_ok (tN_ok (tN_ok (tL_ok ⟨k_137_0, gw_aload⟩) (tL_ok ⟨k_137_1, gw_iload⟩)) (tN_ok (tL_ok ⟨k_137_2, gw_cv⟩) (tL_ok ⟨k_137_5, gw_if1⟩))) (tN_ok (tN_ok (tL_ok ⟨k_137_8, gw_push⟩) (tL_ok ⟨k_137_9, gw_ret⟩)) (tN_ok (tL_ok ⟨k_137_10, gw_iload⟩) (tN_ok (tL_ok ⟨k_137_11, gw_push⟩) (tL_ok ⟨k_137_12, gw_push⟩))))) (tN_ok (tN_ok (tN_ok (tL_ok ⟨k_137_15, gw_cs⟩) (tL_ok ⟨k_137_18, gw_if1⟩)) (tN_ok (tL_ok ⟨k_137_21, gw_aload⟩) (tN_ok (tL_ok ⟨k_137_22, gw_iload⟩) (tL_ok ⟨k_137_23, gw_push⟩)))) (tN_ok (tN_ok (tL_ok ⟨k_137_24, gw_iload⟩) (tL_ok ⟨k_137_25, gw_cv⟩)) (tN_ok (tL_ok ⟨k_137_28, gw_goto⟩) (tN_ok (tL_ok ⟨k_137_31, gw_push⟩) (tL_ok ⟨k_137_33, gw_ret⟩))))))
theorem k_138_0 : OkOp mt Ev 138 0 (o_aload 0 1) := ok_aload_n (k := 0) (by decide +kernel) rfl
theorem k_138_1 : OkOp mt Ev 138 1 (o_iload 1 1) := ok_iload_n (k := 1) (by decide +kernel) rfl
theorem k_138_2 : OkOp mt Ev 138 2 (o_cv [(12, 128)] 1) := ok_cv (i := 95) (by decide +kernel) vc_143
theorem k_138_5 : OkOp mt Ev 138 5 (o_if1 (fun x => decide (x = 0)) 26) := ok_if_eq (off := 21) (by decide +kernel) (by decide +kernel)
theorem k_138_8 : OkOp mt Ev 138 8 (o_aload 0 1) := ok_aload_n (k := 0) (by decide +kernel) rfl
theorem k_138_9 : OkOp mt Ev 138 9 (o_iload 1 1) := ok_iload_n (k := 1) (by decide +kernel) rfl
theorem k_138_10 : OkOp mt Ev 138 10 (o_push (.int (3)) 1) := ok_iconst (n := 3) (by decide +kernel) (by decide +kernel)
theorem k_138_11 : OkOp mt Ev 138 11 (o_iload 2 1) := ok_iload_n (k := 2) (by decide +kernel) rfl
theorem k_138_12 : OkOp mt Ev 138 12 (o_if1 (fun x => decide (x = 0)) 19) := ok_if_eq (off := 7) (by decide +kernel) (by decide +kernel)
theorem k_138_15 : OkOp mt Ev 138 15 (o_push (.int (1)) 1) := ok_iconst (n := 1) (by decide +kernel) (by decide +kernel)
theorem k_138_16 : OkOp mt Ev 138 16 (o_goto 20) := ok_goto (off := 4) (by decide +kernel) (by decide +kernel)
theorem k_138_19 : OkOp mt Ev 138 19 (o_push (.int (0)) 1) := ok_iconst (n := 0) (by decide +kernel) (by decide +kernel)
theorem k_138_20 : OkOp mt Ev 138 20 (o_cv [(12, 133)] 3) := ok_cv (i := 91) (by decide +kernel) vc_142
theorem k_138_23 : OkOp mt Ev 138 23 (o_goto 27) := ok_goto (off := 4) (by decide +kernel) (by decide +kernel)
theorem k_138_26 : OkOp mt Ev 138 26 (o_push (.int (-1)) 1) := ok_iconst (n := -1) (by decide +kernel) (by decide +kernel)
theorem k_138_27 : OkOp mt Ev 138 27 (o_ret 0) := ok_reti (ty := .int) (by decide +kernel) rfl (Or.inl ⟨rfl, rfl⟩)
theorem kt_138 : ∀ pc o, cd_X12_ford Ev pc = some o → OkOp mt Ev 138 pc o ∧ Gw o := (tN_ok (tN_ok (tN_ok (tN_ok (tL_ok ⟨k_138_0, gw_aload⟩) (tL_ok ⟨k_138_1, gw_iload⟩)) (tN_ok (tL_ok ⟨k_138_2, gw_cv⟩) (tL_ok ⟨k_138_5, gw_if1⟩))) (tN_ok (tN_ok (tL_ok ⟨k_138_8, gw_aload⟩) (tL_ok ⟨k_138_9, gw_iload⟩)) (tN_ok (tL_ok ⟨k_138_10, gw_push⟩) (tL_ok ⟨k_138_11, gw_iload⟩)))) (tN_ok (tN_ok (tN_ok (tL_ok ⟨k_138_12, gw_if1⟩) (tL_ok ⟨k_138_15, gw_push⟩)) (tN_ok (tL_ok ⟨k_138_16, gw_goto⟩) (tL_ok ⟨k_138_19, gw_push⟩))) (tN_ok (tN_ok (tL_ok ⟨k_138_20, gw_cv⟩) (tL_ok ⟨k_138_23, gw_goto⟩)) (tN_ok (tL_ok ⟨k_138_26, gw_push⟩) (tL_ok ⟨k_138_27, gw_ret⟩)))))
theorem k_139_0 : OkOp mt Ev 139 0 (o_iload 1 1) := ok_iload_n (k := 1) (by decide +kernel) rfl
theorem k_139_1 : OkOp mt Ev 139 1 (o_cs 129 1) := ok_cs (i := 113) (by decide +kernel) wd_1192 wd_1193 wd_62 wd_1194 nk_36
theorem k_139_4 : OkOp mt Ev 139 4 (o_if1 (fun x => decide (¬ x = 0)) 9) := ok_if_ne (off := 5) (by decide +kernel) (by decide +kernel)
theorem k_139_7 : OkOp mt Ev 139 7 (o_push (.int (-1)) 1) := ok_iconst (n := -1) (by decide +kernel) (by decide +kernel)
theorem k_139_8 : OkOp mt Ev 139 8 (o_ret 0) := ok_reti (ty := .int) (by decide +kernel) rfl (Or.inl ⟨rfl, rfl⟩)
theorem k_139_9 : OkOp mt Ev 139 9 (o_iload 2 1) := ok_iload_n (k := 2) (by decide +kernel) rfl
theorem k_139_10 : OkOp mt Ev 139 10 (o_push (.int (0)) 1) := ok_iconst (n := 0) (by decide +kernel) (by decide +kernel)
theorem k_139_11 : OkOp mt Ev 139 11 (o_push (.int (20)) 2) := ok_bipush (n := 20) (by decide +kernel) (by decide +kernel)
theorem k_139_13 : OkOp mt Ev 139 13 (o_cs 123 3) := ok_cs (i := 83) (by decide +kernel) wd_1089 wd_1090 wd_62 wd_1091 nk_34
theorem k_139_16 : OkOp mt Ev 139 16 (o_if1 (fun x => decide (¬ x = 0)) 22) := ok_if_ne (off := 6) (by decide +kernel) (by decide +kernel)
theorem k_139_19 : OkOp mt Ev 139 19 (o_push (.int (-2)) 2) := ok_bipush (n := -2) (by decide +kernel) (by decide +kernel)
theorem k_139_21 : OkOp mt Ev 139 21 (o_ret 0) := ok_reti (ty := .int) (by decide +kernel) rfl (Or.inl ⟨rfl, rfl⟩)
theorem k_139_22 : OkOp mt Ev 139 22 (o_aload 0 1) := ok_aload_n (k := 0) (by decide +kernel) rfl
theorem k_139_23 : OkOp mt Ev 139 23 (o_getf 0 [12]) := ok_getf (i := 15) (rf := "BridgeSentencesModel") (nm := "now") (ds := "[I") (by decide +kernel) fc_47 wd_985
theorem k_139_26 : OkOp mt Ev 139 26 (o_iload 1 1) := ok_iload_n (k := 1) (by decide +kernel) rfl
theorem k_139_27 : OkOp mt Ev 139 27 (o_iald 2) := ok_iald (by decide +kernel)
theorem k_139_28 : OkOp mt Ev 139 28 (o_istore 3 1) := ok_istore_n (k := 3) (by decide +kernel) rfl
theorem k_139_29 : OkOp mt Ev 139 29 (o_aload 0 1) := ok_aload_n (k := 0) (by decide +kernel) rfl
theorem k_139_30 : OkOp mt Ev 139 30 (o_getf 0 [12]) := ok_getf (i := 15) (rf := "BridgeSentencesModel") (nm := "now") (ds := "[I") (by decide +kernel) fc_47 wd_985
theorem k_139_33 : OkOp mt Ev 139 33 (o_iload 1 1) := ok_iload_n (k := 1) (by decide +kernel) rfl
theorem k_139_34 : OkOp mt Ev 139 34 (o_iload 2 1) := ok_iload_n (k := 2) (by decide +kernel) rfl
theorem k_139_35 : OkOp mt Ev 139 35 (o_iast 2 (fun x => x)) := ok_iast (by decide +kernel)
theorem k_139_36 : OkOp mt Ev 139 36 (o_iload 3 1) := ok_iload_n (k := 3) (by decide +kernel) rfl
theorem k_139_37 : OkOp mt Ev 139 37 (o_ret 0) := ok_reti (ty := .int) (by decide +kernel) rfl (Or.inl ⟨rfl, rfl⟩)
theorem kt_139 : ∀ pc o, cd_X12_worth Ev pc = some o → OkOp mt Ev 139 pc o ∧ Gw o := (tN_ok (tN_ok (tN_ok (tN_ok (tL_ok ⟨k_139_0, gw_iload⟩) (tN_ok (tL_ok ⟨k_139_1, gw_cs⟩) (tL_ok ⟨k_139_4, gw_if1⟩))) (tN_ok (tL_ok ⟨k_139_7, gw_push⟩) (tN_ok (tL_ok ⟨k_139_8, gw_ret⟩) (tL_ok ⟨k_139_9, gw_iload⟩)))) (tN_ok (tN_ok (tL_ok ⟨k_139_10, gw_push⟩) (tN_ok (tL_ok ⟨k_139_11, gw_push⟩) (tL_ok ⟨k_139_13, gw_cs⟩))) (tN_ok (tL_ok ⟨k_139_16, gw_if1⟩) (tN_ok (tL_ok ⟨k_139_19, gw_push⟩) (tL_ok ⟨k_139_21, gw_ret⟩))))) (tN_ok (tN_ok (tN_ok (tL_ok ⟨k_139_22, gw_aload⟩) (tN_ok (tL_ok ⟨k_139_23, gw_getf⟩) (tL_ok ⟨k_139_26, gw_iload⟩))) (tN_ok (tL_ok ⟨k_139_27, gw_iald⟩) (tN_ok (tL_ok ⟨k_139_28, gw_istore⟩) (tL_ok ⟨k_139_29, gw_aload⟩)))) (tN_ok (tN_ok (tL_ok ⟨k_139_30, gw_getf⟩) (tN_ok (tL_ok ⟨k_139_33, gw_iload⟩) (tL_ok ⟨k_139_34, gw_iload⟩))) (tN_ok (tL_ok ⟨k_139_35, gw_iast⟩) (tN_ok (tL_ok ⟨k_139_36, gw_iload⟩) (tL_ok ⟨k_139_37, gw_ret⟩))))))
theorem k_140_0 : OkOp mt Ev 140 0 (o_aload 0 1) := ok_aload_n (k := 0) (by decide +kernel) rfl
theorem k_140_1 : OkOp mt Ev 140 1 (o_iload 1 1) := ok_iload_n (k := 1) (by decide +kernel) rfl
theorem k_140_2 : OkOp mt Ev 140 2 (o_cv [(12, 128)] 1) := ok_cv (i := 95) (by decide +kernel) vc_143
theorem k_140_5 : OkOp mt Ev 140 5 (o_if1 (fun x => decide (x = 0)) 17) := ok_if_eq (off := 12) (by decide +kernel) (by decide +kernel)
theorem k_140_8 : OkOp mt Ev 140 8 (o_iload 2 1) := ok_iload_n (k := 2) (by decide +kernel) rfl
theorem k_140_9 : OkOp mt Ev 140 9 (o_push (.int (0)) 1) := ok_iconst (n := 0) (by decide +kernel) (by decide +kernel)
theorem k_140_10 : OkOp mt Ev 140 10 (o_push (.int (3)) 1) := ok_iconst (n := 3) (by decide +kernel) (by decide +kernel)
theorem k_140_11 : OkOp mt Ev 140 11 (o_cs 123 3) := ok_cs (i := 83) (by decide +kernel) wd_1089 wd_1090 wd_62 wd_1091 nk_34
theorem k_140_14 : OkOp mt Ev 140 14 (o_if1 (fun x => decide (¬ x = 0)) 19) := ok_if_ne (off := 5) (by decide +kernel) (by decide +kernel)
theorem k_140_17 : OkOp mt Ev 140 17 (o_push (.int (-1)) 1) := ok_iconst (n := -1) (by decide +kernel) (by decide +kernel)
theorem k_140_18 : OkOp mt Ev 140 18 (o_ret 0) := ok_reti (ty := .int) (by decide +kernel) rfl (Or.inl ⟨rfl, rfl⟩)
theorem k_140_19 : OkOp mt Ev 140 19 (o_iload 3 1) := ok_iload_n (k := 3) (by decide +kernel) rfl
theorem k_140_20 : OkOp mt Ev 140 20 (o_push (.int (0)) 1) := ok_iconst (n := 0) (by decide +kernel) (by decide +kernel)
theorem k_140_21 : OkOp mt Ev 140 21 (o_push (.int (9)) 2) := ok_bipush (n := 9) (by decide +kernel) (by decide +kernel)
theorem k_140_23 : OkOp mt Ev 140 23 (o_cs 123 3) := ok_cs (i := 83) (by decide +kernel) wd_1089 wd_1090 wd_62 wd_1091 nk_34
theorem k_140_26 : OkOp mt Ev 140 26 (o_if1 (fun x => decide (¬ x = 0)) 32) := ok_if_ne (off := 6) (by decide +kernel) (by decide +kernel)
theorem k_140_29 : OkOp mt Ev 140 29 (o_push (.int (-2)) 2) := ok_bipush (n := -2) (by decide +kernel) (by decide +kernel)
theorem k_140_31 : OkOp mt Ev 140 31 (o_ret 0) := ok_reti (ty := .int) (by decide +kernel) rfl (Or.inl ⟨rfl, rfl⟩)
theorem k_140_32 : OkOp mt Ev 140 32 (o_aload 0 1) := ok_aload_n (k := 0) (by decide +kernel) rfl
theorem k_140_33 : OkOp mt Ev 140 33 (o_iload 1 1) := ok_iload_n (k := 1) (by decide +kernel) rfl
theorem k_140_34 : OkOp mt Ev 140 34 (o_push (.int (0)) 1) := ok_iconst (n := 0) (by decide +kernel) (by decide +kernel)
theorem k_140_35 : OkOp mt Ev 140 35 (o_cv [(12, 132)] 2) := ok_cv (i := 87) (by decide +kernel) vc_141
theorem k_140_38 : OkOp mt Ev 140 38 (o_push (.int (6)) 2) := ok_bipush (n := 6) (by decide +kernel) (by decide +kernel)
theorem k_140_40 : OkOp mt Ev 140 40 (o_if2 (fun x y => decide (¬ x = y)) 55) := ok_icmp_ne (off := 15) (by decide +kernel) (by decide +kernel)
theorem k_140_43 : OkOp mt Ev 140 43 (o_aload 0 1) := ok_aload_n (k := 0) (by decide +kernel) rfl
theorem k_140_44 : OkOp mt Ev 140 44 (o_iload 1 1) := ok_iload_n (k := 1) (by decide +kernel) rfl
theorem k_140_45 : OkOp mt Ev 140 45 (o_push (.int (5)) 1) := ok_iconst (n := 5) (by decide +kernel) (by decide +kernel)
theorem k_140_46 : OkOp mt Ev 140 46 (o_iload 2 1) := ok_iload_n (k := 2) (by decide +kernel) rfl
theorem k_140_47 : OkOp mt Ev 140 47 (o_ib (fun x y => x + y)) := ok_iadd (by decide +kernel)
theorem k_140_48 : OkOp mt Ev 140 48 (o_iload 3 1) := ok_iload_n (k := 3) (by decide +kernel) rfl
theorem k_140_49 : OkOp mt Ev 140 49 (o_cv [(12, 133)] 3) := ok_cv (i := 91) (by decide +kernel) vc_142
theorem k_140_52 : OkOp mt Ev 140 52 (o_goto 57) := ok_goto (off := 5) (by decide +kernel) (by decide +kernel)
theorem k_140_55 : OkOp mt Ev 140 55 (o_push (.int (-3)) 2) := ok_bipush (n := -3) (by decide +kernel) (by decide +kernel)
theorem k_140_57 : OkOp mt Ev 140 57 (o_ret 0) := ok_reti (ty := .int) (by decide +kernel) rfl (Or.inl ⟨rfl, rfl⟩)
theorem kt_140 : ∀ pc o, cd_X12_row Ev pc = some o → OkOp mt Ev 140 pc o ∧ Gw o := (tN_ok (tN_ok (tN_ok (tN_ok (tN_ok (tL_ok ⟨k_140_0, gw_aload⟩) (tL_ok ⟨k_140_1, gw_iload⟩)) (tN_ok (tL_ok ⟨k_140_2, gw_cv⟩) (tL_ok ⟨k_140_5, gw_if1⟩))) (tN_ok (tN_ok (tL_ok ⟨k_140_8, gw_iload⟩) (tL_ok ⟨k_140_9, gw_push⟩)) (tN_ok (tL_ok ⟨k_140_10, gw_push⟩) (tL_ok ⟨k_140_11, gw_cs⟩)))) (tN_ok (tN_ok (tN_ok (tL_ok ⟨k_140_14, gw_if1⟩) (tL_ok ⟨k_140_17, gw_push⟩)) (tN_ok (tL_ok ⟨k_140_18, gw_ret⟩) (tL_ok ⟨k_140_19, gw_iload⟩))) (tN_ok (tN_ok (tL_ok ⟨k_140_20, gw_push⟩) (tL_ok ⟨k_140_21, gw_push⟩)) (tN_ok (tL_ok ⟨k_140_23, gw_cs⟩) (tN_ok (tL_ok ⟨k_140_26, gw_if1⟩) (tL_ok ⟨k_140_29, gw_push⟩)))))) (tN_ok (tN_ok (tN_ok (tN_ok (tL_ok ⟨k_140_31, gw_ret⟩) (tL_ok ⟨k_140_32, gw_aload⟩)) (tN_ok (tL_ok ⟨k_140_33, gw_iload⟩) (tL_ok ⟨k_140_34, gw_push⟩))) (tN_ok (tN_ok (tL_ok ⟨k_140_35, gw_cv⟩) (tL_ok ⟨k_140_38, gw_push⟩)) (tN_ok (tL_ok ⟨k_140_40, gw_if2⟩) (tL_ok ⟨k_140_43, gw_aload⟩)))) (tN_ok (tN_ok (tN_ok (tL_ok ⟨k_140_44, gw_iload⟩) (tL_ok ⟨k_140_45, gw_push⟩)) (tN_ok (tL_ok ⟨k_140_46, gw_iload⟩) (tL_ok ⟨k_140_47, gw_ib⟩))) (tN_ok (tN_ok (tL_ok ⟨k_140_48, gw_iload⟩) (tL_ok ⟨k_140_49, gw_cv⟩)) (tN_ok (tL_ok ⟨k_140_52, gw_goto⟩) (tN_ok (tL_ok ⟨k_140_55, gw_push⟩) (tL_ok ⟨k_140_57, gw_ret⟩)))))))
theorem k_141_0 : OkOp mt Ev 141 0 (o_iload 1 1) := ok_iload_n (k := 1) (by decide +kernel) rfl
theorem k_141_1 : OkOp mt Ev 141 1 (o_push (.int (0)) 1) := ok_iconst (n := 0) (by decide +kernel) (by decide +kernel)
theorem k_141_2 : OkOp mt Ev 141 2 (o_push (.int (127)) 2) := ok_bipush (n := 127) (by decide +kernel) (by decide +kernel)
theorem k_141_4 : OkOp mt Ev 141 4 (o_cs 123 3) := ok_cs (i := 83) (by decide +kernel) wd_1089 wd_1090 wd_62 wd_1091 nk_34
theorem k_141_7 : OkOp mt Ev 141 7 (o_if1 (fun x => decide (¬ x = 0)) 13) := ok_if_ne (off := 6) (by decide +kernel) (by decide +kernel)
theorem k_141_10 : OkOp mt Ev 141 10 (o_push (.int (-2)) 2) := ok_bipush (n := -2) (by decide +kernel) (by decide +kernel)
theorem k_141_12 : OkOp mt Ev 141 12 (o_ret 0) := ok_reti (ty := .int) (by decide +kernel) rfl (Or.inl ⟨rfl, rfl⟩)
theorem k_141_13 : OkOp mt Ev 141 13 (o_aload 0 1) := ok_aload_n (k := 0) (by decide +kernel) rfl
theorem k_141_14 : OkOp mt Ev 141 14 (o_getf 5 [12]) := ok_getf (i := 128) (rf := "BridgeSentencesModel") (nm := "texted") (ds := "I") (by decide +kernel) fc_68 wd_990
theorem k_141_17 : OkOp mt Ev 141 17 (o_push (.int (100)) 2) := ok_bipush (n := 100) (by decide +kernel) (by decide +kernel)
theorem k_141_19 : OkOp mt Ev 141 19 (o_if2 (fun x y => decide (¬ x = y)) 25) := ok_icmp_ne (off := 6) (by decide +kernel) (by decide +kernel)
theorem k_141_22 : OkOp mt Ev 141 22 (o_push (.int (-4)) 2) := ok_bipush (n := -4) (by decide +kernel) (by decide +kernel)
theorem k_141_24 : OkOp mt Ev 141 24 (o_ret 0) := ok_reti (ty := .int) (by decide +kernel) rfl (Or.inl ⟨rfl, rfl⟩)
theorem k_141_25 : OkOp mt Ev 141 25 (o_aload 0 1) := ok_aload_n (k := 0) (by decide +kernel) rfl
theorem k_141_26 : OkOp mt Ev 141 26 (o_getf 4 [12]) := ok_getf (i := 25) (rf := "BridgeSentencesModel") (nm := "text") (ds := "[I") (by decide +kernel) fc_50 wd_989
theorem k_141_29 : OkOp mt Ev 141 29 (o_aload 0 1) := ok_aload_n (k := 0) (by decide +kernel) rfl
theorem k_141_30 : OkOp mt Ev 141 30 (o_getf 5 [12]) := ok_getf (i := 128) (rf := "BridgeSentencesModel") (nm := "texted") (ds := "I") (by decide +kernel) fc_68 wd_990
theorem k_141_33 : OkOp mt Ev 141 33 (o_iload 1 1) := ok_iload_n (k := 1) (by decide +kernel) rfl
theorem k_141_34 : OkOp mt Ev 141 34 (o_iast 2 (fun x => x)) := ok_iast (by decide +kernel)
theorem k_141_35 : OkOp mt Ev 141 35 (o_aload 0 1) := ok_aload_n (k := 0) (by decide +kernel) rfl
theorem k_141_36 : OkOp mt Ev 141 36 (o_dup) := ok_dup (by decide +kernel)
theorem k_141_37 : OkOp mt Ev 141 37 (o_getf 5 [12]) := ok_getf (i := 128) (rf := "BridgeSentencesModel") (nm := "texted") (ds := "I") (by decide +kernel) fc_68 wd_990
theorem k_141_40 : OkOp mt Ev 141 40 (o_push (.int (1)) 1) := ok_iconst (n := 1) (by decide +kernel) (by decide +kernel)
theorem k_141_41 : OkOp mt Ev 141 41 (o_ib (fun x y => x + y)) := ok_iadd (by decide +kernel)
theorem k_141_42 : OkOp mt Ev 141 42 (o_putf 5 [12] 0) := ok_putf (i := 128) (rf := "BridgeSentencesModel") (nm := "texted") (ds := "I") (ty := .int) (fin := false) (by decide +kernel) fc_68 wd_990 (tc_12) ff_71 (by decide) (by decide +kernel) ov_int
theorem k_141_45 : OkOp mt Ev 141 45 (o_aload 0 1) := ok_aload_n (k := 0) (by decide +kernel) rfl
theorem k_141_46 : OkOp mt Ev 141 46 (o_getf 5 [12]) := ok_getf (i := 128) (rf := "BridgeSentencesModel") (nm := "texted") (ds := "I") (by decide +kernel) fc_68 wd_990
theorem k_141_49 : OkOp mt Ev 141 49 (o_ret 0) := ok_reti (ty := .int) (by decide +kernel) rfl (Or.inl ⟨rfl, rfl⟩)
theorem kt_141 : ∀ pc o, cd_X12_feed Ev pc = some o → OkOp mt Ev 141 pc o ∧ Gw o := (tN_ok (tN_ok (tN_ok (tN_ok (tL_ok ⟨k_141_0, gw_iload⟩) (tN_ok (tL_ok ⟨k_141_1, gw_push⟩) (tL_ok ⟨k_141_2, gw_push⟩))) (tN_ok (tN_ok (tL_ok ⟨k_141_4, gw_cs⟩) (tL_ok ⟨k_141_7, gw_if1⟩)) (tN_ok (tL_ok ⟨k_141_10, gw_push⟩) (tL_ok ⟨k_141_12, gw_ret⟩)))) (tN_ok (tN_ok (tL_ok ⟨k_141_13, gw_aload⟩) (tN_ok (tL_ok ⟨k_141_14, gw_getf⟩) (tL_ok ⟨k_141_17, gw_push⟩))) (tN_ok (tN_ok (tL_ok ⟨k_141_19, gw_if2⟩) (tL_ok ⟨k_141_22, gw_push⟩)) (tN_ok (tL_ok ⟨k_141_24, gw_ret⟩) (tL_ok ⟨k_141_25, gw_aload⟩))))) (tN_ok (tN_ok (tN_ok (tL_ok ⟨k_141_26, gw_getf⟩) (tN_ok (tL_ok ⟨k_141_29, gw_aload⟩) (tL_ok ⟨k_141_30, gw_getf⟩))) (tN_ok (tN_ok (tL_ok ⟨k_141_33, gw_iload⟩) (tL_ok ⟨k_141_34, gw_iast⟩)) (tN_ok (tL_ok ⟨k_141_35, gw_aload⟩) (tL_ok ⟨k_141_36, gw_dup⟩)))) (tN_ok (tN_ok (tL_ok ⟨k_141_37, gw_getf⟩) (tN_ok (tL_ok ⟨k_141_40, gw_push⟩) (tL_ok ⟨k_141_41, gw_ib⟩))) (tN_ok (tN_ok (tL_ok ⟨k_141_42, gw_putf⟩) (tL_ok ⟨k_141_45, gw_aload⟩)) (tN_ok (tL_ok ⟨k_141_46, gw_getf⟩) (tL_ok ⟨k_141_49, gw_ret⟩))))))
theorem k_142_0 : OkOp mt Ev 142 0 (o_aload 0 1) := ok_aload_n (k := 0) (by decide +kernel) rfl
theorem k_142_1 : OkOp mt Ev 142 1 (o_getf 12 [12]) := ok_getf (i := 131) (rf := "BridgeSentencesModel") (nm := "well") (ds := "Z") (by decide +kernel) fc_69 wd_997
theorem k_142_4 : OkOp mt Ev 142 4 (o_if1 (fun x => decide (x = 0)) 35) := ok_if_eq (off := 31) (by decide +kernel) (by decide +kernel)
theorem k_142_7 : OkOp mt Ev 142 7 (o_aload 0 1) := ok_aload_n (k := 0) (by decide +kernel) rfl
theorem k_142_8 : OkOp mt Ev 142 8 (o_getf 11 [12]) := ok_getf (i := 134) (rf := "BridgeSentencesModel") (nm := "at") (ds := "I") (by decide +kernel) fc_70 wd_996
theorem k_142_11 : OkOp mt Ev 142 11 (o_aload 0 1) := ok_aload_n (k := 0) (by decide +kernel) rfl
theorem k_142_12 : OkOp mt Ev 142 12 (o_getf 10 [12]) := ok_getf (i := 137) (rf := "BridgeSentencesModel") (nm := "size") (ds := "I") (by decide +kernel) fc_71 wd_995
theorem k_142_15 : OkOp mt Ev 142 15 (o_if2 (fun x y => decide (y ≤ x)) 35) := ok_icmp_ge (off := 20) (by decide +kernel) (by decide +kernel)
theorem k_142_18 : OkOp mt Ev 142 18 (o_aload 0 1) := ok_aload_n (k := 0) (by decide +kernel) rfl
theorem k_142_19 : OkOp mt Ev 142 19 (o_getf 9 [12]) := ok_getf (i := 34) (rf := "BridgeSentencesModel") (nm := "read") (ds := "[I") (by decide +kernel) fc_53 wd_994
theorem k_142_22 : OkOp mt Ev 142 22 (o_aload 0 1) := ok_aload_n (k := 0) (by decide +kernel) rfl
theorem k_142_23 : OkOp mt Ev 142 23 (o_getf 11 [12]) := ok_getf (i := 134) (rf := "BridgeSentencesModel") (nm := "at") (ds := "I") (by decide +kernel) fc_70 wd_996
theorem k_142_26 : OkOp mt Ev 142 26 (o_iald 2) := ok_iald (by decide +kernel)
theorem k_142_27 : OkOp mt Ev 142 27 (o_iload 1 1) := ok_iload_n (k := 1) (by decide +kernel) rfl
theorem k_142_28 : OkOp mt Ev 142 28 (o_if2 (fun x y => decide (¬ x = y)) 35) := ok_icmp_ne (off := 7) (by decide +kernel) (by decide +kernel)
theorem k_142_31 : OkOp mt Ev 142 31 (o_push (.int (1)) 1) := ok_iconst (n := 1) (by decide +kernel) (by decide +kernel)
theorem k_142_32 : OkOp mt Ev 142 32 (o_goto 36) := ok_goto (off := 4) (by decide +kernel) (by decide +kernel)
theorem k_142_35 : OkOp mt Ev 142 35 (o_push (.int (0)) 1) := ok_iconst (n := 0) (by decide +kernel) (by decide +kernel)
theorem k_142_36 : OkOp mt Ev 142 36 (o_ret 1) := ok_reti (ty := .boolean) (by decide +kernel) rfl (Or.inr (Or.inl ⟨rfl, rfl⟩))
theorem kt_142 : ∀ pc o, cd_X12_isAt Ev pc = some o → OkOp mt Ev 142 pc o ∧ Gw o := (tN_ok (tN_ok (tN_ok (tN_ok (tL_ok ⟨k_142_0, gw_aload⟩) (tL_ok ⟨k_142_1, gw_getf⟩)) (tN_ok (tL_ok ⟨k_142_4, gw_if1⟩) (tL_ok ⟨k_142_7, gw_aload⟩))) (tN_ok (tN_ok (tL_ok ⟨k_142_8, gw_getf⟩) (tL_ok ⟨k_142_11, gw_aload⟩)) (tN_ok (tL_ok ⟨k_142_12, gw_getf⟩) (tN_ok (tL_ok ⟨k_142_15, gw_if2⟩) (tL_ok ⟨k_142_18, gw_aload⟩))))) (tN_ok (tN_ok (tN_ok (tL_ok ⟨k_142_19, gw_getf⟩) (tL_ok ⟨k_142_22, gw_aload⟩)) (tN_ok (tL_ok ⟨k_142_23, gw_getf⟩) (tN_ok (tL_ok ⟨k_142_26, gw_iald⟩) (tL_ok ⟨k_142_27, gw_iload⟩)))) (tN_ok (tN_ok (tL_ok ⟨k_142_28, gw_if2⟩) (tL_ok ⟨k_142_31, gw_push⟩)) (tN_ok (tL_ok ⟨k_142_32, gw_goto⟩) (tN_ok (tL_ok ⟨k_142_35, gw_push⟩) (tL_ok ⟨k_142_36, gw_ret⟩))))))
theorem k_143_0 : OkOp mt Ev 143 0 (o_aload 0 1) := ok_aload_n (k := 0) (by decide +kernel) rfl
theorem k_143_1 : OkOp mt Ev 143 1 (o_iload 1 1) := ok_iload_n (k := 1) (by decide +kernel) rfl
theorem k_143_2 : OkOp mt Ev 143 2 (o_cv [(12, 142)] 1) := ok_cv (i := 140) (by decide +kernel) vc_149
theorem k_143_5 : OkOp mt Ev 143 5 (o_if1 (fun x => decide (x = 0)) 21) := ok_if_eq (off := 16) (by decide +kernel) (by decide +kernel)
theorem k_143_8 : OkOp mt Ev 143 8 (o_aload 0 1) := ok_aload_n (k := 0) (by decide +kernel) rfl
theorem k_143_9 : OkOp mt Ev 143 9 (o_dup) := ok_dup (by decide +kernel)
theorem k_143_10 : OkOp mt Ev 143 10 (o_getf 11 [12]) := ok_getf (i := 134) (rf := "BridgeSentencesModel") (nm := "at") (ds := "I") (by decide +kernel) fc_70 wd_996
theorem k_143_13 : OkOp mt Ev 143 13 (o_push (.int (1)) 1) := ok_iconst (n := 1) (by decide +kernel) (by decide +kernel)
theorem k_143_14 : OkOp mt Ev 143 14 (o_ib (fun x y => x + y)) := ok_iadd (by decide +kernel)
theorem k_143_15 : OkOp mt Ev 143 15 (o_putf 11 [12] 0) := ok_putf (i := 134) (rf := "BridgeSentencesModel") (nm := "at") (ds := "I") (ty := .int) (fin := false) (by decide +kernel) fc_70 wd_996 (tc_12) ff_72 (by decide) (by decide +kernel) ov_int
theorem k_143_18 : OkOp mt Ev 143 18 (o_goto 26) := ok_goto (off := 8) (by decide +kernel) (by decide +kernel)
theorem k_143_21 : OkOp mt Ev 143 21 (o_aload 0 1) := ok_aload_n (k := 0) (by decide +kernel) rfl
theorem k_143_22 : OkOp mt Ev 143 22 (o_push (.int (0)) 1) := ok_iconst (n := 0) (by decide +kernel) (by decide +kernel)
theorem k_143_23 : OkOp mt Ev 143 23 (o_putf 12 [12] 1) := ok_putf (i := 131) (rf := "BridgeSentencesModel") (nm := "well") (ds := "Z") (ty := .boolean) (fin := false) (by decide +kernel) fc_69 wd_997 (tc_12) ff_73 (by decide) (by decide +kernel) ov_bool
theorem k_143_26 : OkOp mt Ev 143 26 (o_retv) := ok_retv (by decide +kernel) rfl
theorem kt_143 : ∀ pc o, cd_X12_takes Ev pc = some o → OkOp mt Ev 143 pc o ∧ Gw o := (tN_ok (tN_ok (tN_ok (tL_ok ⟨k_143_0, gw_aload⟩) (tN_ok (tL_ok ⟨k_143_1, gw_iload⟩) (tL_ok ⟨k_143_2, gw_cv⟩))) (tN_ok (tN_ok (tL_ok ⟨k_143_5, gw_if1⟩) (tL_ok ⟨k_143_8, gw_aload⟩)) (tN_ok (tL_ok ⟨k_143_9, gw_dup⟩) (tL_ok ⟨k_143_10, gw_getf⟩)))) (tN_ok (tN_ok (tN_ok (tL_ok ⟨k_143_13, gw_push⟩) (tL_ok ⟨k_143_14, gw_ib⟩)) (tN_ok (tL_ok ⟨k_143_15, gw_putf⟩) (tL_ok ⟨k_143_18, gw_goto⟩))) (tN_ok (tN_ok (tL_ok ⟨k_143_21, gw_aload⟩) (tL_ok ⟨k_143_22, gw_push⟩)) (tN_ok (tL_ok ⟨k_143_23, gw_putf⟩) (tL_ok ⟨k_143_26, gw_retv⟩)))))
theorem k_144_0 : OkOp mt Ev 144 0 (o_aload 0 1) := ok_aload_n (k := 0) (by decide +kernel) rfl
theorem k_144_1 : OkOp mt Ev 144 1 (o_getf 12 [12]) := ok_getf (i := 131) (rf := "BridgeSentencesModel") (nm := "well") (ds := "Z") (by decide +kernel) fc_69 wd_997
theorem k_144_4 : OkOp mt Ev 144 4 (o_if1 (fun x => decide (x = 0)) 50) := ok_if_eq (off := 46) (by decide +kernel) (by decide +kernel)
theorem k_144_7 : OkOp mt Ev 144 7 (o_aload 0 1) := ok_aload_n (k := 0) (by decide +kernel) rfl
theorem k_144_8 : OkOp mt Ev 144 8 (o_getf 11 [12]) := ok_getf (i := 134) (rf := "BridgeSentencesModel") (nm := "at") (ds := "I") (by decide +kernel) fc_70 wd_996
theorem k_144_11 : OkOp mt Ev 144 11 (o_aload 0 1) := ok_aload_n (k := 0) (by decide +kernel) rfl
theorem k_144_12 : OkOp mt Ev 144 12 (o_getf 10 [12]) := ok_getf (i := 137) (rf := "BridgeSentencesModel") (nm := "size") (ds := "I") (by decide +kernel) fc_71 wd_995
theorem k_144_15 : OkOp mt Ev 144 15 (o_if2 (fun x y => decide (y ≤ x)) 50) := ok_icmp_ge (off := 35) (by decide +kernel) (by decide +kernel)
theorem k_144_18 : OkOp mt Ev 144 18 (o_aload 0 1) := ok_aload_n (k := 0) (by decide +kernel) rfl
theorem k_144_19 : OkOp mt Ev 144 19 (o_getf 9 [12]) := ok_getf (i := 34) (rf := "BridgeSentencesModel") (nm := "read") (ds := "[I") (by decide +kernel) fc_53 wd_994
theorem k_144_22 : OkOp mt Ev 144 22 (o_aload 0 1) := ok_aload_n (k := 0) (by decide +kernel) rfl
theorem k_144_23 : OkOp mt Ev 144 23 (o_getf 11 [12]) := ok_getf (i := 134) (rf := "BridgeSentencesModel") (nm := "at") (ds := "I") (by decide +kernel) fc_70 wd_996
theorem k_144_26 : OkOp mt Ev 144 26 (o_iald 2) := ok_iald (by decide +kernel)
theorem k_144_27 : OkOp mt Ev 144 27 (o_push (.int (48)) 2) := ok_bipush (n := 48) (by decide +kernel) (by decide +kernel)
theorem k_144_29 : OkOp mt Ev 144 29 (o_if2 (fun x y => decide (x < y)) 50) := ok_icmp_lt (off := 21) (by decide +kernel) (by decide +kernel)
theorem k_144_32 : OkOp mt Ev 144 32 (o_aload 0 1) := ok_aload_n (k := 0) (by decide +kernel) rfl
theorem k_144_33 : OkOp mt Ev 144 33 (o_getf 9 [12]) := ok_getf (i := 34) (rf := "BridgeSentencesModel") (nm := "read") (ds := "[I") (by decide +kernel) fc_53 wd_994
theorem k_144_36 : OkOp mt Ev 144 36 (o_aload 0 1) := ok_aload_n (k := 0) (by decide +kernel) rfl
theorem k_144_37 : OkOp mt Ev 144 37 (o_getf 11 [12]) := ok_getf (i := 134) (rf := "BridgeSentencesModel") (nm := "at") (ds := "I") (by decide +kernel) fc_70 wd_996
theorem k_144_40 : OkOp mt Ev 144 40 (o_iald 2) := ok_iald (by decide +kernel)
theorem k_144_41 : OkOp mt Ev 144 41 (o_push (.int (57)) 2) := ok_bipush (n := 57) (by decide +kernel) (by decide +kernel)
theorem k_144_43 : OkOp mt Ev 144 43 (o_if2 (fun x y => decide (y < x)) 50) := ok_icmp_gt (off := 7) (by decide +kernel) (by decide +kernel)
theorem k_144_46 : OkOp mt Ev 144 46 (o_push (.int (1)) 1) := ok_iconst (n := 1) (by decide +kernel) (by decide +kernel)
theorem k_144_47 : OkOp mt Ev 144 47 (o_goto 51) := ok_goto (off := 4) (by decide +kernel) (by decide +kernel)
theorem k_144_50 : OkOp mt Ev 144 50 (o_push (.int (0)) 1) := ok_iconst (n := 0) (by decide +kernel) (by decide +kernel)
theorem k_144_51 : OkOp mt Ev 144 51 (o_ret 1) := ok_reti (ty := .boolean) (by decide +kernel) rfl (Or.inr (Or.inl ⟨rfl, rfl⟩))
theorem kt_144 : ∀ pc o, cd_X12_isDigit Ev pc = some o → OkOp mt Ev 144 pc o ∧ Gw o := (tN_ok (tN_ok (tN_ok (tN_ok (tL_ok ⟨k_144_0, gw_aload⟩) (tN_ok (tL_ok ⟨k_144_1, gw_getf⟩) (tL_ok ⟨k_144_4, gw_if1⟩))) (tN_ok (tL_ok ⟨k_144_7, gw_aload⟩) (tN_ok (tL_ok ⟨k_144_8, gw_getf⟩) (tL_ok ⟨k_144_11, gw_aload⟩)))) (tN_ok (tN_ok (tL_ok ⟨k_144_12, gw_getf⟩) (tN_ok (tL_ok ⟨k_144_15, gw_if2⟩) (tL_ok ⟨k_144_18, gw_aload⟩))) (tN_ok (tN_ok (tL_ok ⟨k_144_19, gw_getf⟩) (tL_ok ⟨k_144_22, gw_aload⟩)) (tN_ok (tL_ok ⟨k_144_23, gw_getf⟩) (tL_ok ⟨k_144_26, gw_iald⟩))))) (tN_ok (tN_ok (tN_ok (tL_ok ⟨k_144_27, gw_push⟩) (tN_ok (tL_ok ⟨k_144_29, gw_if2⟩) (tL_ok ⟨k_144_32, gw_aload⟩))) (tN_ok (tL_ok ⟨k_144_33, gw_getf⟩) (tN_ok (tL_ok ⟨k_144_36, gw_aload⟩) (tL_ok ⟨k_144_37, gw_getf⟩)))) (tN_ok (tN_ok (tL_ok ⟨k_144_40, gw_iald⟩) (tN_ok (tL_ok ⟨k_144_41, gw_push⟩) (tL_ok ⟨k_144_43, gw_if2⟩))) (tN_ok (tN_ok (tL_ok ⟨k_144_46, gw_push⟩) (tL_ok ⟨k_144_47, gw_goto⟩)) (tN_ok (tL_ok ⟨k_144_50, gw_push⟩) (tL_ok ⟨k_144_51, gw_ret⟩))))))
theorem k_145_0 : OkOp mt Ev 145 0 (o_aload 0 1) := ok_aload_n (k := 0) (by decide +kernel) rfl
theorem k_145_1 : OkOp mt Ev 145 1 (o_cv [(12, 144)] 0) := ok_cv (i := 143) (by decide +kernel) vc_150
theorem k_145_4 : OkOp mt Ev 145 4 (o_if1 (fun x => decide (¬ x = 0)) 14) := ok_if_ne (off := 10) (by decide +kernel) (by decide +kernel)
theorem k_145_7 : OkOp mt Ev 145 7 (o_aload 0 1) := ok_aload_n (k := 0) (by decide +kernel) rfl
theorem k_145_8 : OkOp mt Ev 145 8 (o_push (.int (0)) 1) := ok_iconst (n := 0) (by decide +kernel) (by decide +kernel)
theorem k_145_9 : OkOp mt Ev 145 9 (o_putf 12 [12] 1) := ok_putf (i := 131) (rf := "BridgeSentencesModel") (nm := "well") (ds := "Z") (ty := .boolean) (fin := false) (by decide +kernel) fc_69 wd_997 (tc_12) ff_73 (by decide) (by decide +kernel) ov_bool
theorem k_145_12 : OkOp mt Ev 145 12 (o_push (.int (0)) 1) := ok_iconst (n := 0) (by decide +kernel) (by decide +kernel)
theorem k_145_13 : OkOp mt Ev 145 13 (o_ret 0) := ok_reti (ty := .int) (by decide +kernel) rfl (Or.inl ⟨rfl, rfl⟩)
theorem k_145_14 : OkOp mt Ev 145 14 (o_aload 0 1) := ok_aload_n (k := 0) (by decide +kernel) rfl
theorem k_145_15 : OkOp mt Ev 145 15 (o_getf 9 [12]) := ok_getf (i := 34) (rf := "BridgeSentencesModel") (nm := "read") (ds := "[I") (by decide +kernel) fc_53 wd_994
theorem k_145_18 : OkOp mt Ev 145 18 (o_aload 0 1) := ok_aload_n (k := 0) (by decide +kernel) rfl
theorem k_145_19 : OkOp mt Ev 145 19 (o_getf 11 [12]) := ok_getf (i := 134) (rf := "BridgeSentencesModel") (nm := "at") (ds := "I") (by decide +kernel) fc_70 wd_996
theorem k_145_22 : OkOp mt Ev 145 22 (o_iald 2) := ok_iald (by decide +kernel)
theorem k_145_23 : OkOp mt Ev 145 23 (o_push (.int (48)) 2) := ok_bipush (n := 48) (by decide +kernel) (by decide +kernel)
theorem k_145_25 : OkOp mt Ev 145 25 (o_ib (fun x y => x - y)) := ok_isub (by decide +kernel)
theorem k_145_26 : OkOp mt Ev 145 26 (o_istore 1 1) := ok_istore_n (k := 1) (by decide +kernel) rfl
theorem k_145_27 : OkOp mt Ev 145 27 (o_aload 0 1) := ok_aload_n (k := 0) (by decide +kernel) rfl
theorem k_145_28 : OkOp mt Ev 145 28 (o_dup) := ok_dup (by decide +kernel)
theorem k_145_29 : OkOp mt Ev 145 29 (o_getf 11 [12]) := ok_getf (i := 134) (rf := "BridgeSentencesModel") (nm := "at") (ds := "I") (by decide +kernel) fc_70 wd_996
theorem k_145_32 : OkOp mt Ev 145 32 (o_push (.int (1)) 1) := ok_iconst (n := 1) (by decide +kernel) (by decide +kernel)
theorem k_145_33 : OkOp mt Ev 145 33 (o_ib (fun x y => x + y)) := ok_iadd (by decide +kernel)
theorem k_145_34 : OkOp mt Ev 145 34 (o_putf 11 [12] 0) := ok_putf (i := 134) (rf := "BridgeSentencesModel") (nm := "at") (ds := "I") (ty := .int) (fin := false) (by decide +kernel) fc_70 wd_996 (tc_12) ff_72 (by decide) (by decide +kernel) ov_int
theorem k_145_37 : OkOp mt Ev 145 37 (o_aload 0 1) := ok_aload_n (k := 0) (by decide +kernel) rfl
theorem k_145_38 : OkOp mt Ev 145 38 (o_cv [(12, 144)] 0) := ok_cv (i := 143) (by decide +kernel) vc_150
theorem k_145_41 : OkOp mt Ev 145 41 (o_if1 (fun x => decide (x = 0)) 72) := ok_if_eq (off := 31) (by decide +kernel) (by decide +kernel)
theorem k_145_44 : OkOp mt Ev 145 44 (o_push (.int (10)) 2) := ok_bipush (n := 10) (by decide +kernel) (by decide +kernel)
theorem k_145_46 : OkOp mt Ev 145 46 (o_iload 1 1) := ok_iload_n (k := 1) (by decide +kernel) rfl
theorem k_145_47 : OkOp mt Ev 145 47 (o_ib (fun x y => x * y)) := ok_imul (by decide +kernel)
theorem k_145_48 : OkOp mt Ev 145 48 (o_aload 0 1) := ok_aload_n (k := 0) (by decide +kernel) rfl
theorem k_145_49 : OkOp mt Ev 145 49 (o_getf 9 [12]) := ok_getf (i := 34) (rf := "BridgeSentencesModel") (nm := "read") (ds := "[I") (by decide +kernel) fc_53 wd_994
theorem k_145_52 : OkOp mt Ev 145 52 (o_aload 0 1) := ok_aload_n (k := 0) (by decide +kernel) rfl
theorem k_145_53 : OkOp mt Ev 145 53 (o_getf 11 [12]) := ok_getf (i := 134) (rf := "BridgeSentencesModel") (nm := "at") (ds := "I") (by decide +kernel) fc_70 wd_996
theorem k_145_56 : OkOp mt Ev 145 56 (o_iald 2) := ok_iald (by decide +kernel)
theorem k_145_57 : OkOp mt Ev 145 57 (o_ib (fun x y => x + y)) := ok_iadd (by decide +kernel)
theorem k_145_58 : OkOp mt Ev 145 58 (o_push (.int (48)) 2) := ok_bipush (n := 48) (by decide +kernel) (by decide +kernel)
theorem k_145_60 : OkOp mt Ev 145 60 (o_ib (fun x y => x - y)) := ok_isub (by decide +kernel)
theorem k_145_61 : OkOp mt Ev 145 61 (o_istore 1 1) := ok_istore_n (k := 1) (by decide +kernel) rfl
theorem k_145_62 : OkOp mt Ev 145 62 (o_aload 0 1) := ok_aload_n (k := 0) (by decide +kernel) rfl
theorem k_145_63 : OkOp mt Ev 145 63 (o_dup) := ok_dup (by decide +kernel)
theorem k_145_64 : OkOp mt Ev 145 64 (o_getf 11 [12]) := ok_getf (i := 134) (rf := "BridgeSentencesModel") (nm := "at") (ds := "I") (by decide +kernel) fc_70 wd_996
theorem k_145_67 : OkOp mt Ev 145 67 (o_push (.int (1)) 1) := ok_iconst (n := 1) (by decide +kernel) (by decide +kernel)
theorem k_145_68 : OkOp mt Ev 145 68 (o_ib (fun x y => x + y)) := ok_iadd (by decide +kernel)
theorem k_145_69 : OkOp mt Ev 145 69 (o_putf 11 [12] 0) := ok_putf (i := 134) (rf := "BridgeSentencesModel") (nm := "at") (ds := "I") (ty := .int) (fin := false) (by decide +kernel) fc_70 wd_996 (tc_12) ff_72 (by decide) (by decide +kernel) ov_int
theorem k_145_72 : OkOp mt Ev 145 72 (o_iload 1 1) := ok_iload_n (k := 1) (by decide +kernel) rfl
theorem k_145_73 : OkOp mt Ev 145 73 (o_ret 0) := ok_reti (ty := .int) (by decide +kernel) rfl (Or.inl ⟨rfl, rfl⟩)
theorem kt_145 : ∀ pc o, cd_X12_number_ Ev pc = some o → OkOp mt Ev 145 pc o ∧ Gw o := (tN_ok (tN_ok (tN_ok (tN_ok (tN_ok (tL_ok ⟨k_145_0, gw_aload⟩) (tL_ok ⟨k_145_1, gw_cv⟩)) (tN_ok (tL_ok ⟨k_145_4, gw_if1⟩) (tN_ok (tL_ok ⟨k_145_7, gw_aload⟩) (tL_ok ⟨k_145_8, gw_push⟩)))) (tN_ok (tN_ok (tL_ok ⟨k_145_9, gw_putf⟩) (tN_ok (tL_ok ⟨k_145_12, gw_push⟩) (tL_ok ⟨k_145_13, gw_ret⟩))) (tN_ok (tL_ok ⟨k_145_14, gw_aload⟩) (tN_ok (tL_ok ⟨k_145_15, gw_getf⟩) (tL_ok ⟨k_145_18, gw_aload⟩))))) (tN_ok (tN_ok (tN_ok (tL_ok ⟨k_145_19, gw_getf⟩) (tL_ok ⟨k_145_22, gw_iald⟩)) (tN_ok (tL_ok ⟨k_145_23, gw_push⟩) (tN_ok (tL_ok ⟨k_145_25, gw_ib⟩) (tL_ok ⟨k_145_26, gw_istore⟩)))) (tN_ok (tN_ok (tL_ok ⟨k_145_27, gw_aload⟩) (tN_ok (tL_ok ⟨k_145_28, gw_dup⟩) (tL_ok ⟨k_145_29, gw_getf⟩))) (tN_ok (tL_ok ⟨k_145_32, gw_push⟩) (tN_ok (tL_ok ⟨k_145_33, gw_ib⟩) (tL_ok ⟨k_145_34, gw_putf⟩)))))) (tN_ok (tN_ok (tN_ok (tN_ok (tL_ok ⟨k_145_37, gw_aload⟩) (tL_ok ⟨k_145_38, gw_cv⟩)) (tN_ok (tL_ok ⟨k_145_41, gw_if1⟩) (tN_ok (tL_ok ⟨k_145_44, gw_push⟩) (tL_ok ⟨k_145_46, gw_iload⟩)))) (tN_ok (tN_ok (tL_ok ⟨k_145_47, gw_ib⟩) (tN_ok (tL_ok ⟨k_145_48, gw_aload⟩) (tL_ok ⟨k_145_49, gw_getf⟩))) (tN_ok (tL_ok ⟨k_145_52, gw_aload⟩) (tN_ok (tL_ok ⟨k_145_53, gw_getf⟩) (tL_ok ⟨k_145_56, gw_iald⟩))))) (tN_ok (tN_ok (tN_ok (tL_ok ⟨k_145_57, gw_ib⟩) (tN_ok (tL_ok ⟨k_145_58, gw_push⟩) (tL_ok ⟨k_145_60, gw_ib⟩))) (tN_ok (tL_ok ⟨k_145_61, gw_istore⟩) (tN_ok (tL_ok ⟨k_145_62, gw_aload⟩) (tL_ok ⟨k_145_63, gw_dup⟩)))) (tN_ok (tN_ok (tL_ok ⟨k_145_64, gw_getf⟩) (tN_ok (tL_ok ⟨k_145_67, gw_push⟩) (tL_ok ⟨k_145_68, gw_ib⟩))) (tN_ok (tL_ok ⟨k_145_69, gw_putf⟩) (tN_ok (tL_ok ⟨k_145_72, gw_iload⟩) (tL_ok ⟨k_145_73, gw_ret⟩)))))))
theorem k_146_0 : OkOp mt Ev 146 0 (o_push (.int (-1)) 1) := ok_iconst (n := -1) (by decide +kernel) (by decide +kernel)
theorem k_146_1 : OkOp mt Ev 146 1 (o_istore 1 1) := ok_istore_n (k := 1) (by decide +kernel) rfl
theorem k_146_2 : OkOp mt Ev 146 2 (o_push (.int (0)) 1) := ok_iconst (n := 0) (by decide +kernel) (by decide +kernel)
theorem k_146_3 : OkOp mt Ev 146 3 (o_istore 2 1) := ok_istore_n (k := 2) (by decide +kernel) rfl
theorem k_146_4 : OkOp mt Ev 146 4 (o_iload 2 1) := ok_iload_n (k := 2) (by decide +kernel) rfl
theorem k_146_5 : OkOp mt Ev 146 5 (o_push (.int (6)) 2) := ok_bipush (n := 6) (by decide +kernel) (by decide +kernel)
theorem k_146_7 : OkOp mt Ev 146 7 (o_if2 (fun x y => decide (y ≤ x)) 35) := ok_icmp_ge (off := 28) (by decide +kernel) (by decide +kernel)
theorem k_146_10 : OkOp mt Ev 146 10 (o_aload 0 1) := ok_aload_n (k := 0) (by decide +kernel) rfl
theorem k_146_11 : OkOp mt Ev 146 11 (o_aload 0 1) := ok_aload_n (k := 0) (by decide +kernel) rfl
theorem k_146_12 : OkOp mt Ev 146 12 (o_getf 17 [12]) := ok_getf (i := 40) (rf := "BridgeSentencesModel") (nm := "letters") (ds := "[C") (by decide +kernel) fc_55 wd_1002
theorem k_146_15 : OkOp mt Ev 146 15 (o_iload 2 1) := ok_iload_n (k := 2) (by decide +kernel) rfl
theorem k_146_16 : OkOp mt Ev 146 16 (o_iald 1) := ok_cald (by decide +kernel)
theorem k_146_17 : OkOp mt Ev 146 17 (o_cv [(12, 142)] 1) := ok_cv (i := 140) (by decide +kernel) vc_149
theorem k_146_20 : OkOp mt Ev 146 20 (o_if1 (fun x => decide (x = 0)) 27) := ok_if_eq (off := 7) (by decide +kernel) (by decide +kernel)
theorem k_146_23 : OkOp mt Ev 146 23 (o_iload 2 1) := ok_iload_n (k := 2) (by decide +kernel) rfl
theorem k_146_24 : OkOp mt Ev 146 24 (o_goto 28) := ok_goto (off := 4) (by decide +kernel) (by decide +kernel)
theorem k_146_27 : OkOp mt Ev 146 27 (o_iload 1 1) := ok_iload_n (k := 1) (by decide +kernel) rfl
theorem k_146_28 : OkOp mt Ev 146 28 (o_istore 1 1) := ok_istore_n (k := 1) (by decide +kernel) rfl
theorem k_146_29 : OkOp mt Ev 146 29 (o_iinc 2 (1)) := ok_iinc (n := 1) (by decide +kernel) (by decide +kernel)
theorem k_146_32 : OkOp mt Ev 146 32 (o_goto 4) := ok_goto (off := -28) (by decide +kernel) (by decide +kernel)
theorem k_146_35 : OkOp mt Ev 146 35 (o_iload 1 1) := ok_iload_n (k := 1) (by decide +kernel) rfl
theorem k_146_36 : OkOp mt Ev 146 36 (o_push (.int (-1)) 1) := ok_iconst (n := -1) (by decide +kernel) (by decide +kernel)
theorem k_146_37 : OkOp mt Ev 146 37 (o_if2 (fun x y => decide (¬ x = y)) 47) := ok_icmp_ne (off := 10) (by decide +kernel) (by decide +kernel)
theorem k_146_40 : OkOp mt Ev 146 40 (o_aload 0 1) := ok_aload_n (k := 0) (by decide +kernel) rfl
theorem k_146_41 : OkOp mt Ev 146 41 (o_push (.int (0)) 1) := ok_iconst (n := 0) (by decide +kernel) (by decide +kernel)
theorem k_146_42 : OkOp mt Ev 146 42 (o_putf 12 [12] 1) := ok_putf (i := 131) (rf := "BridgeSentencesModel") (nm := "well") (ds := "Z") (ty := .boolean) (fin := false) (by decide +kernel) fc_69 wd_997 (tc_12) ff_73 (by decide) (by decide +kernel) ov_bool
theorem k_146_45 : OkOp mt Ev 146 45 (o_push (.int (0)) 1) := ok_iconst (n := 0) (by decide +kernel) (by decide +kernel)
theorem k_146_46 : OkOp mt Ev 146 46 (o_ret 1) := ok_reti (ty := .boolean) (by decide +kernel) rfl (Or.inr (Or.inl ⟨rfl, rfl⟩))
theorem k_146_47 : OkOp mt Ev 146 47 (o_aload 0 1) := ok_aload_n (k := 0) (by decide +kernel) rfl
theorem k_146_48 : OkOp mt Ev 146 48 (o_dup) := ok_dup (by decide +kernel)
theorem k_146_49 : OkOp mt Ev 146 49 (o_getf 11 [12]) := ok_getf (i := 134) (rf := "BridgeSentencesModel") (nm := "at") (ds := "I") (by decide +kernel) fc_70 wd_996
theorem k_146_52 : OkOp mt Ev 146 52 (o_push (.int (1)) 1) := ok_iconst (n := 1) (by decide +kernel) (by decide +kernel)
theorem k_146_53 : OkOp mt Ev 146 53 (o_ib (fun x y => x + y)) := ok_iadd (by decide +kernel)
theorem k_146_54 : OkOp mt Ev 146 54 (o_putf 11 [12] 0) := ok_putf (i := 134) (rf := "BridgeSentencesModel") (nm := "at") (ds := "I") (ty := .int) (fin := false) (by decide +kernel) fc_70 wd_996 (tc_12) ff_72 (by decide) (by decide +kernel) ov_int
theorem k_146_57 : OkOp mt Ev 146 57 (o_aload 0 1) := ok_aload_n (k := 0) (by decide +kernel) rfl
theorem k_146_58 : OkOp mt Ev 146 58 (o_push (.int (60)) 2) := ok_bipush (n := 60) (by decide +kernel) (by decide +kernel)
theorem k_146_60 : OkOp mt Ev 146 60 (o_cv [(12, 142)] 1) := ok_cv (i := 140) (by decide +kernel) vc_149
theorem k_146_63 : OkOp mt Ev 146 63 (o_if1 (fun x => decide (x = 0)) 70) := ok_if_eq (off := 7) (by decide +kernel) (by decide +kernel)
theorem k_146_66 : OkOp mt Ev 146 66 (o_push (.int (-1)) 1) := ok_iconst (n := -1) (by decide +kernel) (by decide +kernel)
theorem k_146_67 : OkOp mt Ev 146 67 (o_goto 84) := ok_goto (off := 17) (by decide +kernel) (by decide +kernel)
theorem k_146_70 : OkOp mt Ev 146 70 (o_aload 0 1) := ok_aload_n (k := 0) (by decide +kernel) rfl
theorem k_146_71 : OkOp mt Ev 146 71 (o_push (.int (62)) 2) := ok_bipush (n := 62) (by decide +kernel) (by decide +kernel)
theorem k_146_73 : OkOp mt Ev 146 73 (o_cv [(12, 142)] 1) := ok_cv (i := 140) (by decide +kernel) vc_149
theorem k_146_76 : OkOp mt Ev 146 76 (o_if1 (fun x => decide (x = 0)) 83) := ok_if_eq (off := 7) (by decide +kernel) (by decide +kernel)
theorem k_146_79 : OkOp mt Ev 146 79 (o_push (.int (1)) 1) := ok_iconst (n := 1) (by decide +kernel) (by decide +kernel)
theorem k_146_80 : OkOp mt Ev 146 80 (o_goto 84) := ok_goto (off := 4) (by decide +kernel) (by decide +kernel)
theorem k_146_83 : OkOp mt Ev 146 83 (o_push (.int (0)) 1) := ok_iconst (n := 0) (by decide +kernel) (by decide +kernel)
theorem k_146_84 : OkOp mt Ev 146 84 (o_istore 2 1) := ok_istore_n (k := 2) (by decide +kernel) rfl
theorem k_146_85 : OkOp mt Ev 146 85 (o_aload 0 1) := ok_aload_n (k := 0) (by decide +kernel) rfl
theorem k_146_86 : OkOp mt Ev 146 86 (o_iload 2 1) := ok_iload_n (k := 2) (by decide +kernel) rfl
theorem k_146_87 : OkOp mt Ev 146 87 (o_if1 (fun x => decide (0 ≤ x)) 95) := ok_if_ge (off := 8) (by decide +kernel) (by decide +kernel)
theorem k_146_90 : OkOp mt Ev 146 90 (o_push (.int (60)) 2) := ok_bipush (n := 60) (by decide +kernel) (by decide +kernel)
theorem k_146_92 : OkOp mt Ev 146 92 (o_goto 106) := ok_goto (off := 14) (by decide +kernel) (by decide +kernel)
theorem k_146_95 : OkOp mt Ev 146 95 (o_iload 2 1) := ok_iload_n (k := 2) (by decide +kernel) rfl
theorem k_146_96 : OkOp mt Ev 146 96 (o_if1 (fun x => decide (x ≤ 0)) 104) := ok_if_le (off := 8) (by decide +kernel) (by decide +kernel)
theorem k_146_99 : OkOp mt Ev 146 99 (o_push (.int (62)) 2) := ok_bipush (n := 62) (by decide +kernel) (by decide +kernel)
theorem k_146_101 : OkOp mt Ev 146 101 (o_goto 106) := ok_goto (off := 5) (by decide +kernel) (by decide +kernel)
theorem k_146_104 : OkOp mt Ev 146 104 (o_push (.int (61)) 2) := ok_bipush (n := 61) (by decide +kernel) (by decide +kernel)
theorem k_146_106 : OkOp mt Ev 146 106 (o_cv [(12, 143)] 1) := ok_cv (i := 147) (by decide +kernel) vc_151
theorem k_146_109 : OkOp mt Ev 146 109 (o_aload 0 1) := ok_aload_n (k := 0) (by decide +kernel) rfl
theorem k_146_110 : OkOp mt Ev 146 110 (o_cv [(12, 145)] 0) := ok_cv (i := 151) (by decide +kernel) vc_152
theorem k_146_113 : OkOp mt Ev 146 113 (o_istore 3 1) := ok_istore_n (k := 3) (by decide +kernel) rfl
theorem k_146_114 : OkOp mt Ev 146 114 (o_iload 2 1) := ok_iload_n (k := 2) (by decide +kernel) rfl
theorem k_146_115 : OkOp mt Ev 146 115 (o_if1 (fun x => decide (0 ≤ x)) 136) := ok_if_ge (off := 21) (by decide +kernel) (by decide +kernel)
theorem k_146_118 : OkOp mt Ev 146 118 (o_aload 0 1) := ok_aload_n (k := 0) (by decide +kernel) rfl
theorem k_146_119 : OkOp mt Ev 146 119 (o_getf 16 [12]) := ok_getf (i := 37) (rf := "BridgeSentencesModel") (nm := "names") (ds := "[I") (by decide +kernel) fc_54 wd_1001
theorem k_146_122 : OkOp mt Ev 146 122 (o_iload 1 1) := ok_iload_n (k := 1) (by decide +kernel) rfl
theorem k_146_123 : OkOp mt Ev 146 123 (o_iald 2) := ok_iald (by decide +kernel)
theorem k_146_124 : OkOp mt Ev 146 124 (o_iload 3 1) := ok_iload_n (k := 3) (by decide +kernel) rfl
theorem k_146_125 : OkOp mt Ev 146 125 (o_if2 (fun x y => decide (y ≤ x)) 132) := ok_icmp_ge (off := 7) (by decide +kernel) (by decide +kernel)
theorem k_146_128 : OkOp mt Ev 146 128 (o_push (.int (1)) 1) := ok_iconst (n := 1) (by decide +kernel) (by decide +kernel)
theorem k_146_129 : OkOp mt Ev 146 129 (o_goto 173) := ok_goto (off := 44) (by decide +kernel) (by decide +kernel)
theorem k_146_132 : OkOp mt Ev 146 132 (o_push (.int (0)) 1) := ok_iconst (n := 0) (by decide +kernel) (by decide +kernel)
theorem k_146_133 : OkOp mt Ev 146 133 (o_goto 173) := ok_goto (off := 40) (by decide +kernel) (by decide +kernel)
theorem k_146_136 : OkOp mt Ev 146 136 (o_iload 2 1) := ok_iload_n (k := 2) (by decide +kernel) rfl
theorem k_146_137 : OkOp mt Ev 146 137 (o_if1 (fun x => decide (x ≤ 0)) 158) := ok_if_le (off := 21) (by decide +kernel) (by decide +kernel)
theorem k_146_140 : OkOp mt Ev 146 140 (o_aload 0 1) := ok_aload_n (k := 0) (by decide +kernel) rfl
theorem k_146_141 : OkOp mt Ev 146 141 (o_getf 16 [12]) := ok_getf (i := 37) (rf := "BridgeSentencesModel") (nm := "names") (ds := "[I") (by decide +kernel) fc_54 wd_1001
theorem k_146_144 : OkOp mt Ev 146 144 (o_iload 1 1) := ok_iload_n (k := 1) (by decide +kernel) rfl
theorem k_146_145 : OkOp mt Ev 146 145 (o_iald 2) := ok_iald (by decide +kernel)
theorem k_146_146 : OkOp mt Ev 146 146 (o_iload 3 1) := ok_iload_n (k := 3) (by decide +kernel) rfl
theorem k_146_147 : OkOp mt Ev 146 147 (o_if2 (fun x y => decide (x ≤ y)) 154) := ok_icmp_le (off := 7) (by decide +kernel) (by decide +kernel)
theorem k_146_150 : OkOp mt Ev 146 150 (o_push (.int (1)) 1) := ok_iconst (n := 1) (by decide +kernel) (by decide +kernel)
theorem k_146_151 : OkOp mt Ev 146 151 (o_goto 173) := ok_goto (off := 22) (by decide +kernel) (by decide +kernel)
theorem k_146_154 : OkOp mt Ev 146 154 (o_push (.int (0)) 1) := ok_iconst (n := 0) (by decide +kernel) (by decide +kernel)
theorem k_146_155 : OkOp mt Ev 146 155 (o_goto 173) := ok_goto (off := 18) (by decide +kernel) (by decide +kernel)
theorem k_146_158 : OkOp mt Ev 146 158 (o_aload 0 1) := ok_aload_n (k := 0) (by decide +kernel) rfl
theorem k_146_159 : OkOp mt Ev 146 159 (o_getf 16 [12]) := ok_getf (i := 37) (rf := "BridgeSentencesModel") (nm := "names") (ds := "[I") (by decide +kernel) fc_54 wd_1001
theorem k_146_162 : OkOp mt Ev 146 162 (o_iload 1 1) := ok_iload_n (k := 1) (by decide +kernel) rfl
theorem k_146_163 : OkOp mt Ev 146 163 (o_iald 2) := ok_iald (by decide +kernel)
theorem k_146_164 : OkOp mt Ev 146 164 (o_iload 3 1) := ok_iload_n (k := 3) (by decide +kernel) rfl
theorem k_146_165 : OkOp mt Ev 146 165 (o_if2 (fun x y => decide (¬ x = y)) 172) := ok_icmp_ne (off := 7) (by decide +kernel) (by decide +kernel)
theorem k_146_168 : OkOp mt Ev 146 168 (o_push (.int (1)) 1) := ok_iconst (n := 1) (by decide +kernel) (by decide +kernel)
theorem k_146_169 : OkOp mt Ev 146 169 (o_goto 173) := ok_goto (off := 4) (by decide +kernel) (by decide +kernel)
theorem k_146_172 : OkOp mt Ev 146 172 (o_push (.int (0)) 1) := ok_iconst (n := 0) (by decide +kernel) (by decide +kernel)
theorem k_146_173 : OkOp mt Ev 146 173 (o_ret 1) := ok_reti (ty := .boolean) (by decide +kernel) rfl (Or.inr (Or.inl ⟨rfl, rfl⟩))
theorem kt_146 : ∀ pc o, cd_X12_test Ev pc = some o → OkOp mt Ev 146 pc o ∧ Gw o := (tN_ok (tN_ok (tN_ok (tN_ok (tN_ok (tN_ok (tL_ok ⟨k_146_0, gw_push⟩) (tN_ok (tL_ok ⟨k_146_1, gw_istore⟩) (tL_ok ⟨k_146_2, gw_push⟩))) (tN_ok (tL_ok ⟨k_146_3, gw_istore⟩) (tN_ok (tL_ok ⟨k_146_4, gw_iload⟩) (tL_ok ⟨k_146_5, gw_push⟩)))) (tN_ok (tN_ok (tL_ok ⟨k_146_7, gw_if2⟩) (tN_ok (tL_ok ⟨k_146_10, gw_aload⟩) (tL_ok ⟨k_146_11, gw_aload⟩))) (tN_ok (tL_ok ⟨k_146_12, gw_getf⟩) (tN_ok (tL_ok ⟨k_146_15, gw_iload⟩) (tL_ok ⟨k_146_16, gw_iald⟩))))) (tN_ok (tN_ok (tN_ok (tL_ok ⟨k_146_17, gw_cv⟩) (tN_ok (tL_ok ⟨k_146_20, gw_if1⟩) (tL_ok ⟨k_146_23, gw_iload⟩))) (tN_ok (tL_ok ⟨k_146_24, gw_goto⟩) (tN_ok (tL_ok ⟨k_146_27, gw_iload⟩) (tL_ok ⟨k_146_28, gw_istore⟩)))) (tN_ok (tN_ok (tL_ok ⟨k_146_29, gw_iinc⟩) (tN_ok (tL_ok ⟨k_146_32, gw_goto⟩) (tL_ok ⟨k_146_35, gw_iload⟩))) (tN_ok (tL_ok ⟨k_146_36, gw_push⟩) (tN_ok (tL_ok ⟨k_146_37, gw_if2⟩) (tL_ok ⟨k_146_40, gw_aload⟩)))))) (tN_ok (tN_ok (tN_ok (tN_ok (tL_ok ⟨k_146_41, gw_push⟩) (tN_ok (tL_ok ⟨k_146_42, gw_putf⟩) (tL_ok ⟨k_146_45, gw_push⟩))) (tN_ok (tL_ok ⟨k_146_46, gw_ret⟩) (tN_ok (tL_ok ⟨k_146_47, gw_aload⟩) (tL_ok ⟨k_146_48, gw_dup⟩)))) (tN_ok (tN_ok (tL_ok ⟨k_146_49, gw_getf⟩) (tN_ok (tL_ok ⟨k_146_52, gw_push⟩) (tL_ok ⟨k_146_53, gw_ib⟩))) (tN_ok (tL_ok ⟨k_146_54, gw_putf⟩) (tN_ok (tL_ok ⟨k_146_57, gw_aload⟩) (tL_ok ⟨k_146_58, gw_push⟩))))) (tN_ok (tN_ok (tN_ok (tL_ok ⟨k_146_60, gw_cv⟩) (tN_ok (tL_ok ⟨k_146_63, gw_if1⟩) (tL_ok ⟨k_146_66, gw_push⟩))) (tN_ok (tL_ok ⟨k_146_67, gw_goto⟩) (tN_ok (tL_ok ⟨k_146_70, gw_aload⟩) (tL_ok ⟨k_146_71, gw_push⟩)))) (tN_ok (tN_ok (tL_ok ⟨k_146_73, gw_cv⟩) (tN_ok (tL_ok ⟨k_146_76, gw_if1⟩) (tL_ok ⟨k_146_79, gw_push⟩))) (tN_ok (tL_ok ⟨k_146_80, gw_goto⟩) (tN_ok (tL_ok ⟨k_146_83, gw_push⟩) (tL_ok ⟨k_146_84, gw_istore⟩))))))) (tN_ok (tN_ok (tN_ok (tN_ok (tN_ok (tL_ok ⟨k_146_85, gw_aload⟩) (tN_ok (tL_ok ⟨k_146_86, gw_iload⟩) (tL_ok ⟨k_146_87, gw_if1⟩))) (tN_ok (tL_ok ⟨k_146_90, gw_push⟩) (tN_ok (tL_ok ⟨k_146_92, gw_goto⟩) (tL_ok ⟨k_146_95, gw_iload⟩)))) (tN_ok (tN_ok (tL_ok ⟨k_146_96, gw_if1⟩) (tN_ok (tL_ok ⟨k_146_99, gw_push⟩) (tL_ok ⟨k_146_101, gw_goto⟩))) (tN_ok (tL_ok ⟨k_146_104, gw_push⟩) (tN_ok (tL_ok ⟨k_146_106, gw_cv⟩) (tL_ok ⟨k_146_109, gw_aload⟩))))) (tN_ok (tN_ok (tN_ok (tL_ok ⟨k_146_110, gw_cv⟩) (tN_ok (tL_ok ⟨k_146_113, gw_istore⟩) (tL_ok ⟨k_146_114, gw_iload⟩))) (tN_ok (tL_ok ⟨k_146_115, gw_if1⟩) (tN_ok (tL_ok ⟨k_146_118, gw_aload⟩) (tL_ok ⟨k_146_119, gw_getf⟩)))) (tN_ok (tN_ok (tL_ok ⟨k_146_122, gw_iload⟩) (tN_ok (tL_ok ⟨k_146_123, gw_iald⟩) (tL_ok ⟨k_146_124, gw_iload⟩))) (tN_ok (tL_ok ⟨k_146_125, gw_if2⟩) (tN_ok (tL_ok ⟨k_146_128, gw_push⟩) (tL_ok ⟨k_146_129, gw_goto⟩)))))) (tN_ok (tN_ok (tN_ok (tN_ok (tL_ok ⟨k_146_132, gw_push⟩) (tN_ok (tL_ok ⟨k_146_133, gw_goto⟩) (tL_ok ⟨k_146_136, gw_iload⟩))) (tN_ok (tL_ok ⟨k_146_137, gw_if1⟩) (tN_ok (tL_ok ⟨k_146_140, gw_aload⟩) (tL_ok ⟨k_146_141, gw_getf⟩)))) (tN_ok (tN_ok (tL_ok ⟨k_146_144, gw_iload⟩) (tN_ok (tL_ok ⟨k_146_145, gw_iald⟩) (tL_ok ⟨k_146_146, gw_iload⟩))) (tN_ok (tL_ok ⟨k_146_147, gw_if2⟩) (tN_ok (tL_ok ⟨k_146_150, gw_push⟩) (tL_ok ⟨k_146_151, gw_goto⟩))))) (tN_ok (tN_ok (tN_ok (tL_ok ⟨k_146_154, gw_push⟩) (tN_ok (tL_ok ⟨k_146_155, gw_goto⟩) (tL_ok ⟨k_146_158, gw_aload⟩))) (tN_ok (tL_ok ⟨k_146_159, gw_getf⟩) (tN_ok (tL_ok ⟨k_146_162, gw_iload⟩) (tL_ok ⟨k_146_163, gw_iald⟩)))) (tN_ok (tN_ok (tL_ok ⟨k_146_164, gw_iload⟩) (tN_ok (tL_ok ⟨k_146_165, gw_if2⟩) (tL_ok ⟨k_146_168, gw_push⟩))) (tN_ok (tL_ok ⟨k_146_169, gw_goto⟩) (tN_ok (tL_ok ⟨k_146_172, gw_push⟩) (tL_ok ⟨k_146_173, gw_ret⟩))))))))
theorem k_147_0 : OkOp mt Ev 147 0 (o_aload 0 1) := ok_aload_n (k := 0) (by decide +kernel) rfl
theorem k_147_1 : OkOp mt Ev 147 1 (o_getf 13 [12]) := ok_getf (i := 154) (rf := "BridgeSentencesModel") (nm := "within") (ds := "I") (by decide +kernel) fc_72 wd_998
theorem k_147_4 : OkOp mt Ev 147 4 (o_push (.int (4)) 1) := ok_iconst (n := 4) (by decide +kernel) (by decide +kernel)
theorem k_147_5 : OkOp mt Ev 147 5 (o_if2 (fun x y => decide (y ≤ x)) 63) := ok_icmp_ge (off := 58) (by decide +kernel) (by decide +kernel)
theorem k_147_8 : OkOp mt Ev 147 8 (o_aload 0 1) := ok_aload_n (k := 0) (by decide +kernel) rfl
theorem k_147_9 : OkOp mt Ev 147 9 (o_push (.int (33)) 2) := ok_bipush (n := 33) (by decide +kernel) (by decide +kernel)
theorem k_147_11 : OkOp mt Ev 147 11 (o_cv [(12, 142)] 1) := ok_cv (i := 140) (by decide +kernel) vc_149
theorem k_147_14 : OkOp mt Ev 147 14 (o_if1 (fun x => decide (x = 0)) 63) := ok_if_eq (off := 49) (by decide +kernel) (by decide +kernel)
theorem k_147_17 : OkOp mt Ev 147 17 (o_aload 0 1) := ok_aload_n (k := 0) (by decide +kernel) rfl
theorem k_147_18 : OkOp mt Ev 147 18 (o_dup) := ok_dup (by decide +kernel)
theorem k_147_19 : OkOp mt Ev 147 19 (o_getf 11 [12]) := ok_getf (i := 134) (rf := "BridgeSentencesModel") (nm := "at") (ds := "I") (by decide +kernel) fc_70 wd_996
theorem k_147_22 : OkOp mt Ev 147 22 (o_push (.int (1)) 1) := ok_iconst (n := 1) (by decide +kernel) (by decide +kernel)
theorem k_147_23 : OkOp mt Ev 147 23 (o_ib (fun x y => x + y)) := ok_iadd (by decide +kernel)
theorem k_147_24 : OkOp mt Ev 147 24 (o_putf 11 [12] 0) := ok_putf (i := 134) (rf := "BridgeSentencesModel") (nm := "at") (ds := "I") (ty := .int) (fin := false) (by decide +kernel) fc_70 wd_996 (tc_12) ff_72 (by decide) (by decide +kernel) ov_int
theorem k_147_27 : OkOp mt Ev 147 27 (o_aload 0 1) := ok_aload_n (k := 0) (by decide +kernel) rfl
theorem k_147_28 : OkOp mt Ev 147 28 (o_dup) := ok_dup (by decide +kernel)
theorem k_147_29 : OkOp mt Ev 147 29 (o_getf 13 [12]) := ok_getf (i := 154) (rf := "BridgeSentencesModel") (nm := "within") (ds := "I") (by decide +kernel) fc_72 wd_998
theorem k_147_32 : OkOp mt Ev 147 32 (o_push (.int (1)) 1) := ok_iconst (n := 1) (by decide +kernel) (by decide +kernel)
theorem k_147_33 : OkOp mt Ev 147 33 (o_ib (fun x y => x + y)) := ok_iadd (by decide +kernel)
theorem k_147_34 : OkOp mt Ev 147 34 (o_putf 13 [12] 0) := ok_putf (i := 154) (rf := "BridgeSentencesModel") (nm := "within") (ds := "I") (ty := .int) (fin := false) (by decide +kernel) fc_72 wd_998 (tc_12) ff_74 (by decide) (by decide +kernel) ov_int
theorem k_147_37 : OkOp mt Ev 147 37 (o_aload 0 1) := ok_aload_n (k := 0) (by decide +kernel) rfl
theorem k_147_38 : OkOp mt Ev 147 38 (o_cv [(12, 147)] 0) := ok_cv (i := 157) (by decide +kernel) vc_153
theorem k_147_41 : OkOp mt Ev 147 41 (o_if1 (fun x => decide (¬ x = 0)) 48) := ok_if_ne (off := 7) (by decide +kernel) (by decide +kernel)
theorem k_147_44 : OkOp mt Ev 147 44 (o_push (.int (1)) 1) := ok_iconst (n := 1) (by decide +kernel) (by decide +kernel)
theorem k_147_45 : OkOp mt Ev 147 45 (o_goto 49) := ok_goto (off := 4) (by decide +kernel) (by decide +kernel)
theorem k_147_48 : OkOp mt Ev 147 48 (o_push (.int (0)) 1) := ok_iconst (n := 0) (by decide +kernel) (by decide +kernel)
theorem k_147_49 : OkOp mt Ev 147 49 (o_istore 1 1) := ok_istore_n (k := 1) (by decide +kernel) rfl
theorem k_147_50 : OkOp mt Ev 147 50 (o_aload 0 1) := ok_aload_n (k := 0) (by decide +kernel) rfl
theorem k_147_51 : OkOp mt Ev 147 51 (o_dup) := ok_dup (by decide +kernel)
theorem k_147_52 : OkOp mt Ev 147 52 (o_getf 13 [12]) := ok_getf (i := 154) (rf := "BridgeSentencesModel") (nm := "within") (ds := "I") (by decide +kernel) fc_72 wd_998
theorem k_147_55 : OkOp mt Ev 147 55 (o_push (.int (1)) 1) := ok_iconst (n := 1) (by decide +kernel) (by decide +kernel)
theorem k_147_56 : OkOp mt Ev 147 56 (o_ib (fun x y => x - y)) := ok_isub (by decide +kernel)
theorem k_147_57 : OkOp mt Ev 147 57 (o_putf 13 [12] 0) := ok_putf (i := 154) (rf := "BridgeSentencesModel") (nm := "within") (ds := "I") (ty := .int) (fin := false) (by decide +kernel) fc_72 wd_998 (tc_12) ff_74 (by decide) (by decide +kernel) ov_int
theorem k_147_60 : OkOp mt Ev 147 60 (o_goto 129) := ok_goto (off := 69) (by decide +kernel) (by decide +kernel)
theorem k_147_63 : OkOp mt Ev 147 63 (o_aload 0 1) := ok_aload_n (k := 0) (by decide +kernel) rfl
theorem k_147_64 : OkOp mt Ev 147 64 (o_getf 13 [12]) := ok_getf (i := 154) (rf := "BridgeSentencesModel") (nm := "within") (ds := "I") (by decide +kernel) fc_72 wd_998
theorem k_147_67 : OkOp mt Ev 147 67 (o_push (.int (4)) 1) := ok_iconst (n := 4) (by decide +kernel) (by decide +kernel)
theorem k_147_68 : OkOp mt Ev 147 68 (o_if2 (fun x y => decide (y ≤ x)) 124) := ok_icmp_ge (off := 56) (by decide +kernel) (by decide +kernel)
theorem k_147_71 : OkOp mt Ev 147 71 (o_aload 0 1) := ok_aload_n (k := 0) (by decide +kernel) rfl
theorem k_147_72 : OkOp mt Ev 147 72 (o_push (.int (40)) 2) := ok_bipush (n := 40) (by decide +kernel) (by decide +kernel)
theorem k_147_74 : OkOp mt Ev 147 74 (o_cv [(12, 142)] 1) := ok_cv (i := 140) (by decide +kernel) vc_149
theorem k_147_77 : OkOp mt Ev 147 77 (o_if1 (fun x => decide (x = 0)) 124) := ok_if_eq (off := 47) (by decide +kernel) (by decide +kernel)
theorem k_147_80 : OkOp mt Ev 147 80 (o_aload 0 1) := ok_aload_n (k := 0) (by decide +kernel) rfl
theorem k_147_81 : OkOp mt Ev 147 81 (o_dup) := ok_dup (by decide +kernel)
theorem k_147_82 : OkOp mt Ev 147 82 (o_getf 11 [12]) := ok_getf (i := 134) (rf := "BridgeSentencesModel") (nm := "at") (ds := "I") (by decide +kernel) fc_70 wd_996
theorem k_147_85 : OkOp mt Ev 147 85 (o_push (.int (1)) 1) := ok_iconst (n := 1) (by decide +kernel) (by decide +kernel)
theorem k_147_86 : OkOp mt Ev 147 86 (o_ib (fun x y => x + y)) := ok_iadd (by decide +kernel)
theorem k_147_87 : OkOp mt Ev 147 87 (o_putf 11 [12] 0) := ok_putf (i := 134) (rf := "BridgeSentencesModel") (nm := "at") (ds := "I") (ty := .int) (fin := false) (by decide +kernel) fc_70 wd_996 (tc_12) ff_72 (by decide) (by decide +kernel) ov_int
theorem k_147_90 : OkOp mt Ev 147 90 (o_aload 0 1) := ok_aload_n (k := 0) (by decide +kernel) rfl
theorem k_147_91 : OkOp mt Ev 147 91 (o_dup) := ok_dup (by decide +kernel)
theorem k_147_92 : OkOp mt Ev 147 92 (o_getf 13 [12]) := ok_getf (i := 154) (rf := "BridgeSentencesModel") (nm := "within") (ds := "I") (by decide +kernel) fc_72 wd_998
theorem k_147_95 : OkOp mt Ev 147 95 (o_push (.int (1)) 1) := ok_iconst (n := 1) (by decide +kernel) (by decide +kernel)
theorem k_147_96 : OkOp mt Ev 147 96 (o_ib (fun x y => x + y)) := ok_iadd (by decide +kernel)
theorem k_147_97 : OkOp mt Ev 147 97 (o_putf 13 [12] 0) := ok_putf (i := 154) (rf := "BridgeSentencesModel") (nm := "within") (ds := "I") (ty := .int) (fin := false) (by decide +kernel) fc_72 wd_998 (tc_12) ff_74 (by decide) (by decide +kernel) ov_int
theorem k_147_100 : OkOp mt Ev 147 100 (o_aload 0 1) := ok_aload_n (k := 0) (by decide +kernel) rfl
theorem k_147_101 : OkOp mt Ev 147 101 (o_cv [(12, 149)] 0) := ok_cv (i := 160) (by decide +kernel) vc_154
theorem k_147_104 : OkOp mt Ev 147 104 (o_istore 1 1) := ok_istore_n (k := 1) (by decide +kernel) rfl
theorem k_147_105 : OkOp mt Ev 147 105 (o_aload 0 1) := ok_aload_n (k := 0) (by decide +kernel) rfl
theorem k_147_106 : OkOp mt Ev 147 106 (o_dup) := ok_dup (by decide +kernel)
theorem k_147_107 : OkOp mt Ev 147 107 (o_getf 13 [12]) := ok_getf (i := 154) (rf := "BridgeSentencesModel") (nm := "within") (ds := "I") (by decide +kernel) fc_72 wd_998
theorem k_147_110 : OkOp mt Ev 147 110 (o_push (.int (1)) 1) := ok_iconst (n := 1) (by decide +kernel) (by decide +kernel)
theorem k_147_111 : OkOp mt Ev 147 111 (o_ib (fun x y => x - y)) := ok_isub (by decide +kernel)
theorem k_147_112 : OkOp mt Ev 147 112 (o_putf 13 [12] 0) := ok_putf (i := 154) (rf := "BridgeSentencesModel") (nm := "within") (ds := "I") (ty := .int) (fin := false) (by decide +kernel) fc_72 wd_998 (tc_12) ff_74 (by decide) (by decide +kernel) ov_int
theorem k_147_115 : OkOp mt Ev 147 115 (o_aload 0 1) := ok_aload_n (k := 0) (by decide +kernel) rfl
theorem k_147_116 : OkOp mt Ev 147 116 (o_push (.int (41)) 2) := ok_bipush (n := 41) (by decide +kernel) (by decide +kernel)
theorem k_147_118 : OkOp mt Ev 147 118 (o_cv [(12, 143)] 1) := ok_cv (i := 147) (by decide +kernel) vc_151
theorem k_147_121 : OkOp mt Ev 147 121 (o_goto 129) := ok_goto (off := 8) (by decide +kernel) (by decide +kernel)
theorem k_147_124 : OkOp mt Ev 147 124 (o_aload 0 1) := ok_aload_n (k := 0) (by decide +kernel) rfl
theorem k_147_125 : OkOp mt Ev 147 125 (o_cv [(12, 146)] 0) := ok_cv (i := 163) (by decide +kernel) vc_155
theorem k_147_128 : OkOp mt Ev 147 128 (o_istore 1 1) := ok_istore_n (k := 1) (by decide +kernel) rfl
theorem k_147_129 : OkOp mt Ev 147 129 (o_iload 1 1) := ok_iload_n (k := 1) (by decide +kernel) rfl
theorem k_147_130 : OkOp mt Ev 147 130 (o_ret 1) := ok_reti (ty := .boolean) (by decide +kernel) rfl (Or.inr (Or.inl ⟨rfl, rfl⟩))
theorem kt_147 : ∀ pc o, cd_X12_factor Ev pc = some o → OkOp mt Ev 147 pc o ∧ Gw o := (tN_ok (tN_ok (tN_ok (tN_ok (tN_ok (tN_ok (tL_ok ⟨k_147_0, gw_aload⟩) (tL_ok ⟨k_147_1, gw_getf⟩)) (tN_ok (tL_ok ⟨k_147_4, gw_push⟩) (tL_ok ⟨k_147_5, gw_if2⟩))) (tN_ok (tN_ok (tL_ok ⟨k_147_8, gw_aload⟩) (tL_ok ⟨k_147_9, gw_push⟩)) (tN_ok (tL_ok ⟨k_147_11, gw_cv⟩) (tN_ok (tL_ok ⟨k_147_14, gw_if1⟩) (tL_ok ⟨k_147_17, gw_aload⟩))))) (tN_ok (tN_ok (tN_ok (tL_ok ⟨k_147_18, gw_dup⟩) (tL_ok ⟨k_147_19, gw_getf⟩)) (tN_ok (tL_ok ⟨k_147_22, gw_push⟩) (tL_ok ⟨k_147_23, gw_ib⟩))) (tN_ok (tN_ok (tL_ok ⟨k_147_24, gw_putf⟩) (tL_ok ⟨k_147_27, gw_aload⟩)) (tN_ok (tL_ok ⟨k_147_28, gw_dup⟩) (tN_ok (tL_ok ⟨k_147_29, gw_getf⟩) (tL_ok ⟨k_147_32, gw_push⟩)))))) (tN_ok (tN_ok (tN_ok (tN_ok (tL_ok ⟨k_147_33, gw_ib⟩) (tL_ok ⟨k_147_34, gw_putf⟩)) (tN_ok (tL_ok ⟨k_147_37, gw_aload⟩) (tL_ok ⟨k_147_38, gw_cv⟩))) (tN_ok (tN_ok (tL_ok ⟨k_147_41, gw_if1⟩) (tL_ok ⟨k_147_44, gw_push⟩)) (tN_ok (tL_ok ⟨k_147_45, gw_goto⟩) (tN_ok (tL_ok ⟨k_147_48, gw_push⟩) (tL_ok ⟨k_147_49, gw_istore⟩))))) (tN_ok (tN_ok (tN_ok (tL_ok ⟨k_147_50, gw_aload⟩) (tL_ok ⟨k_147_51, gw_dup⟩)) (tN_ok (tL_ok ⟨k_147_52, gw_getf⟩) (tL_ok ⟨k_147_55, gw_push⟩))) (tN_ok (tN_ok (tL_ok ⟨k_147_56, gw_ib⟩) (tL_ok ⟨k_147_57, gw_putf⟩)) (tN_ok (tL_ok ⟨k_147_60, gw_goto⟩) (tN_ok (tL_ok ⟨k_147_63, gw_aload⟩) (tL_ok ⟨k_147_64, gw_getf⟩))))))) (tN_ok (tN_ok (tN_ok (tN_ok (tN_ok (tL_ok ⟨k_147_67, gw_push⟩) (tL_ok ⟨k_147_68, gw_if2⟩)) (tN_ok (tL_ok ⟨k_147_71, gw_aload⟩) (tL_ok ⟨k_147_72, gw_push⟩))) (tN_ok (tN_ok (tL_ok ⟨k_147_74, gw_cv⟩) (tL_ok ⟨k_147_77, gw_if1⟩)) (tN_ok (tL_ok ⟨k_147_80, gw_aload⟩) (tN_ok (tL_ok ⟨k_147_81, gw_dup⟩) (tL_ok ⟨k_147_82, gw_getf⟩))))) (tN_ok (tN_ok (tN_ok (tL_ok ⟨k_147_85, gw_push⟩) (tL_ok ⟨k_147_86, gw_ib⟩)) (tN_ok (tL_ok ⟨k_147_87, gw_putf⟩) (tL_ok ⟨k_147_90, gw_aload⟩))) (tN_ok (tN_ok (tL_ok ⟨k_147_91, gw_dup⟩) (tL_ok ⟨k_147_92, gw_getf⟩)) (tN_ok (tL_ok ⟨k_147_95, gw_push⟩) (tN_ok (tL_ok ⟨k_147_96, gw_ib⟩) (tL_ok ⟨k_147_97, gw_putf⟩)))))) (tN_ok (tN_ok (tN_ok (tN_ok (tL_ok ⟨k_147_100, gw_aload⟩) (tL_ok ⟨k_147_101, gw_cv⟩)) (tN_ok (tL_ok ⟨k_147_104, gw_istore⟩) (tL_ok ⟨k_147_105, gw_aload⟩))) (tN_ok (tN_ok (tL_ok ⟨k_147_106, gw_dup⟩) (tL_ok ⟨k_147_107, gw_getf⟩)) (tN_ok (tL_ok ⟨k_147_110, gw_push⟩) (tN_ok (tL_ok ⟨k_147_111, gw_ib⟩) (tL_ok ⟨k_147_112, gw_putf⟩))))) (tN_ok (tN_ok (tN_ok (tL_ok ⟨k_147_115, gw_aload⟩) (tL_ok ⟨k_147_116, gw_push⟩)) (tN_ok (tL_ok ⟨k_147_118, gw_cv⟩) (tL_ok ⟨k_147_121, gw_goto⟩))) (tN_ok (tN_ok (tL_ok ⟨k_147_124, gw_aload⟩) (tL_ok ⟨k_147_125, gw_cv⟩)) (tN_ok (tL_ok ⟨k_147_128, gw_istore⟩) (tN_ok (tL_ok ⟨k_147_129, gw_iload⟩) (tL_ok ⟨k_147_130, gw_ret⟩))))))))
theorem k_148_0 : OkOp mt Ev 148 0 (o_aload 0 1) := ok_aload_n (k := 0) (by decide +kernel) rfl
theorem k_148_1 : OkOp mt Ev 148 1 (o_cv [(12, 147)] 0) := ok_cv (i := 157) (by decide +kernel) vc_153
theorem k_148_4 : OkOp mt Ev 148 4 (o_istore 1 1) := ok_istore_n (k := 1) (by decide +kernel) rfl
theorem k_148_5 : OkOp mt Ev 148 5 (o_aload 0 1) := ok_aload_n (k := 0) (by decide +kernel) rfl
theorem k_148_6 : OkOp mt Ev 148 6 (o_push (.int (38)) 2) := ok_bipush (n := 38) (by decide +kernel) (by decide +kernel)
theorem k_148_8 : OkOp mt Ev 148 8 (o_cv [(12, 142)] 1) := ok_cv (i := 140) (by decide +kernel) vc_149
theorem k_148_11 : OkOp mt Ev 148 11 (o_if1 (fun x => decide (x = 0)) 46) := ok_if_eq (off := 35) (by decide +kernel) (by decide +kernel)
theorem k_148_14 : OkOp mt Ev 148 14 (o_aload 0 1) := ok_aload_n (k := 0) (by decide +kernel) rfl
theorem k_148_15 : OkOp mt Ev 148 15 (o_dup) := ok_dup (by decide +kernel)
theorem k_148_16 : OkOp mt Ev 148 16 (o_getf 11 [12]) := ok_getf (i := 134) (rf := "BridgeSentencesModel") (nm := "at") (ds := "I") (by decide +kernel) fc_70 wd_996
theorem k_148_19 : OkOp mt Ev 148 19 (o_push (.int (1)) 1) := ok_iconst (n := 1) (by decide +kernel) (by decide +kernel)
theorem k_148_20 : OkOp mt Ev 148 20 (o_ib (fun x y => x + y)) := ok_iadd (by decide +kernel)
theorem k_148_21 : OkOp mt Ev 148 21 (o_putf 11 [12] 0) := ok_putf (i := 134) (rf := "BridgeSentencesModel") (nm := "at") (ds := "I") (ty := .int) (fin := false) (by decide +kernel) fc_70 wd_996 (tc_12) ff_72 (by decide) (by decide +kernel) ov_int
theorem k_148_24 : OkOp mt Ev 148 24 (o_aload 0 1) := ok_aload_n (k := 0) (by decide +kernel) rfl
theorem k_148_25 : OkOp mt Ev 148 25 (o_cv [(12, 147)] 0) := ok_cv (i := 157) (by decide +kernel) vc_153
theorem k_148_28 : OkOp mt Ev 148 28 (o_istore 2 1) := ok_istore_n (k := 2) (by decide +kernel) rfl
theorem k_148_29 : OkOp mt Ev 148 29 (o_iload 1 1) := ok_iload_n (k := 1) (by decide +kernel) rfl
theorem k_148_30 : OkOp mt Ev 148 30 (o_if1 (fun x => decide (x = 0)) 41) := ok_if_eq (off := 11) (by decide +kernel) (by decide +kernel)
theorem k_148_33 : OkOp mt Ev 148 33 (o_iload 2 1) := ok_iload_n (k := 2) (by decide +kernel) rfl
theorem k_148_34 : OkOp mt Ev 148 34 (o_if1 (fun x => decide (x = 0)) 41) := ok_if_eq (off := 7) (by decide +kernel) (by decide +kernel)
theorem k_148_37 : OkOp mt Ev 148 37 (o_push (.int (1)) 1) := ok_iconst (n := 1) (by decide +kernel) (by decide +kernel)
theorem k_148_38 : OkOp mt Ev 148 38 (o_goto 42) := ok_goto (off := 4) (by decide +kernel) (by decide +kernel)
theorem k_148_41 : OkOp mt Ev 148 41 (o_push (.int (0)) 1) := ok_iconst (n := 0) (by decide +kernel) (by decide +kernel)
theorem k_148_42 : OkOp mt Ev 148 42 (o_istore 1 1) := ok_istore_n (k := 1) (by decide +kernel) rfl
theorem k_148_43 : OkOp mt Ev 148 43 (o_goto 5) := ok_goto (off := -38) (by decide +kernel) (by decide +kernel)
theorem k_148_46 : OkOp mt Ev 148 46 (o_iload 1 1) := ok_iload_n (k := 1) (by decide +kernel) rfl
theorem k_148_47 : OkOp mt Ev 148 47 (o_ret 1) := ok_reti (ty := .boolean) (by decide +kernel) rfl (Or.inr (Or.inl ⟨rfl, rfl⟩))
theorem kt_148 : ∀ pc o, cd_X12_both Ev pc = some o → OkOp mt Ev 148 pc o ∧ Gw o := (tN_ok (tN_ok (tN_ok (tN_ok (tL_ok ⟨k_148_0, gw_aload⟩) (tN_ok (tL_ok ⟨k_148_1, gw_cv⟩) (tL_ok ⟨k_148_4, gw_istore⟩))) (tN_ok (tL_ok ⟨k_148_5, gw_aload⟩) (tN_ok (tL_ok ⟨k_148_6, gw_push⟩) (tL_ok ⟨k_148_8, gw_cv⟩)))) (tN_ok (tN_ok (tL_ok ⟨k_148_11, gw_if1⟩) (tN_ok (tL_ok ⟨k_148_14, gw_aload⟩) (tL_ok ⟨k_148_15, gw_dup⟩))) (tN_ok (tN_ok (tL_ok ⟨k_148_16, gw_getf⟩) (tL_ok ⟨k_148_19, gw_push⟩)) (tN_ok (tL_ok ⟨k_148_20, gw_ib⟩) (tL_ok ⟨k_148_21, gw_putf⟩))))) (tN_ok (tN_ok (tN_ok (tL_ok ⟨k_148_24, gw_aload⟩) (tN_ok (tL_ok ⟨k_148_25, gw_cv⟩) (tL_ok ⟨k_148_28, gw_istore⟩))) (tN_ok (tN_ok (tL_ok ⟨k_148_29, gw_iload⟩) (tL_ok ⟨k_148_30, gw_if1⟩)) (tN_ok (tL_ok ⟨k_148_33, gw_iload⟩) (tL_ok ⟨k_148_34, gw_if1⟩)))) (tN_ok (tN_ok (tL_ok ⟨k_148_37, gw_push⟩) (tN_ok (tL_ok ⟨k_148_38, gw_goto⟩) (tL_ok ⟨k_148_41, gw_push⟩))) (tN_ok (tN_ok (tL_ok ⟨k_148_42, gw_istore⟩) (tL_ok ⟨k_148_43, gw_goto⟩)) (tN_ok (tL_ok ⟨k_148_46, gw_iload⟩) (tL_ok ⟨k_148_47, gw_ret⟩))))))
theorem k_149_0 : OkOp mt Ev 149 0 (o_aload 0 1) := ok_aload_n (k := 0) (by decide +kernel) rfl
theorem k_149_1 : OkOp mt Ev 149 1 (o_cv [(12, 148)] 0) := ok_cv (i := 166) (by decide +kernel) vc_156
theorem k_149_4 : OkOp mt Ev 149 4 (o_istore 1 1) := ok_istore_n (k := 1) (by decide +kernel) rfl
theorem k_149_5 : OkOp mt Ev 149 5 (o_aload 0 1) := ok_aload_n (k := 0) (by decide +kernel) rfl
theorem k_149_6 : OkOp mt Ev 149 6 (o_push (.int (124)) 2) := ok_bipush (n := 124) (by decide +kernel) (by decide +kernel)
theorem k_149_8 : OkOp mt Ev 149 8 (o_cv [(12, 142)] 1) := ok_cv (i := 140) (by decide +kernel) vc_149
theorem k_149_11 : OkOp mt Ev 149 11 (o_if1 (fun x => decide (x = 0)) 46) := ok_if_eq (off := 35) (by decide +kernel) (by decide +kernel)
theorem k_149_14 : OkOp mt Ev 149 14 (o_aload 0 1) := ok_aload_n (k := 0) (by decide +kernel) rfl
theorem k_149_15 : OkOp mt Ev 149 15 (o_dup) := ok_dup (by decide +kernel)
theorem k_149_16 : OkOp mt Ev 149 16 (o_getf 11 [12]) := ok_getf (i := 134) (rf := "BridgeSentencesModel") (nm := "at") (ds := "I") (by decide +kernel) fc_70 wd_996
theorem k_149_19 : OkOp mt Ev 149 19 (o_push (.int (1)) 1) := ok_iconst (n := 1) (by decide +kernel) (by decide +kernel)
theorem k_149_20 : OkOp mt Ev 149 20 (o_ib (fun x y => x + y)) := ok_iadd (by decide +kernel)
theorem k_149_21 : OkOp mt Ev 149 21 (o_putf 11 [12] 0) := ok_putf (i := 134) (rf := "BridgeSentencesModel") (nm := "at") (ds := "I") (ty := .int) (fin := false) (by decide +kernel) fc_70 wd_996 (tc_12) ff_72 (by decide) (by decide +kernel) ov_int
theorem k_149_24 : OkOp mt Ev 149 24 (o_aload 0 1) := ok_aload_n (k := 0) (by decide +kernel) rfl
theorem k_149_25 : OkOp mt Ev 149 25 (o_cv [(12, 148)] 0) := ok_cv (i := 166) (by decide +kernel) vc_156
theorem k_149_28 : OkOp mt Ev 149 28 (o_istore 2 1) := ok_istore_n (k := 2) (by decide +kernel) rfl
theorem k_149_29 : OkOp mt Ev 149 29 (o_iload 1 1) := ok_iload_n (k := 1) (by decide +kernel) rfl
theorem k_149_30 : OkOp mt Ev 149 30 (o_if1 (fun x => decide (¬ x = 0)) 37) := ok_if_ne (off := 7) (by decide +kernel) (by decide +kernel)
theorem k_149_33 : OkOp mt Ev 149 33 (o_iload 2 1) := ok_iload_n (k := 2) (by decide +kernel) rfl
theorem k_149_34 : OkOp mt Ev 149 34 (o_if1 (fun x => decide (x = 0)) 41) := ok_if_eq (off := 7) (by decide +kernel) (by decide +kernel)
theorem k_149_37 : OkOp mt Ev 149 37 (o_push (.int (1)) 1) := ok_iconst (n := 1) (by decide +kernel) (by decide +kernel)
theorem k_149_38 : OkOp mt Ev 149 38 (o_goto 42) := ok_goto (off := 4) (by decide +kernel) (by decide +kernel)
theorem k_149_41 : OkOp mt Ev 149 41 (o_push (.int (0)) 1) := ok_iconst (n := 0) (by decide +kernel) (by decide +kernel)
theorem k_149_42 : OkOp mt Ev 149 42 (o_istore 1 1) := ok_istore_n (k := 1) (by decide +kernel) rfl
theorem k_149_43 : OkOp mt Ev 149 43 (o_goto 5) := ok_goto (off := -38) (by decide +kernel) (by decide +kernel)
theorem k_149_46 : OkOp mt Ev 149 46 (o_iload 1 1) := ok_iload_n (k := 1) (by decide +kernel) rfl
theorem k_149_47 : OkOp mt Ev 149 47 (o_ret 1) := ok_reti (ty := .boolean) (by decide +kernel) rfl (Or.inr (Or.inl ⟨rfl, rfl⟩))
theorem kt_149 : ∀ pc o, cd_X12_any Ev pc = some o → OkOp mt Ev 149 pc o ∧ Gw o := (tN_ok (tN_ok (tN_ok (tN_ok (tL_ok ⟨k_149_0, gw_aload⟩) (tN_ok (tL_ok ⟨k_149_1, gw_cv⟩) (tL_ok ⟨k_149_4, gw_istore⟩))) (tN_ok (tL_ok ⟨k_149_5, gw_aload⟩) (tN_ok (tL_ok ⟨k_149_6, gw_push⟩) (tL_ok ⟨k_149_8, gw_cv⟩)))) (tN_ok (tN_ok (tL_ok ⟨k_149_11, gw_if1⟩) (tN_ok (tL_ok ⟨k_149_14, gw_aload⟩) (tL_ok ⟨k_149_15, gw_dup⟩))) (tN_ok (tN_ok (tL_ok ⟨k_149_16, gw_getf⟩) (tL_ok ⟨k_149_19, gw_push⟩)) (tN_ok (tL_ok ⟨k_149_20, gw_ib⟩) (tL_ok ⟨k_149_21, gw_putf⟩))))) (tN_ok (tN_ok (tN_ok (tL_ok ⟨k_149_24, gw_aload⟩) (tN_ok (tL_ok ⟨k_149_25, gw_cv⟩) (tL_ok ⟨k_149_28, gw_istore⟩))) (tN_ok (tN_ok (tL_ok ⟨k_149_29, gw_iload⟩) (tL_ok ⟨k_149_30, gw_if1⟩)) (tN_ok (tL_ok ⟨k_149_33, gw_iload⟩) (tL_ok ⟨k_149_34, gw_if1⟩)))) (tN_ok (tN_ok (tL_ok ⟨k_149_37, gw_push⟩) (tN_ok (tL_ok ⟨k_149_38, gw_goto⟩) (tL_ok ⟨k_149_41, gw_push⟩))) (tN_ok (tN_ok (tL_ok ⟨k_149_42, gw_istore⟩) (tL_ok ⟨k_149_43, gw_goto⟩)) (tN_ok (tL_ok ⟨k_149_46, gw_iload⟩) (tL_ok ⟨k_149_47, gw_ret⟩))))))
theorem k_150_0 : OkOp mt Ev 150 0 (o_push (.int (-1)) 1) := ok_iconst (n := -1) (by decide +kernel) (by decide +kernel)
theorem k_150_1 : OkOp mt Ev 150 1 (o_istore 1 1) := ok_istore_n (k := 1) (by decide +kernel) rfl
theorem k_150_2 : OkOp mt Ev 150 2 (o_push (.int (0)) 1) := ok_iconst (n := 0) (by decide +kernel) (by decide +kernel)
theorem k_150_3 : OkOp mt Ev 150 3 (o_istore 2 1) := ok_istore_n (k := 2) (by decide +kernel) rfl
theorem k_150_4 : OkOp mt Ev 150 4 (o_iload 2 1) := ok_iload_n (k := 2) (by decide +kernel) rfl
theorem k_150_5 : OkOp mt Ev 150 5 (o_push (.int (3)) 1) := ok_iconst (n := 3) (by decide +kernel) (by decide +kernel)
theorem k_150_6 : OkOp mt Ev 150 6 (o_if2 (fun x y => decide (y ≤ x)) 34) := ok_icmp_ge (off := 28) (by decide +kernel) (by decide +kernel)
theorem k_150_9 : OkOp mt Ev 150 9 (o_aload 0 1) := ok_aload_n (k := 0) (by decide +kernel) rfl
theorem k_150_10 : OkOp mt Ev 150 10 (o_aload 0 1) := ok_aload_n (k := 0) (by decide +kernel) rfl
theorem k_150_11 : OkOp mt Ev 150 11 (o_getf 18 [12]) := ok_getf (i := 44) (rf := "BridgeSentencesModel") (nm := "begins") (ds := "[C") (by decide +kernel) fc_56 wd_1003
theorem k_150_14 : OkOp mt Ev 150 14 (o_iload 2 1) := ok_iload_n (k := 2) (by decide +kernel) rfl
theorem k_150_15 : OkOp mt Ev 150 15 (o_iald 1) := ok_cald (by decide +kernel)
theorem k_150_16 : OkOp mt Ev 150 16 (o_cv [(12, 142)] 1) := ok_cv (i := 140) (by decide +kernel) vc_149
theorem k_150_19 : OkOp mt Ev 150 19 (o_if1 (fun x => decide (x = 0)) 26) := ok_if_eq (off := 7) (by decide +kernel) (by decide +kernel)
theorem k_150_22 : OkOp mt Ev 150 22 (o_iload 2 1) := ok_iload_n (k := 2) (by decide +kernel) rfl
theorem k_150_23 : OkOp mt Ev 150 23 (o_goto 27) := ok_goto (off := 4) (by decide +kernel) (by decide +kernel)
theorem k_150_26 : OkOp mt Ev 150 26 (o_iload 1 1) := ok_iload_n (k := 1) (by decide +kernel) rfl
theorem k_150_27 : OkOp mt Ev 150 27 (o_istore 1 1) := ok_istore_n (k := 1) (by decide +kernel) rfl
theorem k_150_28 : OkOp mt Ev 150 28 (o_iinc 2 (1)) := ok_iinc (n := 1) (by decide +kernel) (by decide +kernel)
theorem k_150_31 : OkOp mt Ev 150 31 (o_goto 4) := ok_goto (off := -27) (by decide +kernel) (by decide +kernel)
theorem k_150_34 : OkOp mt Ev 150 34 (o_iload 1 1) := ok_iload_n (k := 1) (by decide +kernel) rfl
theorem k_150_35 : OkOp mt Ev 150 35 (o_push (.int (-1)) 1) := ok_iconst (n := -1) (by decide +kernel) (by decide +kernel)
theorem k_150_36 : OkOp mt Ev 150 36 (o_if2 (fun x y => decide (¬ x = y)) 45) := ok_icmp_ne (off := 9) (by decide +kernel) (by decide +kernel)
theorem k_150_39 : OkOp mt Ev 150 39 (o_aload 0 1) := ok_aload_n (k := 0) (by decide +kernel) rfl
theorem k_150_40 : OkOp mt Ev 150 40 (o_push (.int (0)) 1) := ok_iconst (n := 0) (by decide +kernel) (by decide +kernel)
theorem k_150_41 : OkOp mt Ev 150 41 (o_putf 12 [12] 1) := ok_putf (i := 131) (rf := "BridgeSentencesModel") (nm := "well") (ds := "Z") (ty := .boolean) (fin := false) (by decide +kernel) fc_69 wd_997 (tc_12) ff_73 (by decide) (by decide +kernel) ov_bool
theorem k_150_44 : OkOp mt Ev 150 44 (o_retv) := ok_retv (by decide +kernel) rfl
theorem k_150_45 : OkOp mt Ev 150 45 (o_push (.int (0)) 1) := ok_iconst (n := 0) (by decide +kernel) (by decide +kernel)
theorem k_150_46 : OkOp mt Ev 150 46 (o_istore 2 1) := ok_istore_n (k := 2) (by decide +kernel) rfl
theorem k_150_47 : OkOp mt Ev 150 47 (o_iload 2 1) := ok_iload_n (k := 2) (by decide +kernel) rfl
theorem k_150_48 : OkOp mt Ev 150 48 (o_push (.int (5)) 1) := ok_iconst (n := 5) (by decide +kernel) (by decide +kernel)
theorem k_150_49 : OkOp mt Ev 150 49 (o_if2 (fun x y => decide (y ≤ x)) 85) := ok_icmp_ge (off := 36) (by decide +kernel) (by decide +kernel)
theorem k_150_52 : OkOp mt Ev 150 52 (o_aload 0 1) := ok_aload_n (k := 0) (by decide +kernel) rfl
theorem k_150_53 : OkOp mt Ev 150 53 (o_getf 19 [12]) := ok_getf (i := 47) (rf := "BridgeSentencesModel") (nm := "words") (ds := "[C") (by decide +kernel) fc_57 wd_1004
theorem k_150_56 : OkOp mt Ev 150 56 (o_push (.int (5)) 1) := ok_iconst (n := 5) (by decide +kernel) (by decide +kernel)
theorem k_150_57 : OkOp mt Ev 150 57 (o_iload 1 1) := ok_iload_n (k := 1) (by decide +kernel) rfl
theorem k_150_58 : OkOp mt Ev 150 58 (o_ib (fun x y => x * y)) := ok_imul (by decide +kernel)
theorem k_150_59 : OkOp mt Ev 150 59 (o_iload 2 1) := ok_iload_n (k := 2) (by decide +kernel) rfl
theorem k_150_60 : OkOp mt Ev 150 60 (o_ib (fun x y => x + y)) := ok_iadd (by decide +kernel)
theorem k_150_61 : OkOp mt Ev 150 61 (o_iald 1) := ok_cald (by decide +kernel)
theorem k_150_62 : OkOp mt Ev 150 62 (o_if1 (fun x => decide (x = 0)) 85) := ok_if_eq (off := 23) (by decide +kernel) (by decide +kernel)
theorem k_150_65 : OkOp mt Ev 150 65 (o_aload 0 1) := ok_aload_n (k := 0) (by decide +kernel) rfl
theorem k_150_66 : OkOp mt Ev 150 66 (o_aload 0 1) := ok_aload_n (k := 0) (by decide +kernel) rfl
theorem k_150_67 : OkOp mt Ev 150 67 (o_getf 19 [12]) := ok_getf (i := 47) (rf := "BridgeSentencesModel") (nm := "words") (ds := "[C") (by decide +kernel) fc_57 wd_1004
theorem k_150_70 : OkOp mt Ev 150 70 (o_push (.int (5)) 1) := ok_iconst (n := 5) (by decide +kernel) (by decide +kernel)
theorem k_150_71 : OkOp mt Ev 150 71 (o_iload 1 1) := ok_iload_n (k := 1) (by decide +kernel) rfl
theorem k_150_72 : OkOp mt Ev 150 72 (o_ib (fun x y => x * y)) := ok_imul (by decide +kernel)
theorem k_150_73 : OkOp mt Ev 150 73 (o_iload 2 1) := ok_iload_n (k := 2) (by decide +kernel) rfl
theorem k_150_74 : OkOp mt Ev 150 74 (o_ib (fun x y => x + y)) := ok_iadd (by decide +kernel)
theorem k_150_75 : OkOp mt Ev 150 75 (o_iald 1) := ok_cald (by decide +kernel)
theorem k_150_76 : OkOp mt Ev 150 76 (o_cv [(12, 143)] 1) := ok_cv (i := 147) (by decide +kernel) vc_151
theorem k_150_79 : OkOp mt Ev 150 79 (o_iinc 2 (1)) := ok_iinc (n := 1) (by decide +kernel) (by decide +kernel)
theorem k_150_82 : OkOp mt Ev 150 82 (o_goto 47) := ok_goto (off := -35) (by decide +kernel) (by decide +kernel)
theorem k_150_85 : OkOp mt Ev 150 85 (o_aload 0 1) := ok_aload_n (k := 0) (by decide +kernel) rfl
theorem k_150_86 : OkOp mt Ev 150 86 (o_push (.int (32)) 2) := ok_bipush (n := 32) (by decide +kernel) (by decide +kernel)
theorem k_150_88 : OkOp mt Ev 150 88 (o_cv [(12, 143)] 1) := ok_cv (i := 147) (by decide +kernel) vc_151
theorem k_150_91 : OkOp mt Ev 150 91 (o_aload 0 1) := ok_aload_n (k := 0) (by decide +kernel) rfl
theorem k_150_92 : OkOp mt Ev 150 92 (o_cv [(12, 145)] 0) := ok_cv (i := 151) (by decide +kernel) vc_152
theorem k_150_95 : OkOp mt Ev 150 95 (o_istore 2 1) := ok_istore_n (k := 2) (by decide +kernel) rfl
theorem k_150_96 : OkOp mt Ev 150 96 (o_iload 1 1) := ok_iload_n (k := 1) (by decide +kernel) rfl
theorem k_150_97 : OkOp mt Ev 150 97 (o_push (.int (2)) 1) := ok_iconst (n := 2) (by decide +kernel) (by decide +kernel)
theorem k_150_98 : OkOp mt Ev 150 98 (o_if2 (fun x y => decide (¬ x = y)) 107) := ok_icmp_ne (off := 9) (by decide +kernel) (by decide +kernel)
theorem k_150_101 : OkOp mt Ev 150 101 (o_aload 0 1) := ok_aload_n (k := 0) (by decide +kernel) rfl
theorem k_150_102 : OkOp mt Ev 150 102 (o_iload 2 1) := ok_iload_n (k := 2) (by decide +kernel) rfl
theorem k_150_103 : OkOp mt Ev 150 103 (o_putf 15 [12] 0) := ok_putf (i := 169) (rf := "BridgeSentencesModel") (nm := "free") (ds := "I") (ty := .int) (fin := false) (by decide +kernel) fc_73 wd_1000 (tc_12) ff_75 (by decide) (by decide +kernel) ov_int
theorem k_150_106 : OkOp mt Ev 150 106 (o_retv) := ok_retv (by decide +kernel) rfl
theorem k_150_107 : OkOp mt Ev 150 107 (o_aload 0 1) := ok_aload_n (k := 0) (by decide +kernel) rfl
theorem k_150_108 : OkOp mt Ev 150 108 (o_push (.int (32)) 2) := ok_bipush (n := 32) (by decide +kernel) (by decide +kernel)
theorem k_150_110 : OkOp mt Ev 150 110 (o_cv [(12, 143)] 1) := ok_cv (i := 147) (by decide +kernel) vc_151
theorem k_150_113 : OkOp mt Ev 150 113 (o_aload 0 1) := ok_aload_n (k := 0) (by decide +kernel) rfl
theorem k_150_114 : OkOp mt Ev 150 114 (o_push (.int (0)) 1) := ok_iconst (n := 0) (by decide +kernel) (by decide +kernel)
theorem k_150_115 : OkOp mt Ev 150 115 (o_putf 13 [12] 0) := ok_putf (i := 154) (rf := "BridgeSentencesModel") (nm := "within") (ds := "I") (ty := .int) (fin := false) (by decide +kernel) fc_72 wd_998 (tc_12) ff_74 (by decide) (by decide +kernel) ov_int
theorem k_150_118 : OkOp mt Ev 150 118 (o_aload 0 1) := ok_aload_n (k := 0) (by decide +kernel) rfl
theorem k_150_119 : OkOp mt Ev 150 119 (o_cv [(12, 149)] 0) := ok_cv (i := 160) (by decide +kernel) vc_154
theorem k_150_122 : OkOp mt Ev 150 122 (o_istore 3 1) := ok_istore_n (k := 3) (by decide +kernel) rfl
theorem k_150_123 : OkOp mt Ev 150 123 (o_aload 0 1) := ok_aload_n (k := 0) (by decide +kernel) rfl
theorem k_150_124 : OkOp mt Ev 150 124 (o_dup) := ok_dup (by decide +kernel)
theorem k_150_125 : OkOp mt Ev 150 125 (o_getf 14 [12]) := ok_getf (i := 120) (rf := "BridgeSentencesModel") (nm := "sum") (ds := "I") (by decide +kernel) fc_67 wd_999
theorem k_150_128 : OkOp mt Ev 150 128 (o_iload 3 1) := ok_iload_n (k := 3) (by decide +kernel) rfl
theorem k_150_129 : OkOp mt Ev 150 129 (o_if1 (fun x => decide (¬ x = 0)) 136) := ok_if_ne (off := 7) (by decide +kernel) (by decide +kernel)
theorem k_150_132 : OkOp mt Ev 150 132 (o_push (.int (0)) 1) := ok_iconst (n := 0) (by decide +kernel) (by decide +kernel)
theorem k_150_133 : OkOp mt Ev 150 133 (o_goto 146) := ok_goto (off := 13) (by decide +kernel) (by decide +kernel)
theorem k_150_136 : OkOp mt Ev 150 136 (o_iload 1 1) := ok_iload_n (k := 1) (by decide +kernel) rfl
theorem k_150_137 : OkOp mt Ev 150 137 (o_if1 (fun x => decide (¬ x = 0)) 144) := ok_if_ne (off := 7) (by decide +kernel) (by decide +kernel)
theorem k_150_140 : OkOp mt Ev 150 140 (o_iload 2 1) := ok_iload_n (k := 2) (by decide +kernel) rfl
theorem k_150_141 : OkOp mt Ev 150 141 (o_goto 146) := ok_goto (off := 5) (by decide +kernel) (by decide +kernel)
theorem k_150_144 : OkOp mt Ev 150 144 (o_iload 2 1) := ok_iload_n (k := 2) (by decide +kernel) rfl
theorem k_150_145 : OkOp mt Ev 150 145 (o_iu (fun x => -x)) := ok_ineg (by decide +kernel)
theorem k_150_146 : OkOp mt Ev 150 146 (o_ib (fun x y => x + y)) := ok_iadd (by decide +kernel)
theorem k_150_147 : OkOp mt Ev 150 147 (o_putf 14 [12] 0) := ok_putf (i := 120) (rf := "BridgeSentencesModel") (nm := "sum") (ds := "I") (ty := .int) (fin := false) (by decide +kernel) fc_67 wd_999 (tc_12) ff_76 (by decide) (by decide +kernel) ov_int
theorem k_150_150 : OkOp mt Ev 150 150 (o_retv) := ok_retv (by decide +kernel) rfl
theorem kt_150 : ∀ pc o, cd_X12_clause Ev pc = some o → OkOp mt Ev 150 pc o ∧ Gw o := (tN_ok (tN_ok (tN_ok (tN_ok (tN_ok (tN_ok (tL_ok ⟨k_150_0, gw_push⟩) (tL_ok ⟨k_150_1, gw_istore⟩)) (tN_ok (tL_ok ⟨k_150_2, gw_push⟩) (tN_ok (tL_ok ⟨k_150_3, gw_istore⟩) (tL_ok ⟨k_150_4, gw_iload⟩)))) (tN_ok (tN_ok (tL_ok ⟨k_150_5, gw_push⟩) (tN_ok (tL_ok ⟨k_150_6, gw_if2⟩) (tL_ok ⟨k_150_9, gw_aload⟩))) (tN_ok (tL_ok ⟨k_150_10, gw_aload⟩) (tN_ok (tL_ok ⟨k_150_11, gw_getf⟩) (tL_ok ⟨k_150_14, gw_iload⟩))))) (tN_ok (tN_ok (tN_ok (tL_ok ⟨k_150_15, gw_iald⟩) (tL_ok ⟨k_150_16, gw_cv⟩)) (tN_ok (tL_ok ⟨k_150_19, gw_if1⟩) (tN_ok (tL_ok ⟨k_150_22, gw_iload⟩) (tL_ok ⟨k_150_23, gw_goto⟩)))) (tN_ok (tN_ok (tL_ok ⟨k_150_26, gw_iload⟩) (tN_ok (tL_ok ⟨k_150_27, gw_istore⟩) (tL_ok ⟨k_150_28, gw_iinc⟩))) (tN_ok (tL_ok ⟨k_150_31, gw_goto⟩) (tN_ok (tL_ok ⟨k_150_34, gw_iload⟩) (tL_ok ⟨k_150_35, gw_push⟩)))))) (tN_ok (tN_ok (tN_ok (tN_ok (tL_ok ⟨k_150_36, gw_if2⟩) (tL_ok ⟨k_150_39, gw_aload⟩)) (tN_ok (tL_ok ⟨k_150_40, gw_push⟩) (tN_ok (tL_ok ⟨k_150_41, gw_putf⟩) (tL_ok ⟨k_150_44, gw_retv⟩)))) (tN_ok (tN_ok (tL_ok ⟨k_150_45, gw_push⟩) (tN_ok (tL_ok ⟨k_150_46, gw_istore⟩) (tL_ok ⟨k_150_47, gw_iload⟩))) (tN_ok (tL_ok ⟨k_150_48, gw_push⟩) (tN_ok (tL_ok ⟨k_150_49, gw_if2⟩) (tL_ok ⟨k_150_52, gw_aload⟩))))) (tN_ok (tN_ok (tN_ok (tL_ok ⟨k_150_53, gw_getf⟩) (tN_ok (tL_ok ⟨k_150_56, gw_push⟩) (tL_ok ⟨k_150_57, gw_iload⟩))) (tN_ok (tL_ok ⟨k_150_58, gw_ib⟩) (tN_ok (tL_ok ⟨k_150_59, gw_iload⟩) (tL_ok ⟨k_150_60, gw_ib⟩)))) (tN_ok (tN_ok (tL_ok ⟨k_150_61, gw_iald⟩) (tN_ok (tL_ok ⟨k_150_62, gw_if1⟩) (tL_ok ⟨k_150_65, gw_aload⟩))) (tN_ok (tL_ok ⟨k_150_66, gw_aload⟩) (tN_ok (tL_ok ⟨k_150_67, gw_getf⟩) (tL_ok ⟨k_150_70, gw_push⟩))))))) (tN_ok (tN_ok (tN_ok (tN_ok (tN_ok (tL_ok ⟨k_150_71, gw_iload⟩) (tL_ok ⟨k_150_72, gw_ib⟩)) (tN_ok (tL_ok ⟨k_150_73, gw_iload⟩) (tN_ok (tL_ok ⟨k_150_74, gw_ib⟩) (tL_ok ⟨k_150_75, gw_iald⟩)))) (tN_ok (tN_ok (tL_ok ⟨k_150_76, gw_cv⟩) (tN_ok (tL_ok ⟨k_150_79, gw_iinc⟩) (tL_ok ⟨k_150_82, gw_goto⟩))) (tN_ok (tL_ok ⟨k_150_85, gw_aload⟩) (tN_ok (tL_ok ⟨k_150_86, gw_push⟩) (tL_ok ⟨k_150_88, gw_cv⟩))))) (tN_ok (tN_ok (tN_ok (tL_ok ⟨k_150_91, gw_aload⟩) (tN_ok (tL_ok ⟨k_150_92, gw_cv⟩) (tL_ok ⟨k_150_95, gw_istore⟩))) (tN_ok (tL_ok ⟨k_150_96, gw_iload⟩) (tN_ok (tL_ok ⟨k_150_97, gw_push⟩) (tL_ok ⟨k_150_98, gw_if2⟩)))) (tN_ok (tN_ok (tL_ok ⟨k_150_101, gw_aload⟩) (tN_ok (tL_ok ⟨k_150_102, gw_iload⟩) (tL_ok ⟨k_150_103, gw_putf⟩))) (tN_ok (tL_ok ⟨k_150_106, gw_retv⟩) (tN_ok (tL_ok ⟨k_150_107, gw_aload⟩) (tL_ok ⟨k_150_108, gw_push⟩)))))) (tN_ok (tN_ok (tN_ok (tN_ok (tL_ok ⟨k_150_110, gw_cv⟩) (tL_ok ⟨k_150_113, gw_aload⟩)) (tN_ok (tL_ok ⟨k_150_114, gw_push⟩) (tN_ok (tL_ok ⟨k_150_115, gw_putf⟩) (tL_ok ⟨k_150_118, gw_aload⟩)))) (tN_ok (tN_ok (tL_ok ⟨k_150_119, gw_cv⟩) (tN_ok (tL_ok ⟨k_150_122, gw_istore⟩) (tL_ok ⟨k_150_123, gw_aload⟩))) (tN_ok (tL_ok ⟨k_150_124, gw_dup⟩) (tN_ok (tL_ok ⟨k_150_125, gw_getf⟩) (tL_ok ⟨k_150_128, gw_iload⟩))))) (tN_ok (tN_ok (tN_ok (tL_ok ⟨k_150_129, gw_if1⟩) (tN_ok (tL_ok ⟨k_150_132, gw_push⟩) (tL_ok ⟨k_150_133, gw_goto⟩))) (tN_ok (tL_ok ⟨k_150_136, gw_iload⟩) (tN_ok (tL_ok ⟨k_150_137, gw_if1⟩) (tL_ok ⟨k_150_140, gw_iload⟩)))) (tN_ok (tN_ok (tL_ok ⟨k_150_141, gw_goto⟩) (tN_ok (tL_ok ⟨k_150_144, gw_iload⟩) (tL_ok ⟨k_150_145, gw_iu⟩))) (tN_ok (tL_ok ⟨k_150_146, gw_ib⟩) (tN_ok (tL_ok ⟨k_150_147, gw_putf⟩) (tL_ok ⟨k_150_150, gw_retv⟩))))))))
end
