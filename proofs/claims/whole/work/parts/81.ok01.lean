/-! Operations held against instructions, one by one. -/
section
variable {Ev : Nat → Value}
theorem k_13_0 : OkOp mt Ev 13 0 (o_push (.int (0)) 1) := ok_iconst (n := 0) (by decide +kernel) (by decide +kernel)
theorem k_13_1 : OkOp mt Ev 13 1 (o_istore 2 1) := ok_istore_n (k := 2) (by decide +kernel) rfl
theorem k_13_2 : OkOp mt Ev 13 2 (o_push (.int (0)) 1) := ok_iconst (n := 0) (by decide +kernel) (by decide +kernel)
theorem k_13_3 : OkOp mt Ev 13 3 (o_istore 3 1) := ok_istore_n (k := 3) (by decide +kernel) rfl
theorem k_13_4 : OkOp mt Ev 13 4 (o_push (.int (0)) 1) := ok_iconst (n := 0) (by decide +kernel) (by decide +kernel)
theorem k_13_5 : OkOp mt Ev 13 5 (o_istore 4 2) := ok_istore (by decide +kernel)
theorem k_13_7 : OkOp mt Ev 13 7 (o_iload 4 2) := ok_iload (by decide +kernel)
theorem k_13_9 : OkOp mt Ev 13 9 (o_aload 0 1) := ok_aload_n (k := 0) (by decide +kernel) rfl
theorem k_13_10 : OkOp mt Ev 13 10 (o_getf 7 [0]) := ok_getf (i := 35) (rf := "BridgeSentences$Bridge") (nm := "clauses") (ds := "I") (by decide +kernel) fc_7 wd_178
theorem k_13_13 : OkOp mt Ev 13 13 (o_if2 (fun x y => decide (y ≤ x)) 66) := ok_icmp_ge (off := 53) (by decide +kernel) (by decide +kernel)
theorem k_13_16 : OkOp mt Ev 13 16 (o_aload 0 1) := ok_aload_n (k := 0) (by decide +kernel) rfl
theorem k_13_17 : OkOp mt Ev 13 17 (o_getf 5 [0]) := ok_getf (i := 19) (rf := "BridgeSentences$Bridge") (nm := "weights") (ds := "[I") (by decide +kernel) fc_2 wd_176
theorem k_13_20 : OkOp mt Ev 13 20 (o_iload 4 2) := ok_iload (by decide +kernel)
theorem k_13_22 : OkOp mt Ev 13 22 (o_iald 2) := ok_iald (by decide +kernel)
theorem k_13_23 : OkOp mt Ev 13 23 (o_if1 (fun x => decide (x = 0)) 52) := ok_if_eq (off := 29) (by decide +kernel) (by decide +kernel)
theorem k_13_26 : OkOp mt Ev 13 26 (o_aload 0 1) := ok_aload_n (k := 0) (by decide +kernel) rfl
theorem k_13_27 : OkOp mt Ev 13 27 (o_iload 3 1) := ok_iload_n (k := 3) (by decide +kernel) rfl
theorem k_13_28 : OkOp mt Ev 13 28 (o_aload 0 1) := ok_aload_n (k := 0) (by decide +kernel) rfl
theorem k_13_29 : OkOp mt Ev 13 29 (o_getf 6 [0]) := ok_getf (i := 22) (rf := "BridgeSentences$Bridge") (nm := "codeEnds") (ds := "[I") (by decide +kernel) fc_3 wd_177
theorem k_13_32 : OkOp mt Ev 13 32 (o_iload 4 2) := ok_iload (by decide +kernel)
theorem k_13_34 : OkOp mt Ev 13 34 (o_iald 2) := ok_iald (by decide +kernel)
theorem k_13_35 : OkOp mt Ev 13 35 (o_aload 1 1) := ok_aload_n (k := 1) (by decide +kernel) rfl
theorem k_13_36 : OkOp mt Ev 13 36 (o_cv [(0, 14)] 3) := ok_cv (i := 98) (by decide +kernel) vc_74
theorem k_13_39 : OkOp mt Ev 13 39 (o_if1 (fun x => decide (x = 0)) 52) := ok_if_eq (off := 13) (by decide +kernel) (by decide +kernel)
theorem k_13_42 : OkOp mt Ev 13 42 (o_iload 2 1) := ok_iload_n (k := 2) (by decide +kernel) rfl
theorem k_13_43 : OkOp mt Ev 13 43 (o_aload 0 1) := ok_aload_n (k := 0) (by decide +kernel) rfl
theorem k_13_44 : OkOp mt Ev 13 44 (o_getf 5 [0]) := ok_getf (i := 19) (rf := "BridgeSentences$Bridge") (nm := "weights") (ds := "[I") (by decide +kernel) fc_2 wd_176
theorem k_13_47 : OkOp mt Ev 13 47 (o_iload 4 2) := ok_iload (by decide +kernel)
theorem k_13_49 : OkOp mt Ev 13 49 (o_iald 2) := ok_iald (by decide +kernel)
theorem k_13_50 : OkOp mt Ev 13 50 (o_ib (fun x y => x + y)) := ok_iadd (by decide +kernel)
theorem k_13_51 : OkOp mt Ev 13 51 (o_istore 2 1) := ok_istore_n (k := 2) (by decide +kernel) rfl
theorem k_13_52 : OkOp mt Ev 13 52 (o_aload 0 1) := ok_aload_n (k := 0) (by decide +kernel) rfl
theorem k_13_53 : OkOp mt Ev 13 53 (o_getf 6 [0]) := ok_getf (i := 22) (rf := "BridgeSentences$Bridge") (nm := "codeEnds") (ds := "[I") (by decide +kernel) fc_3 wd_177
theorem k_13_56 : OkOp mt Ev 13 56 (o_iload 4 2) := ok_iload (by decide +kernel)
theorem k_13_58 : OkOp mt Ev 13 58 (o_iald 2) := ok_iald (by decide +kernel)
theorem k_13_59 : OkOp mt Ev 13 59 (o_istore 3 1) := ok_istore_n (k := 3) (by decide +kernel) rfl
theorem k_13_60 : OkOp mt Ev 13 60 (o_iinc 4 (1)) := ok_iinc (n := 1) (by decide +kernel) (by decide +kernel)
theorem k_13_63 : OkOp mt Ev 13 63 (o_goto 7) := ok_goto (off := -56) (by decide +kernel) (by decide +kernel)
theorem k_13_66 : OkOp mt Ev 13 66 (o_iload 2 1) := ok_iload_n (k := 2) (by decide +kernel) rfl
theorem k_13_67 : OkOp mt Ev 13 67 (o_ret 0) := ok_reti (ty := .int) (by decide +kernel) rfl (Or.inl ⟨rfl, rfl⟩)
theorem kt_13 : ∀ pc o, cd_X0_pressing Ev pc = some o → OkOp mt Ev 13 pc o ∧ Gw o := (tN_ok (tN_ok (tN_ok (tN_ok (tN_ok (tL_ok ⟨k_13_0, gw_push⟩) (tL_ok ⟨k_13_1, gw_istore⟩)) (tN_ok (tL_ok ⟨k_13_2, gw_push⟩) (tN_ok (tL_ok ⟨k_13_3, gw_istore⟩) (tL_ok ⟨k_13_4, gw_push⟩)))) (tN_ok (tN_ok (tL_ok ⟨k_13_5, gw_istore⟩) (tL_ok ⟨k_13_7, gw_iload⟩)) (tN_ok (tL_ok ⟨k_13_9, gw_aload⟩) (tN_ok (tL_ok ⟨k_13_10, gw_getf⟩) (tL_ok ⟨k_13_13, gw_if2⟩))))) (tN_ok (tN_ok (tN_ok (tL_ok ⟨k_13_16, gw_aload⟩) (tL_ok ⟨k_13_17, gw_getf⟩)) (tN_ok (tL_ok ⟨k_13_20, gw_iload⟩) (tN_ok (tL_ok ⟨k_13_22, gw_iald⟩) (tL_ok ⟨k_13_23, gw_if1⟩)))) (tN_ok (tN_ok (tL_ok ⟨k_13_26, gw_aload⟩) (tL_ok ⟨k_13_27, gw_iload⟩)) (tN_ok (tL_ok ⟨k_13_28, gw_aload⟩) (tN_ok (tL_ok ⟨k_13_29, gw_getf⟩) (tL_ok ⟨k_13_32, gw_iload⟩)))))) (tN_ok (tN_ok (tN_ok (tN_ok (tL_ok ⟨k_13_34, gw_iald⟩) (tL_ok ⟨k_13_35, gw_aload⟩)) (tN_ok (tL_ok ⟨k_13_36, gw_cv⟩) (tN_ok (tL_ok ⟨k_13_39, gw_if1⟩) (tL_ok ⟨k_13_42, gw_iload⟩)))) (tN_ok (tN_ok (tL_ok ⟨k_13_43, gw_aload⟩) (tL_ok ⟨k_13_44, gw_getf⟩)) (tN_ok (tL_ok ⟨k_13_47, gw_iload⟩) (tN_ok (tL_ok ⟨k_13_49, gw_iald⟩) (tL_ok ⟨k_13_50, gw_ib⟩))))) (tN_ok (tN_ok (tN_ok (tL_ok ⟨k_13_51, gw_istore⟩) (tL_ok ⟨k_13_52, gw_aload⟩)) (tN_ok (tL_ok ⟨k_13_53, gw_getf⟩) (tN_ok (tL_ok ⟨k_13_56, gw_iload⟩) (tL_ok ⟨k_13_58, gw_iald⟩)))) (tN_ok (tN_ok (tL_ok ⟨k_13_59, gw_istore⟩) (tL_ok ⟨k_13_60, gw_iinc⟩)) (tN_ok (tL_ok ⟨k_13_63, gw_goto⟩) (tN_ok (tL_ok ⟨k_13_66, gw_iload⟩) (tL_ok ⟨k_13_67, gw_ret⟩)))))))
theorem k_14_0 : OkOp mt Ev 14 0 (o_push (.int (0)) 1) := ok_iconst (n := 0) (by decide +kernel) (by decide +kernel)
theorem k_14_1 : OkOp mt Ev 14 1 (o_istore 4 2) := ok_istore (by decide +kernel)
theorem k_14_3 : OkOp mt Ev 14 3 (o_iload 1 1) := ok_iload_n (k := 1) (by decide +kernel) rfl
theorem k_14_4 : OkOp mt Ev 14 4 (o_istore 5 2) := ok_istore (by decide +kernel)
theorem k_14_6 : OkOp mt Ev 14 6 (o_iload 5 2) := ok_iload (by decide +kernel)
theorem k_14_8 : OkOp mt Ev 14 8 (o_iload 2 1) := ok_iload_n (k := 2) (by decide +kernel) rfl
theorem k_14_9 : OkOp mt Ev 14 9 (o_if2 (fun x y => decide (y ≤ x)) 163) := ok_icmp_ge (off := 154) (by decide +kernel) (by decide +kernel)
theorem k_14_12 : OkOp mt Ev 14 12 (o_aload 0 1) := ok_aload_n (k := 0) (by decide +kernel) rfl
theorem k_14_13 : OkOp mt Ev 14 13 (o_getf 3 [0]) := ok_getf (i := 15) (rf := "BridgeSentences$Bridge") (nm := "code") (ds := "[I") (by decide +kernel) fc_1 wd_174
theorem k_14_16 : OkOp mt Ev 14 16 (o_iload 5 2) := ok_iload (by decide +kernel)
theorem k_14_18 : OkOp mt Ev 14 18 (o_iald 2) := ok_iald (by decide +kernel)
theorem k_14_19 : OkOp mt Ev 14 19 (o_istore 6 2) := ok_istore (by decide +kernel)
theorem k_14_21 : OkOp mt Ev 14 21 (o_iload 6 2) := ok_iload (by decide +kernel)
theorem k_14_23 : OkOp mt Ev 14 23 (o_push (.int (-1)) 1) := ok_iconst (n := -1) (by decide +kernel) (by decide +kernel)
theorem k_14_24 : OkOp mt Ev 14 24 (o_if2 (fun x y => decide (¬ x = y)) 36) := ok_icmp_ne (off := 12) (by decide +kernel) (by decide +kernel)
theorem k_14_27 : OkOp mt Ev 14 27 (o_iload 4 2) := ok_iload (by decide +kernel)
theorem k_14_29 : OkOp mt Ev 14 29 (o_push (.int (1)) 1) := ok_iconst (n := 1) (by decide +kernel) (by decide +kernel)
theorem k_14_30 : OkOp mt Ev 14 30 (o_ib (fun x y => x ^^^ y)) := ok_ixor (by decide +kernel)
theorem k_14_31 : OkOp mt Ev 14 31 (o_istore 4 2) := ok_istore (by decide +kernel)
theorem k_14_33 : OkOp mt Ev 14 33 (o_goto 157) := ok_goto (off := 124) (by decide +kernel) (by decide +kernel)
theorem k_14_36 : OkOp mt Ev 14 36 (o_iload 6 2) := ok_iload (by decide +kernel)
theorem k_14_38 : OkOp mt Ev 14 38 (o_push (.int (-2)) 2) := ok_bipush (n := -2) (by decide +kernel) (by decide +kernel)
theorem k_14_40 : OkOp mt Ev 14 40 (o_if2 (fun x y => decide (¬ x = y)) 70) := ok_icmp_ne (off := 30) (by decide +kernel) (by decide +kernel)
theorem k_14_43 : OkOp mt Ev 14 43 (o_iload 4 2) := ok_iload (by decide +kernel)
theorem k_14_45 : OkOp mt Ev 14 45 (o_push (.int (1)) 1) := ok_iconst (n := 1) (by decide +kernel) (by decide +kernel)
theorem k_14_46 : OkOp mt Ev 14 46 (o_ib (fun x y => x &&& y)) := ok_iand (by decide +kernel)
theorem k_14_47 : OkOp mt Ev 14 47 (o_push (.int (1)) 1) := ok_iconst (n := 1) (by decide +kernel) (by decide +kernel)
theorem k_14_48 : OkOp mt Ev 14 48 (o_if2 (fun x y => decide (¬ x = y)) 58) := ok_icmp_ne (off := 10) (by decide +kernel) (by decide +kernel)
theorem k_14_51 : OkOp mt Ev 14 51 (o_iload 4 2) := ok_iload (by decide +kernel)
theorem k_14_53 : OkOp mt Ev 14 53 (o_push (.int (1)) 1) := ok_iconst (n := 1) (by decide +kernel) (by decide +kernel)
theorem k_14_54 : OkOp mt Ev 14 54 (o_ib (fun x y => x >>> (y &&& 31))) := ok_ishr (by decide +kernel)
theorem k_14_55 : OkOp mt Ev 14 55 (o_goto 65) := ok_goto (off := 10) (by decide +kernel) (by decide +kernel)
theorem k_14_58 : OkOp mt Ev 14 58 (o_iload 4 2) := ok_iload (by decide +kernel)
theorem k_14_60 : OkOp mt Ev 14 60 (o_push (.int (1)) 1) := ok_iconst (n := 1) (by decide +kernel) (by decide +kernel)
theorem k_14_61 : OkOp mt Ev 14 61 (o_ib (fun x y => x >>> (y &&& 31))) := ok_ishr (by decide +kernel)
theorem k_14_62 : OkOp mt Ev 14 62 (o_push (.int (-2)) 2) := ok_bipush (n := -2) (by decide +kernel) (by decide +kernel)
theorem k_14_64 : OkOp mt Ev 14 64 (o_ib (fun x y => x &&& y)) := ok_iand (by decide +kernel)
theorem k_14_65 : OkOp mt Ev 14 65 (o_istore 4 2) := ok_istore (by decide +kernel)
theorem k_14_67 : OkOp mt Ev 14 67 (o_goto 157) := ok_goto (off := 90) (by decide +kernel) (by decide +kernel)
theorem k_14_70 : OkOp mt Ev 14 70 (o_iload 6 2) := ok_iload (by decide +kernel)
theorem k_14_72 : OkOp mt Ev 14 72 (o_push (.int (-3)) 2) := ok_bipush (n := -3) (by decide +kernel) (by decide +kernel)
theorem k_14_74 : OkOp mt Ev 14 74 (o_if2 (fun x y => decide (¬ x = y)) 91) := ok_icmp_ne (off := 17) (by decide +kernel) (by decide +kernel)
theorem k_14_77 : OkOp mt Ev 14 77 (o_iload 4 2) := ok_iload (by decide +kernel)
theorem k_14_79 : OkOp mt Ev 14 79 (o_push (.int (1)) 1) := ok_iconst (n := 1) (by decide +kernel) (by decide +kernel)
theorem k_14_80 : OkOp mt Ev 14 80 (o_ib (fun x y => x >>> (y &&& 31))) := ok_ishr (by decide +kernel)
theorem k_14_81 : OkOp mt Ev 14 81 (o_iload 4 2) := ok_iload (by decide +kernel)
theorem k_14_83 : OkOp mt Ev 14 83 (o_push (.int (1)) 1) := ok_iconst (n := 1) (by decide +kernel) (by decide +kernel)
theorem k_14_84 : OkOp mt Ev 14 84 (o_ib (fun x y => x &&& y)) := ok_iand (by decide +kernel)
theorem k_14_85 : OkOp mt Ev 14 85 (o_ib (fun x y => x ||| y)) := ok_ior (by decide +kernel)
theorem k_14_86 : OkOp mt Ev 14 86 (o_istore 4 2) := ok_istore (by decide +kernel)
theorem k_14_88 : OkOp mt Ev 14 88 (o_goto 157) := ok_goto (off := 69) (by decide +kernel) (by decide +kernel)
theorem k_14_91 : OkOp mt Ev 14 91 (o_aload 3 1) := ok_aload_n (k := 3) (by decide +kernel) rfl
theorem k_14_92 : OkOp mt Ev 14 92 (o_iload 6 2) := ok_iload (by decide +kernel)
theorem k_14_94 : OkOp mt Ev 14 94 (o_push (.int (300)) 3) := ok_sipush (n := 300) (by decide +kernel) (by decide +kernel)
theorem k_14_97 : OkOp mt Ev 14 97 (o_ibz (fun x y => x / y)) := ok_idiv (by decide +kernel)
theorem k_14_98 : OkOp mt Ev 14 98 (o_iald 2) := ok_iald (by decide +kernel)
theorem k_14_99 : OkOp mt Ev 14 99 (o_istore 7 2) := ok_istore (by decide +kernel)
theorem k_14_101 : OkOp mt Ev 14 101 (o_iload 6 2) := ok_iload (by decide +kernel)
theorem k_14_103 : OkOp mt Ev 14 103 (o_push (.int (100)) 2) := ok_bipush (n := 100) (by decide +kernel) (by decide +kernel)
theorem k_14_105 : OkOp mt Ev 14 105 (o_ibz (fun x y => x - x / y * y)) := ok_irem (by decide +kernel)
theorem k_14_106 : OkOp mt Ev 14 106 (o_istore 8 2) := ok_istore (by decide +kernel)
theorem k_14_108 : OkOp mt Ev 14 108 (o_iload 7 2) := ok_iload (by decide +kernel)
theorem k_14_110 : OkOp mt Ev 14 110 (o_iload 8 2) := ok_iload (by decide +kernel)
theorem k_14_112 : OkOp mt Ev 14 112 (o_if2 (fun x y => decide (y ≤ x)) 119) := ok_icmp_ge (off := 7) (by decide +kernel) (by decide +kernel)
theorem k_14_115 : OkOp mt Ev 14 115 (o_push (.int (0)) 1) := ok_iconst (n := 0) (by decide +kernel) (by decide +kernel)
theorem k_14_116 : OkOp mt Ev 14 116 (o_goto 131) := ok_goto (off := 15) (by decide +kernel) (by decide +kernel)
theorem k_14_119 : OkOp mt Ev 14 119 (o_iload 7 2) := ok_iload (by decide +kernel)
theorem k_14_121 : OkOp mt Ev 14 121 (o_iload 8 2) := ok_iload (by decide +kernel)
theorem k_14_123 : OkOp mt Ev 14 123 (o_if2 (fun x y => decide (¬ x = y)) 130) := ok_icmp_ne (off := 7) (by decide +kernel) (by decide +kernel)
theorem k_14_126 : OkOp mt Ev 14 126 (o_push (.int (1)) 1) := ok_iconst (n := 1) (by decide +kernel) (by decide +kernel)
theorem k_14_127 : OkOp mt Ev 14 127 (o_goto 131) := ok_goto (off := 4) (by decide +kernel) (by decide +kernel)
theorem k_14_130 : OkOp mt Ev 14 130 (o_push (.int (2)) 1) := ok_iconst (n := 2) (by decide +kernel) (by decide +kernel)
theorem k_14_131 : OkOp mt Ev 14 131 (o_istore 9 2) := ok_istore (by decide +kernel)
theorem k_14_133 : OkOp mt Ev 14 133 (o_iload 4 2) := ok_iload (by decide +kernel)
theorem k_14_135 : OkOp mt Ev 14 135 (o_push (.int (1)) 1) := ok_iconst (n := 1) (by decide +kernel) (by decide +kernel)
theorem k_14_136 : OkOp mt Ev 14 136 (o_ib (fun x y => x <<< (y &&& 31))) := ok_ishl (by decide +kernel)
theorem k_14_137 : OkOp mt Ev 14 137 (o_iload 9 2) := ok_iload (by decide +kernel)
theorem k_14_139 : OkOp mt Ev 14 139 (o_iload 6 2) := ok_iload (by decide +kernel)
theorem k_14_141 : OkOp mt Ev 14 141 (o_push (.int (100)) 2) := ok_bipush (n := 100) (by decide +kernel) (by decide +kernel)
theorem k_14_143 : OkOp mt Ev 14 143 (o_ibz (fun x y => x / y)) := ok_idiv (by decide +kernel)
theorem k_14_144 : OkOp mt Ev 14 144 (o_push (.int (3)) 1) := ok_iconst (n := 3) (by decide +kernel) (by decide +kernel)
theorem k_14_145 : OkOp mt Ev 14 145 (o_ibz (fun x y => x - x / y * y)) := ok_irem (by decide +kernel)
theorem k_14_146 : OkOp mt Ev 14 146 (o_if2 (fun x y => decide (¬ x = y)) 153) := ok_icmp_ne (off := 7) (by decide +kernel) (by decide +kernel)
theorem k_14_149 : OkOp mt Ev 14 149 (o_push (.int (1)) 1) := ok_iconst (n := 1) (by decide +kernel) (by decide +kernel)
theorem k_14_150 : OkOp mt Ev 14 150 (o_goto 154) := ok_goto (off := 4) (by decide +kernel) (by decide +kernel)
theorem k_14_153 : OkOp mt Ev 14 153 (o_push (.int (0)) 1) := ok_iconst (n := 0) (by decide +kernel) (by decide +kernel)
theorem k_14_154 : OkOp mt Ev 14 154 (o_ib (fun x y => x ||| y)) := ok_ior (by decide +kernel)
theorem k_14_155 : OkOp mt Ev 14 155 (o_istore 4 2) := ok_istore (by decide +kernel)
theorem k_14_157 : OkOp mt Ev 14 157 (o_iinc 5 (1)) := ok_iinc (n := 1) (by decide +kernel) (by decide +kernel)
theorem k_14_160 : OkOp mt Ev 14 160 (o_goto 6) := ok_goto (off := -154) (by decide +kernel) (by decide +kernel)
theorem k_14_163 : OkOp mt Ev 14 163 (o_iload 4 2) := ok_iload (by decide +kernel)
theorem k_14_165 : OkOp mt Ev 14 165 (o_push (.int (1)) 1) := ok_iconst (n := 1) (by decide +kernel) (by decide +kernel)
theorem k_14_166 : OkOp mt Ev 14 166 (o_ib (fun x y => x &&& y)) := ok_iand (by decide +kernel)
theorem k_14_167 : OkOp mt Ev 14 167 (o_push (.int (1)) 1) := ok_iconst (n := 1) (by decide +kernel) (by decide +kernel)
theorem k_14_168 : OkOp mt Ev 14 168 (o_if2 (fun x y => decide (¬ x = y)) 175) := ok_icmp_ne (off := 7) (by decide +kernel) (by decide +kernel)
theorem k_14_171 : OkOp mt Ev 14 171 (o_push (.int (1)) 1) := ok_iconst (n := 1) (by decide +kernel) (by decide +kernel)
theorem k_14_172 : OkOp mt Ev 14 172 (o_goto 176) := ok_goto (off := 4) (by decide +kernel) (by decide +kernel)
theorem k_14_175 : OkOp mt Ev 14 175 (o_push (.int (0)) 1) := ok_iconst (n := 0) (by decide +kernel) (by decide +kernel)
theorem k_14_176 : OkOp mt Ev 14 176 (o_ret 1) := ok_reti (ty := .boolean) (by decide +kernel) rfl (Or.inr (Or.inl ⟨rfl, rfl⟩))
theorem kt_14 : ∀ pc o, cd_X0_holds Ev pc = some o → OkOp mt Ev 14 pc o ∧ Gw o := (tN_ok (tN_ok (tN_ok (tN_ok (tN_ok (tN_ok (tL_ok ⟨k_14_0, gw_push⟩) (tN_ok (tL_ok ⟨k_14_1, gw_istore⟩) (tL_ok ⟨k_14_3, gw_iload⟩))) (tN_ok (tL_ok ⟨k_14_4, gw_istore⟩) (tN_ok (tL_ok ⟨k_14_6, gw_iload⟩) (tL_ok ⟨k_14_8, gw_iload⟩)))) (tN_ok (tN_ok (tL_ok ⟨k_14_9, gw_if2⟩) (tN_ok (tL_ok ⟨k_14_12, gw_aload⟩) (tL_ok ⟨k_14_13, gw_getf⟩))) (tN_ok (tL_ok ⟨k_14_16, gw_iload⟩) (tN_ok (tL_ok ⟨k_14_18, gw_iald⟩) (tL_ok ⟨k_14_19, gw_istore⟩))))) (tN_ok (tN_ok (tN_ok (tL_ok ⟨k_14_21, gw_iload⟩) (tN_ok (tL_ok ⟨k_14_23, gw_push⟩) (tL_ok ⟨k_14_24, gw_if2⟩))) (tN_ok (tL_ok ⟨k_14_27, gw_iload⟩) (tN_ok (tL_ok ⟨k_14_29, gw_push⟩) (tL_ok ⟨k_14_30, gw_ib⟩)))) (tN_ok (tN_ok (tL_ok ⟨k_14_31, gw_istore⟩) (tN_ok (tL_ok ⟨k_14_33, gw_goto⟩) (tL_ok ⟨k_14_36, gw_iload⟩))) (tN_ok (tL_ok ⟨k_14_38, gw_push⟩) (tN_ok (tL_ok ⟨k_14_40, gw_if2⟩) (tL_ok ⟨k_14_43, gw_iload⟩)))))) (tN_ok (tN_ok (tN_ok (tN_ok (tL_ok ⟨k_14_45, gw_push⟩) (tN_ok (tL_ok ⟨k_14_46, gw_ib⟩) (tL_ok ⟨k_14_47, gw_push⟩))) (tN_ok (tL_ok ⟨k_14_48, gw_if2⟩) (tN_ok (tL_ok ⟨k_14_51, gw_iload⟩) (tL_ok ⟨k_14_53, gw_push⟩)))) (tN_ok (tN_ok (tL_ok ⟨k_14_54, gw_ib⟩) (tN_ok (tL_ok ⟨k_14_55, gw_goto⟩) (tL_ok ⟨k_14_58, gw_iload⟩))) (tN_ok (tL_ok ⟨k_14_60, gw_push⟩) (tN_ok (tL_ok ⟨k_14_61, gw_ib⟩) (tL_ok ⟨k_14_62, gw_push⟩))))) (tN_ok (tN_ok (tN_ok (tL_ok ⟨k_14_64, gw_ib⟩) (tN_ok (tL_ok ⟨k_14_65, gw_istore⟩) (tL_ok ⟨k_14_67, gw_goto⟩))) (tN_ok (tL_ok ⟨k_14_70, gw_iload⟩) (tN_ok (tL_ok ⟨k_14_72, gw_push⟩) (tL_ok ⟨k_14_74, gw_if2⟩)))) (tN_ok (tN_ok (tL_ok ⟨k_14_77, gw_iload⟩) (tN_ok (tL_ok ⟨k_14_79, gw_push⟩) (tL_ok ⟨k_14_80, gw_ib⟩))) (tN_ok (tN_ok (tL_ok ⟨k_14_81, gw_iload⟩) (tL_ok ⟨k_14_83, gw_push⟩)) (tN_ok (tL_ok ⟨k_14_84, gw_ib⟩) (tL_ok ⟨k_14_85, gw_ib⟩))))))) (tN_ok (tN_ok (tN_ok (tN_ok (tN_ok (tL_ok ⟨k_14_86, gw_istore⟩) (tN_ok (tL_ok ⟨k_14_88, gw_goto⟩) (tL_ok ⟨k_14_91, gw_aload⟩))) (tN_ok (tL_ok ⟨k_14_92, gw_iload⟩) (tN_ok (tL_ok ⟨k_14_94, gw_push⟩) (tL_ok ⟨k_14_97, gw_ibz⟩)))) (tN_ok (tN_ok (tL_ok ⟨k_14_98, gw_iald⟩) (tN_ok (tL_ok ⟨k_14_99, gw_istore⟩) (tL_ok ⟨k_14_101, gw_iload⟩))) (tN_ok (tL_ok ⟨k_14_103, gw_push⟩) (tN_ok (tL_ok ⟨k_14_105, gw_ibz⟩) (tL_ok ⟨k_14_106, gw_istore⟩))))) (tN_ok (tN_ok (tN_ok (tL_ok ⟨k_14_108, gw_iload⟩) (tN_ok (tL_ok ⟨k_14_110, gw_iload⟩) (tL_ok ⟨k_14_112, gw_if2⟩))) (tN_ok (tL_ok ⟨k_14_115, gw_push⟩) (tN_ok (tL_ok ⟨k_14_116, gw_goto⟩) (tL_ok ⟨k_14_119, gw_iload⟩)))) (tN_ok (tN_ok (tL_ok ⟨k_14_121, gw_iload⟩) (tN_ok (tL_ok ⟨k_14_123, gw_if2⟩) (tL_ok ⟨k_14_126, gw_push⟩))) (tN_ok (tN_ok (tL_ok ⟨k_14_127, gw_goto⟩) (tL_ok ⟨k_14_130, gw_push⟩)) (tN_ok (tL_ok ⟨k_14_131, gw_istore⟩) (tL_ok ⟨k_14_133, gw_iload⟩)))))) (tN_ok (tN_ok (tN_ok (tN_ok (tL_ok ⟨k_14_135, gw_push⟩) (tN_ok (tL_ok ⟨k_14_136, gw_ib⟩) (tL_ok ⟨k_14_137, gw_iload⟩))) (tN_ok (tL_ok ⟨k_14_139, gw_iload⟩) (tN_ok (tL_ok ⟨k_14_141, gw_push⟩) (tL_ok ⟨k_14_143, gw_ibz⟩)))) (tN_ok (tN_ok (tL_ok ⟨k_14_144, gw_push⟩) (tN_ok (tL_ok ⟨k_14_145, gw_ibz⟩) (tL_ok ⟨k_14_146, gw_if2⟩))) (tN_ok (tL_ok ⟨k_14_149, gw_push⟩) (tN_ok (tL_ok ⟨k_14_150, gw_goto⟩) (tL_ok ⟨k_14_153, gw_push⟩))))) (tN_ok (tN_ok (tN_ok (tL_ok ⟨k_14_154, gw_ib⟩) (tN_ok (tL_ok ⟨k_14_155, gw_istore⟩) (tL_ok ⟨k_14_157, gw_iinc⟩))) (tN_ok (tL_ok ⟨k_14_160, gw_goto⟩) (tN_ok (tL_ok ⟨k_14_163, gw_iload⟩) (tL_ok ⟨k_14_165, gw_push⟩)))) (tN_ok (tN_ok (tL_ok ⟨k_14_166, gw_ib⟩) (tN_ok (tL_ok ⟨k_14_167, gw_push⟩) (tL_ok ⟨k_14_168, gw_if2⟩))) (tN_ok (tN_ok (tL_ok ⟨k_14_171, gw_push⟩) (tL_ok ⟨k_14_172, gw_goto⟩)) (tN_ok (tL_ok ⟨k_14_175, gw_push⟩) (tL_ok ⟨k_14_176, gw_ret⟩))))))))
theorem k_15_0 : OkOp mt Ev 15 0 (o_aload 0 1) := ok_aload_n (k := 0) (by decide +kernel) rfl
theorem k_15_1 : OkOp mt Ev 15 1 (o_iload 1 1) := ok_iload_n (k := 1) (by decide +kernel) rfl
theorem k_15_2 : OkOp mt Ev 15 2 (o_iload 2 1) := ok_iload_n (k := 2) (by decide +kernel) rfl
theorem k_15_3 : OkOp mt Ev 15 3 (o_ci 18 2) := ok_ci (i := 1) (by decide +kernel) wd_356 wd_315 wd_65 wd_316 nk_5 rfl rfl
theorem k_15_6 : OkOp mt Ev 15 6 (o_retv) := ok_retv (by decide +kernel) rfl
theorem kt_15 : ∀ pc o, cd_X1_init Ev pc = some o → OkOp mt Ev 15 pc o ∧ Gw o := (tN_ok (tN_ok (tL_ok ⟨k_15_0, gw_aload⟩) (tL_ok ⟨k_15_1, gw_iload⟩)) (tN_ok (tL_ok ⟨k_15_2, gw_iload⟩) (tN_ok (tL_ok ⟨k_15_3, gw_ci⟩) (tL_ok ⟨k_15_6, gw_retv⟩))))
theorem k_16_0 : OkOp mt Ev 16 0 (o_aload 0 1) := ok_aload_n (k := 0) (by decide +kernel) rfl
theorem k_16_1 : OkOp mt Ev 16 1 (o_iload 1 1) := ok_iload_n (k := 1) (by decide +kernel) rfl
theorem k_16_2 : OkOp mt Ev 16 2 (o_iload 2 1) := ok_iload_n (k := 2) (by decide +kernel) rfl
theorem k_16_3 : OkOp mt Ev 16 3 (o_iload 3 1) := ok_iload_n (k := 3) (by decide +kernel) rfl
theorem k_16_4 : OkOp mt Ev 16 4 (o_cv [(1, 19)] 3) := ok_csu (i := 7) (by decide +kernel) vc_75
theorem k_16_7 : OkOp mt Ev 16 7 (o_aload 0 1) := ok_aload_n (k := 0) (by decide +kernel) rfl
theorem k_16_8 : OkOp mt Ev 16 8 (o_getf 5 [1]) := ok_getf (i := 11) (rf := "BridgeSentences$Child") (nm := "back") (ds := "I") (by decide +kernel) fc_9 wd_294
theorem k_16_11 : OkOp mt Ev 16 11 (o_push (.int (9)) 2) := ok_bipush (n := 9) (by decide +kernel) (by decide +kernel)
theorem k_16_13 : OkOp mt Ev 16 13 (o_cs 197 2) := ok_cs (i := 17) (by decide +kernel) wd_431 wd_432 wd_59 wd_433 nk_6
theorem k_16_16 : OkOp mt Ev 16 16 (o_ib (fun x y => x - y)) := ok_isub (by decide +kernel)
theorem k_16_17 : OkOp mt Ev 16 17 (o_ret 0) := ok_reti (ty := .int) (by decide +kernel) rfl (Or.inl ⟨rfl, rfl⟩)
theorem kt_16 : ∀ pc o, cd_X1_urgeBy Ev pc = some o → OkOp mt Ev 16 pc o ∧ Gw o := (tN_ok (tN_ok (tN_ok (tL_ok ⟨k_16_0, gw_aload⟩) (tL_ok ⟨k_16_1, gw_iload⟩)) (tN_ok (tL_ok ⟨k_16_2, gw_iload⟩) (tN_ok (tL_ok ⟨k_16_3, gw_iload⟩) (tL_ok ⟨k_16_4, gw_cv⟩)))) (tN_ok (tN_ok (tL_ok ⟨k_16_7, gw_aload⟩) (tN_ok (tL_ok ⟨k_16_8, gw_getf⟩) (tL_ok ⟨k_16_11, gw_push⟩))) (tN_ok (tL_ok ⟨k_16_13, gw_cs⟩) (tN_ok (tL_ok ⟨k_16_16, gw_ib⟩) (tL_ok ⟨k_16_17, gw_ret⟩)))))
theorem k_17_0 : OkOp mt Ev 17 0 (o_aload 1 1) := ok_aload_n (k := 1) (by decide +kernel) rfl
theorem k_17_1 : OkOp mt Ev 17 1 (o_push (.int (60)) 2) := ok_bipush (n := 60) (by decide +kernel) (by decide +kernel)
theorem k_17_3 : OkOp mt Ev 17 3 (o_cv [(9, 47)] 1) := ok_cv (i := 23) (by decide +kernel) vc_76
theorem k_17_6 : OkOp mt Ev 17 6 (o_aload 0 1) := ok_aload_n (k := 0) (by decide +kernel) rfl
theorem k_17_7 : OkOp mt Ev 17 7 (o_aload 1 1) := ok_aload_n (k := 1) (by decide +kernel) rfl
theorem k_17_8 : OkOp mt Ev 17 8 (o_iload 2 1) := ok_iload_n (k := 2) (by decide +kernel) rfl
theorem k_17_9 : OkOp mt Ev 17 9 (o_aload 0 1) := ok_aload_n (k := 0) (by decide +kernel) rfl
theorem k_17_10 : OkOp mt Ev 17 10 (o_getf 1 [1]) := ok_getf (i := 29) (rf := "BridgeSentences$Child") (nm := "number") (ds := "I") (by decide +kernel) fc_10 wd_276
theorem k_17_13 : OkOp mt Ev 17 13 (o_ib (fun x y => x - y)) := ok_isub (by decide +kernel)
theorem k_17_14 : OkOp mt Ev 17 14 (o_cv [(1, 29)] 2) := ok_csu (i := 32) (by decide +kernel) vc_77
theorem k_17_17 : OkOp mt Ev 17 17 (o_ret 0) := ok_reti (ty := .int) (by decide +kernel) rfl (Or.inl ⟨rfl, rfl⟩)
theorem kt_17 : ∀ pc o, cd_X1_tells Ev pc = some o → OkOp mt Ev 17 pc o ∧ Gw o := (tN_ok (tN_ok (tN_ok (tL_ok ⟨k_17_0, gw_aload⟩) (tL_ok ⟨k_17_1, gw_push⟩)) (tN_ok (tL_ok ⟨k_17_3, gw_cv⟩) (tN_ok (tL_ok ⟨k_17_6, gw_aload⟩) (tL_ok ⟨k_17_7, gw_aload⟩)))) (tN_ok (tN_ok (tL_ok ⟨k_17_8, gw_iload⟩) (tN_ok (tL_ok ⟨k_17_9, gw_aload⟩) (tL_ok ⟨k_17_10, gw_getf⟩))) (tN_ok (tL_ok ⟨k_17_13, gw_ib⟩) (tN_ok (tL_ok ⟨k_17_14, gw_cv⟩) (tL_ok ⟨k_17_17, gw_ret⟩)))))
theorem k_18_0 : OkOp mt Ev 18 0 (o_aload 0 1) := ok_aload_n (k := 0) (by decide +kernel) rfl
theorem k_18_1 : OkOp mt Ev 18 1 (o_iload 1 1) := ok_iload_n (k := 1) (by decide +kernel) rfl
theorem k_18_2 : OkOp mt Ev 18 2 (o_iload 2 1) := ok_iload_n (k := 2) (by decide +kernel) rfl
theorem k_18_3 : OkOp mt Ev 18 3 (o_ci 24 2) := ok_ci (i := 1) (by decide +kernel) wd_317 wd_268 wd_63 wd_269 nk_7 rfl rfl
theorem k_18_6 : OkOp mt Ev 18 6 (o_retv) := ok_retv (by decide +kernel) rfl
theorem kt_18 : ∀ pc o, cd_X2_init Ev pc = some o → OkOp mt Ev 18 pc o ∧ Gw o := (tN_ok (tN_ok (tL_ok ⟨k_18_0, gw_aload⟩) (tL_ok ⟨k_18_1, gw_iload⟩)) (tN_ok (tL_ok ⟨k_18_2, gw_iload⟩) (tN_ok (tL_ok ⟨k_18_3, gw_ci⟩) (tL_ok ⟨k_18_6, gw_retv⟩))))
theorem k_19_0 : OkOp mt Ev 19 0 (o_iload 2 1) := ok_iload_n (k := 2) (by decide +kernel) rfl
theorem k_19_1 : OkOp mt Ev 19 1 (o_push (.int (2)) 1) := ok_iconst (n := 2) (by decide +kernel) (by decide +kernel)
theorem k_19_2 : OkOp mt Ev 19 2 (o_ibz (fun x y => x / y)) := ok_idiv (by decide +kernel)
theorem k_19_3 : OkOp mt Ev 19 3 (o_ret 0) := ok_reti (ty := .int) (by decide +kernel) rfl (Or.inl ⟨rfl, rfl⟩)
theorem kt_19 : ∀ pc o, cd_X2_urgeBy Ev pc = some o → OkOp mt Ev 19 pc o ∧ Gw o := (tN_ok (tN_ok (tL_ok ⟨k_19_0, gw_iload⟩) (tL_ok ⟨k_19_1, gw_push⟩)) (tN_ok (tL_ok ⟨k_19_2, gw_ibz⟩) (tL_ok ⟨k_19_3, gw_ret⟩)))
theorem k_20_0 : OkOp mt Ev 20 0 (o_aload 1 1) := ok_aload_n (k := 1) (by decide +kernel) rfl
theorem k_20_1 : OkOp mt Ev 20 1 (o_push (.int (30)) 2) := ok_bipush (n := 30) (by decide +kernel) (by decide +kernel)
theorem k_20_3 : OkOp mt Ev 20 3 (o_cv [(9, 47)] 1) := ok_cv (i := 7) (by decide +kernel) vc_78
theorem k_20_6 : OkOp mt Ev 20 6 (o_aload 0 1) := ok_aload_n (k := 0) (by decide +kernel) rfl
theorem k_20_7 : OkOp mt Ev 20 7 (o_aload 1 1) := ok_aload_n (k := 1) (by decide +kernel) rfl
theorem k_20_8 : OkOp mt Ev 20 8 (o_iload 2 1) := ok_iload_n (k := 2) (by decide +kernel) rfl
theorem k_20_9 : OkOp mt Ev 20 9 (o_push (.int (3)) 1) := ok_iconst (n := 3) (by decide +kernel) (by decide +kernel)
theorem k_20_10 : OkOp mt Ev 20 10 (o_ib (fun x y => x * y)) := ok_imul (by decide +kernel)
theorem k_20_11 : OkOp mt Ev 20 11 (o_cv [(1, 27), (2, 27)] 2) := ok_csu (i := 13) (by decide +kernel) vc_79
theorem k_20_14 : OkOp mt Ev 20 14 (o_ret 0) := ok_reti (ty := .int) (by decide +kernel) rfl (Or.inl ⟨rfl, rfl⟩)
theorem kt_20 : ∀ pc o, cd_X2_mutters Ev pc = some o → OkOp mt Ev 20 pc o ∧ Gw o := (tN_ok (tN_ok (tN_ok (tL_ok ⟨k_20_0, gw_aload⟩) (tL_ok ⟨k_20_1, gw_push⟩)) (tN_ok (tL_ok ⟨k_20_3, gw_cv⟩) (tN_ok (tL_ok ⟨k_20_6, gw_aload⟩) (tL_ok ⟨k_20_7, gw_aload⟩)))) (tN_ok (tN_ok (tL_ok ⟨k_20_8, gw_iload⟩) (tL_ok ⟨k_20_9, gw_push⟩)) (tN_ok (tL_ok ⟨k_20_10, gw_ib⟩) (tN_ok (tL_ok ⟨k_20_11, gw_cv⟩) (tL_ok ⟨k_20_14, gw_ret⟩)))))
theorem k_21_0 : OkOp mt Ev 21 0 (o_aload 0 1) := ok_aload_n (k := 0) (by decide +kernel) rfl
theorem k_21_1 : OkOp mt Ev 21 1 (o_iload 1 1) := ok_iload_n (k := 1) (by decide +kernel) rfl
theorem k_21_2 : OkOp mt Ev 21 2 (o_iload 2 1) := ok_iload_n (k := 2) (by decide +kernel) rfl
theorem k_21_3 : OkOp mt Ev 21 3 (o_ci 24 2) := ok_ci (i := 1) (by decide +kernel) wd_330 wd_268 wd_63 wd_269 nk_7 rfl rfl
theorem k_21_6 : OkOp mt Ev 21 6 (o_retv) := ok_retv (by decide +kernel) rfl
theorem kt_21 : ∀ pc o, cd_X3_init Ev pc = some o → OkOp mt Ev 21 pc o ∧ Gw o := (tN_ok (tN_ok (tL_ok ⟨k_21_0, gw_aload⟩) (tL_ok ⟨k_21_1, gw_iload⟩)) (tN_ok (tL_ok ⟨k_21_2, gw_iload⟩) (tN_ok (tL_ok ⟨k_21_3, gw_ci⟩) (tL_ok ⟨k_21_6, gw_retv⟩))))
theorem k_22_0 : OkOp mt Ev 22 0 (o_iload 2 1) := ok_iload_n (k := 2) (by decide +kernel) rfl
theorem k_22_1 : OkOp mt Ev 22 1 (o_iload 3 1) := ok_iload_n (k := 3) (by decide +kernel) rfl
theorem k_22_2 : OkOp mt Ev 22 2 (o_ib (fun x y => x - y)) := ok_isub (by decide +kernel)
theorem k_22_3 : OkOp mt Ev 22 3 (o_ret 0) := ok_reti (ty := .int) (by decide +kernel) rfl (Or.inl ⟨rfl, rfl⟩)
theorem kt_22 : ∀ pc o, cd_X3_urgeBy Ev pc = some o → OkOp mt Ev 22 pc o ∧ Gw o := (tN_ok (tN_ok (tL_ok ⟨k_22_0, gw_iload⟩) (tL_ok ⟨k_22_1, gw_iload⟩)) (tN_ok (tL_ok ⟨k_22_2, gw_ib⟩) (tL_ok ⟨k_22_3, gw_ret⟩)))
theorem k_23_0 : OkOp mt Ev 23 0 (o_aload 1 1) := ok_aload_n (k := 1) (by decide +kernel) rfl
theorem k_23_1 : OkOp mt Ev 23 1 (o_push (.int (40)) 2) := ok_bipush (n := 40) (by decide +kernel) (by decide +kernel)
theorem k_23_3 : OkOp mt Ev 23 3 (o_cv [(9, 47)] 1) := ok_cv (i := 7) (by decide +kernel) vc_80
theorem k_23_6 : OkOp mt Ev 23 6 (o_aload 0 1) := ok_aload_n (k := 0) (by decide +kernel) rfl
theorem k_23_7 : OkOp mt Ev 23 7 (o_aload 1 1) := ok_aload_n (k := 1) (by decide +kernel) rfl
theorem k_23_8 : OkOp mt Ev 23 8 (o_iload 2 1) := ok_iload_n (k := 2) (by decide +kernel) rfl
theorem k_23_9 : OkOp mt Ev 23 9 (o_cv [(3, 29), (8, 29)] 2) := ok_csu (i := 13) (by decide +kernel) vc_81
theorem k_23_12 : OkOp mt Ev 23 12 (o_aload 0 1) := ok_aload_n (k := 0) (by decide +kernel) rfl
theorem k_23_13 : OkOp mt Ev 23 13 (o_aload 1 1) := ok_aload_n (k := 1) (by decide +kernel) rfl
theorem k_23_14 : OkOp mt Ev 23 14 (o_push (.int (1)) 1) := ok_iconst (n := 1) (by decide +kernel) (by decide +kernel)
theorem k_23_15 : OkOp mt Ev 23 15 (o_cv [(3, 28), (8, 44)] 2) := ok_cv (i := 17) (by decide +kernel) vc_82
theorem k_23_18 : OkOp mt Ev 23 18 (o_ib (fun x y => x + y)) := ok_iadd (by decide +kernel)
theorem k_23_19 : OkOp mt Ev 23 19 (o_ret 0) := ok_reti (ty := .int) (by decide +kernel) rfl (Or.inl ⟨rfl, rfl⟩)
theorem kt_23 : ∀ pc o, cd_X3_tells Ev pc = some o → OkOp mt Ev 23 pc o ∧ Gw o := (tN_ok (tN_ok (tN_ok (tL_ok ⟨k_23_0, gw_aload⟩) (tN_ok (tL_ok ⟨k_23_1, gw_push⟩) (tL_ok ⟨k_23_3, gw_cv⟩))) (tN_ok (tL_ok ⟨k_23_6, gw_aload⟩) (tN_ok (tL_ok ⟨k_23_7, gw_aload⟩) (tL_ok ⟨k_23_8, gw_iload⟩)))) (tN_ok (tN_ok (tL_ok ⟨k_23_9, gw_cv⟩) (tN_ok (tL_ok ⟨k_23_12, gw_aload⟩) (tL_ok ⟨k_23_13, gw_aload⟩))) (tN_ok (tN_ok (tL_ok ⟨k_23_14, gw_push⟩) (tL_ok ⟨k_23_15, gw_cv⟩)) (tN_ok (tL_ok ⟨k_23_18, gw_ib⟩) (tL_ok ⟨k_23_19, gw_ret⟩)))))
theorem k_24_0 : OkOp mt Ev 24 0 (o_aload 0 1) := ok_aload_n (k := 0) (by decide +kernel) rfl
theorem k_24_1 : OkOp mt Ev 24 1 (o_oi) := ok_oi (i := 1) (by decide +kernel) wd_270 wd_83 wd_84
theorem k_24_4 : OkOp mt Ev 24 4 (o_aload 0 1) := ok_aload_n (k := 0) (by decide +kernel) rfl
theorem k_24_5 : OkOp mt Ev 24 5 (o_iload 1 1) := ok_iload_n (k := 1) (by decide +kernel) rfl
theorem k_24_6 : OkOp mt Ev 24 6 (o_putf 0 [1, 2, 3, 4, 5, 6, 8] 0) := ok_putf (i := 7) (rf := "BridgeSentences$One") (nm := "kind") (ds := "I") (ty := .int) (fin := true) (by decide +kernel) fc_11 wd_271 (tc_1_2_3_4_5_6_8) ff_8 (by decide) (by decide +kernel) ov_int
theorem k_24_9 : OkOp mt Ev 24 9 (o_aload 0 1) := ok_aload_n (k := 0) (by decide +kernel) rfl
theorem k_24_10 : OkOp mt Ev 24 10 (o_iload 2 1) := ok_iload_n (k := 2) (by decide +kernel) rfl
theorem k_24_11 : OkOp mt Ev 24 11 (o_putf 1 [1, 2, 3, 4, 5, 6, 8] 0) := ok_putf (i := 13) (rf := "BridgeSentences$One") (nm := "number") (ds := "I") (ty := .int) (fin := true) (by decide +kernel) fc_12 wd_274 (tc_1_2_3_4_5_6_8) ff_9 (by decide) (by decide +kernel) ov_int
theorem k_24_14 : OkOp mt Ev 24 14 (o_retv) := ok_retv (by decide +kernel) rfl
theorem kt_24 : ∀ pc o, cd_X4_init Ev pc = some o → OkOp mt Ev 24 pc o ∧ Gw o := (tN_ok (tN_ok (tN_ok (tL_ok ⟨k_24_0, gw_aload⟩) (tL_ok ⟨k_24_1, gw_oi⟩)) (tN_ok (tL_ok ⟨k_24_4, gw_aload⟩) (tL_ok ⟨k_24_5, gw_iload⟩))) (tN_ok (tN_ok (tL_ok ⟨k_24_6, gw_putf⟩) (tL_ok ⟨k_24_9, gw_aload⟩)) (tN_ok (tL_ok ⟨k_24_10, gw_iload⟩) (tN_ok (tL_ok ⟨k_24_11, gw_putf⟩) (tL_ok ⟨k_24_14, gw_retv⟩)))))
theorem k_25_0 : OkOp mt Ev 25 0 (o_aload 0 1) := ok_aload_n (k := 0) (by decide +kernel) rfl
theorem k_25_1 : OkOp mt Ev 25 1 (o_aload 1 1) := ok_aload_n (k := 1) (by decide +kernel) rfl
theorem k_25_2 : OkOp mt Ev 25 2 (o_getf 2 [1, 2, 3, 4, 5, 6, 8]) := ok_getf (i := 16) (rf := "BridgeSentences$One") (nm := "v") (ds := "I") (by decide +kernel) fc_13 wd_279
theorem k_25_5 : OkOp mt Ev 25 5 (o_putf 2 [1, 2, 3, 4, 5, 6, 8] 0) := ok_putf (i := 16) (rf := "BridgeSentences$One") (nm := "v") (ds := "I") (ty := .int) (fin := false) (by decide +kernel) fc_13 wd_279 (tc_1_2_3_4_5_6_8) ff_10 (by decide) (by decide +kernel) ov_int
theorem k_25_8 : OkOp mt Ev 25 8 (o_aload 0 1) := ok_aload_n (k := 0) (by decide +kernel) rfl
theorem k_25_9 : OkOp mt Ev 25 9 (o_aload 1 1) := ok_aload_n (k := 1) (by decide +kernel) rfl
theorem k_25_10 : OkOp mt Ev 25 10 (o_getf 3 [1, 2, 3, 4, 5, 6, 8]) := ok_getf (i := 19) (rf := "BridgeSentences$One") (nm := "has") (ds := "I") (by decide +kernel) fc_14 wd_286
theorem k_25_13 : OkOp mt Ev 25 13 (o_putf 3 [1, 2, 3, 4, 5, 6, 8] 0) := ok_putf (i := 19) (rf := "BridgeSentences$One") (nm := "has") (ds := "I") (ty := .int) (fin := false) (by decide +kernel) fc_14 wd_286 (tc_1_2_3_4_5_6_8) ff_11 (by decide) (by decide +kernel) ov_int
theorem k_25_16 : OkOp mt Ev 25 16 (o_aload 0 1) := ok_aload_n (k := 0) (by decide +kernel) rfl
theorem k_25_17 : OkOp mt Ev 25 17 (o_aload 1 1) := ok_aload_n (k := 1) (by decide +kernel) rfl
theorem k_25_18 : OkOp mt Ev 25 18 (o_getf 4 [1, 2, 3, 4, 5, 6, 8]) := ok_getf (i := 22) (rf := "BridgeSentences$One") (nm := "isBeyond") (ds := "Z") (by decide +kernel) fc_15 wd_291
theorem k_25_21 : OkOp mt Ev 25 21 (o_putf 4 [1, 2, 3, 4, 5, 6, 8] 1) := ok_putf (i := 22) (rf := "BridgeSentences$One") (nm := "isBeyond") (ds := "Z") (ty := .boolean) (fin := false) (by decide +kernel) fc_15 wd_291 (tc_1_2_3_4_5_6_8) ff_12 (by decide) (by decide +kernel) ov_bool
theorem k_25_24 : OkOp mt Ev 25 24 (o_aload 0 1) := ok_aload_n (k := 0) (by decide +kernel) rfl
theorem k_25_25 : OkOp mt Ev 25 25 (o_aload 1 1) := ok_aload_n (k := 1) (by decide +kernel) rfl
theorem k_25_26 : OkOp mt Ev 25 26 (o_getf 5 [1, 2, 3, 4, 5, 6, 8]) := ok_getf (i := 26) (rf := "BridgeSentences$One") (nm := "back") (ds := "I") (by decide +kernel) fc_16 wd_296
theorem k_25_29 : OkOp mt Ev 25 29 (o_putf 5 [1, 2, 3, 4, 5, 6, 8] 0) := ok_putf (i := 26) (rf := "BridgeSentences$One") (nm := "back") (ds := "I") (ty := .int) (fin := false) (by decide +kernel) fc_16 wd_296 (tc_1_2_3_4_5_6_8) ff_13 (by decide) (by decide +kernel) ov_int
theorem k_25_32 : OkOp mt Ev 25 32 (o_retv) := ok_retv (by decide +kernel) rfl
theorem kt_25 : ∀ pc o, cd_X4_becomeLike Ev pc = some o → OkOp mt Ev 25 pc o ∧ Gw o := (tN_ok (tN_ok (tN_ok (tN_ok (tL_ok ⟨k_25_0, gw_aload⟩) (tL_ok ⟨k_25_1, gw_aload⟩)) (tN_ok (tL_ok ⟨k_25_2, gw_getf⟩) (tL_ok ⟨k_25_5, gw_putf⟩))) (tN_ok (tN_ok (tL_ok ⟨k_25_8, gw_aload⟩) (tL_ok ⟨k_25_9, gw_aload⟩)) (tN_ok (tL_ok ⟨k_25_10, gw_getf⟩) (tL_ok ⟨k_25_13, gw_putf⟩)))) (tN_ok (tN_ok (tN_ok (tL_ok ⟨k_25_16, gw_aload⟩) (tL_ok ⟨k_25_17, gw_aload⟩)) (tN_ok (tL_ok ⟨k_25_18, gw_getf⟩) (tL_ok ⟨k_25_21, gw_putf⟩))) (tN_ok (tN_ok (tL_ok ⟨k_25_24, gw_aload⟩) (tL_ok ⟨k_25_25, gw_aload⟩)) (tN_ok (tL_ok ⟨k_25_26, gw_getf⟩) (tN_ok (tL_ok ⟨k_25_29, gw_putf⟩) (tL_ok ⟨k_25_32, gw_retv⟩))))))
theorem k_26_0 : OkOp mt Ev 26 0 (o_iload 2 1) := ok_iload_n (k := 2) (by decide +kernel) rfl
theorem k_26_1 : OkOp mt Ev 26 1 (o_ret 0) := ok_reti (ty := .int) (by decide +kernel) rfl (Or.inl ⟨rfl, rfl⟩)
theorem kt_26 : ∀ pc o, cd_X4_urgeBy Ev pc = some o → OkOp mt Ev 26 pc o ∧ Gw o := (tN_ok (tL_ok ⟨k_26_0, gw_iload⟩) (tL_ok ⟨k_26_1, gw_ret⟩))
theorem k_27_0 : OkOp mt Ev 27 0 (o_aload 1 1) := ok_aload_n (k := 1) (by decide +kernel) rfl
theorem k_27_1 : OkOp mt Ev 27 1 (o_push (.int (10)) 2) := ok_bipush (n := 10) (by decide +kernel) (by decide +kernel)
theorem k_27_3 : OkOp mt Ev 27 3 (o_cv [(9, 47)] 1) := ok_cv (i := 29) (by decide +kernel) vc_83
theorem k_27_6 : OkOp mt Ev 27 6 (o_iload 2 1) := ok_iload_n (k := 2) (by decide +kernel) rfl
theorem k_27_7 : OkOp mt Ev 27 7 (o_aload 0 1) := ok_aload_n (k := 0) (by decide +kernel) rfl
theorem k_27_8 : OkOp mt Ev 27 8 (o_getf 1 [1, 2, 3, 4, 5, 6, 8]) := ok_getf (i := 13) (rf := "BridgeSentences$One") (nm := "number") (ds := "I") (by decide +kernel) fc_12 wd_274
theorem k_27_11 : OkOp mt Ev 27 11 (o_ib (fun x y => x + y)) := ok_iadd (by decide +kernel)
theorem k_27_12 : OkOp mt Ev 27 12 (o_ret 0) := ok_reti (ty := .int) (by decide +kernel) rfl (Or.inl ⟨rfl, rfl⟩)
theorem kt_27 : ∀ pc o, cd_X4_mutters Ev pc = some o → OkOp mt Ev 27 pc o ∧ Gw o := (tN_ok (tN_ok (tN_ok (tL_ok ⟨k_27_0, gw_aload⟩) (tL_ok ⟨k_27_1, gw_push⟩)) (tN_ok (tL_ok ⟨k_27_3, gw_cv⟩) (tL_ok ⟨k_27_6, gw_iload⟩))) (tN_ok (tN_ok (tL_ok ⟨k_27_7, gw_aload⟩) (tL_ok ⟨k_27_8, gw_getf⟩)) (tN_ok (tL_ok ⟨k_27_11, gw_ib⟩) (tL_ok ⟨k_27_12, gw_ret⟩))))
theorem k_28_0 : OkOp mt Ev 28 0 (o_aload 1 1) := ok_aload_n (k := 1) (by decide +kernel) rfl
theorem k_28_1 : OkOp mt Ev 28 1 (o_push (.int (11)) 2) := ok_bipush (n := 11) (by decide +kernel) (by decide +kernel)
theorem k_28_3 : OkOp mt Ev 28 3 (o_cv [(9, 47)] 1) := ok_cv (i := 29) (by decide +kernel) vc_83
theorem k_28_6 : OkOp mt Ev 28 6 (o_aload 0 1) := ok_aload_n (k := 0) (by decide +kernel) rfl
theorem k_28_7 : OkOp mt Ev 28 7 (o_aload 1 1) := ok_aload_n (k := 1) (by decide +kernel) rfl
theorem k_28_8 : OkOp mt Ev 28 8 (o_iload 2 1) := ok_iload_n (k := 2) (by decide +kernel) rfl
theorem k_28_9 : OkOp mt Ev 28 9 (o_cv [(1, 20), (2, 20), (3, 27), (4, 27), (5, 32), (6, 27), (8, 45)] 2) := ok_cv (i := 35) (by decide +kernel) vc_84
theorem k_28_12 : OkOp mt Ev 28 12 (o_aload 0 1) := ok_aload_n (k := 0) (by decide +kernel) rfl
theorem k_28_13 : OkOp mt Ev 28 13 (o_getf 2 [1, 2, 3, 4, 5, 6, 8]) := ok_getf (i := 16) (rf := "BridgeSentences$One") (nm := "v") (ds := "I") (by decide +kernel) fc_13 wd_279
theorem k_28_16 : OkOp mt Ev 28 16 (o_ib (fun x y => x - y)) := ok_isub (by decide +kernel)
theorem k_28_17 : OkOp mt Ev 28 17 (o_ret 0) := ok_reti (ty := .int) (by decide +kernel) rfl (Or.inl ⟨rfl, rfl⟩)
theorem kt_28 : ∀ pc o, cd_X4_says Ev pc = some o → OkOp mt Ev 28 pc o ∧ Gw o := (tN_ok (tN_ok (tN_ok (tL_ok ⟨k_28_0, gw_aload⟩) (tL_ok ⟨k_28_1, gw_push⟩)) (tN_ok (tL_ok ⟨k_28_3, gw_cv⟩) (tN_ok (tL_ok ⟨k_28_6, gw_aload⟩) (tL_ok ⟨k_28_7, gw_aload⟩)))) (tN_ok (tN_ok (tL_ok ⟨k_28_8, gw_iload⟩) (tN_ok (tL_ok ⟨k_28_9, gw_cv⟩) (tL_ok ⟨k_28_12, gw_aload⟩))) (tN_ok (tL_ok ⟨k_28_13, gw_getf⟩) (tN_ok (tL_ok ⟨k_28_16, gw_ib⟩) (tL_ok ⟨k_28_17, gw_ret⟩)))))
theorem k_29_0 : OkOp mt Ev 29 0 (o_aload 1 1) := ok_aload_n (k := 1) (by decide +kernel) rfl
theorem k_29_1 : OkOp mt Ev 29 1 (o_push (.int (12)) 2) := ok_bipush (n := 12) (by decide +kernel) (by decide +kernel)
theorem k_29_3 : OkOp mt Ev 29 3 (o_cv [(9, 47)] 1) := ok_cv (i := 29) (by decide +kernel) vc_83
theorem k_29_6 : OkOp mt Ev 29 6 (o_aload 0 1) := ok_aload_n (k := 0) (by decide +kernel) rfl
theorem k_29_7 : OkOp mt Ev 29 7 (o_aload 1 1) := ok_aload_n (k := 1) (by decide +kernel) rfl
theorem k_29_8 : OkOp mt Ev 29 8 (o_iload 2 1) := ok_iload_n (k := 2) (by decide +kernel) rfl
theorem k_29_9 : OkOp mt Ev 29 9 (o_cv [(1, 28), (2, 28), (3, 28), (4, 28), (5, 33), (6, 36), (8, 44)] 2) := ok_cv (i := 39) (by decide +kernel) vc_85
theorem k_29_12 : OkOp mt Ev 29 12 (o_push (.int (2)) 1) := ok_iconst (n := 2) (by decide +kernel) (by decide +kernel)
theorem k_29_13 : OkOp mt Ev 29 13 (o_ib (fun x y => x * y)) := ok_imul (by decide +kernel)
theorem k_29_14 : OkOp mt Ev 29 14 (o_ret 0) := ok_reti (ty := .int) (by decide +kernel) rfl (Or.inl ⟨rfl, rfl⟩)
theorem kt_29 : ∀ pc o, cd_X4_tells Ev pc = some o → OkOp mt Ev 29 pc o ∧ Gw o := (tN_ok (tN_ok (tN_ok (tL_ok ⟨k_29_0, gw_aload⟩) (tL_ok ⟨k_29_1, gw_push⟩)) (tN_ok (tL_ok ⟨k_29_3, gw_cv⟩) (tN_ok (tL_ok ⟨k_29_6, gw_aload⟩) (tL_ok ⟨k_29_7, gw_aload⟩)))) (tN_ok (tN_ok (tL_ok ⟨k_29_8, gw_iload⟩) (tL_ok ⟨k_29_9, gw_cv⟩)) (tN_ok (tL_ok ⟨k_29_12, gw_push⟩) (tN_ok (tL_ok ⟨k_29_13, gw_ib⟩) (tL_ok ⟨k_29_14, gw_ret⟩)))))
theorem k_30_0 : OkOp mt Ev 30 0 (o_aload 0 1) := ok_aload_n (k := 0) (by decide +kernel) rfl
theorem k_30_1 : OkOp mt Ev 30 1 (o_iload 1 1) := ok_iload_n (k := 1) (by decide +kernel) rfl
theorem k_30_2 : OkOp mt Ev 30 2 (o_iload 2 1) := ok_iload_n (k := 2) (by decide +kernel) rfl
theorem k_30_3 : OkOp mt Ev 30 3 (o_ci 34 2) := ok_ci (i := 1) (by decide +kernel) wd_343 wd_265 wd_64 wd_266 nk_8 rfl rfl
theorem k_30_6 : OkOp mt Ev 30 6 (o_retv) := ok_retv (by decide +kernel) rfl
theorem kt_30 : ∀ pc o, cd_X5_init Ev pc = some o → OkOp mt Ev 30 pc o ∧ Gw o := (tN_ok (tN_ok (tL_ok ⟨k_30_0, gw_aload⟩) (tL_ok ⟨k_30_1, gw_iload⟩)) (tN_ok (tL_ok ⟨k_30_2, gw_iload⟩) (tN_ok (tL_ok ⟨k_30_3, gw_ci⟩) (tL_ok ⟨k_30_6, gw_retv⟩))))
theorem k_31_0 : OkOp mt Ev 31 0 (o_aload 0 1) := ok_aload_n (k := 0) (by decide +kernel) rfl
theorem k_31_1 : OkOp mt Ev 31 1 (o_iload 1 1) := ok_iload_n (k := 1) (by decide +kernel) rfl
theorem k_31_2 : OkOp mt Ev 31 2 (o_iload 2 1) := ok_iload_n (k := 2) (by decide +kernel) rfl
theorem k_31_3 : OkOp mt Ev 31 3 (o_iload 3 1) := ok_iload_n (k := 3) (by decide +kernel) rfl
theorem k_31_4 : OkOp mt Ev 31 4 (o_cv [(5, 35)] 3) := ok_csu (i := 7) (by decide +kernel) vc_86
theorem k_31_7 : OkOp mt Ev 31 7 (o_istore 4 2) := ok_istore (by decide +kernel)
theorem k_31_9 : OkOp mt Ev 31 9 (o_iload 1 1) := ok_iload_n (k := 1) (by decide +kernel) rfl
theorem k_31_10 : OkOp mt Ev 31 10 (o_push (.int (2)) 1) := ok_iconst (n := 2) (by decide +kernel) (by decide +kernel)
theorem k_31_11 : OkOp mt Ev 31 11 (o_ibz (fun x y => x - x / y * y)) := ok_irem (by decide +kernel)
theorem k_31_12 : OkOp mt Ev 31 12 (o_if1 (fun x => decide (¬ x = 0)) 22) := ok_if_ne (off := 10) (by decide +kernel) (by decide +kernel)
theorem k_31_15 : OkOp mt Ev 31 15 (o_iload 4 2) := ok_iload (by decide +kernel)
theorem k_31_17 : OkOp mt Ev 31 17 (o_push (.int (2)) 1) := ok_iconst (n := 2) (by decide +kernel) (by decide +kernel)
theorem k_31_18 : OkOp mt Ev 31 18 (o_ib (fun x y => x * y)) := ok_imul (by decide +kernel)
theorem k_31_19 : OkOp mt Ev 31 19 (o_goto 24) := ok_goto (off := 5) (by decide +kernel) (by decide +kernel)
theorem k_31_22 : OkOp mt Ev 31 22 (o_iload 4 2) := ok_iload (by decide +kernel)
theorem k_31_24 : OkOp mt Ev 31 24 (o_ret 0) := ok_reti (ty := .int) (by decide +kernel) rfl (Or.inl ⟨rfl, rfl⟩)
theorem kt_31 : ∀ pc o, cd_X5_urgeBy Ev pc = some o → OkOp mt Ev 31 pc o ∧ Gw o := (tN_ok (tN_ok (tN_ok (tN_ok (tL_ok ⟨k_31_0, gw_aload⟩) (tL_ok ⟨k_31_1, gw_iload⟩)) (tN_ok (tL_ok ⟨k_31_2, gw_iload⟩) (tL_ok ⟨k_31_3, gw_iload⟩))) (tN_ok (tN_ok (tL_ok ⟨k_31_4, gw_cv⟩) (tL_ok ⟨k_31_7, gw_istore⟩)) (tN_ok (tL_ok ⟨k_31_9, gw_iload⟩) (tL_ok ⟨k_31_10, gw_push⟩)))) (tN_ok (tN_ok (tN_ok (tL_ok ⟨k_31_11, gw_ibz⟩) (tL_ok ⟨k_31_12, gw_if1⟩)) (tN_ok (tL_ok ⟨k_31_15, gw_iload⟩) (tL_ok ⟨k_31_17, gw_push⟩))) (tN_ok (tN_ok (tL_ok ⟨k_31_18, gw_ib⟩) (tL_ok ⟨k_31_19, gw_goto⟩)) (tN_ok (tL_ok ⟨k_31_22, gw_iload⟩) (tL_ok ⟨k_31_24, gw_ret⟩)))))
theorem k_32_0 : OkOp mt Ev 32 0 (o_aload 1 1) := ok_aload_n (k := 1) (by decide +kernel) rfl
theorem k_32_1 : OkOp mt Ev 32 1 (o_push (.int (50)) 2) := ok_bipush (n := 50) (by decide +kernel) (by decide +kernel)
theorem k_32_3 : OkOp mt Ev 32 3 (o_cv [(9, 47)] 1) := ok_cv (i := 11) (by decide +kernel) vc_87
theorem k_32_6 : OkOp mt Ev 32 6 (o_aload 0 1) := ok_aload_n (k := 0) (by decide +kernel) rfl
theorem k_32_7 : OkOp mt Ev 32 7 (o_aload 1 1) := ok_aload_n (k := 1) (by decide +kernel) rfl
theorem k_32_8 : OkOp mt Ev 32 8 (o_iload 2 1) := ok_iload_n (k := 2) (by decide +kernel) rfl
theorem k_32_9 : OkOp mt Ev 32 9 (o_cv [(5, 27)] 2) := ok_csu (i := 17) (by decide +kernel) vc_88
theorem k_32_12 : OkOp mt Ev 32 12 (o_iu (fun x => -x)) := ok_ineg (by decide +kernel)
theorem k_32_13 : OkOp mt Ev 32 13 (o_ret 0) := ok_reti (ty := .int) (by decide +kernel) rfl (Or.inl ⟨rfl, rfl⟩)
theorem kt_32 : ∀ pc o, cd_X5_mutters Ev pc = some o → OkOp mt Ev 32 pc o ∧ Gw o := (tN_ok (tN_ok (tN_ok (tL_ok ⟨k_32_0, gw_aload⟩) (tL_ok ⟨k_32_1, gw_push⟩)) (tN_ok (tL_ok ⟨k_32_3, gw_cv⟩) (tL_ok ⟨k_32_6, gw_aload⟩))) (tN_ok (tN_ok (tL_ok ⟨k_32_7, gw_aload⟩) (tL_ok ⟨k_32_8, gw_iload⟩)) (tN_ok (tL_ok ⟨k_32_9, gw_cv⟩) (tN_ok (tL_ok ⟨k_32_12, gw_iu⟩) (tL_ok ⟨k_32_13, gw_ret⟩)))))
theorem k_33_0 : OkOp mt Ev 33 0 (o_aload 1 1) := ok_aload_n (k := 1) (by decide +kernel) rfl
theorem k_33_1 : OkOp mt Ev 33 1 (o_push (.int (51)) 2) := ok_bipush (n := 51) (by decide +kernel) (by decide +kernel)
theorem k_33_3 : OkOp mt Ev 33 3 (o_cv [(9, 47)] 1) := ok_cv (i := 11) (by decide +kernel) vc_87
theorem k_33_6 : OkOp mt Ev 33 6 (o_aload 0 1) := ok_aload_n (k := 0) (by decide +kernel) rfl
theorem k_33_7 : OkOp mt Ev 33 7 (o_aload 1 1) := ok_aload_n (k := 1) (by decide +kernel) rfl
theorem k_33_8 : OkOp mt Ev 33 8 (o_iload 2 1) := ok_iload_n (k := 2) (by decide +kernel) rfl
theorem k_33_9 : OkOp mt Ev 33 9 (o_push (.int (1)) 1) := ok_iconst (n := 1) (by decide +kernel) (by decide +kernel)
theorem k_33_10 : OkOp mt Ev 33 10 (o_ib (fun x y => x + y)) := ok_iadd (by decide +kernel)
theorem k_33_11 : OkOp mt Ev 33 11 (o_cv [(5, 36)] 2) := ok_csu (i := 21) (by decide +kernel) vc_89
theorem k_33_14 : OkOp mt Ev 33 14 (o_ret 0) := ok_reti (ty := .int) (by decide +kernel) rfl (Or.inl ⟨rfl, rfl⟩)
theorem kt_33 : ∀ pc o, cd_X5_says Ev pc = some o → OkOp mt Ev 33 pc o ∧ Gw o := (tN_ok (tN_ok (tN_ok (tL_ok ⟨k_33_0, gw_aload⟩) (tL_ok ⟨k_33_1, gw_push⟩)) (tN_ok (tL_ok ⟨k_33_3, gw_cv⟩) (tN_ok (tL_ok ⟨k_33_6, gw_aload⟩) (tL_ok ⟨k_33_7, gw_aload⟩)))) (tN_ok (tN_ok (tL_ok ⟨k_33_8, gw_iload⟩) (tL_ok ⟨k_33_9, gw_push⟩)) (tN_ok (tL_ok ⟨k_33_10, gw_ib⟩) (tN_ok (tL_ok ⟨k_33_11, gw_cv⟩) (tL_ok ⟨k_33_14, gw_ret⟩)))))
theorem k_34_0 : OkOp mt Ev 34 0 (o_aload 0 1) := ok_aload_n (k := 0) (by decide +kernel) rfl
theorem k_34_1 : OkOp mt Ev 34 1 (o_iload 1 1) := ok_iload_n (k := 1) (by decide +kernel) rfl
theorem k_34_2 : OkOp mt Ev 34 2 (o_iload 2 1) := ok_iload_n (k := 2) (by decide +kernel) rfl
theorem k_34_3 : OkOp mt Ev 34 3 (o_ci 24 2) := ok_ci (i := 1) (by decide +kernel) wd_267 wd_268 wd_63 wd_269 nk_7 rfl rfl
theorem k_34_6 : OkOp mt Ev 34 6 (o_retv) := ok_retv (by decide +kernel) rfl
theorem kt_34 : ∀ pc o, cd_X6_init Ev pc = some o → OkOp mt Ev 34 pc o ∧ Gw o := (tN_ok (tN_ok (tL_ok ⟨k_34_0, gw_aload⟩) (tL_ok ⟨k_34_1, gw_iload⟩)) (tN_ok (tL_ok ⟨k_34_2, gw_iload⟩) (tN_ok (tL_ok ⟨k_34_3, gw_ci⟩) (tL_ok ⟨k_34_6, gw_retv⟩))))
theorem k_35_0 : OkOp mt Ev 35 0 (o_aload 0 1) := ok_aload_n (k := 0) (by decide +kernel) rfl
theorem k_35_1 : OkOp mt Ev 35 1 (o_getf 4 [5, 6]) := ok_getf (i := 7) (rf := "BridgeSentences$Poet") (nm := "isBeyond") (ds := "Z") (by decide +kernel) fc_17 wd_289
theorem k_35_4 : OkOp mt Ev 35 4 (o_if1 (fun x => decide (x = 0)) 16) := ok_if_eq (off := 12) (by decide +kernel) (by decide +kernel)
theorem k_35_7 : OkOp mt Ev 35 7 (o_iload 2 1) := ok_iload_n (k := 2) (by decide +kernel) rfl
theorem k_35_8 : OkOp mt Ev 35 8 (o_aload 0 1) := ok_aload_n (k := 0) (by decide +kernel) rfl
theorem k_35_9 : OkOp mt Ev 35 9 (o_getf 2 [5, 6]) := ok_getf (i := 13) (rf := "BridgeSentences$Poet") (nm := "v") (ds := "I") (by decide +kernel) fc_18 wd_280
theorem k_35_12 : OkOp mt Ev 35 12 (o_ib (fun x y => x + y)) := ok_iadd (by decide +kernel)
theorem k_35_13 : OkOp mt Ev 35 13 (o_goto 17) := ok_goto (off := 4) (by decide +kernel) (by decide +kernel)
theorem k_35_16 : OkOp mt Ev 35 16 (o_iload 2 1) := ok_iload_n (k := 2) (by decide +kernel) rfl
theorem k_35_17 : OkOp mt Ev 35 17 (o_ret 0) := ok_reti (ty := .int) (by decide +kernel) rfl (Or.inl ⟨rfl, rfl⟩)
theorem kt_35 : ∀ pc o, cd_X6_urgeBy Ev pc = some o → OkOp mt Ev 35 pc o ∧ Gw o := (tN_ok (tN_ok (tN_ok (tL_ok ⟨k_35_0, gw_aload⟩) (tL_ok ⟨k_35_1, gw_getf⟩)) (tN_ok (tL_ok ⟨k_35_4, gw_if1⟩) (tN_ok (tL_ok ⟨k_35_7, gw_iload⟩) (tL_ok ⟨k_35_8, gw_aload⟩)))) (tN_ok (tN_ok (tL_ok ⟨k_35_9, gw_getf⟩) (tL_ok ⟨k_35_12, gw_ib⟩)) (tN_ok (tL_ok ⟨k_35_13, gw_goto⟩) (tN_ok (tL_ok ⟨k_35_16, gw_iload⟩) (tL_ok ⟨k_35_17, gw_ret⟩)))))
theorem k_36_0 : OkOp mt Ev 36 0 (o_aload 1 1) := ok_aload_n (k := 1) (by decide +kernel) rfl
theorem k_36_1 : OkOp mt Ev 36 1 (o_push (.int (20)) 2) := ok_bipush (n := 20) (by decide +kernel) (by decide +kernel)
theorem k_36_3 : OkOp mt Ev 36 3 (o_cv [(9, 47)] 1) := ok_cv (i := 17) (by decide +kernel) vc_90
theorem k_36_6 : OkOp mt Ev 36 6 (o_aload 0 1) := ok_aload_n (k := 0) (by decide +kernel) rfl
theorem k_36_7 : OkOp mt Ev 36 7 (o_aload 1 1) := ok_aload_n (k := 1) (by decide +kernel) rfl
theorem k_36_8 : OkOp mt Ev 36 8 (o_iload 2 1) := ok_iload_n (k := 2) (by decide +kernel) rfl
theorem k_36_9 : OkOp mt Ev 36 9 (o_cv [(5, 28), (6, 28)] 2) := ok_csu (i := 23) (by decide +kernel) vc_91
theorem k_36_12 : OkOp mt Ev 36 12 (o_push (.int (6)) 2) := ok_bipush (n := 6) (by decide +kernel) (by decide +kernel)
theorem k_36_14 : OkOp mt Ev 36 14 (o_ib (fun x y => x ^^^ y)) := ok_ixor (by decide +kernel)
theorem k_36_15 : OkOp mt Ev 36 15 (o_ret 0) := ok_reti (ty := .int) (by decide +kernel) rfl (Or.inl ⟨rfl, rfl⟩)
theorem kt_36 : ∀ pc o, cd_X6_says Ev pc = some o → OkOp mt Ev 36 pc o ∧ Gw o := (tN_ok (tN_ok (tN_ok (tL_ok ⟨k_36_0, gw_aload⟩) (tL_ok ⟨k_36_1, gw_push⟩)) (tN_ok (tL_ok ⟨k_36_3, gw_cv⟩) (tN_ok (tL_ok ⟨k_36_6, gw_aload⟩) (tL_ok ⟨k_36_7, gw_aload⟩)))) (tN_ok (tN_ok (tL_ok ⟨k_36_8, gw_iload⟩) (tL_ok ⟨k_36_9, gw_cv⟩)) (tN_ok (tL_ok ⟨k_36_12, gw_push⟩) (tN_ok (tL_ok ⟨k_36_14, gw_ib⟩) (tL_ok ⟨k_36_15, gw_ret⟩)))))
theorem k_37_0 : OkOp mt Ev 37 0 (o_aload 0 1) := ok_aload_n (k := 0) (by decide +kernel) rfl
theorem k_37_1 : OkOp mt Ev 37 1 (o_oi) := ok_oi (i := 3) (by decide +kernel) wd_98 wd_83 wd_84
theorem k_37_4 : OkOp mt Ev 37 4 (o_iload 1 1) := ok_iload_n (k := 1) (by decide +kernel) rfl
theorem k_37_5 : OkOp mt Ev 37 5 (o_push (.int (0)) 1) := ok_iconst (n := 0) (by decide +kernel) (by decide +kernel)
theorem k_37_6 : OkOp mt Ev 37 6 (o_cs 196 2) := ok_cs (i := 9) (by decide +kernel) wd_99 wd_100 wd_59 wd_101 nk_9
theorem k_37_9 : OkOp mt Ev 37 9 (o_istore 2 1) := ok_istore_n (k := 2) (by decide +kernel) rfl
theorem k_37_10 : OkOp mt Ev 37 10 (o_aload 0 1) := ok_aload_n (k := 0) (by decide +kernel) rfl
theorem k_37_11 : OkOp mt Ev 37 11 (o_iload 2 1) := ok_iload_n (k := 2) (by decide +kernel) rfl
theorem k_37_12 : OkOp mt Ev 37 12 (o_newa 2 (.inl (fun _ => 0)) 2) := ok_newa (at_ := .int) (by decide +kernel) (by decide) rfl (fun _ _ => rfl) (by decide) wd_118
theorem k_37_14 : OkOp mt Ev 37 14 (o_putf 0 [7] 2) := ok_putf (i := 15) (rf := "BridgeSentences$Rows") (nm := "first") (ds := "[I") (ty := (.array .int)) (fin := true) (by decide +kernel) fc_19 wd_102 (tc_7) ff_14 (by decide) (by decide +kernel) (ov_arr .int)
theorem k_37_17 : OkOp mt Ev 37 17 (o_aload 0 1) := ok_aload_n (k := 0) (by decide +kernel) rfl
theorem k_37_18 : OkOp mt Ev 37 18 (o_iload 2 1) := ok_iload_n (k := 2) (by decide +kernel) rfl
theorem k_37_19 : OkOp mt Ev 37 19 (o_newa 2 (.inl (fun _ => 0)) 2) := ok_newa (at_ := .int) (by decide +kernel) (by decide) rfl (fun _ _ => rfl) (by decide) wd_118
theorem k_37_21 : OkOp mt Ev 37 21 (o_putf 1 [7] 2) := ok_putf (i := 21) (rf := "BridgeSentences$Rows") (nm := "second") (ds := "[I") (ty := (.array .int)) (fin := true) (by decide +kernel) fc_20 wd_105 (tc_7) ff_15 (by decide) (by decide +kernel) (ov_arr .int)
theorem k_37_24 : OkOp mt Ev 37 24 (o_retv) := ok_retv (by decide +kernel) rfl
theorem kt_37 : ∀ pc o, cd_X7_init Ev pc = some o → OkOp mt Ev 37 pc o ∧ Gw o := (tN_ok (tN_ok (tN_ok (tL_ok ⟨k_37_0, gw_aload⟩) (tN_ok (tL_ok ⟨k_37_1, gw_oi⟩) (tL_ok ⟨k_37_4, gw_iload⟩))) (tN_ok (tN_ok (tL_ok ⟨k_37_5, gw_push⟩) (tL_ok ⟨k_37_6, gw_cs⟩)) (tN_ok (tL_ok ⟨k_37_9, gw_istore⟩) (tL_ok ⟨k_37_10, gw_aload⟩)))) (tN_ok (tN_ok (tN_ok (tL_ok ⟨k_37_11, gw_iload⟩) (tL_ok ⟨k_37_12, gw_newa⟩)) (tN_ok (tL_ok ⟨k_37_14, gw_putf⟩) (tL_ok ⟨k_37_17, gw_aload⟩))) (tN_ok (tN_ok (tL_ok ⟨k_37_18, gw_iload⟩) (tL_ok ⟨k_37_19, gw_newa⟩)) (tN_ok (tL_ok ⟨k_37_21, gw_putf⟩) (tL_ok ⟨k_37_24, gw_retv⟩)))))
theorem k_38_0 : OkOp mt Ev 38 0 (o_aload 0 1) := ok_aload_n (k := 0) (by decide +kernel) rfl
theorem k_38_1 : OkOp mt Ev 38 1 (o_push (.int (0)) 1) := ok_iconst (n := 0) (by decide +kernel) (by decide +kernel)
theorem k_38_2 : OkOp mt Ev 38 2 (o_putf 2 [7] 0) := ok_putf (i := 24) (rf := "BridgeSentences$Rows") (nm := "size") (ds := "I") (ty := .int) (fin := false) (by decide +kernel) fc_21 wd_108 (tc_7) ff_16 (by decide) (by decide +kernel) ov_int
theorem k_38_5 : OkOp mt Ev 38 5 (o_push (.int (0)) 1) := ok_iconst (n := 0) (by decide +kernel) (by decide +kernel)
theorem k_38_6 : OkOp mt Ev 38 6 (o_ret 0) := ok_reti (ty := .int) (by decide +kernel) rfl (Or.inl ⟨rfl, rfl⟩)
theorem kt_38 : ∀ pc o, cd_X7_cleared Ev pc = some o → OkOp mt Ev 38 pc o ∧ Gw o := (tN_ok (tN_ok (tL_ok ⟨k_38_0, gw_aload⟩) (tL_ok ⟨k_38_1, gw_push⟩)) (tN_ok (tL_ok ⟨k_38_2, gw_putf⟩) (tN_ok (tL_ok ⟨k_38_5, gw_push⟩) (tL_ok ⟨k_38_6, gw_ret⟩))))
theorem k_39_0 : OkOp mt Ev 39 0 (o_aload 0 1) := ok_aload_n (k := 0) (by decide +kernel) rfl
theorem k_39_1 : OkOp mt Ev 39 1 (o_getf 2 [7]) := ok_getf (i := 24) (rf := "BridgeSentences$Rows") (nm := "size") (ds := "I") (by decide +kernel) fc_21 wd_108
theorem k_39_4 : OkOp mt Ev 39 4 (o_aload 0 1) := ok_aload_n (k := 0) (by decide +kernel) rfl
theorem k_39_5 : OkOp mt Ev 39 5 (o_getf 0 [7]) := ok_getf (i := 15) (rf := "BridgeSentences$Rows") (nm := "first") (ds := "[I") (by decide +kernel) fc_19 wd_102
theorem k_39_8 : OkOp mt Ev 39 8 (o_alen) := ok_alen (by decide +kernel)
theorem k_39_9 : OkOp mt Ev 39 9 (o_if2 (fun x y => decide (x < y)) 15) := ok_icmp_lt (off := 6) (by decide +kernel) (by decide +kernel)
theorem k_39_12 : OkOp mt Ev 39 12 (o_push (.int (-4)) 2) := ok_bipush (n := -4) (by decide +kernel) (by decide +kernel)
theorem k_39_14 : OkOp mt Ev 39 14 (o_ret 0) := ok_reti (ty := .int) (by decide +kernel) rfl (Or.inl ⟨rfl, rfl⟩)
theorem k_39_15 : OkOp mt Ev 39 15 (o_aload 0 1) := ok_aload_n (k := 0) (by decide +kernel) rfl
theorem k_39_16 : OkOp mt Ev 39 16 (o_getf 0 [7]) := ok_getf (i := 15) (rf := "BridgeSentences$Rows") (nm := "first") (ds := "[I") (by decide +kernel) fc_19 wd_102
theorem k_39_19 : OkOp mt Ev 39 19 (o_aload 0 1) := ok_aload_n (k := 0) (by decide +kernel) rfl
theorem k_39_20 : OkOp mt Ev 39 20 (o_getf 2 [7]) := ok_getf (i := 24) (rf := "BridgeSentences$Rows") (nm := "size") (ds := "I") (by decide +kernel) fc_21 wd_108
theorem k_39_23 : OkOp mt Ev 39 23 (o_iload 1 1) := ok_iload_n (k := 1) (by decide +kernel) rfl
theorem k_39_24 : OkOp mt Ev 39 24 (o_iast 2 (fun x => x)) := ok_iast (by decide +kernel)
theorem k_39_25 : OkOp mt Ev 39 25 (o_aload 0 1) := ok_aload_n (k := 0) (by decide +kernel) rfl
theorem k_39_26 : OkOp mt Ev 39 26 (o_getf 1 [7]) := ok_getf (i := 21) (rf := "BridgeSentences$Rows") (nm := "second") (ds := "[I") (by decide +kernel) fc_20 wd_105
theorem k_39_29 : OkOp mt Ev 39 29 (o_aload 0 1) := ok_aload_n (k := 0) (by decide +kernel) rfl
theorem k_39_30 : OkOp mt Ev 39 30 (o_getf 2 [7]) := ok_getf (i := 24) (rf := "BridgeSentences$Rows") (nm := "size") (ds := "I") (by decide +kernel) fc_21 wd_108
theorem k_39_33 : OkOp mt Ev 39 33 (o_iload 2 1) := ok_iload_n (k := 2) (by decide +kernel) rfl
theorem k_39_34 : OkOp mt Ev 39 34 (o_iast 2 (fun x => x)) := ok_iast (by decide +kernel)
theorem k_39_35 : OkOp mt Ev 39 35 (o_aload 0 1) := ok_aload_n (k := 0) (by decide +kernel) rfl
theorem k_39_36 : OkOp mt Ev 39 36 (o_dup) := ok_dup (by decide +kernel)
theorem k_39_37 : OkOp mt Ev 39 37 (o_getf 2 [7]) := ok_getf (i := 24) (rf := "BridgeSentences$Rows") (nm := "size") (ds := "I") (by decide +kernel) fc_21 wd_108
theorem k_39_40 : OkOp mt Ev 39 40 (o_push (.int (1)) 1) := ok_iconst (n := 1) (by decide +kernel) (by decide +kernel)
theorem k_39_41 : OkOp mt Ev 39 41 (o_ib (fun x y => x + y)) := ok_iadd (by decide +kernel)
theorem k_39_42 : OkOp mt Ev 39 42 (o_putf 2 [7] 0) := ok_putf (i := 24) (rf := "BridgeSentences$Rows") (nm := "size") (ds := "I") (ty := .int) (fin := false) (by decide +kernel) fc_21 wd_108 (tc_7) ff_16 (by decide) (by decide +kernel) ov_int
theorem k_39_45 : OkOp mt Ev 39 45 (o_aload 0 1) := ok_aload_n (k := 0) (by decide +kernel) rfl
theorem k_39_46 : OkOp mt Ev 39 46 (o_getf 2 [7]) := ok_getf (i := 24) (rf := "BridgeSentences$Rows") (nm := "size") (ds := "I") (by decide +kernel) fc_21 wd_108
theorem k_39_49 : OkOp mt Ev 39 49 (o_ret 0) := ok_reti (ty := .int) (by decide +kernel) rfl (Or.inl ⟨rfl, rfl⟩)
theorem kt_39 : ∀ pc o, cd_X7_added Ev pc = some o → OkOp mt Ev 39 pc o ∧ Gw o := (tN_ok (tN_ok (tN_ok (tN_ok (tL_ok ⟨k_39_0, gw_aload⟩) (tN_ok (tL_ok ⟨k_39_1, gw_getf⟩) (tL_ok ⟨k_39_4, gw_aload⟩))) (tN_ok (tN_ok (tL_ok ⟨k_39_5, gw_getf⟩) (tL_ok ⟨k_39_8, gw_alen⟩)) (tN_ok (tL_ok ⟨k_39_9, gw_if2⟩) (tL_ok ⟨k_39_12, gw_push⟩)))) (tN_ok (tN_ok (tL_ok ⟨k_39_14, gw_ret⟩) (tN_ok (tL_ok ⟨k_39_15, gw_aload⟩) (tL_ok ⟨k_39_16, gw_getf⟩))) (tN_ok (tN_ok (tL_ok ⟨k_39_19, gw_aload⟩) (tL_ok ⟨k_39_20, gw_getf⟩)) (tN_ok (tL_ok ⟨k_39_23, gw_iload⟩) (tL_ok ⟨k_39_24, gw_iast⟩))))) (tN_ok (tN_ok (tN_ok (tL_ok ⟨k_39_25, gw_aload⟩) (tN_ok (tL_ok ⟨k_39_26, gw_getf⟩) (tL_ok ⟨k_39_29, gw_aload⟩))) (tN_ok (tN_ok (tL_ok ⟨k_39_30, gw_getf⟩) (tL_ok ⟨k_39_33, gw_iload⟩)) (tN_ok (tL_ok ⟨k_39_34, gw_iast⟩) (tL_ok ⟨k_39_35, gw_aload⟩)))) (tN_ok (tN_ok (tN_ok (tL_ok ⟨k_39_36, gw_dup⟩) (tL_ok ⟨k_39_37, gw_getf⟩)) (tN_ok (tL_ok ⟨k_39_40, gw_push⟩) (tL_ok ⟨k_39_41, gw_ib⟩))) (tN_ok (tN_ok (tL_ok ⟨k_39_42, gw_putf⟩) (tL_ok ⟨k_39_45, gw_aload⟩)) (tN_ok (tL_ok ⟨k_39_46, gw_getf⟩) (tL_ok ⟨k_39_49, gw_ret⟩))))))
theorem k_40_0 : OkOp mt Ev 40 0 (o_aload 0 1) := ok_aload_n (k := 0) (by decide +kernel) rfl
theorem k_40_1 : OkOp mt Ev 40 1 (o_push (.int (0)) 1) := ok_iconst (n := 0) (by decide +kernel) (by decide +kernel)
theorem k_40_2 : OkOp mt Ev 40 2 (o_putf 2 [7] 0) := ok_putf (i := 24) (rf := "BridgeSentences$Rows") (nm := "size") (ds := "I") (ty := .int) (fin := false) (by decide +kernel) fc_21 wd_108 (tc_7) ff_16 (by decide) (by decide +kernel) ov_int
theorem k_40_5 : OkOp mt Ev 40 5 (o_push (.int (0)) 1) := ok_iconst (n := 0) (by decide +kernel) (by decide +kernel)
theorem k_40_6 : OkOp mt Ev 40 6 (o_istore 2 1) := ok_istore_n (k := 2) (by decide +kernel) rfl
theorem k_40_7 : OkOp mt Ev 40 7 (o_iload 2 1) := ok_iload_n (k := 2) (by decide +kernel) rfl
theorem k_40_8 : OkOp mt Ev 40 8 (o_aload 1 1) := ok_aload_n (k := 1) (by decide +kernel) rfl
theorem k_40_9 : OkOp mt Ev 40 9 (o_getf 2 [7]) := ok_getf (i := 24) (rf := "BridgeSentences$Rows") (nm := "size") (ds := "I") (by decide +kernel) fc_21 wd_108
theorem k_40_12 : OkOp mt Ev 40 12 (o_if2 (fun x y => decide (y ≤ x)) 38) := ok_icmp_ge (off := 26) (by decide +kernel) (by decide +kernel)
theorem k_40_15 : OkOp mt Ev 40 15 (o_aload 0 1) := ok_aload_n (k := 0) (by decide +kernel) rfl
theorem k_40_16 : OkOp mt Ev 40 16 (o_aload 1 1) := ok_aload_n (k := 1) (by decide +kernel) rfl
theorem k_40_17 : OkOp mt Ev 40 17 (o_getf 0 [7]) := ok_getf (i := 15) (rf := "BridgeSentences$Rows") (nm := "first") (ds := "[I") (by decide +kernel) fc_19 wd_102
theorem k_40_20 : OkOp mt Ev 40 20 (o_iload 2 1) := ok_iload_n (k := 2) (by decide +kernel) rfl
theorem k_40_21 : OkOp mt Ev 40 21 (o_iald 2) := ok_iald (by decide +kernel)
theorem k_40_22 : OkOp mt Ev 40 22 (o_aload 1 1) := ok_aload_n (k := 1) (by decide +kernel) rfl
theorem k_40_23 : OkOp mt Ev 40 23 (o_getf 1 [7]) := ok_getf (i := 21) (rf := "BridgeSentences$Rows") (nm := "second") (ds := "[I") (by decide +kernel) fc_20 wd_105
theorem k_40_26 : OkOp mt Ev 40 26 (o_iload 2 1) := ok_iload_n (k := 2) (by decide +kernel) rfl
theorem k_40_27 : OkOp mt Ev 40 27 (o_iald 2) := ok_iald (by decide +kernel)
theorem k_40_28 : OkOp mt Ev 40 28 (o_cv [(7, 39)] 2) := ok_cv (i := 28) (by decide +kernel) vc_92
theorem k_40_31 : OkOp mt Ev 40 31 (o_pop) := ok_pop (by decide +kernel)
theorem k_40_32 : OkOp mt Ev 40 32 (o_iinc 2 (1)) := ok_iinc (n := 1) (by decide +kernel) (by decide +kernel)
theorem k_40_35 : OkOp mt Ev 40 35 (o_goto 7) := ok_goto (off := -28) (by decide +kernel) (by decide +kernel)
theorem k_40_38 : OkOp mt Ev 40 38 (o_retv) := ok_retv (by decide +kernel) rfl
theorem kt_40 : ∀ pc o, cd_X7_becomeLike Ev pc = some o → OkOp mt Ev 40 pc o ∧ Gw o := (tN_ok (tN_ok (tN_ok (tN_ok (tL_ok ⟨k_40_0, gw_aload⟩) (tL_ok ⟨k_40_1, gw_push⟩)) (tN_ok (tL_ok ⟨k_40_2, gw_putf⟩) (tN_ok (tL_ok ⟨k_40_5, gw_push⟩) (tL_ok ⟨k_40_6, gw_istore⟩)))) (tN_ok (tN_ok (tL_ok ⟨k_40_7, gw_iload⟩) (tN_ok (tL_ok ⟨k_40_8, gw_aload⟩) (tL_ok ⟨k_40_9, gw_getf⟩))) (tN_ok (tL_ok ⟨k_40_12, gw_if2⟩) (tN_ok (tL_ok ⟨k_40_15, gw_aload⟩) (tL_ok ⟨k_40_16, gw_aload⟩))))) (tN_ok (tN_ok (tN_ok (tL_ok ⟨k_40_17, gw_getf⟩) (tN_ok (tL_ok ⟨k_40_20, gw_iload⟩) (tL_ok ⟨k_40_21, gw_iald⟩))) (tN_ok (tL_ok ⟨k_40_22, gw_aload⟩) (tN_ok (tL_ok ⟨k_40_23, gw_getf⟩) (tL_ok ⟨k_40_26, gw_iload⟩)))) (tN_ok (tN_ok (tL_ok ⟨k_40_27, gw_iald⟩) (tN_ok (tL_ok ⟨k_40_28, gw_cv⟩) (tL_ok ⟨k_40_31, gw_pop⟩))) (tN_ok (tL_ok ⟨k_40_32, gw_iinc⟩) (tN_ok (tL_ok ⟨k_40_35, gw_goto⟩) (tL_ok ⟨k_40_38, gw_retv⟩))))))
theorem k_41_0 : OkOp mt Ev 41 0 (o_aload 0 1) := ok_aload_n (k := 0) (by decide +kernel) rfl
theorem k_41_1 : OkOp mt Ev 41 1 (o_iload 1 1) := ok_iload_n (k := 1) (by decide +kernel) rfl
theorem k_41_2 : OkOp mt Ev 41 2 (o_iload 2 1) := ok_iload_n (k := 2) (by decide +kernel) rfl
theorem k_41_3 : OkOp mt Ev 41 3 (o_ci 21 2) := ok_ci (i := 3) (by decide +kernel) wd_369 wd_328 wd_66 wd_329 nk_10 rfl rfl
theorem k_41_6 : OkOp mt Ev 41 6 (o_aload 0 1) := ok_aload_n (k := 0) (by decide +kernel) rfl
theorem k_41_7 : OkOp mt Ev 41 7 (o_push (.int (4)) 1) := ok_iconst (n := 4) (by decide +kernel) (by decide +kernel)
theorem k_41_8 : OkOp mt Ev 41 8 (o_newa 2 (.inl (fun _ => 0)) 2) := ok_newa (at_ := .int) (by decide +kernel) (by decide) rfl (fun _ _ => rfl) (by decide) wd_118
theorem k_41_10 : OkOp mt Ev 41 10 (o_putf 6 [8] 2) := ok_putf (i := 9) (rf := "BridgeSentences$Told") (nm := "more") (ds := "[I") (ty := (.array .int)) (fin := true) (by decide +kernel) fc_22 wd_370 (tc_8) ff_17 (by decide) (by decide +kernel) (ov_arr .int)
theorem k_41_13 : OkOp mt Ev 41 13 (o_retv) := ok_retv (by decide +kernel) rfl
theorem kt_41 : ∀ pc o, cd_X8_init Ev pc = some o → OkOp mt Ev 41 pc o ∧ Gw o := (tN_ok (tN_ok (tN_ok (tL_ok ⟨k_41_0, gw_aload⟩) (tL_ok ⟨k_41_1, gw_iload⟩)) (tN_ok (tL_ok ⟨k_41_2, gw_iload⟩) (tL_ok ⟨k_41_3, gw_ci⟩))) (tN_ok (tN_ok (tL_ok ⟨k_41_6, gw_aload⟩) (tL_ok ⟨k_41_7, gw_push⟩)) (tN_ok (tL_ok ⟨k_41_8, gw_newa⟩) (tN_ok (tL_ok ⟨k_41_10, gw_putf⟩) (tL_ok ⟨k_41_13, gw_retv⟩)))))
theorem k_42_0 : OkOp mt Ev 42 0 (o_aload 0 1) := ok_aload_n (k := 0) (by decide +kernel) rfl
theorem k_42_1 : OkOp mt Ev 42 1 (o_aload 1 1) := ok_aload_n (k := 1) (by decide +kernel) rfl
theorem k_42_2 : OkOp mt Ev 42 2 (o_cv [(8, 25)] 1) := ok_csu (i := 15) (by decide +kernel) vc_93
theorem k_42_5 : OkOp mt Ev 42 5 (o_aload 1 1) := ok_aload_n (k := 1) (by decide +kernel) rfl
theorem k_42_6 : OkOp mt Ev 42 6 (o_inst [8] [1, 2, 3, 4, 5, 6]) := ok_inst (i := 10) (E := RX8) (by decide +kernel) wd_484 as_told nc_told
theorem k_42_9 : OkOp mt Ev 42 9 (o_if1 (fun x => decide (x = 0)) 31) := ok_if_eq (off := 22) (by decide +kernel) (by decide +kernel)
theorem k_42_12 : OkOp mt Ev 42 12 (o_aload 1 1) := ok_aload_n (k := 1) (by decide +kernel) rfl
theorem k_42_13 : OkOp mt Ev 42 13 (o_cast [8]) := ok_cast2 (i := 10) (E := RX8) (by decide +kernel) wd_484 as_told
theorem k_42_16 : OkOp mt Ev 42 16 (o_astore 2 1) := ok_astore_n (k := 2) (by decide +kernel) rfl
theorem k_42_17 : OkOp mt Ev 42 17 (o_aload 2 1) := ok_aload_n (k := 2) (by decide +kernel) rfl
theorem k_42_18 : OkOp mt Ev 42 18 (o_getf 6 [8]) := ok_getf (i := 9) (rf := "BridgeSentences$Told") (nm := "more") (ds := "[I") (by decide +kernel) fc_22 wd_370
theorem k_42_21 : OkOp mt Ev 42 21 (o_push (.int (0)) 1) := ok_iconst (n := 0) (by decide +kernel) (by decide +kernel)
theorem k_42_22 : OkOp mt Ev 42 22 (o_aload 0 1) := ok_aload_n (k := 0) (by decide +kernel) rfl
theorem k_42_23 : OkOp mt Ev 42 23 (o_getf 6 [8]) := ok_getf (i := 9) (rf := "BridgeSentences$Told") (nm := "more") (ds := "[I") (by decide +kernel) fc_22 wd_370
theorem k_42_26 : OkOp mt Ev 42 26 (o_push (.int (0)) 1) := ok_iconst (n := 0) (by decide +kernel) (by decide +kernel)
theorem k_42_27 : OkOp mt Ev 42 27 (o_push (.int (4)) 1) := ok_iconst (n := 4) (by decide +kernel) (by decide +kernel)
theorem k_42_28 : OkOp mt Ev 42 28 (o_cpyi) := ok_cpyi (i := 19) (by decide +kernel) wd_485 wd_463 wd_462 wd_71
theorem k_42_31 : OkOp mt Ev 42 31 (o_retv) := ok_retv (by decide +kernel) rfl
theorem kt_42 : ∀ pc o, cd_X8_becomeLike Ev pc = some o → OkOp mt Ev 42 pc o ∧ Gw o := (tN_ok (tN_ok (tN_ok (tN_ok (tL_ok ⟨k_42_0, gw_aload⟩) (tL_ok ⟨k_42_1, gw_aload⟩)) (tN_ok (tL_ok ⟨k_42_2, gw_cv⟩) (tL_ok ⟨k_42_5, gw_aload⟩))) (tN_ok (tN_ok (tL_ok ⟨k_42_6, gw_inst⟩) (tL_ok ⟨k_42_9, gw_if1⟩)) (tN_ok (tL_ok ⟨k_42_12, gw_aload⟩) (tN_ok (tL_ok ⟨k_42_13, gw_cast⟩) (tL_ok ⟨k_42_16, gw_astore⟩))))) (tN_ok (tN_ok (tN_ok (tL_ok ⟨k_42_17, gw_aload⟩) (tL_ok ⟨k_42_18, gw_getf⟩)) (tN_ok (tL_ok ⟨k_42_21, gw_push⟩) (tL_ok ⟨k_42_22, gw_aload⟩))) (tN_ok (tN_ok (tL_ok ⟨k_42_23, gw_getf⟩) (tL_ok ⟨k_42_26, gw_push⟩)) (tN_ok (tL_ok ⟨k_42_27, gw_push⟩) (tN_ok (tL_ok ⟨k_42_28, gw_cpyi⟩) (tL_ok ⟨k_42_31, gw_retv⟩))))))
theorem k_43_0 : OkOp mt Ev 43 0 (o_aload 0 1) := ok_aload_n (k := 0) (by decide +kernel) rfl
theorem k_43_1 : OkOp mt Ev 43 1 (o_iload 1 1) := ok_iload_n (k := 1) (by decide +kernel) rfl
theorem k_43_2 : OkOp mt Ev 43 2 (o_iload 2 1) := ok_iload_n (k := 2) (by decide +kernel) rfl
theorem k_43_3 : OkOp mt Ev 43 3 (o_iload 3 1) := ok_iload_n (k := 3) (by decide +kernel) rfl
theorem k_43_4 : OkOp mt Ev 43 4 (o_cv [(8, 22)] 3) := ok_csu (i := 25) (by decide +kernel) vc_94
theorem k_43_7 : OkOp mt Ev 43 7 (o_aload 0 1) := ok_aload_n (k := 0) (by decide +kernel) rfl
theorem k_43_8 : OkOp mt Ev 43 8 (o_getf 6 [8]) := ok_getf (i := 9) (rf := "BridgeSentences$Told") (nm := "more") (ds := "[I") (by decide +kernel) fc_22 wd_370
theorem k_43_11 : OkOp mt Ev 43 11 (o_iload 1 1) := ok_iload_n (k := 1) (by decide +kernel) rfl
theorem k_43_12 : OkOp mt Ev 43 12 (o_push (.int (4)) 1) := ok_iconst (n := 4) (by decide +kernel) (by decide +kernel)
theorem k_43_13 : OkOp mt Ev 43 13 (o_ibz (fun x y => x - x / y * y)) := ok_irem (by decide +kernel)
theorem k_43_14 : OkOp mt Ev 43 14 (o_iald 2) := ok_iald (by decide +kernel)
theorem k_43_15 : OkOp mt Ev 43 15 (o_ib (fun x y => x + y)) := ok_iadd (by decide +kernel)
theorem k_43_16 : OkOp mt Ev 43 16 (o_ret 0) := ok_reti (ty := .int) (by decide +kernel) rfl (Or.inl ⟨rfl, rfl⟩)
theorem kt_43 : ∀ pc o, cd_X8_urgeBy Ev pc = some o → OkOp mt Ev 43 pc o ∧ Gw o := (tN_ok (tN_ok (tN_ok (tL_ok ⟨k_43_0, gw_aload⟩) (tN_ok (tL_ok ⟨k_43_1, gw_iload⟩) (tL_ok ⟨k_43_2, gw_iload⟩))) (tN_ok (tL_ok ⟨k_43_3, gw_iload⟩) (tN_ok (tL_ok ⟨k_43_4, gw_cv⟩) (tL_ok ⟨k_43_7, gw_aload⟩)))) (tN_ok (tN_ok (tL_ok ⟨k_43_8, gw_getf⟩) (tN_ok (tL_ok ⟨k_43_11, gw_iload⟩) (tL_ok ⟨k_43_12, gw_push⟩))) (tN_ok (tN_ok (tL_ok ⟨k_43_13, gw_ibz⟩) (tL_ok ⟨k_43_14, gw_iald⟩)) (tN_ok (tL_ok ⟨k_43_15, gw_ib⟩) (tL_ok ⟨k_43_16, gw_ret⟩)))))
theorem k_44_0 : OkOp mt Ev 44 0 (o_aload 1 1) := ok_aload_n (k := 1) (by decide +kernel) rfl
theorem k_44_1 : OkOp mt Ev 44 1 (o_push (.int (70)) 2) := ok_bipush (n := 70) (by decide +kernel) (by decide +kernel)
theorem k_44_3 : OkOp mt Ev 44 3 (o_cv [(9, 47)] 1) := ok_cv (i := 29) (by decide +kernel) vc_95
theorem k_44_6 : OkOp mt Ev 44 6 (o_aload 0 1) := ok_aload_n (k := 0) (by decide +kernel) rfl
theorem k_44_7 : OkOp mt Ev 44 7 (o_aload 1 1) := ok_aload_n (k := 1) (by decide +kernel) rfl
theorem k_44_8 : OkOp mt Ev 44 8 (o_iload 2 1) := ok_iload_n (k := 2) (by decide +kernel) rfl
theorem k_44_9 : OkOp mt Ev 44 9 (o_cv [(8, 28)] 2) := ok_csu (i := 35) (by decide +kernel) vc_96
theorem k_44_12 : OkOp mt Ev 44 12 (o_aload 0 1) := ok_aload_n (k := 0) (by decide +kernel) rfl
theorem k_44_13 : OkOp mt Ev 44 13 (o_aload 1 1) := ok_aload_n (k := 1) (by decide +kernel) rfl
theorem k_44_14 : OkOp mt Ev 44 14 (o_push (.int (2)) 1) := ok_iconst (n := 2) (by decide +kernel) (by decide +kernel)
theorem k_44_15 : OkOp mt Ev 44 15 (o_cv [(8, 27)] 2) := ok_csu (i := 39) (by decide +kernel) vc_97
theorem k_44_18 : OkOp mt Ev 44 18 (o_ib (fun x y => x + y)) := ok_iadd (by decide +kernel)
theorem k_44_19 : OkOp mt Ev 44 19 (o_ret 0) := ok_reti (ty := .int) (by decide +kernel) rfl (Or.inl ⟨rfl, rfl⟩)
theorem kt_44 : ∀ pc o, cd_X8_says Ev pc = some o → OkOp mt Ev 44 pc o ∧ Gw o := (tN_ok (tN_ok (tN_ok (tL_ok ⟨k_44_0, gw_aload⟩) (tN_ok (tL_ok ⟨k_44_1, gw_push⟩) (tL_ok ⟨k_44_3, gw_cv⟩))) (tN_ok (tL_ok ⟨k_44_6, gw_aload⟩) (tN_ok (tL_ok ⟨k_44_7, gw_aload⟩) (tL_ok ⟨k_44_8, gw_iload⟩)))) (tN_ok (tN_ok (tL_ok ⟨k_44_9, gw_cv⟩) (tN_ok (tL_ok ⟨k_44_12, gw_aload⟩) (tL_ok ⟨k_44_13, gw_aload⟩))) (tN_ok (tN_ok (tL_ok ⟨k_44_14, gw_push⟩) (tL_ok ⟨k_44_15, gw_cv⟩)) (tN_ok (tL_ok ⟨k_44_18, gw_ib⟩) (tL_ok ⟨k_44_19, gw_ret⟩)))))
theorem k_45_0 : OkOp mt Ev 45 0 (o_aload 1 1) := ok_aload_n (k := 1) (by decide +kernel) rfl
theorem k_45_1 : OkOp mt Ev 45 1 (o_push (.int (71)) 2) := ok_bipush (n := 71) (by decide +kernel) (by decide +kernel)
theorem k_45_3 : OkOp mt Ev 45 3 (o_cv [(9, 47)] 1) := ok_cv (i := 29) (by decide +kernel) vc_95
theorem k_45_6 : OkOp mt Ev 45 6 (o_aload 0 1) := ok_aload_n (k := 0) (by decide +kernel) rfl
theorem k_45_7 : OkOp mt Ev 45 7 (o_aload 1 1) := ok_aload_n (k := 1) (by decide +kernel) rfl
theorem k_45_8 : OkOp mt Ev 45 8 (o_iload 2 1) := ok_iload_n (k := 2) (by decide +kernel) rfl
theorem k_45_9 : OkOp mt Ev 45 9 (o_cv [(8, 27)] 2) := ok_csu (i := 39) (by decide +kernel) vc_97
theorem k_45_12 : OkOp mt Ev 45 12 (o_aload 0 1) := ok_aload_n (k := 0) (by decide +kernel) rfl
theorem k_45_13 : OkOp mt Ev 45 13 (o_getf 2 [8]) := ok_getf (i := 42) (rf := "BridgeSentences$Told") (nm := "v") (ds := "I") (by decide +kernel) fc_23 wd_283
theorem k_45_16 : OkOp mt Ev 45 16 (o_ib (fun x y => x ^^^ y)) := ok_ixor (by decide +kernel)
theorem k_45_17 : OkOp mt Ev 45 17 (o_ret 0) := ok_reti (ty := .int) (by decide +kernel) rfl (Or.inl ⟨rfl, rfl⟩)
theorem kt_45 : ∀ pc o, cd_X8_mutters Ev pc = some o → OkOp mt Ev 45 pc o ∧ Gw o := (tN_ok (tN_ok (tN_ok (tL_ok ⟨k_45_0, gw_aload⟩) (tL_ok ⟨k_45_1, gw_push⟩)) (tN_ok (tL_ok ⟨k_45_3, gw_cv⟩) (tN_ok (tL_ok ⟨k_45_6, gw_aload⟩) (tL_ok ⟨k_45_7, gw_aload⟩)))) (tN_ok (tN_ok (tL_ok ⟨k_45_8, gw_iload⟩) (tN_ok (tL_ok ⟨k_45_9, gw_cv⟩) (tL_ok ⟨k_45_12, gw_aload⟩))) (tN_ok (tL_ok ⟨k_45_13, gw_getf⟩) (tN_ok (tL_ok ⟨k_45_16, gw_ib⟩) (tL_ok ⟨k_45_17, gw_ret⟩)))))
theorem k_46_0 : OkOp mt Ev 46 0 (o_aload 0 1) := ok_aload_n (k := 0) (by decide +kernel) rfl
theorem k_46_1 : OkOp mt Ev 46 1 (o_oi) := ok_oi (i := 1) (by decide +kernel) wd_206 wd_83 wd_84
theorem k_46_4 : OkOp mt Ev 46 4 (o_aload 0 1) := ok_aload_n (k := 0) (by decide +kernel) rfl
theorem k_46_5 : OkOp mt Ev 46 5 (o_push (.int (20)) 2) := ok_bipush (n := 20) (by decide +kernel) (by decide +kernel)
theorem k_46_7 : OkOp mt Ev 46 7 (o_newa 2 (.inl (fun _ => 0)) 2) := ok_newa (at_ := .int) (by decide +kernel) (by decide) rfl (fun _ _ => rfl) (by decide) wd_118
theorem k_46_9 : OkOp mt Ev 46 9 (o_putf 0 [9] 2) := ok_putf (i := 7) (rf := "BridgeSentences$Trace") (nm := "bodies") (ds := "[I") (ty := (.array .int)) (fin := true) (by decide +kernel) fc_24 wd_207 (tc_9) ff_18 (by decide) (by decide +kernel) (ov_arr .int)
theorem k_46_12 : OkOp mt Ev 46 12 (o_retv) := ok_retv (by decide +kernel) rfl
theorem kt_46 : ∀ pc o, cd_X9_init Ev pc = some o → OkOp mt Ev 46 pc o ∧ Gw o := (tN_ok (tN_ok (tL_ok ⟨k_46_0, gw_aload⟩) (tN_ok (tL_ok ⟨k_46_1, gw_oi⟩) (tL_ok ⟨k_46_4, gw_aload⟩))) (tN_ok (tN_ok (tL_ok ⟨k_46_5, gw_push⟩) (tL_ok ⟨k_46_7, gw_newa⟩)) (tN_ok (tL_ok ⟨k_46_9, gw_putf⟩) (tL_ok ⟨k_46_12, gw_retv⟩))))
theorem k_47_0 : OkOp mt Ev 47 0 (o_aload 0 1) := ok_aload_n (k := 0) (by decide +kernel) rfl
theorem k_47_1 : OkOp mt Ev 47 1 (o_getf 1 [9]) := ok_getf (i := 13) (rf := "BridgeSentences$Trace") (nm := "ran") (ds := "I") (by decide +kernel) fc_25 wd_209
theorem k_47_4 : OkOp mt Ev 47 4 (o_aload 0 1) := ok_aload_n (k := 0) (by decide +kernel) rfl
theorem k_47_5 : OkOp mt Ev 47 5 (o_getf 0 [9]) := ok_getf (i := 7) (rf := "BridgeSentences$Trace") (nm := "bodies") (ds := "[I") (by decide +kernel) fc_24 wd_207
theorem k_47_8 : OkOp mt Ev 47 8 (o_alen) := ok_alen (by decide +kernel)
theorem k_47_9 : OkOp mt Ev 47 9 (o_if2 (fun x y => decide (y ≤ x)) 22) := ok_icmp_ge (off := 13) (by decide +kernel) (by decide +kernel)
theorem k_47_12 : OkOp mt Ev 47 12 (o_aload 0 1) := ok_aload_n (k := 0) (by decide +kernel) rfl
theorem k_47_13 : OkOp mt Ev 47 13 (o_getf 0 [9]) := ok_getf (i := 7) (rf := "BridgeSentences$Trace") (nm := "bodies") (ds := "[I") (by decide +kernel) fc_24 wd_207
theorem k_47_16 : OkOp mt Ev 47 16 (o_aload 0 1) := ok_aload_n (k := 0) (by decide +kernel) rfl
theorem k_47_17 : OkOp mt Ev 47 17 (o_getf 1 [9]) := ok_getf (i := 13) (rf := "BridgeSentences$Trace") (nm := "ran") (ds := "I") (by decide +kernel) fc_25 wd_209
theorem k_47_20 : OkOp mt Ev 47 20 (o_iload 1 1) := ok_iload_n (k := 1) (by decide +kernel) rfl
theorem k_47_21 : OkOp mt Ev 47 21 (o_iast 2 (fun x => x)) := ok_iast (by decide +kernel)
theorem k_47_22 : OkOp mt Ev 47 22 (o_aload 0 1) := ok_aload_n (k := 0) (by decide +kernel) rfl
theorem k_47_23 : OkOp mt Ev 47 23 (o_dup) := ok_dup (by decide +kernel)
theorem k_47_24 : OkOp mt Ev 47 24 (o_getf 1 [9]) := ok_getf (i := 13) (rf := "BridgeSentences$Trace") (nm := "ran") (ds := "I") (by decide +kernel) fc_25 wd_209
theorem k_47_27 : OkOp mt Ev 47 27 (o_push (.int (1)) 1) := ok_iconst (n := 1) (by decide +kernel) (by decide +kernel)
theorem k_47_28 : OkOp mt Ev 47 28 (o_ib (fun x y => x + y)) := ok_iadd (by decide +kernel)
theorem k_47_29 : OkOp mt Ev 47 29 (o_putf 1 [9] 0) := ok_putf (i := 13) (rf := "BridgeSentences$Trace") (nm := "ran") (ds := "I") (ty := .int) (fin := false) (by decide +kernel) fc_25 wd_209 (tc_9) ff_19 (by decide) (by decide +kernel) ov_int
theorem k_47_32 : OkOp mt Ev 47 32 (o_retv) := ok_retv (by decide +kernel) rfl
theorem kt_47 : ∀ pc o, cd_X9_began Ev pc = some o → OkOp mt Ev 47 pc o ∧ Gw o := (tN_ok (tN_ok (tN_ok (tN_ok (tL_ok ⟨k_47_0, gw_aload⟩) (tL_ok ⟨k_47_1, gw_getf⟩)) (tN_ok (tL_ok ⟨k_47_4, gw_aload⟩) (tL_ok ⟨k_47_5, gw_getf⟩))) (tN_ok (tN_ok (tL_ok ⟨k_47_8, gw_alen⟩) (tL_ok ⟨k_47_9, gw_if2⟩)) (tN_ok (tL_ok ⟨k_47_12, gw_aload⟩) (tN_ok (tL_ok ⟨k_47_13, gw_getf⟩) (tL_ok ⟨k_47_16, gw_aload⟩))))) (tN_ok (tN_ok (tN_ok (tL_ok ⟨k_47_17, gw_getf⟩) (tL_ok ⟨k_47_20, gw_iload⟩)) (tN_ok (tL_ok ⟨k_47_21, gw_iast⟩) (tN_ok (tL_ok ⟨k_47_22, gw_aload⟩) (tL_ok ⟨k_47_23, gw_dup⟩)))) (tN_ok (tN_ok (tL_ok ⟨k_47_24, gw_getf⟩) (tL_ok ⟨k_47_27, gw_push⟩)) (tN_ok (tL_ok ⟨k_47_28, gw_ib⟩) (tN_ok (tL_ok ⟨k_47_29, gw_putf⟩) (tL_ok ⟨k_47_32, gw_retv⟩))))))
theorem k_48_0 : OkOp mt Ev 48 0 (o_aload 0 1) := ok_aload_n (k := 0) (by decide +kernel) rfl
theorem k_48_1 : OkOp mt Ev 48 1 (o_oi) := ok_oi (i := 3) (by decide +kernel) wd_90 wd_83 wd_84
theorem k_48_4 : OkOp mt Ev 48 4 (o_aload 0 1) := ok_aload_n (k := 0) (by decide +kernel) rfl
theorem k_48_5 : OkOp mt Ev 48 5 (o_push (.int (12)) 2) := ok_bipush (n := 12) (by decide +kernel) (by decide +kernel)
theorem k_48_7 : OkOp mt Ev 48 7 (o_newa 2 (.inl (fun _ => 0)) 2) := ok_newa (at_ := .int) (by decide +kernel) (by decide) rfl (fun _ _ => rfl) (by decide) wd_118
theorem k_48_9 : OkOp mt Ev 48 9 (o_dup) := ok_dup (by decide +kernel)
theorem k_48_10 : OkOp mt Ev 48 10 (o_push (.int (0)) 1) := ok_iconst (n := 0) (by decide +kernel) (by decide +kernel)
theorem k_48_11 : OkOp mt Ev 48 11 (o_push (.int (10)) 2) := ok_bipush (n := 10) (by decide +kernel) (by decide +kernel)
theorem k_48_13 : OkOp mt Ev 48 13 (o_iast 2 (fun x => x)) := ok_iast (by decide +kernel)
theorem k_48_14 : OkOp mt Ev 48 14 (o_dup) := ok_dup (by decide +kernel)
theorem k_48_15 : OkOp mt Ev 48 15 (o_push (.int (1)) 1) := ok_iconst (n := 1) (by decide +kernel) (by decide +kernel)
theorem k_48_16 : OkOp mt Ev 48 16 (o_push (.int (10)) 2) := ok_bipush (n := 10) (by decide +kernel) (by decide +kernel)
theorem k_48_18 : OkOp mt Ev 48 18 (o_iast 2 (fun x => x)) := ok_iast (by decide +kernel)
theorem k_48_19 : OkOp mt Ev 48 19 (o_dup) := ok_dup (by decide +kernel)
theorem k_48_20 : OkOp mt Ev 48 20 (o_push (.int (2)) 1) := ok_iconst (n := 2) (by decide +kernel) (by decide +kernel)
theorem k_48_21 : OkOp mt Ev 48 21 (o_push (.int (10)) 2) := ok_bipush (n := 10) (by decide +kernel) (by decide +kernel)
theorem k_48_23 : OkOp mt Ev 48 23 (o_iast 2 (fun x => x)) := ok_iast (by decide +kernel)
theorem k_48_24 : OkOp mt Ev 48 24 (o_dup) := ok_dup (by decide +kernel)
theorem k_48_25 : OkOp mt Ev 48 25 (o_push (.int (3)) 1) := ok_iconst (n := 3) (by decide +kernel) (by decide +kernel)
theorem k_48_26 : OkOp mt Ev 48 26 (o_push (.int (10)) 2) := ok_bipush (n := 10) (by decide +kernel) (by decide +kernel)
theorem k_48_28 : OkOp mt Ev 48 28 (o_iast 2 (fun x => x)) := ok_iast (by decide +kernel)
theorem k_48_29 : OkOp mt Ev 48 29 (o_dup) := ok_dup (by decide +kernel)
theorem k_48_30 : OkOp mt Ev 48 30 (o_push (.int (4)) 1) := ok_iconst (n := 4) (by decide +kernel) (by decide +kernel)
theorem k_48_31 : OkOp mt Ev 48 31 (o_push (.int (10)) 2) := ok_bipush (n := 10) (by decide +kernel) (by decide +kernel)
theorem k_48_33 : OkOp mt Ev 48 33 (o_iast 2 (fun x => x)) := ok_iast (by decide +kernel)
theorem k_48_34 : OkOp mt Ev 48 34 (o_dup) := ok_dup (by decide +kernel)
theorem k_48_35 : OkOp mt Ev 48 35 (o_push (.int (5)) 1) := ok_iconst (n := 5) (by decide +kernel) (by decide +kernel)
theorem k_48_36 : OkOp mt Ev 48 36 (o_push (.int (10)) 2) := ok_bipush (n := 10) (by decide +kernel) (by decide +kernel)
theorem k_48_38 : OkOp mt Ev 48 38 (o_iast 2 (fun x => x)) := ok_iast (by decide +kernel)
theorem k_48_39 : OkOp mt Ev 48 39 (o_dup) := ok_dup (by decide +kernel)
theorem k_48_40 : OkOp mt Ev 48 40 (o_push (.int (6)) 2) := ok_bipush (n := 6) (by decide +kernel) (by decide +kernel)
theorem k_48_42 : OkOp mt Ev 48 42 (o_push (.int (10)) 2) := ok_bipush (n := 10) (by decide +kernel) (by decide +kernel)
theorem k_48_44 : OkOp mt Ev 48 44 (o_iast 2 (fun x => x)) := ok_iast (by decide +kernel)
theorem k_48_45 : OkOp mt Ev 48 45 (o_dup) := ok_dup (by decide +kernel)
theorem k_48_46 : OkOp mt Ev 48 46 (o_push (.int (7)) 2) := ok_bipush (n := 7) (by decide +kernel) (by decide +kernel)
theorem k_48_48 : OkOp mt Ev 48 48 (o_push (.int (10)) 2) := ok_bipush (n := 10) (by decide +kernel) (by decide +kernel)
theorem k_48_50 : OkOp mt Ev 48 50 (o_iast 2 (fun x => x)) := ok_iast (by decide +kernel)
theorem k_48_51 : OkOp mt Ev 48 51 (o_dup) := ok_dup (by decide +kernel)
theorem k_48_52 : OkOp mt Ev 48 52 (o_push (.int (8)) 2) := ok_bipush (n := 8) (by decide +kernel) (by decide +kernel)
theorem k_48_54 : OkOp mt Ev 48 54 (o_push (.int (10)) 2) := ok_bipush (n := 10) (by decide +kernel) (by decide +kernel)
theorem k_48_56 : OkOp mt Ev 48 56 (o_iast 2 (fun x => x)) := ok_iast (by decide +kernel)
theorem k_48_57 : OkOp mt Ev 48 57 (o_dup) := ok_dup (by decide +kernel)
theorem k_48_58 : OkOp mt Ev 48 58 (o_push (.int (9)) 2) := ok_bipush (n := 9) (by decide +kernel) (by decide +kernel)
theorem k_48_60 : OkOp mt Ev 48 60 (o_push (.int (10)) 2) := ok_bipush (n := 10) (by decide +kernel) (by decide +kernel)
theorem k_48_62 : OkOp mt Ev 48 62 (o_iast 2 (fun x => x)) := ok_iast (by decide +kernel)
theorem k_48_63 : OkOp mt Ev 48 63 (o_dup) := ok_dup (by decide +kernel)
theorem k_48_64 : OkOp mt Ev 48 64 (o_push (.int (10)) 2) := ok_bipush (n := 10) (by decide +kernel) (by decide +kernel)
theorem k_48_66 : OkOp mt Ev 48 66 (o_push (.int (10)) 2) := ok_bipush (n := 10) (by decide +kernel) (by decide +kernel)
theorem k_48_68 : OkOp mt Ev 48 68 (o_iast 2 (fun x => x)) := ok_iast (by decide +kernel)
theorem k_48_69 : OkOp mt Ev 48 69 (o_dup) := ok_dup (by decide +kernel)
theorem k_48_70 : OkOp mt Ev 48 70 (o_push (.int (11)) 2) := ok_bipush (n := 11) (by decide +kernel) (by decide +kernel)
theorem k_48_72 : OkOp mt Ev 48 72 (o_push (.int (10)) 2) := ok_bipush (n := 10) (by decide +kernel) (by decide +kernel)
theorem k_48_74 : OkOp mt Ev 48 74 (o_iast 2 (fun x => x)) := ok_iast (by decide +kernel)
theorem k_48_75 : OkOp mt Ev 48 75 (o_putf 0 [10] 2) := ok_putf (i := 9) (rf := "BridgeSentences$World") (nm := "worths") (ds := "[I") (ty := (.array .int)) (fin := true) (by decide +kernel) fc_26 wd_119 (tc_10) ff_20 (by decide) (by decide +kernel) (ov_arr .int)
theorem k_48_78 : OkOp mt Ev 48 78 (o_aload 0 1) := ok_aload_n (k := 0) (by decide +kernel) rfl
theorem k_48_79 : OkOp mt Ev 48 79 (o_push (.int (6)) 2) := ok_bipush (n := 6) (by decide +kernel) (by decide +kernel)
theorem k_48_81 : OkOp mt Ev 48 81 (o_newa 4 (.inr (.inr (.inr (.inr (fun _ => none))))) 3) := ok_anew (i := 15) (by decide +kernel) wd_91
theorem k_48_84 : OkOp mt Ev 48 84 (o_putf 1 [10] 2) := ok_putf (i := 17) (rf := "BridgeSentences$World") (nm := "people") (ds := "[LBridgeSentences$One;") (ty := (.array (.object "BridgeSentences$One"))) (fin := true) (by decide +kernel) fc_27 wd_121 (tc_10) ff_21 (by decide) (by decide +kernel) (ov_arr (.object "BridgeSentences$One"))
theorem k_48_87 : OkOp mt Ev 48 87 (o_aload 0 1) := ok_aload_n (k := 0) (by decide +kernel) rfl
theorem k_48_88 : OkOp mt Ev 48 88 (o_new 7 [.null, .null, .int 0]) := ok_new (i := 21) (K := RX7) (T := TX7) (N := 3) (ty := tyX7) (by decide +kernel) rfl ci_7 tyX7_ok df_7 rfl wd_93 wd_94 wd_58
theorem k_48_91 : OkOp mt Ev 48 91 (o_dup) := ok_dup (by decide +kernel)
theorem k_48_92 : OkOp mt Ev 48 92 (o_push (.int (5)) 1) := ok_iconst (n := 5) (by decide +kernel) (by decide +kernel)
theorem k_48_93 : OkOp mt Ev 48 93 (o_ci 37 1) := ok_ci (i := 23) (by decide +kernel) wd_95 wd_96 wd_58 wd_97 nk_11 rfl rfl
theorem k_48_96 : OkOp mt Ev 48 96 (o_putf 6 [10] 2) := ok_putf (i := 26) (rf := "BridgeSentences$World") (nm := "seen") (ds := "LBridgeSentences$Rows;") (ty := (.object "BridgeSentences$Rows")) (fin := true) (by decide +kernel) fc_28 wd_131 (tc_10) ff_22 (by decide) (by decide +kernel) (ov_obj "BridgeSentences$Rows")
theorem k_48_99 : OkOp mt Ev 48 99 (o_aload 0 1) := ok_aload_n (k := 0) (by decide +kernel) rfl
theorem k_48_100 : OkOp mt Ev 48 100 (o_new 7 [.null, .null, .int 0]) := ok_new (i := 21) (K := RX7) (T := TX7) (N := 3) (ty := tyX7) (by decide +kernel) rfl ci_7 tyX7_ok df_7 rfl wd_93 wd_94 wd_58
theorem k_48_103 : OkOp mt Ev 48 103 (o_dup) := ok_dup (by decide +kernel)
theorem k_48_104 : OkOp mt Ev 48 104 (o_push (.int (10)) 2) := ok_bipush (n := 10) (by decide +kernel) (by decide +kernel)
theorem k_48_106 : OkOp mt Ev 48 106 (o_ci 37 1) := ok_ci (i := 23) (by decide +kernel) wd_95 wd_96 wd_58 wd_97 nk_11 rfl rfl
theorem k_48_109 : OkOp mt Ev 48 109 (o_putf 7 [10] 2) := ok_putf (i := 30) (rf := "BridgeSentences$World") (nm := "planned") (ds := "LBridgeSentences$Rows;") (ty := (.object "BridgeSentences$Rows")) (fin := true) (by decide +kernel) fc_29 wd_133 (tc_10) ff_23 (by decide) (by decide +kernel) (ov_obj "BridgeSentences$Rows")
theorem k_48_112 : OkOp mt Ev 48 112 (o_aload 0 1) := ok_aload_n (k := 0) (by decide +kernel) rfl
theorem k_48_113 : OkOp mt Ev 48 113 (o_new 7 [.null, .null, .int 0]) := ok_new (i := 21) (K := RX7) (T := TX7) (N := 3) (ty := tyX7) (by decide +kernel) rfl ci_7 tyX7_ok df_7 rfl wd_93 wd_94 wd_58
theorem k_48_116 : OkOp mt Ev 48 116 (o_dup) := ok_dup (by decide +kernel)
theorem k_48_117 : OkOp mt Ev 48 117 (o_push (.int (8)) 2) := ok_bipush (n := 8) (by decide +kernel) (by decide +kernel)
theorem k_48_119 : OkOp mt Ev 48 119 (o_ci 37 1) := ok_ci (i := 23) (by decide +kernel) wd_95 wd_96 wd_58 wd_97 nk_11 rfl rfl
theorem k_48_122 : OkOp mt Ev 48 122 (o_putf 8 [10] 2) := ok_putf (i := 33) (rf := "BridgeSentences$World") (nm := "booked") (ds := "LBridgeSentences$Rows;") (ty := (.object "BridgeSentences$Rows")) (fin := true) (by decide +kernel) fc_30 wd_135 (tc_10) ff_24 (by decide) (by decide +kernel) (ov_obj "BridgeSentences$Rows")
theorem k_48_125 : OkOp mt Ev 48 125 (o_aload 0 1) := ok_aload_n (k := 0) (by decide +kernel) rfl
theorem k_48_126 : OkOp mt Ev 48 126 (o_push (.int (6)) 2) := ok_bipush (n := 6) (by decide +kernel) (by decide +kernel)
theorem k_48_128 : OkOp mt Ev 48 128 (o_newa 2 (.inl (fun _ => 0)) 2) := ok_newa (at_ := .int) (by decide +kernel) (by decide) rfl (fun _ _ => rfl) (by decide) wd_118
theorem k_48_130 : OkOp mt Ev 48 130 (o_putf 10 [10] 2) := ok_putf (i := 36) (rf := "BridgeSentences$World") (nm := "facts") (ds := "[I") (ty := (.array .int)) (fin := true) (by decide +kernel) fc_31 wd_139 (tc_10) ff_25 (by decide) (by decide +kernel) (ov_arr .int)
theorem k_48_133 : OkOp mt Ev 48 133 (o_retv) := ok_retv (by decide +kernel) rfl
theorem kt_48 : ∀ pc o, cd_X10_init Ev pc = some o → OkOp mt Ev 48 pc o ∧ Gw o := (tN_ok (tN_ok (tN_ok (tN_ok (tN_ok (tN_ok (tL_ok ⟨k_48_0, gw_aload⟩) (tL_ok ⟨k_48_1, gw_oi⟩)) (tN_ok (tL_ok ⟨k_48_4, gw_aload⟩) (tN_ok (tL_ok ⟨k_48_5, gw_push⟩) (tL_ok ⟨k_48_7, gw_newa⟩)))) (tN_ok (tN_ok (tL_ok ⟨k_48_9, gw_dup⟩) (tL_ok ⟨k_48_10, gw_push⟩)) (tN_ok (tL_ok ⟨k_48_11, gw_push⟩) (tN_ok (tL_ok ⟨k_48_13, gw_iast⟩) (tL_ok ⟨k_48_14, gw_dup⟩))))) (tN_ok (tN_ok (tN_ok (tL_ok ⟨k_48_15, gw_push⟩) (tL_ok ⟨k_48_16, gw_push⟩)) (tN_ok (tL_ok ⟨k_48_18, gw_iast⟩) (tN_ok (tL_ok ⟨k_48_19, gw_dup⟩) (tL_ok ⟨k_48_20, gw_push⟩)))) (tN_ok (tN_ok (tL_ok ⟨k_48_21, gw_push⟩) (tL_ok ⟨k_48_23, gw_iast⟩)) (tN_ok (tL_ok ⟨k_48_24, gw_dup⟩) (tN_ok (tL_ok ⟨k_48_25, gw_push⟩) (tL_ok ⟨k_48_26, gw_push⟩)))))) (tN_ok (tN_ok (tN_ok (tN_ok (tL_ok ⟨k_48_28, gw_iast⟩) (tL_ok ⟨k_48_29, gw_dup⟩)) (tN_ok (tL_ok ⟨k_48_30, gw_push⟩) (tN_ok (tL_ok ⟨k_48_31, gw_push⟩) (tL_ok ⟨k_48_33, gw_iast⟩)))) (tN_ok (tN_ok (tL_ok ⟨k_48_34, gw_dup⟩) (tL_ok ⟨k_48_35, gw_push⟩)) (tN_ok (tL_ok ⟨k_48_36, gw_push⟩) (tN_ok (tL_ok ⟨k_48_38, gw_iast⟩) (tL_ok ⟨k_48_39, gw_dup⟩))))) (tN_ok (tN_ok (tN_ok (tL_ok ⟨k_48_40, gw_push⟩) (tL_ok ⟨k_48_42, gw_push⟩)) (tN_ok (tL_ok ⟨k_48_44, gw_iast⟩) (tN_ok (tL_ok ⟨k_48_45, gw_dup⟩) (tL_ok ⟨k_48_46, gw_push⟩)))) (tN_ok (tN_ok (tL_ok ⟨k_48_48, gw_push⟩) (tL_ok ⟨k_48_50, gw_iast⟩)) (tN_ok (tL_ok ⟨k_48_51, gw_dup⟩) (tN_ok (tL_ok ⟨k_48_52, gw_push⟩) (tL_ok ⟨k_48_54, gw_push⟩))))))) (tN_ok (tN_ok (tN_ok (tN_ok (tN_ok (tL_ok ⟨k_48_56, gw_iast⟩) (tL_ok ⟨k_48_57, gw_dup⟩)) (tN_ok (tL_ok ⟨k_48_58, gw_push⟩) (tN_ok (tL_ok ⟨k_48_60, gw_push⟩) (tL_ok ⟨k_48_62, gw_iast⟩)))) (tN_ok (tN_ok (tL_ok ⟨k_48_63, gw_dup⟩) (tL_ok ⟨k_48_64, gw_push⟩)) (tN_ok (tL_ok ⟨k_48_66, gw_push⟩) (tN_ok (tL_ok ⟨k_48_68, gw_iast⟩) (tL_ok ⟨k_48_69, gw_dup⟩))))) (tN_ok (tN_ok (tN_ok (tL_ok ⟨k_48_70, gw_push⟩) (tL_ok ⟨k_48_72, gw_push⟩)) (tN_ok (tL_ok ⟨k_48_74, gw_iast⟩) (tN_ok (tL_ok ⟨k_48_75, gw_putf⟩) (tL_ok ⟨k_48_78, gw_aload⟩)))) (tN_ok (tN_ok (tL_ok ⟨k_48_79, gw_push⟩) (tL_ok ⟨k_48_81, gw_newa⟩)) (tN_ok (tL_ok ⟨k_48_84, gw_putf⟩) (tN_ok (tL_ok ⟨k_48_87, gw_aload⟩) (tL_ok ⟨k_48_88, gw_new⟩)))))) (tN_ok (tN_ok (tN_ok (tN_ok (tL_ok ⟨k_48_91, gw_dup⟩) (tL_ok ⟨k_48_92, gw_push⟩)) (tN_ok (tL_ok ⟨k_48_93, gw_ci⟩) (tN_ok (tL_ok ⟨k_48_96, gw_putf⟩) (tL_ok ⟨k_48_99, gw_aload⟩)))) (tN_ok (tN_ok (tL_ok ⟨k_48_100, gw_new⟩) (tL_ok ⟨k_48_103, gw_dup⟩)) (tN_ok (tL_ok ⟨k_48_104, gw_push⟩) (tN_ok (tL_ok ⟨k_48_106, gw_ci⟩) (tL_ok ⟨k_48_109, gw_putf⟩))))) (tN_ok (tN_ok (tN_ok (tL_ok ⟨k_48_112, gw_aload⟩) (tL_ok ⟨k_48_113, gw_new⟩)) (tN_ok (tL_ok ⟨k_48_116, gw_dup⟩) (tN_ok (tL_ok ⟨k_48_117, gw_push⟩) (tL_ok ⟨k_48_119, gw_ci⟩)))) (tN_ok (tN_ok (tL_ok ⟨k_48_122, gw_putf⟩) (tN_ok (tL_ok ⟨k_48_125, gw_aload⟩) (tL_ok ⟨k_48_126, gw_push⟩))) (tN_ok (tL_ok ⟨k_48_128, gw_newa⟩) (tN_ok (tL_ok ⟨k_48_130, gw_putf⟩) (tL_ok ⟨k_48_133, gw_retv⟩))))))))
theorem k_49_0 : OkOp mt Ev 49 0 (o_aload 1 1) := ok_aload_n (k := 1) (by decide +kernel) rfl
theorem k_49_1 : OkOp mt Ev 49 1 (o_getf 0 [10]) := ok_getf (i := 9) (rf := "BridgeSentences$World") (nm := "worths") (ds := "[I") (by decide +kernel) fc_26 wd_119
theorem k_49_4 : OkOp mt Ev 49 4 (o_push (.int (0)) 1) := ok_iconst (n := 0) (by decide +kernel) (by decide +kernel)
theorem k_49_5 : OkOp mt Ev 49 5 (o_aload 0 1) := ok_aload_n (k := 0) (by decide +kernel) rfl
theorem k_49_6 : OkOp mt Ev 49 6 (o_getf 0 [10]) := ok_getf (i := 9) (rf := "BridgeSentences$World") (nm := "worths") (ds := "[I") (by decide +kernel) fc_26 wd_119
theorem k_49_9 : OkOp mt Ev 49 9 (o_push (.int (0)) 1) := ok_iconst (n := 0) (by decide +kernel) (by decide +kernel)
theorem k_49_10 : OkOp mt Ev 49 10 (o_push (.int (12)) 2) := ok_bipush (n := 12) (by decide +kernel) (by decide +kernel)
theorem k_49_12 : OkOp mt Ev 49 12 (o_cpyi) := ok_cpyi (i := 39) (by decide +kernel) wd_461 wd_463 wd_462 wd_71
theorem k_49_15 : OkOp mt Ev 49 15 (o_push (.int (0)) 1) := ok_iconst (n := 0) (by decide +kernel) (by decide +kernel)
theorem k_49_16 : OkOp mt Ev 49 16 (o_istore 2 1) := ok_istore_n (k := 2) (by decide +kernel) rfl
theorem k_49_17 : OkOp mt Ev 49 17 (o_iload 2 1) := ok_iload_n (k := 2) (by decide +kernel) rfl
theorem k_49_18 : OkOp mt Ev 49 18 (o_aload 1 1) := ok_aload_n (k := 1) (by decide +kernel) rfl
theorem k_49_19 : OkOp mt Ev 49 19 (o_getf 2 [10]) := ok_getf (i := 45) (rf := "BridgeSentences$World") (nm := "count") (ds := "I") (by decide +kernel) fc_32 wd_123
theorem k_49_22 : OkOp mt Ev 49 22 (o_if2 (fun x y => decide (y ≤ x)) 42) := ok_icmp_ge (off := 20) (by decide +kernel) (by decide +kernel)
theorem k_49_25 : OkOp mt Ev 49 25 (o_aload 0 1) := ok_aload_n (k := 0) (by decide +kernel) rfl
theorem k_49_26 : OkOp mt Ev 49 26 (o_aload 1 1) := ok_aload_n (k := 1) (by decide +kernel) rfl
theorem k_49_27 : OkOp mt Ev 49 27 (o_getf 1 [10]) := ok_getf (i := 17) (rf := "BridgeSentences$World") (nm := "people") (ds := "[LBridgeSentences$One;") (by decide +kernel) fc_27 wd_121
theorem k_49_30 : OkOp mt Ev 49 30 (o_iload 2 1) := ok_iload_n (k := 2) (by decide +kernel) rfl
theorem k_49_31 : OkOp mt Ev 49 31 (o_aald) := ok_aald (by decide +kernel)
theorem k_49_32 : OkOp mt Ev 49 32 (o_iload 2 1) := ok_iload_n (k := 2) (by decide +kernel) rfl
theorem k_49_33 : OkOp mt Ev 49 33 (o_cv [(10, 50)] 2) := ok_cv (i := 49) (by decide +kernel) vc_98
theorem k_49_36 : OkOp mt Ev 49 36 (o_iinc 2 (1)) := ok_iinc (n := 1) (by decide +kernel) (by decide +kernel)
theorem k_49_39 : OkOp mt Ev 49 39 (o_goto 17) := ok_goto (off := -22) (by decide +kernel) (by decide +kernel)
theorem k_49_42 : OkOp mt Ev 49 42 (o_aload 0 1) := ok_aload_n (k := 0) (by decide +kernel) rfl
theorem k_49_43 : OkOp mt Ev 49 43 (o_aload 1 1) := ok_aload_n (k := 1) (by decide +kernel) rfl
theorem k_49_44 : OkOp mt Ev 49 44 (o_getf 2 [10]) := ok_getf (i := 45) (rf := "BridgeSentences$World") (nm := "count") (ds := "I") (by decide +kernel) fc_32 wd_123
theorem k_49_47 : OkOp mt Ev 49 47 (o_putf 2 [10] 0) := ok_putf (i := 45) (rf := "BridgeSentences$World") (nm := "count") (ds := "I") (ty := .int) (fin := false) (by decide +kernel) fc_32 wd_123 (tc_10) ff_26 (by decide) (by decide +kernel) ov_int
theorem k_49_50 : OkOp mt Ev 49 50 (o_aload 0 1) := ok_aload_n (k := 0) (by decide +kernel) rfl
theorem k_49_51 : OkOp mt Ev 49 51 (o_aload 1 1) := ok_aload_n (k := 1) (by decide +kernel) rfl
theorem k_49_52 : OkOp mt Ev 49 52 (o_getf 3 [10]) := ok_getf (i := 53) (rf := "BridgeSentences$World") (nm := "takenSet") (ds := "I") (by decide +kernel) fc_33 wd_125
theorem k_49_55 : OkOp mt Ev 49 55 (o_putf 3 [10] 0) := ok_putf (i := 53) (rf := "BridgeSentences$World") (nm := "takenSet") (ds := "I") (ty := .int) (fin := false) (by decide +kernel) fc_33 wd_125 (tc_10) ff_27 (by decide) (by decide +kernel) ov_int
theorem k_49_58 : OkOp mt Ev 49 58 (o_aload 0 1) := ok_aload_n (k := 0) (by decide +kernel) rfl
theorem k_49_59 : OkOp mt Ev 49 59 (o_aload 1 1) := ok_aload_n (k := 1) (by decide +kernel) rfl
theorem k_49_60 : OkOp mt Ev 49 60 (o_getf 4 [10]) := ok_getf (i := 56) (rf := "BridgeSentences$World") (nm := "heardSet") (ds := "I") (by decide +kernel) fc_34 wd_127
theorem k_49_63 : OkOp mt Ev 49 63 (o_putf 4 [10] 0) := ok_putf (i := 56) (rf := "BridgeSentences$World") (nm := "heardSet") (ds := "I") (ty := .int) (fin := false) (by decide +kernel) fc_34 wd_127 (tc_10) ff_28 (by decide) (by decide +kernel) ov_int
theorem k_49_66 : OkOp mt Ev 49 66 (o_aload 0 1) := ok_aload_n (k := 0) (by decide +kernel) rfl
theorem k_49_67 : OkOp mt Ev 49 67 (o_aload 1 1) := ok_aload_n (k := 1) (by decide +kernel) rfl
theorem k_49_68 : OkOp mt Ev 49 68 (o_getf 5 [10]) := ok_getf (i := 59) (rf := "BridgeSentences$World") (nm := "day") (ds := "I") (by decide +kernel) fc_35 wd_129
theorem k_49_71 : OkOp mt Ev 49 71 (o_putf 5 [10] 0) := ok_putf (i := 59) (rf := "BridgeSentences$World") (nm := "day") (ds := "I") (ty := .int) (fin := false) (by decide +kernel) fc_35 wd_129 (tc_10) ff_29 (by decide) (by decide +kernel) ov_int
theorem k_49_74 : OkOp mt Ev 49 74 (o_aload 0 1) := ok_aload_n (k := 0) (by decide +kernel) rfl
theorem k_49_75 : OkOp mt Ev 49 75 (o_getf 6 [10]) := ok_getf (i := 26) (rf := "BridgeSentences$World") (nm := "seen") (ds := "LBridgeSentences$Rows;") (by decide +kernel) fc_28 wd_131
theorem k_49_78 : OkOp mt Ev 49 78 (o_aload 1 1) := ok_aload_n (k := 1) (by decide +kernel) rfl
theorem k_49_79 : OkOp mt Ev 49 79 (o_getf 6 [10]) := ok_getf (i := 26) (rf := "BridgeSentences$World") (nm := "seen") (ds := "LBridgeSentences$Rows;") (by decide +kernel) fc_28 wd_131
theorem k_49_82 : OkOp mt Ev 49 82 (o_cv [(7, 40)] 1) := ok_cv (i := 62) (by decide +kernel) vc_99
theorem k_49_85 : OkOp mt Ev 49 85 (o_aload 0 1) := ok_aload_n (k := 0) (by decide +kernel) rfl
theorem k_49_86 : OkOp mt Ev 49 86 (o_getf 7 [10]) := ok_getf (i := 30) (rf := "BridgeSentences$World") (nm := "planned") (ds := "LBridgeSentences$Rows;") (by decide +kernel) fc_29 wd_133
theorem k_49_89 : OkOp mt Ev 49 89 (o_aload 1 1) := ok_aload_n (k := 1) (by decide +kernel) rfl
theorem k_49_90 : OkOp mt Ev 49 90 (o_getf 7 [10]) := ok_getf (i := 30) (rf := "BridgeSentences$World") (nm := "planned") (ds := "LBridgeSentences$Rows;") (by decide +kernel) fc_29 wd_133
theorem k_49_93 : OkOp mt Ev 49 93 (o_cv [(7, 40)] 1) := ok_cv (i := 62) (by decide +kernel) vc_99
theorem k_49_96 : OkOp mt Ev 49 96 (o_aload 0 1) := ok_aload_n (k := 0) (by decide +kernel) rfl
theorem k_49_97 : OkOp mt Ev 49 97 (o_getf 8 [10]) := ok_getf (i := 33) (rf := "BridgeSentences$World") (nm := "booked") (ds := "LBridgeSentences$Rows;") (by decide +kernel) fc_30 wd_135
theorem k_49_100 : OkOp mt Ev 49 100 (o_aload 1 1) := ok_aload_n (k := 1) (by decide +kernel) rfl
theorem k_49_101 : OkOp mt Ev 49 101 (o_getf 8 [10]) := ok_getf (i := 33) (rf := "BridgeSentences$World") (nm := "booked") (ds := "LBridgeSentences$Rows;") (by decide +kernel) fc_30 wd_135
theorem k_49_104 : OkOp mt Ev 49 104 (o_cv [(7, 40)] 1) := ok_cv (i := 62) (by decide +kernel) vc_99
theorem k_49_107 : OkOp mt Ev 49 107 (o_aload 0 1) := ok_aload_n (k := 0) (by decide +kernel) rfl
theorem k_49_108 : OkOp mt Ev 49 108 (o_aload 1 1) := ok_aload_n (k := 1) (by decide +kernel) rfl
theorem k_49_109 : OkOp mt Ev 49 109 (o_getf 9 [10]) := ok_getf (i := 66) (rf := "BridgeSentences$World") (nm := "held") (ds := "LBridgeSentences$Bridge;") (by decide +kernel) fc_36 wd_137
theorem k_49_112 : OkOp mt Ev 49 112 (o_putf 9 [10] 2) := ok_putf (i := 66) (rf := "BridgeSentences$World") (nm := "held") (ds := "LBridgeSentences$Bridge;") (ty := (.object "BridgeSentences$Bridge")) (fin := false) (by decide +kernel) fc_36 wd_137 (tc_10) ff_30 (by decide) (by decide +kernel) (ov_obj "BridgeSentences$Bridge")
theorem k_49_115 : OkOp mt Ev 49 115 (o_retv) := ok_retv (by decide +kernel) rfl
theorem kt_49 : ∀ pc o, cd_X10_becomeLike Ev pc = some o → OkOp mt Ev 49 pc o ∧ Gw o := (tN_ok (tN_ok (tN_ok (tN_ok (tN_ok (tL_ok ⟨k_49_0, gw_aload⟩) (tN_ok (tL_ok ⟨k_49_1, gw_getf⟩) (tL_ok ⟨k_49_4, gw_push⟩))) (tN_ok (tN_ok (tL_ok ⟨k_49_5, gw_aload⟩) (tL_ok ⟨k_49_6, gw_getf⟩)) (tN_ok (tL_ok ⟨k_49_9, gw_push⟩) (tL_ok ⟨k_49_10, gw_push⟩)))) (tN_ok (tN_ok (tL_ok ⟨k_49_12, gw_cpyi⟩) (tN_ok (tL_ok ⟨k_49_15, gw_push⟩) (tL_ok ⟨k_49_16, gw_istore⟩))) (tN_ok (tN_ok (tL_ok ⟨k_49_17, gw_iload⟩) (tL_ok ⟨k_49_18, gw_aload⟩)) (tN_ok (tL_ok ⟨k_49_19, gw_getf⟩) (tL_ok ⟨k_49_22, gw_if2⟩))))) (tN_ok (tN_ok (tN_ok (tL_ok ⟨k_49_25, gw_aload⟩) (tN_ok (tL_ok ⟨k_49_26, gw_aload⟩) (tL_ok ⟨k_49_27, gw_getf⟩))) (tN_ok (tN_ok (tL_ok ⟨k_49_30, gw_iload⟩) (tL_ok ⟨k_49_31, gw_aald⟩)) (tN_ok (tL_ok ⟨k_49_32, gw_iload⟩) (tL_ok ⟨k_49_33, gw_cv⟩)))) (tN_ok (tN_ok (tN_ok (tL_ok ⟨k_49_36, gw_iinc⟩) (tL_ok ⟨k_49_39, gw_goto⟩)) (tN_ok (tL_ok ⟨k_49_42, gw_aload⟩) (tL_ok ⟨k_49_43, gw_aload⟩))) (tN_ok (tN_ok (tL_ok ⟨k_49_44, gw_getf⟩) (tL_ok ⟨k_49_47, gw_putf⟩)) (tN_ok (tL_ok ⟨k_49_50, gw_aload⟩) (tL_ok ⟨k_49_51, gw_aload⟩)))))) (tN_ok (tN_ok (tN_ok (tN_ok (tL_ok ⟨k_49_52, gw_getf⟩) (tN_ok (tL_ok ⟨k_49_55, gw_putf⟩) (tL_ok ⟨k_49_58, gw_aload⟩))) (tN_ok (tN_ok (tL_ok ⟨k_49_59, gw_aload⟩) (tL_ok ⟨k_49_60, gw_getf⟩)) (tN_ok (tL_ok ⟨k_49_63, gw_putf⟩) (tL_ok ⟨k_49_66, gw_aload⟩)))) (tN_ok (tN_ok (tN_ok (tL_ok ⟨k_49_67, gw_aload⟩) (tL_ok ⟨k_49_68, gw_getf⟩)) (tN_ok (tL_ok ⟨k_49_71, gw_putf⟩) (tL_ok ⟨k_49_74, gw_aload⟩))) (tN_ok (tN_ok (tL_ok ⟨k_49_75, gw_getf⟩) (tL_ok ⟨k_49_78, gw_aload⟩)) (tN_ok (tL_ok ⟨k_49_79, gw_getf⟩) (tL_ok ⟨k_49_82, gw_cv⟩))))) (tN_ok (tN_ok (tN_ok (tL_ok ⟨k_49_85, gw_aload⟩) (tN_ok (tL_ok ⟨k_49_86, gw_getf⟩) (tL_ok ⟨k_49_89, gw_aload⟩))) (tN_ok (tN_ok (tL_ok ⟨k_49_90, gw_getf⟩) (tL_ok ⟨k_49_93, gw_cv⟩)) (tN_ok (tL_ok ⟨k_49_96, gw_aload⟩) (tL_ok ⟨k_49_97, gw_getf⟩)))) (tN_ok (tN_ok (tN_ok (tL_ok ⟨k_49_100, gw_aload⟩) (tL_ok ⟨k_49_101, gw_getf⟩)) (tN_ok (tL_ok ⟨k_49_104, gw_cv⟩) (tL_ok ⟨k_49_107, gw_aload⟩))) (tN_ok (tN_ok (tL_ok ⟨k_49_108, gw_aload⟩) (tL_ok ⟨k_49_109, gw_getf⟩)) (tN_ok (tL_ok ⟨k_49_112, gw_putf⟩) (tL_ok ⟨k_49_115, gw_retv⟩)))))))
theorem k_50_0 : OkOp mt Ev 50 0 (o_aload 1 1) := ok_aload_n (k := 1) (by decide +kernel) rfl
theorem k_50_1 : OkOp mt Ev 50 1 (o_ifnonnull 5) := ok_ifnonnull (off := 4) (by decide +kernel) (by decide +kernel)
theorem k_50_4 : OkOp mt Ev 50 4 (o_retv) := ok_retv (by decide +kernel) rfl
theorem k_50_5 : OkOp mt Ev 50 5 (o_aload 0 1) := ok_aload_n (k := 0) (by decide +kernel) rfl
theorem k_50_6 : OkOp mt Ev 50 6 (o_getf 1 [10]) := ok_getf (i := 17) (rf := "BridgeSentences$World") (nm := "people") (ds := "[LBridgeSentences$One;") (by decide +kernel) fc_27 wd_121
theorem k_50_9 : OkOp mt Ev 50 9 (o_iload 2 1) := ok_iload_n (k := 2) (by decide +kernel) rfl
theorem k_50_10 : OkOp mt Ev 50 10 (o_aald) := ok_aald (by decide +kernel)
theorem k_50_11 : OkOp mt Ev 50 11 (o_ifnull 30) := ok_ifnull (off := 19) (by decide +kernel) (by decide +kernel)
theorem k_50_14 : OkOp mt Ev 50 14 (o_aload 0 1) := ok_aload_n (k := 0) (by decide +kernel) rfl
theorem k_50_15 : OkOp mt Ev 50 15 (o_getf 1 [10]) := ok_getf (i := 17) (rf := "BridgeSentences$World") (nm := "people") (ds := "[LBridgeSentences$One;") (by decide +kernel) fc_27 wd_121
theorem k_50_18 : OkOp mt Ev 50 18 (o_iload 2 1) := ok_iload_n (k := 2) (by decide +kernel) rfl
theorem k_50_19 : OkOp mt Ev 50 19 (o_aald) := ok_aald (by decide +kernel)
theorem k_50_20 : OkOp mt Ev 50 20 (o_getf 0 [1, 2, 3, 4, 5, 6, 8]) := ok_getf (i := 70) (rf := "BridgeSentences$One") (nm := "kind") (ds := "I") (by decide +kernel) fc_11 wd_272
theorem k_50_23 : OkOp mt Ev 50 23 (o_aload 1 1) := ok_aload_n (k := 1) (by decide +kernel) rfl
theorem k_50_24 : OkOp mt Ev 50 24 (o_getf 0 [1, 2, 3, 4, 5, 6, 8]) := ok_getf (i := 70) (rf := "BridgeSentences$One") (nm := "kind") (ds := "I") (by decide +kernel) fc_11 wd_272
theorem k_50_27 : OkOp mt Ev 50 27 (o_if2 (fun x y => decide (x = y)) 44) := ok_icmp_eq (off := 17) (by decide +kernel) (by decide +kernel)
theorem k_50_30 : OkOp mt Ev 50 30 (o_aload 0 1) := ok_aload_n (k := 0) (by decide +kernel) rfl
theorem k_50_31 : OkOp mt Ev 50 31 (o_getf 1 [10]) := ok_getf (i := 17) (rf := "BridgeSentences$World") (nm := "people") (ds := "[LBridgeSentences$One;") (by decide +kernel) fc_27 wd_121
theorem k_50_34 : OkOp mt Ev 50 34 (o_iload 2 1) := ok_iload_n (k := 2) (by decide +kernel) rfl
theorem k_50_35 : OkOp mt Ev 50 35 (o_aload 1 1) := ok_aload_n (k := 1) (by decide +kernel) rfl
theorem k_50_36 : OkOp mt Ev 50 36 (o_getf 0 [1, 2, 3, 4, 5, 6, 8]) := ok_getf (i := 70) (rf := "BridgeSentences$One") (nm := "kind") (ds := "I") (by decide +kernel) fc_11 wd_272
theorem k_50_39 : OkOp mt Ev 50 39 (o_iload 2 1) := ok_iload_n (k := 2) (by decide +kernel) rfl
theorem k_50_40 : OkOp mt Ev 50 40 (o_cs 112 2) := ok_csN (i := 73) (host := "BridgeSentences") (by decide +kernel) ws_468 wd_260 wd_56 wd_261 nk_12
theorem k_50_43 : OkOp mt Ev 50 43 (o_aast [1, 2, 3, 4, 5, 6, 8]) := ok_aast (by decide +kernel) as_one
theorem k_50_44 : OkOp mt Ev 50 44 (o_aload 0 1) := ok_aload_n (k := 0) (by decide +kernel) rfl
theorem k_50_45 : OkOp mt Ev 50 45 (o_getf 1 [10]) := ok_getf (i := 17) (rf := "BridgeSentences$World") (nm := "people") (ds := "[LBridgeSentences$One;") (by decide +kernel) fc_27 wd_121
theorem k_50_48 : OkOp mt Ev 50 48 (o_iload 2 1) := ok_iload_n (k := 2) (by decide +kernel) rfl
theorem k_50_49 : OkOp mt Ev 50 49 (o_aald) := ok_aald (by decide +kernel)
theorem k_50_50 : OkOp mt Ev 50 50 (o_aload 1 1) := ok_aload_n (k := 1) (by decide +kernel) rfl
theorem k_50_51 : OkOp mt Ev 50 51 (o_cv [(1, 25), (2, 25), (3, 25), (4, 25), (5, 25), (6, 25), (8, 42)] 1) := ok_cv (i := 77) (by decide +kernel) vc_100
theorem k_50_54 : OkOp mt Ev 50 54 (o_retv) := ok_retv (by decide +kernel) rfl
theorem kt_50 : ∀ pc o, cd_X10_copyOne Ev pc = some o → OkOp mt Ev 50 pc o ∧ Gw o := (tN_ok (tN_ok (tN_ok (tN_ok (tL_ok ⟨k_50_0, gw_aload⟩) (tN_ok (tL_ok ⟨k_50_1, gw_ifnonnull⟩) (tL_ok ⟨k_50_4, gw_retv⟩))) (tN_ok (tN_ok (tL_ok ⟨k_50_5, gw_aload⟩) (tL_ok ⟨k_50_6, gw_getf⟩)) (tN_ok (tL_ok ⟨k_50_9, gw_iload⟩) (tL_ok ⟨k_50_10, gw_aald⟩)))) (tN_ok (tN_ok (tN_ok (tL_ok ⟨k_50_11, gw_ifnull⟩) (tL_ok ⟨k_50_14, gw_aload⟩)) (tN_ok (tL_ok ⟨k_50_15, gw_getf⟩) (tL_ok ⟨k_50_18, gw_iload⟩))) (tN_ok (tN_ok (tL_ok ⟨k_50_19, gw_aald⟩) (tL_ok ⟨k_50_20, gw_getf⟩)) (tN_ok (tL_ok ⟨k_50_23, gw_aload⟩) (tL_ok ⟨k_50_24, gw_getf⟩))))) (tN_ok (tN_ok (tN_ok (tN_ok (tL_ok ⟨k_50_27, gw_if2⟩) (tL_ok ⟨k_50_30, gw_aload⟩)) (tN_ok (tL_ok ⟨k_50_31, gw_getf⟩) (tL_ok ⟨k_50_34, gw_iload⟩))) (tN_ok (tN_ok (tL_ok ⟨k_50_35, gw_aload⟩) (tL_ok ⟨k_50_36, gw_getf⟩)) (tN_ok (tL_ok ⟨k_50_39, gw_iload⟩) (tL_ok ⟨k_50_40, gw_cs⟩)))) (tN_ok (tN_ok (tN_ok (tL_ok ⟨k_50_43, gw_aast⟩) (tL_ok ⟨k_50_44, gw_aload⟩)) (tN_ok (tL_ok ⟨k_50_45, gw_getf⟩) (tL_ok ⟨k_50_48, gw_iload⟩))) (tN_ok (tN_ok (tL_ok ⟨k_50_49, gw_aald⟩) (tL_ok ⟨k_50_50, gw_aload⟩)) (tN_ok (tL_ok ⟨k_50_51, gw_cv⟩) (tL_ok ⟨k_50_54, gw_retv⟩))))))
theorem k_51_0 : OkOp mt Ev 51 0 (o_iload 1 1) := ok_iload_n (k := 1) (by decide +kernel) rfl
theorem k_51_1 : OkOp mt Ev 51 1 (o_if1 (fun x => decide (x < 0)) 21) := ok_if_lt (off := 20) (by decide +kernel) (by decide +kernel)
theorem k_51_4 : OkOp mt Ev 51 4 (o_iload 1 1) := ok_iload_n (k := 1) (by decide +kernel) rfl
theorem k_51_5 : OkOp mt Ev 51 5 (o_aload 0 1) := ok_aload_n (k := 0) (by decide +kernel) rfl
theorem k_51_6 : OkOp mt Ev 51 6 (o_getf 2 [10]) := ok_getf (i := 45) (rf := "BridgeSentences$World") (nm := "count") (ds := "I") (by decide +kernel) fc_32 wd_123
theorem k_51_9 : OkOp mt Ev 51 9 (o_if2 (fun x y => decide (y ≤ x)) 21) := ok_icmp_ge (off := 12) (by decide +kernel) (by decide +kernel)
theorem k_51_12 : OkOp mt Ev 51 12 (o_aload 0 1) := ok_aload_n (k := 0) (by decide +kernel) rfl
theorem k_51_13 : OkOp mt Ev 51 13 (o_getf 1 [10]) := ok_getf (i := 17) (rf := "BridgeSentences$World") (nm := "people") (ds := "[LBridgeSentences$One;") (by decide +kernel) fc_27 wd_121
theorem k_51_16 : OkOp mt Ev 51 16 (o_iload 1 1) := ok_iload_n (k := 1) (by decide +kernel) rfl
theorem k_51_17 : OkOp mt Ev 51 17 (o_aald) := ok_aald (by decide +kernel)
theorem k_51_18 : OkOp mt Ev 51 18 (o_goto 22) := ok_goto (off := 4) (by decide +kernel) (by decide +kernel)
theorem k_51_21 : OkOp mt Ev 51 21 (o_push .null 1) := ok_null (by decide +kernel)
theorem k_51_22 : OkOp mt Ev 51 22 (o_ret 3) := ok_reta (by decide +kernel) rfl (Or.inl ⟨_, rfl⟩)
theorem kt_51 : ∀ pc o, cd_X10_personAt Ev pc = some o → OkOp mt Ev 51 pc o ∧ Gw o := (tN_ok (tN_ok (tN_ok (tL_ok ⟨k_51_0, gw_iload⟩) (tN_ok (tL_ok ⟨k_51_1, gw_if1⟩) (tL_ok ⟨k_51_4, gw_iload⟩))) (tN_ok (tL_ok ⟨k_51_5, gw_aload⟩) (tN_ok (tL_ok ⟨k_51_6, gw_getf⟩) (tL_ok ⟨k_51_9, gw_if2⟩)))) (tN_ok (tN_ok (tL_ok ⟨k_51_12, gw_aload⟩) (tN_ok (tL_ok ⟨k_51_13, gw_getf⟩) (tL_ok ⟨k_51_16, gw_iload⟩))) (tN_ok (tN_ok (tL_ok ⟨k_51_17, gw_aald⟩) (tL_ok ⟨k_51_18, gw_goto⟩)) (tN_ok (tL_ok ⟨k_51_21, gw_push⟩) (tL_ok ⟨k_51_22, gw_ret⟩)))))
theorem k_52_0 : OkOp mt Ev 52 0 (o_aload 0 1) := ok_aload_n (k := 0) (by decide +kernel) rfl
theorem k_52_1 : OkOp mt Ev 52 1 (o_getf 9 [10]) := ok_getf (i := 66) (rf := "BridgeSentences$World") (nm := "held") (ds := "LBridgeSentences$Bridge;") (by decide +kernel) fc_36 wd_137
theorem k_52_4 : OkOp mt Ev 52 4 (o_ifnonnull 11) := ok_ifnonnull (off := 7) (by decide +kernel) (by decide +kernel)
theorem k_52_7 : OkOp mt Ev 52 7 (o_push (.int (0)) 1) := ok_iconst (n := 0) (by decide +kernel) (by decide +kernel)
theorem k_52_8 : OkOp mt Ev 52 8 (o_goto 18) := ok_goto (off := 10) (by decide +kernel) (by decide +kernel)
theorem k_52_11 : OkOp mt Ev 52 11 (o_aload 0 1) := ok_aload_n (k := 0) (by decide +kernel) rfl
theorem k_52_12 : OkOp mt Ev 52 12 (o_getf 9 [10]) := ok_getf (i := 66) (rf := "BridgeSentences$World") (nm := "held") (ds := "LBridgeSentences$Bridge;") (by decide +kernel) fc_36 wd_137
theorem k_52_15 : OkOp mt Ev 52 15 (o_getf 8 [0]) := ok_getf (i := 80) (rf := "BridgeSentences$Bridge") (nm := "free") (ds := "I") (by decide +kernel) fc_8 wd_180
theorem k_52_18 : OkOp mt Ev 52 18 (o_ret 0) := ok_reti (ty := .int) (by decide +kernel) rfl (Or.inl ⟨rfl, rfl⟩)
theorem kt_52 : ∀ pc o, cd_X10_freeNow Ev pc = some o → OkOp mt Ev 52 pc o ∧ Gw o := (tN_ok (tN_ok (tN_ok (tL_ok ⟨k_52_0, gw_aload⟩) (tL_ok ⟨k_52_1, gw_getf⟩)) (tN_ok (tL_ok ⟨k_52_4, gw_ifnonnull⟩) (tL_ok ⟨k_52_7, gw_push⟩))) (tN_ok (tN_ok (tL_ok ⟨k_52_8, gw_goto⟩) (tL_ok ⟨k_52_11, gw_aload⟩)) (tN_ok (tL_ok ⟨k_52_12, gw_getf⟩) (tN_ok (tL_ok ⟨k_52_15, gw_getf⟩) (tL_ok ⟨k_52_18, gw_ret⟩)))))
theorem k_53_0 : OkOp mt Ev 53 0 (o_push (.int (0)) 1) := ok_iconst (n := 0) (by decide +kernel) (by decide +kernel)
theorem k_53_1 : OkOp mt Ev 53 1 (o_istore 1 1) := ok_istore_n (k := 1) (by decide +kernel) rfl
theorem k_53_2 : OkOp mt Ev 53 2 (o_push (.int (0)) 1) := ok_iconst (n := 0) (by decide +kernel) (by decide +kernel)
theorem k_53_3 : OkOp mt Ev 53 3 (o_istore 2 1) := ok_istore_n (k := 2) (by decide +kernel) rfl
theorem k_53_4 : OkOp mt Ev 53 4 (o_iload 2 1) := ok_iload_n (k := 2) (by decide +kernel) rfl
theorem k_53_5 : OkOp mt Ev 53 5 (o_aload 0 1) := ok_aload_n (k := 0) (by decide +kernel) rfl
theorem k_53_6 : OkOp mt Ev 53 6 (o_getf 2 [10]) := ok_getf (i := 45) (rf := "BridgeSentences$World") (nm := "count") (ds := "I") (by decide +kernel) fc_32 wd_123
theorem k_53_9 : OkOp mt Ev 53 9 (o_if2 (fun x y => decide (y ≤ x)) 45) := ok_icmp_ge (off := 36) (by decide +kernel) (by decide +kernel)
theorem k_53_12 : OkOp mt Ev 53 12 (o_aload 0 1) := ok_aload_n (k := 0) (by decide +kernel) rfl
theorem k_53_13 : OkOp mt Ev 53 13 (o_getf 1 [10]) := ok_getf (i := 17) (rf := "BridgeSentences$World") (nm := "people") (ds := "[LBridgeSentences$One;") (by decide +kernel) fc_27 wd_121
theorem k_53_16 : OkOp mt Ev 53 16 (o_iload 2 1) := ok_iload_n (k := 2) (by decide +kernel) rfl
theorem k_53_17 : OkOp mt Ev 53 17 (o_aald) := ok_aald (by decide +kernel)
theorem k_53_18 : OkOp mt Ev 53 18 (o_ifnull 39) := ok_ifnull (off := 21) (by decide +kernel) (by decide +kernel)
theorem k_53_21 : OkOp mt Ev 53 21 (o_aload 0 1) := ok_aload_n (k := 0) (by decide +kernel) rfl
theorem k_53_22 : OkOp mt Ev 53 22 (o_getf 1 [10]) := ok_getf (i := 17) (rf := "BridgeSentences$World") (nm := "people") (ds := "[LBridgeSentences$One;") (by decide +kernel) fc_27 wd_121
theorem k_53_25 : OkOp mt Ev 53 25 (o_iload 2 1) := ok_iload_n (k := 2) (by decide +kernel) rfl
theorem k_53_26 : OkOp mt Ev 53 26 (o_aald) := ok_aald (by decide +kernel)
theorem k_53_27 : OkOp mt Ev 53 27 (o_getf 4 [1, 2, 3, 4, 5, 6, 8]) := ok_getf (i := 85) (rf := "BridgeSentences$One") (nm := "isBeyond") (ds := "Z") (by decide +kernel) fc_15 wd_293
theorem k_53_30 : OkOp mt Ev 53 30 (o_if1 (fun x => decide (x = 0)) 39) := ok_if_eq (off := 9) (by decide +kernel) (by decide +kernel)
theorem k_53_33 : OkOp mt Ev 53 33 (o_iload 1 1) := ok_iload_n (k := 1) (by decide +kernel) rfl
theorem k_53_34 : OkOp mt Ev 53 34 (o_push (.int (1)) 1) := ok_iconst (n := 1) (by decide +kernel) (by decide +kernel)
theorem k_53_35 : OkOp mt Ev 53 35 (o_iload 2 1) := ok_iload_n (k := 2) (by decide +kernel) rfl
theorem k_53_36 : OkOp mt Ev 53 36 (o_ib (fun x y => x <<< (y &&& 31))) := ok_ishl (by decide +kernel)
theorem k_53_37 : OkOp mt Ev 53 37 (o_ib (fun x y => x ||| y)) := ok_ior (by decide +kernel)
theorem k_53_38 : OkOp mt Ev 53 38 (o_istore 1 1) := ok_istore_n (k := 1) (by decide +kernel) rfl
theorem k_53_39 : OkOp mt Ev 53 39 (o_iinc 2 (1)) := ok_iinc (n := 1) (by decide +kernel) (by decide +kernel)
theorem k_53_42 : OkOp mt Ev 53 42 (o_goto 4) := ok_goto (off := -38) (by decide +kernel) (by decide +kernel)
theorem k_53_45 : OkOp mt Ev 53 45 (o_iload 1 1) := ok_iload_n (k := 1) (by decide +kernel) rfl
theorem k_53_46 : OkOp mt Ev 53 46 (o_ret 0) := ok_reti (ty := .int) (by decide +kernel) rfl (Or.inl ⟨rfl, rfl⟩)
theorem kt_53 : ∀ pc o, cd_X10_beyondSet Ev pc = some o → OkOp mt Ev 53 pc o ∧ Gw o := (tN_ok (tN_ok (tN_ok (tN_ok (tL_ok ⟨k_53_0, gw_push⟩) (tN_ok (tL_ok ⟨k_53_1, gw_istore⟩) (tL_ok ⟨k_53_2, gw_push⟩))) (tN_ok (tN_ok (tL_ok ⟨k_53_3, gw_istore⟩) (tL_ok ⟨k_53_4, gw_iload⟩)) (tN_ok (tL_ok ⟨k_53_5, gw_aload⟩) (tL_ok ⟨k_53_6, gw_getf⟩)))) (tN_ok (tN_ok (tL_ok ⟨k_53_9, gw_if2⟩) (tN_ok (tL_ok ⟨k_53_12, gw_aload⟩) (tL_ok ⟨k_53_13, gw_getf⟩))) (tN_ok (tN_ok (tL_ok ⟨k_53_16, gw_iload⟩) (tL_ok ⟨k_53_17, gw_aald⟩)) (tN_ok (tL_ok ⟨k_53_18, gw_ifnull⟩) (tL_ok ⟨k_53_21, gw_aload⟩))))) (tN_ok (tN_ok (tN_ok (tL_ok ⟨k_53_22, gw_getf⟩) (tN_ok (tL_ok ⟨k_53_25, gw_iload⟩) (tL_ok ⟨k_53_26, gw_aald⟩))) (tN_ok (tN_ok (tL_ok ⟨k_53_27, gw_getf⟩) (tL_ok ⟨k_53_30, gw_if1⟩)) (tN_ok (tL_ok ⟨k_53_33, gw_iload⟩) (tL_ok ⟨k_53_34, gw_push⟩)))) (tN_ok (tN_ok (tN_ok (tL_ok ⟨k_53_35, gw_iload⟩) (tL_ok ⟨k_53_36, gw_ib⟩)) (tN_ok (tL_ok ⟨k_53_37, gw_ib⟩) (tL_ok ⟨k_53_38, gw_istore⟩))) (tN_ok (tN_ok (tL_ok ⟨k_53_39, gw_iinc⟩) (tL_ok ⟨k_53_42, gw_goto⟩)) (tN_ok (tL_ok ⟨k_53_45, gw_iload⟩) (tL_ok ⟨k_53_46, gw_ret⟩))))))
theorem k_54_0 : OkOp mt Ev 54 0 (o_push (.int (0)) 1) := ok_iconst (n := 0) (by decide +kernel) (by decide +kernel)
theorem k_54_1 : OkOp mt Ev 54 1 (o_istore 1 1) := ok_istore_n (k := 1) (by decide +kernel) rfl
theorem k_54_2 : OkOp mt Ev 54 2 (o_push (.int (0)) 1) := ok_iconst (n := 0) (by decide +kernel) (by decide +kernel)
theorem k_54_3 : OkOp mt Ev 54 3 (o_istore 2 1) := ok_istore_n (k := 2) (by decide +kernel) rfl
theorem k_54_4 : OkOp mt Ev 54 4 (o_iload 2 1) := ok_iload_n (k := 2) (by decide +kernel) rfl
theorem k_54_5 : OkOp mt Ev 54 5 (o_aload 0 1) := ok_aload_n (k := 0) (by decide +kernel) rfl
theorem k_54_6 : OkOp mt Ev 54 6 (o_getf 2 [10]) := ok_getf (i := 45) (rf := "BridgeSentences$World") (nm := "count") (ds := "I") (by decide +kernel) fc_32 wd_123
theorem k_54_9 : OkOp mt Ev 54 9 (o_if2 (fun x y => decide (y ≤ x)) 39) := ok_icmp_ge (off := 30) (by decide +kernel) (by decide +kernel)
theorem k_54_12 : OkOp mt Ev 54 12 (o_aload 0 1) := ok_aload_n (k := 0) (by decide +kernel) rfl
theorem k_54_13 : OkOp mt Ev 54 13 (o_getf 1 [10]) := ok_getf (i := 17) (rf := "BridgeSentences$World") (nm := "people") (ds := "[LBridgeSentences$One;") (by decide +kernel) fc_27 wd_121
theorem k_54_16 : OkOp mt Ev 54 16 (o_iload 2 1) := ok_iload_n (k := 2) (by decide +kernel) rfl
theorem k_54_17 : OkOp mt Ev 54 17 (o_aald) := ok_aald (by decide +kernel)
theorem k_54_18 : OkOp mt Ev 54 18 (o_ifnull 33) := ok_ifnull (off := 15) (by decide +kernel) (by decide +kernel)
theorem k_54_21 : OkOp mt Ev 54 21 (o_iload 1 1) := ok_iload_n (k := 1) (by decide +kernel) rfl
theorem k_54_22 : OkOp mt Ev 54 22 (o_aload 0 1) := ok_aload_n (k := 0) (by decide +kernel) rfl
theorem k_54_23 : OkOp mt Ev 54 23 (o_getf 1 [10]) := ok_getf (i := 17) (rf := "BridgeSentences$World") (nm := "people") (ds := "[LBridgeSentences$One;") (by decide +kernel) fc_27 wd_121
theorem k_54_26 : OkOp mt Ev 54 26 (o_iload 2 1) := ok_iload_n (k := 2) (by decide +kernel) rfl
theorem k_54_27 : OkOp mt Ev 54 27 (o_aald) := ok_aald (by decide +kernel)
theorem k_54_28 : OkOp mt Ev 54 28 (o_getf 5 [1, 2, 3, 4, 5, 6, 8]) := ok_getf (i := 89) (rf := "BridgeSentences$One") (nm := "back") (ds := "I") (by decide +kernel) fc_16 wd_298
theorem k_54_31 : OkOp mt Ev 54 31 (o_ib (fun x y => x + y)) := ok_iadd (by decide +kernel)
theorem k_54_32 : OkOp mt Ev 54 32 (o_istore 1 1) := ok_istore_n (k := 1) (by decide +kernel) rfl
theorem k_54_33 : OkOp mt Ev 54 33 (o_iinc 2 (1)) := ok_iinc (n := 1) (by decide +kernel) (by decide +kernel)
theorem k_54_36 : OkOp mt Ev 54 36 (o_goto 4) := ok_goto (off := -32) (by decide +kernel) (by decide +kernel)
theorem k_54_39 : OkOp mt Ev 54 39 (o_iload 1 1) := ok_iload_n (k := 1) (by decide +kernel) rfl
theorem k_54_40 : OkOp mt Ev 54 40 (o_ret 0) := ok_reti (ty := .int) (by decide +kernel) rfl (Or.inl ⟨rfl, rfl⟩)
theorem kt_54 : ∀ pc o, cd_X10_allBack Ev pc = some o → OkOp mt Ev 54 pc o ∧ Gw o := (tN_ok (tN_ok (tN_ok (tN_ok (tL_ok ⟨k_54_0, gw_push⟩) (tN_ok (tL_ok ⟨k_54_1, gw_istore⟩) (tL_ok ⟨k_54_2, gw_push⟩))) (tN_ok (tL_ok ⟨k_54_3, gw_istore⟩) (tN_ok (tL_ok ⟨k_54_4, gw_iload⟩) (tL_ok ⟨k_54_5, gw_aload⟩)))) (tN_ok (tN_ok (tL_ok ⟨k_54_6, gw_getf⟩) (tN_ok (tL_ok ⟨k_54_9, gw_if2⟩) (tL_ok ⟨k_54_12, gw_aload⟩))) (tN_ok (tL_ok ⟨k_54_13, gw_getf⟩) (tN_ok (tL_ok ⟨k_54_16, gw_iload⟩) (tL_ok ⟨k_54_17, gw_aald⟩))))) (tN_ok (tN_ok (tN_ok (tL_ok ⟨k_54_18, gw_ifnull⟩) (tN_ok (tL_ok ⟨k_54_21, gw_iload⟩) (tL_ok ⟨k_54_22, gw_aload⟩))) (tN_ok (tL_ok ⟨k_54_23, gw_getf⟩) (tN_ok (tL_ok ⟨k_54_26, gw_iload⟩) (tL_ok ⟨k_54_27, gw_aald⟩)))) (tN_ok (tN_ok (tL_ok ⟨k_54_28, gw_getf⟩) (tN_ok (tL_ok ⟨k_54_31, gw_ib⟩) (tL_ok ⟨k_54_32, gw_istore⟩))) (tN_ok (tN_ok (tL_ok ⟨k_54_33, gw_iinc⟩) (tL_ok ⟨k_54_36, gw_goto⟩)) (tN_ok (tL_ok ⟨k_54_39, gw_iload⟩) (tL_ok ⟨k_54_40, gw_ret⟩))))))
theorem k_55_0 : OkOp mt Ev 55 0 (o_push (.int (0)) 1) := ok_iconst (n := 0) (by decide +kernel) (by decide +kernel)
theorem k_55_1 : OkOp mt Ev 55 1 (o_istore 1 1) := ok_istore_n (k := 1) (by decide +kernel) rfl
theorem k_55_2 : OkOp mt Ev 55 2 (o_push (.int (0)) 1) := ok_iconst (n := 0) (by decide +kernel) (by decide +kernel)
theorem k_55_3 : OkOp mt Ev 55 3 (o_istore 2 1) := ok_istore_n (k := 2) (by decide +kernel) rfl
theorem k_55_4 : OkOp mt Ev 55 4 (o_iload 2 1) := ok_iload_n (k := 2) (by decide +kernel) rfl
theorem k_55_5 : OkOp mt Ev 55 5 (o_push (.int (12)) 2) := ok_bipush (n := 12) (by decide +kernel) (by decide +kernel)
theorem k_55_7 : OkOp mt Ev 55 7 (o_if2 (fun x y => decide (y ≤ x)) 37) := ok_icmp_ge (off := 30) (by decide +kernel) (by decide +kernel)
theorem k_55_10 : OkOp mt Ev 55 10 (o_aload 0 1) := ok_aload_n (k := 0) (by decide +kernel) rfl
theorem k_55_11 : OkOp mt Ev 55 11 (o_getf 4 [10]) := ok_getf (i := 56) (rf := "BridgeSentences$World") (nm := "heardSet") (ds := "I") (by decide +kernel) fc_34 wd_127
theorem k_55_14 : OkOp mt Ev 55 14 (o_iload 2 1) := ok_iload_n (k := 2) (by decide +kernel) rfl
theorem k_55_15 : OkOp mt Ev 55 15 (o_ib (fun x y => x >>> (y &&& 31))) := ok_ishr (by decide +kernel)
theorem k_55_16 : OkOp mt Ev 55 16 (o_push (.int (1)) 1) := ok_iconst (n := 1) (by decide +kernel) (by decide +kernel)
theorem k_55_17 : OkOp mt Ev 55 17 (o_ib (fun x y => x &&& y)) := ok_iand (by decide +kernel)
theorem k_55_18 : OkOp mt Ev 55 18 (o_push (.int (1)) 1) := ok_iconst (n := 1) (by decide +kernel) (by decide +kernel)
theorem k_55_19 : OkOp mt Ev 55 19 (o_if2 (fun x y => decide (¬ x = y)) 31) := ok_icmp_ne (off := 12) (by decide +kernel) (by decide +kernel)
theorem k_55_22 : OkOp mt Ev 55 22 (o_iload 1 1) := ok_iload_n (k := 1) (by decide +kernel) rfl
theorem k_55_23 : OkOp mt Ev 55 23 (o_aload 0 1) := ok_aload_n (k := 0) (by decide +kernel) rfl
theorem k_55_24 : OkOp mt Ev 55 24 (o_getf 0 [10]) := ok_getf (i := 9) (rf := "BridgeSentences$World") (nm := "worths") (ds := "[I") (by decide +kernel) fc_26 wd_119
theorem k_55_27 : OkOp mt Ev 55 27 (o_iload 2 1) := ok_iload_n (k := 2) (by decide +kernel) rfl
theorem k_55_28 : OkOp mt Ev 55 28 (o_iald 2) := ok_iald (by decide +kernel)
theorem k_55_29 : OkOp mt Ev 55 29 (o_ib (fun x y => x + y)) := ok_iadd (by decide +kernel)
theorem k_55_30 : OkOp mt Ev 55 30 (o_istore 1 1) := ok_istore_n (k := 1) (by decide +kernel) rfl
theorem k_55_31 : OkOp mt Ev 55 31 (o_iinc 2 (1)) := ok_iinc (n := 1) (by decide +kernel) (by decide +kernel)
theorem k_55_34 : OkOp mt Ev 55 34 (o_goto 4) := ok_goto (off := -30) (by decide +kernel) (by decide +kernel)
theorem k_55_37 : OkOp mt Ev 55 37 (o_iload 1 1) := ok_iload_n (k := 1) (by decide +kernel) rfl
theorem k_55_38 : OkOp mt Ev 55 38 (o_ret 0) := ok_reti (ty := .int) (by decide +kernel) rfl (Or.inl ⟨rfl, rfl⟩)
theorem kt_55 : ∀ pc o, cd_X10_heardWorth Ev pc = some o → OkOp mt Ev 55 pc o ∧ Gw o := (tN_ok (tN_ok (tN_ok (tN_ok (tL_ok ⟨k_55_0, gw_push⟩) (tN_ok (tL_ok ⟨k_55_1, gw_istore⟩) (tL_ok ⟨k_55_2, gw_push⟩))) (tN_ok (tL_ok ⟨k_55_3, gw_istore⟩) (tN_ok (tL_ok ⟨k_55_4, gw_iload⟩) (tL_ok ⟨k_55_5, gw_push⟩)))) (tN_ok (tN_ok (tL_ok ⟨k_55_7, gw_if2⟩) (tN_ok (tL_ok ⟨k_55_10, gw_aload⟩) (tL_ok ⟨k_55_11, gw_getf⟩))) (tN_ok (tN_ok (tL_ok ⟨k_55_14, gw_iload⟩) (tL_ok ⟨k_55_15, gw_ib⟩)) (tN_ok (tL_ok ⟨k_55_16, gw_push⟩) (tL_ok ⟨k_55_17, gw_ib⟩))))) (tN_ok (tN_ok (tN_ok (tL_ok ⟨k_55_18, gw_push⟩) (tN_ok (tL_ok ⟨k_55_19, gw_if2⟩) (tL_ok ⟨k_55_22, gw_iload⟩))) (tN_ok (tL_ok ⟨k_55_23, gw_aload⟩) (tN_ok (tL_ok ⟨k_55_24, gw_getf⟩) (tL_ok ⟨k_55_27, gw_iload⟩)))) (tN_ok (tN_ok (tL_ok ⟨k_55_28, gw_iald⟩) (tN_ok (tL_ok ⟨k_55_29, gw_ib⟩) (tL_ok ⟨k_55_30, gw_istore⟩))) (tN_ok (tN_ok (tL_ok ⟨k_55_31, gw_iinc⟩) (tL_ok ⟨k_55_34, gw_goto⟩)) (tN_ok (tL_ok ⟨k_55_37, gw_iload⟩) (tL_ok ⟨k_55_38, gw_ret⟩))))))
theorem k_56_0 : OkOp mt Ev 56 0 (o_aload 0 1) := ok_aload_n (k := 0) (by decide +kernel) rfl
theorem k_56_1 : OkOp mt Ev 56 1 (o_getf 9 [10]) := ok_getf (i := 66) (rf := "BridgeSentences$World") (nm := "held") (ds := "LBridgeSentences$Bridge;") (by decide +kernel) fc_36 wd_137
theorem k_56_4 : OkOp mt Ev 56 4 (o_ifnonnull 14) := ok_ifnonnull (off := 10) (by decide +kernel) (by decide +kernel)
theorem k_56_7 : OkOp mt Ev 56 7 (o_aload 0 1) := ok_aload_n (k := 0) (by decide +kernel) rfl
theorem k_56_8 : OkOp mt Ev 56 8 (o_getf 0 [10]) := ok_getf (i := 9) (rf := "BridgeSentences$World") (nm := "worths") (ds := "[I") (by decide +kernel) fc_26 wd_119
theorem k_56_11 : OkOp mt Ev 56 11 (o_iload 2 1) := ok_iload_n (k := 2) (by decide +kernel) rfl
theorem k_56_12 : OkOp mt Ev 56 12 (o_iald 2) := ok_iald (by decide +kernel)
theorem k_56_13 : OkOp mt Ev 56 13 (o_ret 0) := ok_reti (ty := .int) (by decide +kernel) rfl (Or.inl ⟨rfl, rfl⟩)
theorem k_56_14 : OkOp mt Ev 56 14 (o_aload 0 1) := ok_aload_n (k := 0) (by decide +kernel) rfl
theorem k_56_15 : OkOp mt Ev 56 15 (o_getf 10 [10]) := ok_getf (i := 36) (rf := "BridgeSentences$World") (nm := "facts") (ds := "[I") (by decide +kernel) fc_31 wd_139
theorem k_56_18 : OkOp mt Ev 56 18 (o_push (.int (0)) 1) := ok_iconst (n := 0) (by decide +kernel) (by decide +kernel)
theorem k_56_19 : OkOp mt Ev 56 19 (o_aload 1 1) := ok_aload_n (k := 1) (by decide +kernel) rfl
theorem k_56_20 : OkOp mt Ev 56 20 (o_getf 1 [1, 2, 3, 4, 5, 6, 8]) := ok_getf (i := 92) (rf := "BridgeSentences$One") (nm := "number") (ds := "I") (by decide +kernel) fc_12 wd_278
theorem k_56_23 : OkOp mt Ev 56 23 (o_iast 2 (fun x => x)) := ok_iast (by decide +kernel)
theorem k_56_24 : OkOp mt Ev 56 24 (o_aload 0 1) := ok_aload_n (k := 0) (by decide +kernel) rfl
theorem k_56_25 : OkOp mt Ev 56 25 (o_getf 10 [10]) := ok_getf (i := 36) (rf := "BridgeSentences$World") (nm := "facts") (ds := "[I") (by decide +kernel) fc_31 wd_139
theorem k_56_28 : OkOp mt Ev 56 28 (o_push (.int (1)) 1) := ok_iconst (n := 1) (by decide +kernel) (by decide +kernel)
theorem k_56_29 : OkOp mt Ev 56 29 (o_aload 1 1) := ok_aload_n (k := 1) (by decide +kernel) rfl
theorem k_56_30 : OkOp mt Ev 56 30 (o_getf 0 [1, 2, 3, 4, 5, 6, 8]) := ok_getf (i := 70) (rf := "BridgeSentences$One") (nm := "kind") (ds := "I") (by decide +kernel) fc_11 wd_272
theorem k_56_33 : OkOp mt Ev 56 33 (o_iast 2 (fun x => x)) := ok_iast (by decide +kernel)
theorem k_56_34 : OkOp mt Ev 56 34 (o_aload 0 1) := ok_aload_n (k := 0) (by decide +kernel) rfl
theorem k_56_35 : OkOp mt Ev 56 35 (o_getf 10 [10]) := ok_getf (i := 36) (rf := "BridgeSentences$World") (nm := "facts") (ds := "[I") (by decide +kernel) fc_31 wd_139
theorem k_56_38 : OkOp mt Ev 56 38 (o_push (.int (2)) 1) := ok_iconst (n := 2) (by decide +kernel) (by decide +kernel)
theorem k_56_39 : OkOp mt Ev 56 39 (o_aload 1 1) := ok_aload_n (k := 1) (by decide +kernel) rfl
theorem k_56_40 : OkOp mt Ev 56 40 (o_getf 2 [1, 2, 3, 4, 5, 6, 8]) := ok_getf (i := 95) (rf := "BridgeSentences$One") (nm := "v") (ds := "I") (by decide +kernel) fc_13 wd_285
theorem k_56_43 : OkOp mt Ev 56 43 (o_iast 2 (fun x => x)) := ok_iast (by decide +kernel)
theorem k_56_44 : OkOp mt Ev 56 44 (o_aload 0 1) := ok_aload_n (k := 0) (by decide +kernel) rfl
theorem k_56_45 : OkOp mt Ev 56 45 (o_getf 10 [10]) := ok_getf (i := 36) (rf := "BridgeSentences$World") (nm := "facts") (ds := "[I") (by decide +kernel) fc_31 wd_139
theorem k_56_48 : OkOp mt Ev 56 48 (o_push (.int (3)) 1) := ok_iconst (n := 3) (by decide +kernel) (by decide +kernel)
theorem k_56_49 : OkOp mt Ev 56 49 (o_iload 2 1) := ok_iload_n (k := 2) (by decide +kernel) rfl
theorem k_56_50 : OkOp mt Ev 56 50 (o_iast 2 (fun x => x)) := ok_iast (by decide +kernel)
theorem k_56_51 : OkOp mt Ev 56 51 (o_aload 0 1) := ok_aload_n (k := 0) (by decide +kernel) rfl
theorem k_56_52 : OkOp mt Ev 56 52 (o_getf 10 [10]) := ok_getf (i := 36) (rf := "BridgeSentences$World") (nm := "facts") (ds := "[I") (by decide +kernel) fc_31 wd_139
theorem k_56_55 : OkOp mt Ev 56 55 (o_push (.int (4)) 1) := ok_iconst (n := 4) (by decide +kernel) (by decide +kernel)
theorem k_56_56 : OkOp mt Ev 56 56 (o_aload 0 1) := ok_aload_n (k := 0) (by decide +kernel) rfl
theorem k_56_57 : OkOp mt Ev 56 57 (o_getf 0 [10]) := ok_getf (i := 9) (rf := "BridgeSentences$World") (nm := "worths") (ds := "[I") (by decide +kernel) fc_26 wd_119
theorem k_56_60 : OkOp mt Ev 56 60 (o_iload 2 1) := ok_iload_n (k := 2) (by decide +kernel) rfl
theorem k_56_61 : OkOp mt Ev 56 61 (o_iald 2) := ok_iald (by decide +kernel)
theorem k_56_62 : OkOp mt Ev 56 62 (o_iast 2 (fun x => x)) := ok_iast (by decide +kernel)
theorem k_56_63 : OkOp mt Ev 56 63 (o_aload 0 1) := ok_aload_n (k := 0) (by decide +kernel) rfl
theorem k_56_64 : OkOp mt Ev 56 64 (o_getf 10 [10]) := ok_getf (i := 36) (rf := "BridgeSentences$World") (nm := "facts") (ds := "[I") (by decide +kernel) fc_31 wd_139
theorem k_56_67 : OkOp mt Ev 56 67 (o_push (.int (5)) 1) := ok_iconst (n := 5) (by decide +kernel) (by decide +kernel)
theorem k_56_68 : OkOp mt Ev 56 68 (o_aload 0 1) := ok_aload_n (k := 0) (by decide +kernel) rfl
theorem k_56_69 : OkOp mt Ev 56 69 (o_getf 5 [10]) := ok_getf (i := 59) (rf := "BridgeSentences$World") (nm := "day") (ds := "I") (by decide +kernel) fc_35 wd_129
theorem k_56_72 : OkOp mt Ev 56 72 (o_push (.int (10)) 2) := ok_bipush (n := 10) (by decide +kernel) (by decide +kernel)
theorem k_56_74 : OkOp mt Ev 56 74 (o_ibz (fun x y => x - x / y * y)) := ok_irem (by decide +kernel)
theorem k_56_75 : OkOp mt Ev 56 75 (o_iast 2 (fun x => x)) := ok_iast (by decide +kernel)
theorem k_56_76 : OkOp mt Ev 56 76 (o_aload 0 1) := ok_aload_n (k := 0) (by decide +kernel) rfl
theorem k_56_77 : OkOp mt Ev 56 77 (o_getf 0 [10]) := ok_getf (i := 9) (rf := "BridgeSentences$World") (nm := "worths") (ds := "[I") (by decide +kernel) fc_26 wd_119
theorem k_56_80 : OkOp mt Ev 56 80 (o_iload 2 1) := ok_iload_n (k := 2) (by decide +kernel) rfl
theorem k_56_81 : OkOp mt Ev 56 81 (o_iald 2) := ok_iald (by decide +kernel)
theorem k_56_82 : OkOp mt Ev 56 82 (o_aload 0 1) := ok_aload_n (k := 0) (by decide +kernel) rfl
theorem k_56_83 : OkOp mt Ev 56 83 (o_getf 9 [10]) := ok_getf (i := 66) (rf := "BridgeSentences$World") (nm := "held") (ds := "LBridgeSentences$Bridge;") (by decide +kernel) fc_36 wd_137
theorem k_56_86 : OkOp mt Ev 56 86 (o_aload 0 1) := ok_aload_n (k := 0) (by decide +kernel) rfl
theorem k_56_87 : OkOp mt Ev 56 87 (o_getf 10 [10]) := ok_getf (i := 36) (rf := "BridgeSentences$World") (nm := "facts") (ds := "[I") (by decide +kernel) fc_31 wd_139
theorem k_56_90 : OkOp mt Ev 56 90 (o_cv [(0, 13)] 1) := ok_cv (i := 98) (by decide +kernel) vc_101
theorem k_56_93 : OkOp mt Ev 56 93 (o_ib (fun x y => x + y)) := ok_iadd (by decide +kernel)
theorem k_56_94 : OkOp mt Ev 56 94 (o_ret 0) := ok_reti (ty := .int) (by decide +kernel) rfl (Or.inl ⟨rfl, rfl⟩)
theorem kt_56 : ∀ pc o, cd_X10_sumOf Ev pc = some o → OkOp mt Ev 56 pc o ∧ Gw o := (tN_ok (tN_ok (tN_ok (tN_ok (tN_ok (tL_ok ⟨k_56_0, gw_aload⟩) (tN_ok (tL_ok ⟨k_56_1, gw_getf⟩) (tL_ok ⟨k_56_4, gw_ifnonnull⟩))) (tN_ok (tN_ok (tL_ok ⟨k_56_7, gw_aload⟩) (tL_ok ⟨k_56_8, gw_getf⟩)) (tN_ok (tL_ok ⟨k_56_11, gw_iload⟩) (tL_ok ⟨k_56_12, gw_iald⟩)))) (tN_ok (tN_ok (tL_ok ⟨k_56_13, gw_ret⟩) (tN_ok (tL_ok ⟨k_56_14, gw_aload⟩) (tL_ok ⟨k_56_15, gw_getf⟩))) (tN_ok (tN_ok (tL_ok ⟨k_56_18, gw_push⟩) (tL_ok ⟨k_56_19, gw_aload⟩)) (tN_ok (tL_ok ⟨k_56_20, gw_getf⟩) (tL_ok ⟨k_56_23, gw_iast⟩))))) (tN_ok (tN_ok (tN_ok (tL_ok ⟨k_56_24, gw_aload⟩) (tN_ok (tL_ok ⟨k_56_25, gw_getf⟩) (tL_ok ⟨k_56_28, gw_push⟩))) (tN_ok (tN_ok (tL_ok ⟨k_56_29, gw_aload⟩) (tL_ok ⟨k_56_30, gw_getf⟩)) (tN_ok (tL_ok ⟨k_56_33, gw_iast⟩) (tL_ok ⟨k_56_34, gw_aload⟩)))) (tN_ok (tN_ok (tN_ok (tL_ok ⟨k_56_35, gw_getf⟩) (tL_ok ⟨k_56_38, gw_push⟩)) (tN_ok (tL_ok ⟨k_56_39, gw_aload⟩) (tL_ok ⟨k_56_40, gw_getf⟩))) (tN_ok (tN_ok (tL_ok ⟨k_56_43, gw_iast⟩) (tL_ok ⟨k_56_44, gw_aload⟩)) (tN_ok (tL_ok ⟨k_56_45, gw_getf⟩) (tL_ok ⟨k_56_48, gw_push⟩)))))) (tN_ok (tN_ok (tN_ok (tN_ok (tL_ok ⟨k_56_49, gw_iload⟩) (tN_ok (tL_ok ⟨k_56_50, gw_iast⟩) (tL_ok ⟨k_56_51, gw_aload⟩))) (tN_ok (tN_ok (tL_ok ⟨k_56_52, gw_getf⟩) (tL_ok ⟨k_56_55, gw_push⟩)) (tN_ok (tL_ok ⟨k_56_56, gw_aload⟩) (tL_ok ⟨k_56_57, gw_getf⟩)))) (tN_ok (tN_ok (tL_ok ⟨k_56_60, gw_iload⟩) (tN_ok (tL_ok ⟨k_56_61, gw_iald⟩) (tL_ok ⟨k_56_62, gw_iast⟩))) (tN_ok (tN_ok (tL_ok ⟨k_56_63, gw_aload⟩) (tL_ok ⟨k_56_64, gw_getf⟩)) (tN_ok (tL_ok ⟨k_56_67, gw_push⟩) (tL_ok ⟨k_56_68, gw_aload⟩))))) (tN_ok (tN_ok (tN_ok (tL_ok ⟨k_56_69, gw_getf⟩) (tN_ok (tL_ok ⟨k_56_72, gw_push⟩) (tL_ok ⟨k_56_74, gw_ibz⟩))) (tN_ok (tN_ok (tL_ok ⟨k_56_75, gw_iast⟩) (tL_ok ⟨k_56_76, gw_aload⟩)) (tN_ok (tL_ok ⟨k_56_77, gw_getf⟩) (tL_ok ⟨k_56_80, gw_iload⟩)))) (tN_ok (tN_ok (tN_ok (tL_ok ⟨k_56_81, gw_iald⟩) (tL_ok ⟨k_56_82, gw_aload⟩)) (tN_ok (tL_ok ⟨k_56_83, gw_getf⟩) (tL_ok ⟨k_56_86, gw_aload⟩))) (tN_ok (tN_ok (tL_ok ⟨k_56_87, gw_getf⟩) (tL_ok ⟨k_56_90, gw_cv⟩)) (tN_ok (tL_ok ⟨k_56_93, gw_ib⟩) (tL_ok ⟨k_56_94, gw_ret⟩)))))))
theorem k_57_0 : OkOp mt Ev 57 0 (o_aload 1 1) := ok_aload_n (k := 1) (by decide +kernel) rfl
theorem k_57_1 : OkOp mt Ev 57 1 (o_iload 2 1) := ok_iload_n (k := 2) (by decide +kernel) rfl
theorem k_57_2 : OkOp mt Ev 57 2 (o_aload 0 1) := ok_aload_n (k := 0) (by decide +kernel) rfl
theorem k_57_3 : OkOp mt Ev 57 3 (o_aload 1 1) := ok_aload_n (k := 1) (by decide +kernel) rfl
theorem k_57_4 : OkOp mt Ev 57 4 (o_iload 2 1) := ok_iload_n (k := 2) (by decide +kernel) rfl
theorem k_57_5 : OkOp mt Ev 57 5 (o_cv [(10, 56)] 2) := ok_cv (i := 102) (by decide +kernel) vc_102
theorem k_57_8 : OkOp mt Ev 57 8 (o_iload 3 1) := ok_iload_n (k := 3) (by decide +kernel) rfl
theorem k_57_9 : OkOp mt Ev 57 9 (o_cv [(1, 16), (2, 19), (3, 22), (4, 26), (5, 31), (6, 35), (8, 43)] 3) := ok_cv (i := 106) (by decide +kernel) vc_103
theorem k_57_12 : OkOp mt Ev 57 12 (o_ret 0) := ok_reti (ty := .int) (by decide +kernel) rfl (Or.inl ⟨rfl, rfl⟩)
theorem kt_57 : ∀ pc o, cd_X10_urgeFor Ev pc = some o → OkOp mt Ev 57 pc o ∧ Gw o := (tN_ok (tN_ok (tN_ok (tL_ok ⟨k_57_0, gw_aload⟩) (tL_ok ⟨k_57_1, gw_iload⟩)) (tN_ok (tL_ok ⟨k_57_2, gw_aload⟩) (tL_ok ⟨k_57_3, gw_aload⟩))) (tN_ok (tN_ok (tL_ok ⟨k_57_4, gw_iload⟩) (tL_ok ⟨k_57_5, gw_cv⟩)) (tN_ok (tL_ok ⟨k_57_8, gw_iload⟩) (tN_ok (tL_ok ⟨k_57_9, gw_cv⟩) (tL_ok ⟨k_57_12, gw_ret⟩)))))
theorem k_58_0 : OkOp mt Ev 58 0 (o_iload 2 1) := ok_iload_n (k := 2) (by decide +kernel) rfl
theorem k_58_1 : OkOp mt Ev 58 1 (o_cs 195 1) := ok_cs (i := 110) (by decide +kernel) wd_403 wd_404 wd_70 wd_405 nk_13
theorem k_58_4 : OkOp mt Ev 58 4 (o_istore 3 1) := ok_istore_n (k := 3) (by decide +kernel) rfl
theorem k_58_5 : OkOp mt Ev 58 5 (o_push (.int (-1)) 1) := ok_iconst (n := -1) (by decide +kernel) (by decide +kernel)
theorem k_58_6 : OkOp mt Ev 58 6 (o_istore 4 2) := ok_istore (by decide +kernel)
theorem k_58_8 : OkOp mt Ev 58 8 (o_push (.int (0)) 1) := ok_iconst (n := 0) (by decide +kernel) (by decide +kernel)
theorem k_58_9 : OkOp mt Ev 58 9 (o_istore 5 2) := ok_istore (by decide +kernel)
theorem k_58_11 : OkOp mt Ev 58 11 (o_push (.int (0)) 1) := ok_iconst (n := 0) (by decide +kernel) (by decide +kernel)
theorem k_58_12 : OkOp mt Ev 58 12 (o_istore 6 2) := ok_istore (by decide +kernel)
theorem k_58_14 : OkOp mt Ev 58 14 (o_iload 6 2) := ok_iload (by decide +kernel)
theorem k_58_16 : OkOp mt Ev 58 16 (o_push (.int (12)) 2) := ok_bipush (n := 12) (by decide +kernel) (by decide +kernel)
theorem k_58_18 : OkOp mt Ev 58 18 (o_if2 (fun x y => decide (y ≤ x)) 68) := ok_icmp_ge (off := 50) (by decide +kernel) (by decide +kernel)
theorem k_58_21 : OkOp mt Ev 58 21 (o_iload 2 1) := ok_iload_n (k := 2) (by decide +kernel) rfl
theorem k_58_22 : OkOp mt Ev 58 22 (o_iload 6 2) := ok_iload (by decide +kernel)
theorem k_58_24 : OkOp mt Ev 58 24 (o_ib (fun x y => x >>> (y &&& 31))) := ok_ishr (by decide +kernel)
theorem k_58_25 : OkOp mt Ev 58 25 (o_push (.int (1)) 1) := ok_iconst (n := 1) (by decide +kernel) (by decide +kernel)
theorem k_58_26 : OkOp mt Ev 58 26 (o_ib (fun x y => x &&& y)) := ok_iand (by decide +kernel)
theorem k_58_27 : OkOp mt Ev 58 27 (o_push (.int (1)) 1) := ok_iconst (n := 1) (by decide +kernel) (by decide +kernel)
theorem k_58_28 : OkOp mt Ev 58 28 (o_if2 (fun x y => decide (¬ x = y)) 62) := ok_icmp_ne (off := 34) (by decide +kernel) (by decide +kernel)
theorem k_58_31 : OkOp mt Ev 58 31 (o_aload 1 1) := ok_aload_n (k := 1) (by decide +kernel) rfl
theorem k_58_32 : OkOp mt Ev 58 32 (o_iload 6 2) := ok_iload (by decide +kernel)
theorem k_58_34 : OkOp mt Ev 58 34 (o_aload 0 1) := ok_aload_n (k := 0) (by decide +kernel) rfl
theorem k_58_35 : OkOp mt Ev 58 35 (o_aload 1 1) := ok_aload_n (k := 1) (by decide +kernel) rfl
theorem k_58_36 : OkOp mt Ev 58 36 (o_iload 6 2) := ok_iload (by decide +kernel)
theorem k_58_38 : OkOp mt Ev 58 38 (o_cv [(10, 56)] 2) := ok_cv (i := 102) (by decide +kernel) vc_102
theorem k_58_41 : OkOp mt Ev 58 41 (o_iload 3 1) := ok_iload_n (k := 3) (by decide +kernel) rfl
theorem k_58_42 : OkOp mt Ev 58 42 (o_cv [(1, 16), (2, 19), (3, 22), (4, 26), (5, 31), (6, 35), (8, 43)] 3) := ok_cv (i := 106) (by decide +kernel) vc_103
theorem k_58_45 : OkOp mt Ev 58 45 (o_istore 7 2) := ok_istore (by decide +kernel)
theorem k_58_47 : OkOp mt Ev 58 47 (o_iload 7 2) := ok_iload (by decide +kernel)
theorem k_58_49 : OkOp mt Ev 58 49 (o_iload 5 2) := ok_iload (by decide +kernel)
theorem k_58_51 : OkOp mt Ev 58 51 (o_if2 (fun x y => decide (x ≤ y)) 62) := ok_icmp_le (off := 11) (by decide +kernel) (by decide +kernel)
theorem k_58_54 : OkOp mt Ev 58 54 (o_iload 7 2) := ok_iload (by decide +kernel)
theorem k_58_56 : OkOp mt Ev 58 56 (o_istore 5 2) := ok_istore (by decide +kernel)
theorem k_58_58 : OkOp mt Ev 58 58 (o_iload 6 2) := ok_iload (by decide +kernel)
theorem k_58_60 : OkOp mt Ev 58 60 (o_istore 4 2) := ok_istore (by decide +kernel)
theorem k_58_62 : OkOp mt Ev 58 62 (o_iinc 6 (1)) := ok_iinc (n := 1) (by decide +kernel) (by decide +kernel)
theorem k_58_65 : OkOp mt Ev 58 65 (o_goto 14) := ok_goto (off := -51) (by decide +kernel) (by decide +kernel)
theorem k_58_68 : OkOp mt Ev 58 68 (o_iload 4 2) := ok_iload (by decide +kernel)
theorem k_58_70 : OkOp mt Ev 58 70 (o_ret 0) := ok_reti (ty := .int) (by decide +kernel) rfl (Or.inl ⟨rfl, rfl⟩)
theorem kt_58 : ∀ pc o, cd_X10_tipOf Ev pc = some o → OkOp mt Ev 58 pc o ∧ Gw o := (tN_ok (tN_ok (tN_ok (tN_ok (tN_ok (tL_ok ⟨k_58_0, gw_iload⟩) (tL_ok ⟨k_58_1, gw_cs⟩)) (tN_ok (tL_ok ⟨k_58_4, gw_istore⟩) (tL_ok ⟨k_58_5, gw_push⟩))) (tN_ok (tN_ok (tL_ok ⟨k_58_6, gw_istore⟩) (tL_ok ⟨k_58_8, gw_push⟩)) (tN_ok (tL_ok ⟨k_58_9, gw_istore⟩) (tN_ok (tL_ok ⟨k_58_11, gw_push⟩) (tL_ok ⟨k_58_12, gw_istore⟩))))) (tN_ok (tN_ok (tN_ok (tL_ok ⟨k_58_14, gw_iload⟩) (tL_ok ⟨k_58_16, gw_push⟩)) (tN_ok (tL_ok ⟨k_58_18, gw_if2⟩) (tN_ok (tL_ok ⟨k_58_21, gw_iload⟩) (tL_ok ⟨k_58_22, gw_iload⟩)))) (tN_ok (tN_ok (tL_ok ⟨k_58_24, gw_ib⟩) (tL_ok ⟨k_58_25, gw_push⟩)) (tN_ok (tL_ok ⟨k_58_26, gw_ib⟩) (tN_ok (tL_ok ⟨k_58_27, gw_push⟩) (tL_ok ⟨k_58_28, gw_if2⟩)))))) (tN_ok (tN_ok (tN_ok (tN_ok (tL_ok ⟨k_58_31, gw_aload⟩) (tL_ok ⟨k_58_32, gw_iload⟩)) (tN_ok (tL_ok ⟨k_58_34, gw_aload⟩) (tN_ok (tL_ok ⟨k_58_35, gw_aload⟩) (tL_ok ⟨k_58_36, gw_iload⟩)))) (tN_ok (tN_ok (tL_ok ⟨k_58_38, gw_cv⟩) (tL_ok ⟨k_58_41, gw_iload⟩)) (tN_ok (tL_ok ⟨k_58_42, gw_cv⟩) (tN_ok (tL_ok ⟨k_58_45, gw_istore⟩) (tL_ok ⟨k_58_47, gw_iload⟩))))) (tN_ok (tN_ok (tN_ok (tL_ok ⟨k_58_49, gw_iload⟩) (tL_ok ⟨k_58_51, gw_if2⟩)) (tN_ok (tL_ok ⟨k_58_54, gw_iload⟩) (tN_ok (tL_ok ⟨k_58_56, gw_istore⟩) (tL_ok ⟨k_58_58, gw_iload⟩)))) (tN_ok (tN_ok (tL_ok ⟨k_58_60, gw_istore⟩) (tL_ok ⟨k_58_62, gw_iinc⟩)) (tN_ok (tL_ok ⟨k_58_65, gw_goto⟩) (tN_ok (tL_ok ⟨k_58_68, gw_iload⟩) (tL_ok ⟨k_58_70, gw_ret⟩)))))))
theorem k_59_0 : OkOp mt Ev 59 0 (o_push (.int (0)) 1) := ok_iconst (n := 0) (by decide +kernel) (by decide +kernel)
theorem k_59_1 : OkOp mt Ev 59 1 (o_istore 3 1) := ok_istore_n (k := 3) (by decide +kernel) rfl
theorem k_59_2 : OkOp mt Ev 59 2 (o_iload 3 1) := ok_iload_n (k := 3) (by decide +kernel) rfl
theorem k_59_3 : OkOp mt Ev 59 3 (o_iload 1 1) := ok_iload_n (k := 1) (by decide +kernel) rfl
theorem k_59_4 : OkOp mt Ev 59 4 (o_if2 (fun x y => decide (y ≤ x)) 18) := ok_icmp_ge (off := 14) (by decide +kernel) (by decide +kernel)
theorem k_59_7 : OkOp mt Ev 59 7 (o_aload 0 1) := ok_aload_n (k := 0) (by decide +kernel) rfl
theorem k_59_8 : OkOp mt Ev 59 8 (o_iload 2 1) := ok_iload_n (k := 2) (by decide +kernel) rfl
theorem k_59_9 : OkOp mt Ev 59 9 (o_cv [(10, 60)] 1) := ok_cv (i := 116) (by decide +kernel) vc_104
theorem k_59_12 : OkOp mt Ev 59 12 (o_iinc 3 (1)) := ok_iinc (n := 1) (by decide +kernel) (by decide +kernel)
theorem k_59_15 : OkOp mt Ev 59 15 (o_goto 2) := ok_goto (off := -13) (by decide +kernel) (by decide +kernel)
theorem k_59_18 : OkOp mt Ev 59 18 (o_retv) := ok_retv (by decide +kernel) rfl
theorem kt_59 : ∀ pc o, cd_X10_goDays Ev pc = some o → OkOp mt Ev 59 pc o ∧ Gw o := (tN_ok (tN_ok (tN_ok (tL_ok ⟨k_59_0, gw_push⟩) (tL_ok ⟨k_59_1, gw_istore⟩)) (tN_ok (tL_ok ⟨k_59_2, gw_iload⟩) (tN_ok (tL_ok ⟨k_59_3, gw_iload⟩) (tL_ok ⟨k_59_4, gw_if2⟩)))) (tN_ok (tN_ok (tL_ok ⟨k_59_7, gw_aload⟩) (tN_ok (tL_ok ⟨k_59_8, gw_iload⟩) (tL_ok ⟨k_59_9, gw_cv⟩))) (tN_ok (tL_ok ⟨k_59_12, gw_iinc⟩) (tN_ok (tL_ok ⟨k_59_15, gw_goto⟩) (tL_ok ⟨k_59_18, gw_retv⟩)))))
theorem k_60_0 : OkOp mt Ev 60 0 (o_push (.int (0)) 1) := ok_iconst (n := 0) (by decide +kernel) (by decide +kernel)
theorem k_60_1 : OkOp mt Ev 60 1 (o_istore 2 1) := ok_istore_n (k := 2) (by decide +kernel) rfl
theorem k_60_2 : OkOp mt Ev 60 2 (o_iload 2 1) := ok_iload_n (k := 2) (by decide +kernel) rfl
theorem k_60_3 : OkOp mt Ev 60 3 (o_aload 0 1) := ok_aload_n (k := 0) (by decide +kernel) rfl
theorem k_60_4 : OkOp mt Ev 60 4 (o_getf 2 [10]) := ok_getf (i := 45) (rf := "BridgeSentences$World") (nm := "count") (ds := "I") (by decide +kernel) fc_32 wd_123
theorem k_60_7 : OkOp mt Ev 60 7 (o_if2 (fun x y => decide (y ≤ x)) 36) := ok_icmp_ge (off := 29) (by decide +kernel) (by decide +kernel)
theorem k_60_10 : OkOp mt Ev 60 10 (o_aload 0 1) := ok_aload_n (k := 0) (by decide +kernel) rfl
theorem k_60_11 : OkOp mt Ev 60 11 (o_getf 1 [10]) := ok_getf (i := 17) (rf := "BridgeSentences$World") (nm := "people") (ds := "[LBridgeSentences$One;") (by decide +kernel) fc_27 wd_121
theorem k_60_14 : OkOp mt Ev 60 14 (o_iload 2 1) := ok_iload_n (k := 2) (by decide +kernel) rfl
theorem k_60_15 : OkOp mt Ev 60 15 (o_aald) := ok_aald (by decide +kernel)
theorem k_60_16 : OkOp mt Ev 60 16 (o_ifnull 30) := ok_ifnull (off := 14) (by decide +kernel) (by decide +kernel)
theorem k_60_19 : OkOp mt Ev 60 19 (o_aload 0 1) := ok_aload_n (k := 0) (by decide +kernel) rfl
theorem k_60_20 : OkOp mt Ev 60 20 (o_aload 0 1) := ok_aload_n (k := 0) (by decide +kernel) rfl
theorem k_60_21 : OkOp mt Ev 60 21 (o_getf 1 [10]) := ok_getf (i := 17) (rf := "BridgeSentences$World") (nm := "people") (ds := "[LBridgeSentences$One;") (by decide +kernel) fc_27 wd_121
theorem k_60_24 : OkOp mt Ev 60 24 (o_iload 2 1) := ok_iload_n (k := 2) (by decide +kernel) rfl
theorem k_60_25 : OkOp mt Ev 60 25 (o_aald) := ok_aald (by decide +kernel)
theorem k_60_26 : OkOp mt Ev 60 26 (o_iload 1 1) := ok_iload_n (k := 1) (by decide +kernel) rfl
theorem k_60_27 : OkOp mt Ev 60 27 (o_cv [(10, 61)] 2) := ok_cv (i := 119) (by decide +kernel) vc_105
theorem k_60_30 : OkOp mt Ev 60 30 (o_iinc 2 (1)) := ok_iinc (n := 1) (by decide +kernel) (by decide +kernel)
theorem k_60_33 : OkOp mt Ev 60 33 (o_goto 2) := ok_goto (off := -31) (by decide +kernel) (by decide +kernel)
theorem k_60_36 : OkOp mt Ev 60 36 (o_aload 0 1) := ok_aload_n (k := 0) (by decide +kernel) rfl
theorem k_60_37 : OkOp mt Ev 60 37 (o_cv [(10, 52)] 0) := ok_cv (i := 122) (by decide +kernel) vc_106
theorem k_60_40 : OkOp mt Ev 60 40 (o_istore 2 1) := ok_istore_n (k := 2) (by decide +kernel) rfl
theorem k_60_41 : OkOp mt Ev 60 41 (o_iload 2 1) := ok_iload_n (k := 2) (by decide +kernel) rfl
theorem k_60_42 : OkOp mt Ev 60 42 (o_if1 (fun x => decide (x ≤ 0)) 68) := ok_if_le (off := 26) (by decide +kernel) (by decide +kernel)
theorem k_60_45 : OkOp mt Ev 60 45 (o_aload 0 1) := ok_aload_n (k := 0) (by decide +kernel) rfl
theorem k_60_46 : OkOp mt Ev 60 46 (o_getf 5 [10]) := ok_getf (i := 59) (rf := "BridgeSentences$World") (nm := "day") (ds := "I") (by decide +kernel) fc_35 wd_129
theorem k_60_49 : OkOp mt Ev 60 49 (o_iload 2 1) := ok_iload_n (k := 2) (by decide +kernel) rfl
theorem k_60_50 : OkOp mt Ev 60 50 (o_ibz (fun x y => x - x / y * y)) := ok_irem (by decide +kernel)
theorem k_60_51 : OkOp mt Ev 60 51 (o_if1 (fun x => decide (¬ x = 0)) 68) := ok_if_ne (off := 17) (by decide +kernel) (by decide +kernel)
theorem k_60_54 : OkOp mt Ev 60 54 (o_aload 0 1) := ok_aload_n (k := 0) (by decide +kernel) rfl
theorem k_60_55 : OkOp mt Ev 60 55 (o_aload 0 1) := ok_aload_n (k := 0) (by decide +kernel) rfl
theorem k_60_56 : OkOp mt Ev 60 56 (o_getf 3 [10]) := ok_getf (i := 53) (rf := "BridgeSentences$World") (nm := "takenSet") (ds := "I") (by decide +kernel) fc_33 wd_125
theorem k_60_59 : OkOp mt Ev 60 59 (o_aload 0 1) := ok_aload_n (k := 0) (by decide +kernel) rfl
theorem k_60_60 : OkOp mt Ev 60 60 (o_getf 3 [10]) := ok_getf (i := 53) (rf := "BridgeSentences$World") (nm := "takenSet") (ds := "I") (by decide +kernel) fc_33 wd_125
theorem k_60_63 : OkOp mt Ev 60 63 (o_iu (fun x => -x)) := ok_ineg (by decide +kernel)
theorem k_60_64 : OkOp mt Ev 60 64 (o_ib (fun x y => x &&& y)) := ok_iand (by decide +kernel)
theorem k_60_65 : OkOp mt Ev 60 65 (o_cv [(10, 62)] 1) := ok_cv (i := 126) (by decide +kernel) vc_107
theorem k_60_68 : OkOp mt Ev 60 68 (o_aload 0 1) := ok_aload_n (k := 0) (by decide +kernel) rfl
theorem k_60_69 : OkOp mt Ev 60 69 (o_dup) := ok_dup (by decide +kernel)
theorem k_60_70 : OkOp mt Ev 60 70 (o_getf 5 [10]) := ok_getf (i := 59) (rf := "BridgeSentences$World") (nm := "day") (ds := "I") (by decide +kernel) fc_35 wd_129
theorem k_60_73 : OkOp mt Ev 60 73 (o_push (.int (1)) 1) := ok_iconst (n := 1) (by decide +kernel) (by decide +kernel)
theorem k_60_74 : OkOp mt Ev 60 74 (o_ib (fun x y => x + y)) := ok_iadd (by decide +kernel)
theorem k_60_75 : OkOp mt Ev 60 75 (o_putf 5 [10] 0) := ok_putf (i := 59) (rf := "BridgeSentences$World") (nm := "day") (ds := "I") (ty := .int) (fin := false) (by decide +kernel) fc_35 wd_129 (tc_10) ff_29 (by decide) (by decide +kernel) ov_int
theorem k_60_78 : OkOp mt Ev 60 78 (o_retv) := ok_retv (by decide +kernel) rfl
theorem kt_60 : ∀ pc o, cd_X10_goDay Ev pc = some o → OkOp mt Ev 60 pc o ∧ Gw o := (tN_ok (tN_ok (tN_ok (tN_ok (tN_ok (tL_ok ⟨k_60_0, gw_push⟩) (tL_ok ⟨k_60_1, gw_istore⟩)) (tN_ok (tL_ok ⟨k_60_2, gw_iload⟩) (tN_ok (tL_ok ⟨k_60_3, gw_aload⟩) (tL_ok ⟨k_60_4, gw_getf⟩)))) (tN_ok (tN_ok (tL_ok ⟨k_60_7, gw_if2⟩) (tN_ok (tL_ok ⟨k_60_10, gw_aload⟩) (tL_ok ⟨k_60_11, gw_getf⟩))) (tN_ok (tL_ok ⟨k_60_14, gw_iload⟩) (tN_ok (tL_ok ⟨k_60_15, gw_aald⟩) (tL_ok ⟨k_60_16, gw_ifnull⟩))))) (tN_ok (tN_ok (tN_ok (tL_ok ⟨k_60_19, gw_aload⟩) (tL_ok ⟨k_60_20, gw_aload⟩)) (tN_ok (tL_ok ⟨k_60_21, gw_getf⟩) (tN_ok (tL_ok ⟨k_60_24, gw_iload⟩) (tL_ok ⟨k_60_25, gw_aald⟩)))) (tN_ok (tN_ok (tL_ok ⟨k_60_26, gw_iload⟩) (tN_ok (tL_ok ⟨k_60_27, gw_cv⟩) (tL_ok ⟨k_60_30, gw_iinc⟩))) (tN_ok (tL_ok ⟨k_60_33, gw_goto⟩) (tN_ok (tL_ok ⟨k_60_36, gw_aload⟩) (tL_ok ⟨k_60_37, gw_cv⟩)))))) (tN_ok (tN_ok (tN_ok (tN_ok (tL_ok ⟨k_60_40, gw_istore⟩) (tL_ok ⟨k_60_41, gw_iload⟩)) (tN_ok (tL_ok ⟨k_60_42, gw_if1⟩) (tN_ok (tL_ok ⟨k_60_45, gw_aload⟩) (tL_ok ⟨k_60_46, gw_getf⟩)))) (tN_ok (tN_ok (tL_ok ⟨k_60_49, gw_iload⟩) (tN_ok (tL_ok ⟨k_60_50, gw_ibz⟩) (tL_ok ⟨k_60_51, gw_if1⟩))) (tN_ok (tL_ok ⟨k_60_54, gw_aload⟩) (tN_ok (tL_ok ⟨k_60_55, gw_aload⟩) (tL_ok ⟨k_60_56, gw_getf⟩))))) (tN_ok (tN_ok (tN_ok (tL_ok ⟨k_60_59, gw_aload⟩) (tN_ok (tL_ok ⟨k_60_60, gw_getf⟩) (tL_ok ⟨k_60_63, gw_iu⟩))) (tN_ok (tL_ok ⟨k_60_64, gw_ib⟩) (tN_ok (tL_ok ⟨k_60_65, gw_cv⟩) (tL_ok ⟨k_60_68, gw_aload⟩)))) (tN_ok (tN_ok (tL_ok ⟨k_60_69, gw_dup⟩) (tN_ok (tL_ok ⟨k_60_70, gw_getf⟩) (tL_ok ⟨k_60_73, gw_push⟩))) (tN_ok (tL_ok ⟨k_60_74, gw_ib⟩) (tN_ok (tL_ok ⟨k_60_75, gw_putf⟩) (tL_ok ⟨k_60_78, gw_retv⟩)))))))
theorem k_61_0 : OkOp mt Ev 61 0 (o_aload 0 1) := ok_aload_n (k := 0) (by decide +kernel) rfl
theorem k_61_1 : OkOp mt Ev 61 1 (o_aload 1 1) := ok_aload_n (k := 1) (by decide +kernel) rfl
theorem k_61_2 : OkOp mt Ev 61 2 (o_aload 1 1) := ok_aload_n (k := 1) (by decide +kernel) rfl
theorem k_61_3 : OkOp mt Ev 61 3 (o_getf 3 [1, 2, 3, 4, 5, 6, 8]) := ok_getf (i := 129) (rf := "BridgeSentences$One") (nm := "has") (ds := "I") (by decide +kernel) fc_14 wd_288
theorem k_61_6 : OkOp mt Ev 61 6 (o_cv [(10, 58)] 2) := ok_cv (i := 132) (by decide +kernel) vc_108
theorem k_61_9 : OkOp mt Ev 61 9 (o_istore 3 1) := ok_istore_n (k := 3) (by decide +kernel) rfl
theorem k_61_10 : OkOp mt Ev 61 10 (o_iload 3 1) := ok_iload_n (k := 3) (by decide +kernel) rfl
theorem k_61_11 : OkOp mt Ev 61 11 (o_if1 (fun x => decide (0 ≤ x)) 40) := ok_if_ge (off := 29) (by decide +kernel) (by decide +kernel)
theorem k_61_14 : OkOp mt Ev 61 14 (o_aload 1 1) := ok_aload_n (k := 1) (by decide +kernel) rfl
theorem k_61_15 : OkOp mt Ev 61 15 (o_getf 4 [1, 2, 3, 4, 5, 6, 8]) := ok_getf (i := 85) (rf := "BridgeSentences$One") (nm := "isBeyond") (ds := "Z") (by decide +kernel) fc_15 wd_293
theorem k_61_18 : OkOp mt Ev 61 18 (o_if1 (fun x => decide (¬ x = 0)) 39) := ok_if_ne (off := 21) (by decide +kernel) (by decide +kernel)
theorem k_61_21 : OkOp mt Ev 61 21 (o_aload 1 1) := ok_aload_n (k := 1) (by decide +kernel) rfl
theorem k_61_22 : OkOp mt Ev 61 22 (o_getf 5 [1, 2, 3, 4, 5, 6, 8]) := ok_getf (i := 89) (rf := "BridgeSentences$One") (nm := "back") (ds := "I") (by decide +kernel) fc_16 wd_298
theorem k_61_25 : OkOp mt Ev 61 25 (o_iload 2 1) := ok_iload_n (k := 2) (by decide +kernel) rfl
theorem k_61_26 : OkOp mt Ev 61 26 (o_if2 (fun x y => decide (y ≤ x)) 39) := ok_icmp_ge (off := 13) (by decide +kernel) (by decide +kernel)
theorem k_61_29 : OkOp mt Ev 61 29 (o_aload 1 1) := ok_aload_n (k := 1) (by decide +kernel) rfl
theorem k_61_30 : OkOp mt Ev 61 30 (o_dup) := ok_dup (by decide +kernel)
theorem k_61_31 : OkOp mt Ev 61 31 (o_getf 5 [1, 2, 3, 4, 5, 6, 8]) := ok_getf (i := 89) (rf := "BridgeSentences$One") (nm := "back") (ds := "I") (by decide +kernel) fc_16 wd_298
theorem k_61_34 : OkOp mt Ev 61 34 (o_push (.int (1)) 1) := ok_iconst (n := 1) (by decide +kernel) (by decide +kernel)
theorem k_61_35 : OkOp mt Ev 61 35 (o_ib (fun x y => x + y)) := ok_iadd (by decide +kernel)
theorem k_61_36 : OkOp mt Ev 61 36 (o_putf 5 [1, 2, 3, 4, 5, 6, 8] 0) := ok_putf (i := 89) (rf := "BridgeSentences$One") (nm := "back") (ds := "I") (ty := .int) (fin := false) (by decide +kernel) fc_16 wd_298 (tc_1_2_3_4_5_6_8) ff_31 (by decide) (by decide +kernel) ov_int
theorem k_61_39 : OkOp mt Ev 61 39 (o_retv) := ok_retv (by decide +kernel) rfl
theorem k_61_40 : OkOp mt Ev 61 40 (o_push (.int (1)) 1) := ok_iconst (n := 1) (by decide +kernel) (by decide +kernel)
theorem k_61_41 : OkOp mt Ev 61 41 (o_iload 3 1) := ok_iload_n (k := 3) (by decide +kernel) rfl
theorem k_61_42 : OkOp mt Ev 61 42 (o_ib (fun x y => x <<< (y &&& 31))) := ok_ishl (by decide +kernel)
theorem k_61_43 : OkOp mt Ev 61 43 (o_istore 4 2) := ok_istore (by decide +kernel)
theorem k_61_45 : OkOp mt Ev 61 45 (o_aload 1 1) := ok_aload_n (k := 1) (by decide +kernel) rfl
theorem k_61_46 : OkOp mt Ev 61 46 (o_dup) := ok_dup (by decide +kernel)
theorem k_61_47 : OkOp mt Ev 61 47 (o_getf 3 [1, 2, 3, 4, 5, 6, 8]) := ok_getf (i := 129) (rf := "BridgeSentences$One") (nm := "has") (ds := "I") (by decide +kernel) fc_14 wd_288
theorem k_61_50 : OkOp mt Ev 61 50 (o_iload 4 2) := ok_iload (by decide +kernel)
theorem k_61_52 : OkOp mt Ev 61 52 (o_push (.int (-1)) 1) := ok_iconst (n := -1) (by decide +kernel) (by decide +kernel)
theorem k_61_53 : OkOp mt Ev 61 53 (o_ib (fun x y => x ^^^ y)) := ok_ixor (by decide +kernel)
theorem k_61_54 : OkOp mt Ev 61 54 (o_ib (fun x y => x &&& y)) := ok_iand (by decide +kernel)
theorem k_61_55 : OkOp mt Ev 61 55 (o_putf 3 [1, 2, 3, 4, 5, 6, 8] 0) := ok_putf (i := 129) (rf := "BridgeSentences$One") (nm := "has") (ds := "I") (ty := .int) (fin := false) (by decide +kernel) fc_14 wd_288 (tc_1_2_3_4_5_6_8) ff_32 (by decide) (by decide +kernel) ov_int
theorem k_61_58 : OkOp mt Ev 61 58 (o_aload 1 1) := ok_aload_n (k := 1) (by decide +kernel) rfl
theorem k_61_59 : OkOp mt Ev 61 59 (o_getf 4 [1, 2, 3, 4, 5, 6, 8]) := ok_getf (i := 85) (rf := "BridgeSentences$One") (nm := "isBeyond") (ds := "Z") (by decide +kernel) fc_15 wd_293
theorem k_61_62 : OkOp mt Ev 61 62 (o_if1 (fun x => decide (x = 0)) 79) := ok_if_eq (off := 17) (by decide +kernel) (by decide +kernel)
theorem k_61_65 : OkOp mt Ev 61 65 (o_aload 0 1) := ok_aload_n (k := 0) (by decide +kernel) rfl
theorem k_61_66 : OkOp mt Ev 61 66 (o_dup) := ok_dup (by decide +kernel)
theorem k_61_67 : OkOp mt Ev 61 67 (o_getf 4 [10]) := ok_getf (i := 56) (rf := "BridgeSentences$World") (nm := "heardSet") (ds := "I") (by decide +kernel) fc_34 wd_127
theorem k_61_70 : OkOp mt Ev 61 70 (o_iload 4 2) := ok_iload (by decide +kernel)
theorem k_61_72 : OkOp mt Ev 61 72 (o_ib (fun x y => x ||| y)) := ok_ior (by decide +kernel)
theorem k_61_73 : OkOp mt Ev 61 73 (o_putf 4 [10] 0) := ok_putf (i := 56) (rf := "BridgeSentences$World") (nm := "heardSet") (ds := "I") (ty := .int) (fin := false) (by decide +kernel) fc_34 wd_127 (tc_10) ff_28 (by decide) (by decide +kernel) ov_int
theorem k_61_76 : OkOp mt Ev 61 76 (o_goto 95) := ok_goto (off := 19) (by decide +kernel) (by decide +kernel)
theorem k_61_79 : OkOp mt Ev 61 79 (o_aload 0 1) := ok_aload_n (k := 0) (by decide +kernel) rfl
theorem k_61_80 : OkOp mt Ev 61 80 (o_dup) := ok_dup (by decide +kernel)
theorem k_61_81 : OkOp mt Ev 61 81 (o_getf 3 [10]) := ok_getf (i := 53) (rf := "BridgeSentences$World") (nm := "takenSet") (ds := "I") (by decide +kernel) fc_33 wd_125
theorem k_61_84 : OkOp mt Ev 61 84 (o_iload 4 2) := ok_iload (by decide +kernel)
theorem k_61_86 : OkOp mt Ev 61 86 (o_ib (fun x y => x ||| y)) := ok_ior (by decide +kernel)
theorem k_61_87 : OkOp mt Ev 61 87 (o_putf 3 [10] 0) := ok_putf (i := 53) (rf := "BridgeSentences$World") (nm := "takenSet") (ds := "I") (ty := .int) (fin := false) (by decide +kernel) fc_33 wd_125 (tc_10) ff_27 (by decide) (by decide +kernel) ov_int
theorem k_61_90 : OkOp mt Ev 61 90 (o_aload 1 1) := ok_aload_n (k := 1) (by decide +kernel) rfl
theorem k_61_91 : OkOp mt Ev 61 91 (o_push (.int (1)) 1) := ok_iconst (n := 1) (by decide +kernel) (by decide +kernel)
theorem k_61_92 : OkOp mt Ev 61 92 (o_putf 4 [1, 2, 3, 4, 5, 6, 8] 1) := ok_putf (i := 85) (rf := "BridgeSentences$One") (nm := "isBeyond") (ds := "Z") (ty := .boolean) (fin := false) (by decide +kernel) fc_15 wd_293 (tc_1_2_3_4_5_6_8) ff_33 (by decide) (by decide +kernel) ov_bool
theorem k_61_95 : OkOp mt Ev 61 95 (o_retv) := ok_retv (by decide +kernel) rfl
theorem kt_61 : ∀ pc o, cd_X10_goOne Ev pc = some o → OkOp mt Ev 61 pc o ∧ Gw o := (tN_ok (tN_ok (tN_ok (tN_ok (tN_ok (tL_ok ⟨k_61_0, gw_aload⟩) (tN_ok (tL_ok ⟨k_61_1, gw_aload⟩) (tL_ok ⟨k_61_2, gw_aload⟩))) (tN_ok (tL_ok ⟨k_61_3, gw_getf⟩) (tN_ok (tL_ok ⟨k_61_6, gw_cv⟩) (tL_ok ⟨k_61_9, gw_istore⟩)))) (tN_ok (tN_ok (tL_ok ⟨k_61_10, gw_iload⟩) (tN_ok (tL_ok ⟨k_61_11, gw_if1⟩) (tL_ok ⟨k_61_14, gw_aload⟩))) (tN_ok (tN_ok (tL_ok ⟨k_61_15, gw_getf⟩) (tL_ok ⟨k_61_18, gw_if1⟩)) (tN_ok (tL_ok ⟨k_61_21, gw_aload⟩) (tL_ok ⟨k_61_22, gw_getf⟩))))) (tN_ok (tN_ok (tN_ok (tL_ok ⟨k_61_25, gw_iload⟩) (tN_ok (tL_ok ⟨k_61_26, gw_if2⟩) (tL_ok ⟨k_61_29, gw_aload⟩))) (tN_ok (tN_ok (tL_ok ⟨k_61_30, gw_dup⟩) (tL_ok ⟨k_61_31, gw_getf⟩)) (tN_ok (tL_ok ⟨k_61_34, gw_push⟩) (tL_ok ⟨k_61_35, gw_ib⟩)))) (tN_ok (tN_ok (tL_ok ⟨k_61_36, gw_putf⟩) (tN_ok (tL_ok ⟨k_61_39, gw_retv⟩) (tL_ok ⟨k_61_40, gw_push⟩))) (tN_ok (tN_ok (tL_ok ⟨k_61_41, gw_iload⟩) (tL_ok ⟨k_61_42, gw_ib⟩)) (tN_ok (tL_ok ⟨k_61_43, gw_istore⟩) (tL_ok ⟨k_61_45, gw_aload⟩)))))) (tN_ok (tN_ok (tN_ok (tN_ok (tL_ok ⟨k_61_46, gw_dup⟩) (tN_ok (tL_ok ⟨k_61_47, gw_getf⟩) (tL_ok ⟨k_61_50, gw_iload⟩))) (tN_ok (tL_ok ⟨k_61_52, gw_push⟩) (tN_ok (tL_ok ⟨k_61_53, gw_ib⟩) (tL_ok ⟨k_61_54, gw_ib⟩)))) (tN_ok (tN_ok (tL_ok ⟨k_61_55, gw_putf⟩) (tN_ok (tL_ok ⟨k_61_58, gw_aload⟩) (tL_ok ⟨k_61_59, gw_getf⟩))) (tN_ok (tN_ok (tL_ok ⟨k_61_62, gw_if1⟩) (tL_ok ⟨k_61_65, gw_aload⟩)) (tN_ok (tL_ok ⟨k_61_66, gw_dup⟩) (tL_ok ⟨k_61_67, gw_getf⟩))))) (tN_ok (tN_ok (tN_ok (tL_ok ⟨k_61_70, gw_iload⟩) (tN_ok (tL_ok ⟨k_61_72, gw_ib⟩) (tL_ok ⟨k_61_73, gw_putf⟩))) (tN_ok (tN_ok (tL_ok ⟨k_61_76, gw_goto⟩) (tL_ok ⟨k_61_79, gw_aload⟩)) (tN_ok (tL_ok ⟨k_61_80, gw_dup⟩) (tL_ok ⟨k_61_81, gw_getf⟩)))) (tN_ok (tN_ok (tL_ok ⟨k_61_84, gw_iload⟩) (tN_ok (tL_ok ⟨k_61_86, gw_ib⟩) (tL_ok ⟨k_61_87, gw_putf⟩))) (tN_ok (tN_ok (tL_ok ⟨k_61_90, gw_aload⟩) (tL_ok ⟨k_61_91, gw_push⟩)) (tN_ok (tL_ok ⟨k_61_92, gw_putf⟩) (tL_ok ⟨k_61_95, gw_retv⟩)))))))
theorem k_62_0 : OkOp mt Ev 62 0 (o_aload 0 1) := ok_aload_n (k := 0) (by decide +kernel) rfl
theorem k_62_1 : OkOp mt Ev 62 1 (o_dup) := ok_dup (by decide +kernel)
theorem k_62_2 : OkOp mt Ev 62 2 (o_getf 4 [10]) := ok_getf (i := 56) (rf := "BridgeSentences$World") (nm := "heardSet") (ds := "I") (by decide +kernel) fc_34 wd_127
theorem k_62_5 : OkOp mt Ev 62 5 (o_iload 1 1) := ok_iload_n (k := 1) (by decide +kernel) rfl
theorem k_62_6 : OkOp mt Ev 62 6 (o_ib (fun x y => x ||| y)) := ok_ior (by decide +kernel)
theorem k_62_7 : OkOp mt Ev 62 7 (o_putf 4 [10] 0) := ok_putf (i := 56) (rf := "BridgeSentences$World") (nm := "heardSet") (ds := "I") (ty := .int) (fin := false) (by decide +kernel) fc_34 wd_127 (tc_10) ff_28 (by decide) (by decide +kernel) ov_int
theorem k_62_10 : OkOp mt Ev 62 10 (o_aload 0 1) := ok_aload_n (k := 0) (by decide +kernel) rfl
theorem k_62_11 : OkOp mt Ev 62 11 (o_dup) := ok_dup (by decide +kernel)
theorem k_62_12 : OkOp mt Ev 62 12 (o_getf 3 [10]) := ok_getf (i := 53) (rf := "BridgeSentences$World") (nm := "takenSet") (ds := "I") (by decide +kernel) fc_33 wd_125
theorem k_62_15 : OkOp mt Ev 62 15 (o_iload 1 1) := ok_iload_n (k := 1) (by decide +kernel) rfl
theorem k_62_16 : OkOp mt Ev 62 16 (o_push (.int (-1)) 1) := ok_iconst (n := -1) (by decide +kernel) (by decide +kernel)
theorem k_62_17 : OkOp mt Ev 62 17 (o_ib (fun x y => x ^^^ y)) := ok_ixor (by decide +kernel)
theorem k_62_18 : OkOp mt Ev 62 18 (o_ib (fun x y => x &&& y)) := ok_iand (by decide +kernel)
theorem k_62_19 : OkOp mt Ev 62 19 (o_putf 3 [10] 0) := ok_putf (i := 53) (rf := "BridgeSentences$World") (nm := "takenSet") (ds := "I") (ty := .int) (fin := false) (by decide +kernel) fc_33 wd_125 (tc_10) ff_27 (by decide) (by decide +kernel) ov_int
theorem k_62_22 : OkOp mt Ev 62 22 (o_retv) := ok_retv (by decide +kernel) rfl
theorem kt_62 : ∀ pc o, cd_X10_letGo Ev pc = some o → OkOp mt Ev 62 pc o ∧ Gw o := (tN_ok (tN_ok (tN_ok (tL_ok ⟨k_62_0, gw_aload⟩) (tN_ok (tL_ok ⟨k_62_1, gw_dup⟩) (tL_ok ⟨k_62_2, gw_getf⟩))) (tN_ok (tN_ok (tL_ok ⟨k_62_5, gw_iload⟩) (tL_ok ⟨k_62_6, gw_ib⟩)) (tN_ok (tL_ok ⟨k_62_7, gw_putf⟩) (tL_ok ⟨k_62_10, gw_aload⟩)))) (tN_ok (tN_ok (tN_ok (tL_ok ⟨k_62_11, gw_dup⟩) (tL_ok ⟨k_62_12, gw_getf⟩)) (tN_ok (tL_ok ⟨k_62_15, gw_iload⟩) (tL_ok ⟨k_62_16, gw_push⟩))) (tN_ok (tN_ok (tL_ok ⟨k_62_17, gw_ib⟩) (tL_ok ⟨k_62_18, gw_ib⟩)) (tN_ok (tL_ok ⟨k_62_19, gw_putf⟩) (tL_ok ⟨k_62_22, gw_retv⟩)))))
theorem k_63_0 : OkOp mt Ev 63 0 (o_push (.int (-2)) 2) := ok_bipush (n := -2) (by decide +kernel) (by decide +kernel)
theorem k_63_2 : OkOp mt Ev 63 2 (o_istore 2 1) := ok_istore_n (k := 2) (by decide +kernel) rfl
theorem k_63_3 : OkOp mt Ev 63 3 (o_push (.int (0)) 1) := ok_iconst (n := 0) (by decide +kernel) (by decide +kernel)
theorem k_63_4 : OkOp mt Ev 63 4 (o_istore 3 1) := ok_istore_n (k := 3) (by decide +kernel) rfl
theorem k_63_5 : OkOp mt Ev 63 5 (o_iload 3 1) := ok_iload_n (k := 3) (by decide +kernel) rfl
theorem k_63_6 : OkOp mt Ev 63 6 (o_aload 0 1) := ok_aload_n (k := 0) (by decide +kernel) rfl
theorem k_63_7 : OkOp mt Ev 63 7 (o_getf 6 [10]) := ok_getf (i := 26) (rf := "BridgeSentences$World") (nm := "seen") (ds := "LBridgeSentences$Rows;") (by decide +kernel) fc_28 wd_131
theorem k_63_10 : OkOp mt Ev 63 10 (o_getf 2 [7]) := ok_getf (i := 135) (rf := "BridgeSentences$Rows") (nm := "size") (ds := "I") (by decide +kernel) fc_21 wd_109
theorem k_63_13 : OkOp mt Ev 63 13 (o_if2 (fun x y => decide (y ≤ x)) 67) := ok_icmp_ge (off := 54) (by decide +kernel) (by decide +kernel)
theorem k_63_16 : OkOp mt Ev 63 16 (o_aload 0 1) := ok_aload_n (k := 0) (by decide +kernel) rfl
theorem k_63_17 : OkOp mt Ev 63 17 (o_getf 6 [10]) := ok_getf (i := 26) (rf := "BridgeSentences$World") (nm := "seen") (ds := "LBridgeSentences$Rows;") (by decide +kernel) fc_28 wd_131
theorem k_63_20 : OkOp mt Ev 63 20 (o_getf 0 [7]) := ok_getf (i := 138) (rf := "BridgeSentences$Rows") (nm := "first") (ds := "[I") (by decide +kernel) fc_19 wd_103
theorem k_63_23 : OkOp mt Ev 63 23 (o_iload 3 1) := ok_iload_n (k := 3) (by decide +kernel) rfl
theorem k_63_24 : OkOp mt Ev 63 24 (o_iald 2) := ok_iald (by decide +kernel)
theorem k_63_25 : OkOp mt Ev 63 25 (o_iload 1 1) := ok_iload_n (k := 1) (by decide +kernel) rfl
theorem k_63_26 : OkOp mt Ev 63 26 (o_if2 (fun x y => decide (¬ x = y)) 61) := ok_icmp_ne (off := 35) (by decide +kernel) (by decide +kernel)
theorem k_63_29 : OkOp mt Ev 63 29 (o_iload 2 1) := ok_iload_n (k := 2) (by decide +kernel) rfl
theorem k_63_30 : OkOp mt Ev 63 30 (o_push (.int (-2)) 2) := ok_bipush (n := -2) (by decide +kernel) (by decide +kernel)
theorem k_63_32 : OkOp mt Ev 63 32 (o_if2 (fun x y => decide (x = y)) 51) := ok_icmp_eq (off := 19) (by decide +kernel) (by decide +kernel)
theorem k_63_35 : OkOp mt Ev 63 35 (o_iload 2 1) := ok_iload_n (k := 2) (by decide +kernel) rfl
theorem k_63_36 : OkOp mt Ev 63 36 (o_aload 0 1) := ok_aload_n (k := 0) (by decide +kernel) rfl
theorem k_63_37 : OkOp mt Ev 63 37 (o_getf 6 [10]) := ok_getf (i := 26) (rf := "BridgeSentences$World") (nm := "seen") (ds := "LBridgeSentences$Rows;") (by decide +kernel) fc_28 wd_131
theorem k_63_40 : OkOp mt Ev 63 40 (o_getf 1 [7]) := ok_getf (i := 141) (rf := "BridgeSentences$Rows") (nm := "second") (ds := "[I") (by decide +kernel) fc_20 wd_106
theorem k_63_43 : OkOp mt Ev 63 43 (o_iload 3 1) := ok_iload_n (k := 3) (by decide +kernel) rfl
theorem k_63_44 : OkOp mt Ev 63 44 (o_iald 2) := ok_iald (by decide +kernel)
theorem k_63_45 : OkOp mt Ev 63 45 (o_if2 (fun x y => decide (x = y)) 51) := ok_icmp_eq (off := 6) (by decide +kernel) (by decide +kernel)
theorem k_63_48 : OkOp mt Ev 63 48 (o_push (.int (-3)) 2) := ok_bipush (n := -3) (by decide +kernel) (by decide +kernel)
theorem k_63_50 : OkOp mt Ev 63 50 (o_ret 0) := ok_reti (ty := .int) (by decide +kernel) rfl (Or.inl ⟨rfl, rfl⟩)
theorem k_63_51 : OkOp mt Ev 63 51 (o_aload 0 1) := ok_aload_n (k := 0) (by decide +kernel) rfl
theorem k_63_52 : OkOp mt Ev 63 52 (o_getf 6 [10]) := ok_getf (i := 26) (rf := "BridgeSentences$World") (nm := "seen") (ds := "LBridgeSentences$Rows;") (by decide +kernel) fc_28 wd_131
theorem k_63_55 : OkOp mt Ev 63 55 (o_getf 1 [7]) := ok_getf (i := 141) (rf := "BridgeSentences$Rows") (nm := "second") (ds := "[I") (by decide +kernel) fc_20 wd_106
theorem k_63_58 : OkOp mt Ev 63 58 (o_iload 3 1) := ok_iload_n (k := 3) (by decide +kernel) rfl
theorem k_63_59 : OkOp mt Ev 63 59 (o_iald 2) := ok_iald (by decide +kernel)
theorem k_63_60 : OkOp mt Ev 63 60 (o_istore 2 1) := ok_istore_n (k := 2) (by decide +kernel) rfl
theorem k_63_61 : OkOp mt Ev 63 61 (o_iinc 3 (1)) := ok_iinc (n := 1) (by decide +kernel) (by decide +kernel)
theorem k_63_64 : OkOp mt Ev 63 64 (o_goto 5) := ok_goto (off := -59) (by decide +kernel) (by decide +kernel)
theorem k_63_67 : OkOp mt Ev 63 67 (o_iload 2 1) := ok_iload_n (k := 2) (by decide +kernel) rfl
theorem k_63_68 : OkOp mt Ev 63 68 (o_ret 0) := ok_reti (ty := .int) (by decide +kernel) rfl (Or.inl ⟨rfl, rfl⟩)
theorem kt_63 : ∀ pc o, cd_X10_seenOf Ev pc = some o → OkOp mt Ev 63 pc o ∧ Gw o := (tN_ok (tN_ok (tN_ok (tN_ok (tN_ok (tL_ok ⟨k_63_0, gw_push⟩) (tL_ok ⟨k_63_2, gw_istore⟩)) (tN_ok (tL_ok ⟨k_63_3, gw_push⟩) (tL_ok ⟨k_63_4, gw_istore⟩))) (tN_ok (tN_ok (tL_ok ⟨k_63_5, gw_iload⟩) (tL_ok ⟨k_63_6, gw_aload⟩)) (tN_ok (tL_ok ⟨k_63_7, gw_getf⟩) (tN_ok (tL_ok ⟨k_63_10, gw_getf⟩) (tL_ok ⟨k_63_13, gw_if2⟩))))) (tN_ok (tN_ok (tN_ok (tL_ok ⟨k_63_16, gw_aload⟩) (tL_ok ⟨k_63_17, gw_getf⟩)) (tN_ok (tL_ok ⟨k_63_20, gw_getf⟩) (tN_ok (tL_ok ⟨k_63_23, gw_iload⟩) (tL_ok ⟨k_63_24, gw_iald⟩)))) (tN_ok (tN_ok (tL_ok ⟨k_63_25, gw_iload⟩) (tL_ok ⟨k_63_26, gw_if2⟩)) (tN_ok (tL_ok ⟨k_63_29, gw_iload⟩) (tN_ok (tL_ok ⟨k_63_30, gw_push⟩) (tL_ok ⟨k_63_32, gw_if2⟩)))))) (tN_ok (tN_ok (tN_ok (tN_ok (tL_ok ⟨k_63_35, gw_iload⟩) (tL_ok ⟨k_63_36, gw_aload⟩)) (tN_ok (tL_ok ⟨k_63_37, gw_getf⟩) (tL_ok ⟨k_63_40, gw_getf⟩))) (tN_ok (tN_ok (tL_ok ⟨k_63_43, gw_iload⟩) (tL_ok ⟨k_63_44, gw_iald⟩)) (tN_ok (tL_ok ⟨k_63_45, gw_if2⟩) (tN_ok (tL_ok ⟨k_63_48, gw_push⟩) (tL_ok ⟨k_63_50, gw_ret⟩))))) (tN_ok (tN_ok (tN_ok (tL_ok ⟨k_63_51, gw_aload⟩) (tL_ok ⟨k_63_52, gw_getf⟩)) (tN_ok (tL_ok ⟨k_63_55, gw_getf⟩) (tN_ok (tL_ok ⟨k_63_58, gw_iload⟩) (tL_ok ⟨k_63_59, gw_iald⟩)))) (tN_ok (tN_ok (tL_ok ⟨k_63_60, gw_istore⟩) (tL_ok ⟨k_63_61, gw_iinc⟩)) (tN_ok (tL_ok ⟨k_63_64, gw_goto⟩) (tN_ok (tL_ok ⟨k_63_67, gw_iload⟩) (tL_ok ⟨k_63_68, gw_ret⟩)))))))
theorem k_64_0 : OkOp mt Ev 64 0 (o_push (.int (0)) 1) := ok_iconst (n := 0) (by decide +kernel) (by decide +kernel)
theorem k_64_1 : OkOp mt Ev 64 1 (o_istore 1 1) := ok_istore_n (k := 1) (by decide +kernel) rfl
theorem k_64_2 : OkOp mt Ev 64 2 (o_iload 1 1) := ok_iload_n (k := 1) (by decide +kernel) rfl
theorem k_64_3 : OkOp mt Ev 64 3 (o_aload 0 1) := ok_aload_n (k := 0) (by decide +kernel) rfl
theorem k_64_4 : OkOp mt Ev 64 4 (o_getf 6 [10]) := ok_getf (i := 26) (rf := "BridgeSentences$World") (nm := "seen") (ds := "LBridgeSentences$Rows;") (by decide +kernel) fc_28 wd_131
theorem k_64_7 : OkOp mt Ev 64 7 (o_getf 2 [7]) := ok_getf (i := 135) (rf := "BridgeSentences$Rows") (nm := "size") (ds := "I") (by decide +kernel) fc_21 wd_109
theorem k_64_10 : OkOp mt Ev 64 10 (o_if2 (fun x y => decide (y ≤ x)) 60) := ok_icmp_ge (off := 50) (by decide +kernel) (by decide +kernel)
theorem k_64_13 : OkOp mt Ev 64 13 (o_aload 0 1) := ok_aload_n (k := 0) (by decide +kernel) rfl
theorem k_64_14 : OkOp mt Ev 64 14 (o_aload 0 1) := ok_aload_n (k := 0) (by decide +kernel) rfl
theorem k_64_15 : OkOp mt Ev 64 15 (o_getf 6 [10]) := ok_getf (i := 26) (rf := "BridgeSentences$World") (nm := "seen") (ds := "LBridgeSentences$Rows;") (by decide +kernel) fc_28 wd_131
theorem k_64_18 : OkOp mt Ev 64 18 (o_getf 0 [7]) := ok_getf (i := 138) (rf := "BridgeSentences$Rows") (nm := "first") (ds := "[I") (by decide +kernel) fc_19 wd_103
theorem k_64_21 : OkOp mt Ev 64 21 (o_iload 1 1) := ok_iload_n (k := 1) (by decide +kernel) rfl
theorem k_64_22 : OkOp mt Ev 64 22 (o_iald 2) := ok_iald (by decide +kernel)
theorem k_64_23 : OkOp mt Ev 64 23 (o_cv [(10, 51)] 1) := ok_cv (i := 144) (by decide +kernel) vc_109
theorem k_64_26 : OkOp mt Ev 64 26 (o_astore 2 1) := ok_astore_n (k := 2) (by decide +kernel) rfl
theorem k_64_27 : OkOp mt Ev 64 27 (o_aload 2 1) := ok_aload_n (k := 2) (by decide +kernel) rfl
theorem k_64_28 : OkOp mt Ev 64 28 (o_ifnull 52) := ok_ifnull (off := 24) (by decide +kernel) (by decide +kernel)
theorem k_64_31 : OkOp mt Ev 64 31 (o_aload 0 1) := ok_aload_n (k := 0) (by decide +kernel) rfl
theorem k_64_32 : OkOp mt Ev 64 32 (o_aload 2 1) := ok_aload_n (k := 2) (by decide +kernel) rfl
theorem k_64_33 : OkOp mt Ev 64 33 (o_aload 2 1) := ok_aload_n (k := 2) (by decide +kernel) rfl
theorem k_64_34 : OkOp mt Ev 64 34 (o_getf 3 [1, 2, 3, 4, 5, 6, 8]) := ok_getf (i := 129) (rf := "BridgeSentences$One") (nm := "has") (ds := "I") (by decide +kernel) fc_14 wd_288
theorem k_64_37 : OkOp mt Ev 64 37 (o_cv [(10, 58)] 2) := ok_cv (i := 132) (by decide +kernel) vc_108
theorem k_64_40 : OkOp mt Ev 64 40 (o_aload 0 1) := ok_aload_n (k := 0) (by decide +kernel) rfl
theorem k_64_41 : OkOp mt Ev 64 41 (o_getf 6 [10]) := ok_getf (i := 26) (rf := "BridgeSentences$World") (nm := "seen") (ds := "LBridgeSentences$Rows;") (by decide +kernel) fc_28 wd_131
theorem k_64_44 : OkOp mt Ev 64 44 (o_getf 1 [7]) := ok_getf (i := 141) (rf := "BridgeSentences$Rows") (nm := "second") (ds := "[I") (by decide +kernel) fc_20 wd_106
theorem k_64_47 : OkOp mt Ev 64 47 (o_iload 1 1) := ok_iload_n (k := 1) (by decide +kernel) rfl
theorem k_64_48 : OkOp mt Ev 64 48 (o_iald 2) := ok_iald (by decide +kernel)
theorem k_64_49 : OkOp mt Ev 64 49 (o_if2 (fun x y => decide (x = y)) 54) := ok_icmp_eq (off := 5) (by decide +kernel) (by decide +kernel)
theorem k_64_52 : OkOp mt Ev 64 52 (o_push (.int (0)) 1) := ok_iconst (n := 0) (by decide +kernel) (by decide +kernel)
theorem k_64_53 : OkOp mt Ev 64 53 (o_ret 1) := ok_reti (ty := .boolean) (by decide +kernel) rfl (Or.inr (Or.inl ⟨rfl, rfl⟩))
theorem k_64_54 : OkOp mt Ev 64 54 (o_iinc 1 (1)) := ok_iinc (n := 1) (by decide +kernel) (by decide +kernel)
theorem k_64_57 : OkOp mt Ev 64 57 (o_goto 2) := ok_goto (off := -55) (by decide +kernel) (by decide +kernel)
theorem k_64_60 : OkOp mt Ev 64 60 (o_push (.int (1)) 1) := ok_iconst (n := 1) (by decide +kernel) (by decide +kernel)
theorem k_64_61 : OkOp mt Ev 64 61 (o_ret 1) := ok_reti (ty := .boolean) (by decide +kernel) rfl (Or.inr (Or.inl ⟨rfl, rfl⟩))
theorem kt_64 : ∀ pc o, cd_X10_isSeenSo Ev pc = some o → OkOp mt Ev 64 pc o ∧ Gw o := (tN_ok (tN_ok (tN_ok (tN_ok (tN_ok (tL_ok ⟨k_64_0, gw_push⟩) (tL_ok ⟨k_64_1, gw_istore⟩)) (tN_ok (tL_ok ⟨k_64_2, gw_iload⟩) (tL_ok ⟨k_64_3, gw_aload⟩))) (tN_ok (tN_ok (tL_ok ⟨k_64_4, gw_getf⟩) (tL_ok ⟨k_64_7, gw_getf⟩)) (tN_ok (tL_ok ⟨k_64_10, gw_if2⟩) (tL_ok ⟨k_64_13, gw_aload⟩)))) (tN_ok (tN_ok (tN_ok (tL_ok ⟨k_64_14, gw_aload⟩) (tL_ok ⟨k_64_15, gw_getf⟩)) (tN_ok (tL_ok ⟨k_64_18, gw_getf⟩) (tL_ok ⟨k_64_21, gw_iload⟩))) (tN_ok (tN_ok (tL_ok ⟨k_64_22, gw_iald⟩) (tL_ok ⟨k_64_23, gw_cv⟩)) (tN_ok (tL_ok ⟨k_64_26, gw_astore⟩) (tN_ok (tL_ok ⟨k_64_27, gw_aload⟩) (tL_ok ⟨k_64_28, gw_ifnull⟩)))))) (tN_ok (tN_ok (tN_ok (tN_ok (tL_ok ⟨k_64_31, gw_aload⟩) (tL_ok ⟨k_64_32, gw_aload⟩)) (tN_ok (tL_ok ⟨k_64_33, gw_aload⟩) (tL_ok ⟨k_64_34, gw_getf⟩))) (tN_ok (tN_ok (tL_ok ⟨k_64_37, gw_cv⟩) (tL_ok ⟨k_64_40, gw_aload⟩)) (tN_ok (tL_ok ⟨k_64_41, gw_getf⟩) (tL_ok ⟨k_64_44, gw_getf⟩)))) (tN_ok (tN_ok (tN_ok (tL_ok ⟨k_64_47, gw_iload⟩) (tL_ok ⟨k_64_48, gw_iald⟩)) (tN_ok (tL_ok ⟨k_64_49, gw_if2⟩) (tL_ok ⟨k_64_52, gw_push⟩))) (tN_ok (tN_ok (tL_ok ⟨k_64_53, gw_ret⟩) (tL_ok ⟨k_64_54, gw_iinc⟩)) (tN_ok (tL_ok ⟨k_64_57, gw_goto⟩) (tN_ok (tL_ok ⟨k_64_60, gw_push⟩) (tL_ok ⟨k_64_61, gw_ret⟩)))))))
theorem k_65_0 : OkOp mt Ev 65 0 (o_push (.int (0)) 1) := ok_iconst (n := 0) (by decide +kernel) (by decide +kernel)
theorem k_65_1 : OkOp mt Ev 65 1 (o_istore 3 1) := ok_istore_n (k := 3) (by decide +kernel) rfl
theorem k_65_2 : OkOp mt Ev 65 2 (o_push (.int (1)) 1) := ok_iconst (n := 1) (by decide +kernel) (by decide +kernel)
theorem k_65_3 : OkOp mt Ev 65 3 (o_istore 4 2) := ok_istore (by decide +kernel)
theorem k_65_5 : OkOp mt Ev 65 5 (o_iload 4 2) := ok_iload (by decide +kernel)
theorem k_65_7 : OkOp mt Ev 65 7 (o_push (.int (12)) 2) := ok_bipush (n := 12) (by decide +kernel) (by decide +kernel)
theorem k_65_9 : OkOp mt Ev 65 9 (o_if2 (fun x y => decide (y < x)) 36) := ok_icmp_gt (off := 27) (by decide +kernel) (by decide +kernel)
theorem k_65_12 : OkOp mt Ev 65 12 (o_iload 3 1) := ok_iload_n (k := 3) (by decide +kernel) rfl
theorem k_65_13 : OkOp mt Ev 65 13 (o_aload 0 1) := ok_aload_n (k := 0) (by decide +kernel) rfl
theorem k_65_14 : OkOp mt Ev 65 14 (o_aload 1 1) := ok_aload_n (k := 1) (by decide +kernel) rfl
theorem k_65_15 : OkOp mt Ev 65 15 (o_iload 2 1) := ok_iload_n (k := 2) (by decide +kernel) rfl
theorem k_65_16 : OkOp mt Ev 65 16 (o_iload 4 2) := ok_iload (by decide +kernel)
theorem k_65_18 : OkOp mt Ev 65 18 (o_cv [(10, 67)] 3) := ok_cv (i := 148) (by decide +kernel) vc_110
theorem k_65_21 : OkOp mt Ev 65 21 (o_iload 4 2) := ok_iload (by decide +kernel)
theorem k_65_23 : OkOp mt Ev 65 23 (o_push (.int (1)) 1) := ok_iconst (n := 1) (by decide +kernel) (by decide +kernel)
theorem k_65_24 : OkOp mt Ev 65 24 (o_ib (fun x y => x - y)) := ok_isub (by decide +kernel)
theorem k_65_25 : OkOp mt Ev 65 25 (o_cs 111 2) := ok_csN (i := 152) (host := "BridgeSentences") (by decide +kernel) ws_512 wd_513 wd_56 wd_514 nk_14
theorem k_65_28 : OkOp mt Ev 65 28 (o_ib (fun x y => x + y)) := ok_iadd (by decide +kernel)
theorem k_65_29 : OkOp mt Ev 65 29 (o_istore 3 1) := ok_istore_n (k := 3) (by decide +kernel) rfl
theorem k_65_30 : OkOp mt Ev 65 30 (o_iinc 4 (1)) := ok_iinc (n := 1) (by decide +kernel) (by decide +kernel)
theorem k_65_33 : OkOp mt Ev 65 33 (o_goto 5) := ok_goto (off := -28) (by decide +kernel) (by decide +kernel)
theorem k_65_36 : OkOp mt Ev 65 36 (o_iload 3 1) := ok_iload_n (k := 3) (by decide +kernel) rfl
theorem k_65_37 : OkOp mt Ev 65 37 (o_ret 0) := ok_reti (ty := .int) (by decide +kernel) rfl (Or.inl ⟨rfl, rfl⟩)
theorem kt_65 : ∀ pc o, cd_X10_setsWithTip Ev pc = some o → OkOp mt Ev 65 pc o ∧ Gw o := (tN_ok (tN_ok (tN_ok (tN_ok (tL_ok ⟨k_65_0, gw_push⟩) (tL_ok ⟨k_65_1, gw_istore⟩)) (tN_ok (tL_ok ⟨k_65_2, gw_push⟩) (tN_ok (tL_ok ⟨k_65_3, gw_istore⟩) (tL_ok ⟨k_65_5, gw_iload⟩)))) (tN_ok (tN_ok (tL_ok ⟨k_65_7, gw_push⟩) (tN_ok (tL_ok ⟨k_65_9, gw_if2⟩) (tL_ok ⟨k_65_12, gw_iload⟩))) (tN_ok (tL_ok ⟨k_65_13, gw_aload⟩) (tN_ok (tL_ok ⟨k_65_14, gw_aload⟩) (tL_ok ⟨k_65_15, gw_iload⟩))))) (tN_ok (tN_ok (tN_ok (tL_ok ⟨k_65_16, gw_iload⟩) (tN_ok (tL_ok ⟨k_65_18, gw_cv⟩) (tL_ok ⟨k_65_21, gw_iload⟩))) (tN_ok (tL_ok ⟨k_65_23, gw_push⟩) (tN_ok (tL_ok ⟨k_65_24, gw_ib⟩) (tL_ok ⟨k_65_25, gw_cs⟩)))) (tN_ok (tN_ok (tL_ok ⟨k_65_28, gw_ib⟩) (tN_ok (tL_ok ⟨k_65_29, gw_istore⟩) (tL_ok ⟨k_65_30, gw_iinc⟩))) (tN_ok (tL_ok ⟨k_65_33, gw_goto⟩) (tN_ok (tL_ok ⟨k_65_36, gw_iload⟩) (tL_ok ⟨k_65_37, gw_ret⟩))))))
theorem k_66_0 : OkOp mt Ev 66 0 (o_push (.int (0)) 1) := ok_iconst (n := 0) (by decide +kernel) (by decide +kernel)
theorem k_66_1 : OkOp mt Ev 66 1 (o_istore 2 1) := ok_istore_n (k := 2) (by decide +kernel) rfl
theorem k_66_2 : OkOp mt Ev 66 2 (o_push (.int (0)) 1) := ok_iconst (n := 0) (by decide +kernel) (by decide +kernel)
theorem k_66_3 : OkOp mt Ev 66 3 (o_istore 3 1) := ok_istore_n (k := 3) (by decide +kernel) rfl
theorem k_66_4 : OkOp mt Ev 66 4 (o_iload 3 1) := ok_iload_n (k := 3) (by decide +kernel) rfl
theorem k_66_5 : OkOp mt Ev 66 5 (o_push (.int (12)) 2) := ok_bipush (n := 12) (by decide +kernel) (by decide +kernel)
theorem k_66_7 : OkOp mt Ev 66 7 (o_if2 (fun x y => decide (y < x)) 58) := ok_icmp_gt (off := 51) (by decide +kernel) (by decide +kernel)
theorem k_66_10 : OkOp mt Ev 66 10 (o_push (.int (0)) 1) := ok_iconst (n := 0) (by decide +kernel) (by decide +kernel)
theorem k_66_11 : OkOp mt Ev 66 11 (o_istore 4 2) := ok_istore (by decide +kernel)
theorem k_66_13 : OkOp mt Ev 66 13 (o_push (.int (0)) 1) := ok_iconst (n := 0) (by decide +kernel) (by decide +kernel)
theorem k_66_14 : OkOp mt Ev 66 14 (o_istore 5 2) := ok_istore (by decide +kernel)
theorem k_66_16 : OkOp mt Ev 66 16 (o_iload 5 2) := ok_iload (by decide +kernel)
theorem k_66_18 : OkOp mt Ev 66 18 (o_push (.int (12)) 2) := ok_bipush (n := 12) (by decide +kernel) (by decide +kernel)
theorem k_66_20 : OkOp mt Ev 66 20 (o_if2 (fun x y => decide (y ≤ x)) 43) := ok_icmp_ge (off := 23) (by decide +kernel) (by decide +kernel)
theorem k_66_23 : OkOp mt Ev 66 23 (o_aload 0 1) := ok_aload_n (k := 0) (by decide +kernel) rfl
theorem k_66_24 : OkOp mt Ev 66 24 (o_aload 1 1) := ok_aload_n (k := 1) (by decide +kernel) rfl
theorem k_66_25 : OkOp mt Ev 66 25 (o_iload 5 2) := ok_iload (by decide +kernel)
theorem k_66_27 : OkOp mt Ev 66 27 (o_iload 3 1) := ok_iload_n (k := 3) (by decide +kernel) rfl
theorem k_66_28 : OkOp mt Ev 66 28 (o_cv [(10, 57)] 3) := ok_cv (i := 156) (by decide +kernel) vc_111
theorem k_66_31 : OkOp mt Ev 66 31 (o_if1 (fun x => decide (0 < x)) 37) := ok_if_gt (off := 6) (by decide +kernel) (by decide +kernel)
theorem k_66_34 : OkOp mt Ev 66 34 (o_iinc 4 (1)) := ok_iinc (n := 1) (by decide +kernel) (by decide +kernel)
theorem k_66_37 : OkOp mt Ev 66 37 (o_iinc 5 (1)) := ok_iinc (n := 1) (by decide +kernel) (by decide +kernel)
theorem k_66_40 : OkOp mt Ev 66 40 (o_goto 16) := ok_goto (off := -24) (by decide +kernel) (by decide +kernel)
theorem k_66_43 : OkOp mt Ev 66 43 (o_iload 2 1) := ok_iload_n (k := 2) (by decide +kernel) rfl
theorem k_66_44 : OkOp mt Ev 66 44 (o_iload 4 2) := ok_iload (by decide +kernel)
theorem k_66_46 : OkOp mt Ev 66 46 (o_iload 3 1) := ok_iload_n (k := 3) (by decide +kernel) rfl
theorem k_66_47 : OkOp mt Ev 66 47 (o_cs 111 2) := ok_csN (i := 152) (host := "BridgeSentences") (by decide +kernel) ws_512 wd_513 wd_56 wd_514 nk_14
theorem k_66_50 : OkOp mt Ev 66 50 (o_ib (fun x y => x + y)) := ok_iadd (by decide +kernel)
theorem k_66_51 : OkOp mt Ev 66 51 (o_istore 2 1) := ok_istore_n (k := 2) (by decide +kernel) rfl
theorem k_66_52 : OkOp mt Ev 66 52 (o_iinc 3 (1)) := ok_iinc (n := 1) (by decide +kernel) (by decide +kernel)
theorem k_66_55 : OkOp mt Ev 66 55 (o_goto 4) := ok_goto (off := -51) (by decide +kernel) (by decide +kernel)
theorem k_66_58 : OkOp mt Ev 66 58 (o_iload 2 1) := ok_iload_n (k := 2) (by decide +kernel) rfl
theorem k_66_59 : OkOp mt Ev 66 59 (o_ret 0) := ok_reti (ty := .int) (by decide +kernel) rfl (Or.inl ⟨rfl, rfl⟩)
theorem kt_66 : ∀ pc o, cd_X10_setsWithoutTip Ev pc = some o → OkOp mt Ev 66 pc o ∧ Gw o := (tN_ok (tN_ok (tN_ok (tN_ok (tN_ok (tL_ok ⟨k_66_0, gw_push⟩) (tL_ok ⟨k_66_1, gw_istore⟩)) (tN_ok (tL_ok ⟨k_66_2, gw_push⟩) (tL_ok ⟨k_66_3, gw_istore⟩))) (tN_ok (tN_ok (tL_ok ⟨k_66_4, gw_iload⟩) (tL_ok ⟨k_66_5, gw_push⟩)) (tN_ok (tL_ok ⟨k_66_7, gw_if2⟩) (tL_ok ⟨k_66_10, gw_push⟩)))) (tN_ok (tN_ok (tN_ok (tL_ok ⟨k_66_11, gw_istore⟩) (tL_ok ⟨k_66_13, gw_push⟩)) (tN_ok (tL_ok ⟨k_66_14, gw_istore⟩) (tL_ok ⟨k_66_16, gw_iload⟩))) (tN_ok (tN_ok (tL_ok ⟨k_66_18, gw_push⟩) (tL_ok ⟨k_66_20, gw_if2⟩)) (tN_ok (tL_ok ⟨k_66_23, gw_aload⟩) (tL_ok ⟨k_66_24, gw_aload⟩))))) (tN_ok (tN_ok (tN_ok (tN_ok (tL_ok ⟨k_66_25, gw_iload⟩) (tL_ok ⟨k_66_27, gw_iload⟩)) (tN_ok (tL_ok ⟨k_66_28, gw_cv⟩) (tL_ok ⟨k_66_31, gw_if1⟩))) (tN_ok (tN_ok (tL_ok ⟨k_66_34, gw_iinc⟩) (tL_ok ⟨k_66_37, gw_iinc⟩)) (tN_ok (tL_ok ⟨k_66_40, gw_goto⟩) (tL_ok ⟨k_66_43, gw_iload⟩)))) (tN_ok (tN_ok (tN_ok (tL_ok ⟨k_66_44, gw_iload⟩) (tL_ok ⟨k_66_46, gw_iload⟩)) (tN_ok (tL_ok ⟨k_66_47, gw_cs⟩) (tL_ok ⟨k_66_50, gw_ib⟩))) (tN_ok (tN_ok (tL_ok ⟨k_66_51, gw_istore⟩) (tL_ok ⟨k_66_52, gw_iinc⟩)) (tN_ok (tL_ok ⟨k_66_55, gw_goto⟩) (tN_ok (tL_ok ⟨k_66_58, gw_iload⟩) (tL_ok ⟨k_66_59, gw_ret⟩)))))))
theorem k_67_0 : OkOp mt Ev 67 0 (o_aload 0 1) := ok_aload_n (k := 0) (by decide +kernel) rfl
theorem k_67_1 : OkOp mt Ev 67 1 (o_aload 1 1) := ok_aload_n (k := 1) (by decide +kernel) rfl
theorem k_67_2 : OkOp mt Ev 67 2 (o_iload 2 1) := ok_iload_n (k := 2) (by decide +kernel) rfl
theorem k_67_3 : OkOp mt Ev 67 3 (o_iload 3 1) := ok_iload_n (k := 3) (by decide +kernel) rfl
theorem k_67_4 : OkOp mt Ev 67 4 (o_cv [(10, 57)] 3) := ok_cv (i := 156) (by decide +kernel) vc_111
theorem k_67_7 : OkOp mt Ev 67 7 (o_istore 4 2) := ok_istore (by decide +kernel)
theorem k_67_9 : OkOp mt Ev 67 9 (o_iload 4 2) := ok_iload (by decide +kernel)
theorem k_67_11 : OkOp mt Ev 67 11 (o_if1 (fun x => decide (0 < x)) 16) := ok_if_gt (off := 5) (by decide +kernel) (by decide +kernel)
theorem k_67_14 : OkOp mt Ev 67 14 (o_push (.int (-1)) 1) := ok_iconst (n := -1) (by decide +kernel) (by decide +kernel)
theorem k_67_15 : OkOp mt Ev 67 15 (o_ret 0) := ok_reti (ty := .int) (by decide +kernel) rfl (Or.inl ⟨rfl, rfl⟩)
theorem k_67_16 : OkOp mt Ev 67 16 (o_push (.int (0)) 1) := ok_iconst (n := 0) (by decide +kernel) (by decide +kernel)
theorem k_67_17 : OkOp mt Ev 67 17 (o_istore 5 2) := ok_istore (by decide +kernel)
theorem k_67_19 : OkOp mt Ev 67 19 (o_push (.int (0)) 1) := ok_iconst (n := 0) (by decide +kernel) (by decide +kernel)
theorem k_67_20 : OkOp mt Ev 67 20 (o_istore 6 2) := ok_istore (by decide +kernel)
theorem k_67_22 : OkOp mt Ev 67 22 (o_iload 6 2) := ok_iload (by decide +kernel)
theorem k_67_24 : OkOp mt Ev 67 24 (o_push (.int (12)) 2) := ok_bipush (n := 12) (by decide +kernel) (by decide +kernel)
theorem k_67_26 : OkOp mt Ev 67 26 (o_if2 (fun x y => decide (y ≤ x)) 68) := ok_icmp_ge (off := 42) (by decide +kernel) (by decide +kernel)
theorem k_67_29 : OkOp mt Ev 67 29 (o_aload 0 1) := ok_aload_n (k := 0) (by decide +kernel) rfl
theorem k_67_30 : OkOp mt Ev 67 30 (o_aload 1 1) := ok_aload_n (k := 1) (by decide +kernel) rfl
theorem k_67_31 : OkOp mt Ev 67 31 (o_iload 6 2) := ok_iload (by decide +kernel)
theorem k_67_33 : OkOp mt Ev 67 33 (o_iload 3 1) := ok_iload_n (k := 3) (by decide +kernel) rfl
theorem k_67_34 : OkOp mt Ev 67 34 (o_cv [(10, 57)] 3) := ok_cv (i := 156) (by decide +kernel) vc_111
theorem k_67_37 : OkOp mt Ev 67 37 (o_istore 7 2) := ok_istore (by decide +kernel)
theorem k_67_39 : OkOp mt Ev 67 39 (o_iload 7 2) := ok_iload (by decide +kernel)
theorem k_67_41 : OkOp mt Ev 67 41 (o_iload 4 2) := ok_iload (by decide +kernel)
theorem k_67_43 : OkOp mt Ev 67 43 (o_if2 (fun x y => decide (x < y)) 59) := ok_icmp_lt (off := 16) (by decide +kernel) (by decide +kernel)
theorem k_67_46 : OkOp mt Ev 67 46 (o_iload 7 2) := ok_iload (by decide +kernel)
theorem k_67_48 : OkOp mt Ev 67 48 (o_iload 4 2) := ok_iload (by decide +kernel)
theorem k_67_50 : OkOp mt Ev 67 50 (o_if2 (fun x y => decide (¬ x = y)) 62) := ok_icmp_ne (off := 12) (by decide +kernel) (by decide +kernel)
theorem k_67_53 : OkOp mt Ev 67 53 (o_iload 6 2) := ok_iload (by decide +kernel)
theorem k_67_55 : OkOp mt Ev 67 55 (o_iload 2 1) := ok_iload_n (k := 2) (by decide +kernel) rfl
theorem k_67_56 : OkOp mt Ev 67 56 (o_if2 (fun x y => decide (x ≤ y)) 62) := ok_icmp_le (off := 6) (by decide +kernel) (by decide +kernel)
theorem k_67_59 : OkOp mt Ev 67 59 (o_iinc 5 (1)) := ok_iinc (n := 1) (by decide +kernel) (by decide +kernel)
theorem k_67_62 : OkOp mt Ev 67 62 (o_iinc 6 (1)) := ok_iinc (n := 1) (by decide +kernel) (by decide +kernel)
theorem k_67_65 : OkOp mt Ev 67 65 (o_goto 22) := ok_goto (off := -43) (by decide +kernel) (by decide +kernel)
theorem k_67_68 : OkOp mt Ev 67 68 (o_iload 5 2) := ok_iload (by decide +kernel)
theorem k_67_70 : OkOp mt Ev 67 70 (o_ret 0) := ok_reti (ty := .int) (by decide +kernel) rfl (Or.inl ⟨rfl, rfl⟩)
theorem kt_67 : ∀ pc o, cd_X10_beatenBy Ev pc = some o → OkOp mt Ev 67 pc o ∧ Gw o := (tN_ok (tN_ok (tN_ok (tN_ok (tN_ok (tL_ok ⟨k_67_0, gw_aload⟩) (tL_ok ⟨k_67_1, gw_aload⟩)) (tN_ok (tL_ok ⟨k_67_2, gw_iload⟩) (tL_ok ⟨k_67_3, gw_iload⟩))) (tN_ok (tN_ok (tL_ok ⟨k_67_4, gw_cv⟩) (tL_ok ⟨k_67_7, gw_istore⟩)) (tN_ok (tL_ok ⟨k_67_9, gw_iload⟩) (tN_ok (tL_ok ⟨k_67_11, gw_if1⟩) (tL_ok ⟨k_67_14, gw_push⟩))))) (tN_ok (tN_ok (tN_ok (tL_ok ⟨k_67_15, gw_ret⟩) (tL_ok ⟨k_67_16, gw_push⟩)) (tN_ok (tL_ok ⟨k_67_17, gw_istore⟩) (tL_ok ⟨k_67_19, gw_push⟩))) (tN_ok (tN_ok (tL_ok ⟨k_67_20, gw_istore⟩) (tL_ok ⟨k_67_22, gw_iload⟩)) (tN_ok (tL_ok ⟨k_67_24, gw_push⟩) (tN_ok (tL_ok ⟨k_67_26, gw_if2⟩) (tL_ok ⟨k_67_29, gw_aload⟩)))))) (tN_ok (tN_ok (tN_ok (tN_ok (tL_ok ⟨k_67_30, gw_aload⟩) (tL_ok ⟨k_67_31, gw_iload⟩)) (tN_ok (tL_ok ⟨k_67_33, gw_iload⟩) (tL_ok ⟨k_67_34, gw_cv⟩))) (tN_ok (tN_ok (tL_ok ⟨k_67_37, gw_istore⟩) (tL_ok ⟨k_67_39, gw_iload⟩)) (tN_ok (tL_ok ⟨k_67_41, gw_iload⟩) (tN_ok (tL_ok ⟨k_67_43, gw_if2⟩) (tL_ok ⟨k_67_46, gw_iload⟩))))) (tN_ok (tN_ok (tN_ok (tL_ok ⟨k_67_48, gw_iload⟩) (tL_ok ⟨k_67_50, gw_if2⟩)) (tN_ok (tL_ok ⟨k_67_53, gw_iload⟩) (tN_ok (tL_ok ⟨k_67_55, gw_iload⟩) (tL_ok ⟨k_67_56, gw_if2⟩)))) (tN_ok (tN_ok (tL_ok ⟨k_67_59, gw_iinc⟩) (tL_ok ⟨k_67_62, gw_iinc⟩)) (tN_ok (tL_ok ⟨k_67_65, gw_goto⟩) (tN_ok (tL_ok ⟨k_67_68, gw_iload⟩) (tL_ok ⟨k_67_70, gw_ret⟩)))))))
theorem k_68_0 : OkOp mt Ev 68 0 (o_aload 0 1) := ok_aload_n (k := 0) (by decide +kernel) rfl
theorem k_68_1 : OkOp mt Ev 68 1 (o_oi) := ok_oi (i := 3) (by decide +kernel) wd_82 wd_83 wd_84
theorem k_68_4 : OkOp mt Ev 68 4 (o_aload 0 1) := ok_aload_n (k := 0) (by decide +kernel) rfl
theorem k_68_5 : OkOp mt Ev 68 5 (o_new 10 [.null, .null, .int 0, .int 0, .int 0, .int 0, .null, .null, .null, .null, .null]) := ok_new (i := 9) (K := RX10) (T := TX10) (N := 11) (ty := tyX10) (by decide +kernel) rfl ci_10 tyX10_ok df_10 rfl wd_85 wd_86 wd_57
theorem k_68_8 : OkOp mt Ev 68 8 (o_dup) := ok_dup (by decide +kernel)
theorem k_68_9 : OkOp mt Ev 68 9 (o_ci 48 0) := ok_ciN (i := 11) (host := "BridgeSentences") (by decide +kernel) ws_87 wd_88 wd_57 wd_89 nk_15 rfl rfl
theorem k_68_12 : OkOp mt Ev 68 12 (o_putf 0 [11] 2) := ok_putf (i := 12) (rf := "BridgeSentences") (nm := "now") (ds := "LBridgeSentences$World;") (ty := (.object "BridgeSentences$World")) (fin := true) (by decide +kernel) fc_37 wd_218 (tc_11) ff_34 (by decide) (by decide +kernel) (ov_obj "BridgeSentences$World")
theorem k_68_15 : OkOp mt Ev 68 15 (o_aload 0 1) := ok_aload_n (k := 0) (by decide +kernel) rfl
theorem k_68_16 : OkOp mt Ev 68 16 (o_new 10 [.null, .null, .int 0, .int 0, .int 0, .int 0, .null, .null, .null, .null, .null]) := ok_new (i := 9) (K := RX10) (T := TX10) (N := 11) (ty := tyX10) (by decide +kernel) rfl ci_10 tyX10_ok df_10 rfl wd_85 wd_86 wd_57
theorem k_68_19 : OkOp mt Ev 68 19 (o_dup) := ok_dup (by decide +kernel)
theorem k_68_20 : OkOp mt Ev 68 20 (o_ci 48 0) := ok_ciN (i := 11) (host := "BridgeSentences") (by decide +kernel) ws_87 wd_88 wd_57 wd_89 nk_15 rfl rfl
theorem k_68_23 : OkOp mt Ev 68 23 (o_putf 1 [11] 2) := ok_putf (i := 18) (rf := "BridgeSentences") (nm := "trial") (ds := "LBridgeSentences$World;") (ty := (.object "BridgeSentences$World")) (fin := true) (by decide +kernel) fc_38 wd_219 (tc_11) ff_35 (by decide) (by decide +kernel) (ov_obj "BridgeSentences$World")
theorem k_68_26 : OkOp mt Ev 68 26 (o_aload 0 1) := ok_aload_n (k := 0) (by decide +kernel) rfl
theorem k_68_27 : OkOp mt Ev 68 27 (o_new 10 [.null, .null, .int 0, .int 0, .int 0, .int 0, .null, .null, .null, .null, .null]) := ok_new (i := 9) (K := RX10) (T := TX10) (N := 11) (ty := tyX10) (by decide +kernel) rfl ci_10 tyX10_ok df_10 rfl wd_85 wd_86 wd_57
theorem k_68_30 : OkOp mt Ev 68 30 (o_dup) := ok_dup (by decide +kernel)
theorem k_68_31 : OkOp mt Ev 68 31 (o_ci 48 0) := ok_ciN (i := 11) (host := "BridgeSentences") (by decide +kernel) ws_87 wd_88 wd_57 wd_89 nk_15 rfl rfl
theorem k_68_34 : OkOp mt Ev 68 34 (o_putf 2 [11] 2) := ok_putf (i := 21) (rf := "BridgeSentences") (nm := "kept") (ds := "LBridgeSentences$World;") (ty := (.object "BridgeSentences$World")) (fin := true) (by decide +kernel) fc_39 wd_220 (tc_11) ff_36 (by decide) (by decide +kernel) (ov_obj "BridgeSentences$World")
theorem k_68_37 : OkOp mt Ev 68 37 (o_aload 0 1) := ok_aload_n (k := 0) (by decide +kernel) rfl
theorem k_68_38 : OkOp mt Ev 68 38 (o_new 0 [.null, .int 0, .int 0, .null, .int 0, .null, .null, .int 0, .int 0]) := ok_new (i := 24) (K := RX0) (T := TX0) (N := 9) (ty := tyX0) (by decide +kernel) rfl ci_0 tyX0_ok df_0 rfl wd_163 wd_164 wd_60
theorem k_68_41 : OkOp mt Ev 68 41 (o_dup) := ok_dup (by decide +kernel)
theorem k_68_42 : OkOp mt Ev 68 42 (o_ci 1 0) := ok_ciN (i := 26) (host := "BridgeSentences") (by decide +kernel) ws_165 wd_166 wd_60 wd_167 nk_16 rfl rfl
theorem k_68_45 : OkOp mt Ev 68 45 (o_putf 4 [11] 2) := ok_putf (i := 27) (rf := "BridgeSentences") (nm := "next") (ds := "LBridgeSentences$Bridge;") (ty := (.object "BridgeSentences$Bridge")) (fin := false) (by decide +kernel) fc_40 wd_222 (tc_11) ff_37 (by decide) (by decide +kernel) (ov_obj "BridgeSentences$Bridge")
theorem k_68_48 : OkOp mt Ev 68 48 (o_aload 0 1) := ok_aload_n (k := 0) (by decide +kernel) rfl
theorem k_68_49 : OkOp mt Ev 68 49 (o_new 9 [.null, .int 0]) := ok_new (i := 31) (K := RX9) (T := TX9) (N := 2) (ty := tyX9) (by decide +kernel) rfl ci_9 tyX9_ok df_9 rfl wd_201 wd_202 wd_61
theorem k_68_52 : OkOp mt Ev 68 52 (o_dup) := ok_dup (by decide +kernel)
theorem k_68_53 : OkOp mt Ev 68 53 (o_ci 46 0) := ok_ciN (i := 33) (host := "BridgeSentences") (by decide +kernel) ws_203 wd_204 wd_61 wd_205 nk_17 rfl rfl
theorem k_68_56 : OkOp mt Ev 68 56 (o_putf 6 [11] 2) := ok_putf (i := 34) (rf := "BridgeSentences") (nm := "latest") (ds := "LBridgeSentences$Trace;") (ty := (.object "BridgeSentences$Trace")) (fin := true) (by decide +kernel) fc_41 wd_224 (tc_11) ff_38 (by decide) (by decide +kernel) (ov_obj "BridgeSentences$Trace")
theorem k_68_59 : OkOp mt Ev 68 59 (o_aload 0 1) := ok_aload_n (k := 0) (by decide +kernel) rfl
theorem k_68_60 : OkOp mt Ev 68 60 (o_push (.int (6)) 2) := ok_bipush (n := 6) (by decide +kernel) (by decide +kernel)
theorem k_68_62 : OkOp mt Ev 68 62 (o_newa 2 (.inl (fun _ => 0)) 2) := ok_newa (at_ := .int) (by decide +kernel) (by decide) rfl (fun _ _ => rfl) (by decide) wd_118
theorem k_68_64 : OkOp mt Ev 68 64 (o_dup) := ok_dup (by decide +kernel)
theorem k_68_65 : OkOp mt Ev 68 65 (o_push (.int (0)) 1) := ok_iconst (n := 0) (by decide +kernel) (by decide +kernel)
theorem k_68_66 : OkOp mt Ev 68 66 (o_push (.int (-1)) 1) := ok_iconst (n := -1) (by decide +kernel) (by decide +kernel)
theorem k_68_67 : OkOp mt Ev 68 67 (o_iast 2 (fun x => x)) := ok_iast (by decide +kernel)
theorem k_68_68 : OkOp mt Ev 68 68 (o_dup) := ok_dup (by decide +kernel)
theorem k_68_69 : OkOp mt Ev 68 69 (o_push (.int (1)) 1) := ok_iconst (n := 1) (by decide +kernel) (by decide +kernel)
theorem k_68_70 : OkOp mt Ev 68 70 (o_push (.int (-1)) 1) := ok_iconst (n := -1) (by decide +kernel) (by decide +kernel)
theorem k_68_71 : OkOp mt Ev 68 71 (o_iast 2 (fun x => x)) := ok_iast (by decide +kernel)
theorem k_68_72 : OkOp mt Ev 68 72 (o_dup) := ok_dup (by decide +kernel)
theorem k_68_73 : OkOp mt Ev 68 73 (o_push (.int (2)) 1) := ok_iconst (n := 2) (by decide +kernel) (by decide +kernel)
theorem k_68_74 : OkOp mt Ev 68 74 (o_push (.int (-1)) 1) := ok_iconst (n := -1) (by decide +kernel) (by decide +kernel)
theorem k_68_75 : OkOp mt Ev 68 75 (o_iast 2 (fun x => x)) := ok_iast (by decide +kernel)
theorem k_68_76 : OkOp mt Ev 68 76 (o_dup) := ok_dup (by decide +kernel)
theorem k_68_77 : OkOp mt Ev 68 77 (o_push (.int (3)) 1) := ok_iconst (n := 3) (by decide +kernel) (by decide +kernel)
theorem k_68_78 : OkOp mt Ev 68 78 (o_push (.int (-1)) 1) := ok_iconst (n := -1) (by decide +kernel) (by decide +kernel)
theorem k_68_79 : OkOp mt Ev 68 79 (o_iast 2 (fun x => x)) := ok_iast (by decide +kernel)
theorem k_68_80 : OkOp mt Ev 68 80 (o_dup) := ok_dup (by decide +kernel)
theorem k_68_81 : OkOp mt Ev 68 81 (o_push (.int (4)) 1) := ok_iconst (n := 4) (by decide +kernel) (by decide +kernel)
theorem k_68_82 : OkOp mt Ev 68 82 (o_push (.int (-1)) 1) := ok_iconst (n := -1) (by decide +kernel) (by decide +kernel)
theorem k_68_83 : OkOp mt Ev 68 83 (o_iast 2 (fun x => x)) := ok_iast (by decide +kernel)
theorem k_68_84 : OkOp mt Ev 68 84 (o_dup) := ok_dup (by decide +kernel)
theorem k_68_85 : OkOp mt Ev 68 85 (o_push (.int (5)) 1) := ok_iconst (n := 5) (by decide +kernel) (by decide +kernel)
theorem k_68_86 : OkOp mt Ev 68 86 (o_push (.int (-1)) 1) := ok_iconst (n := -1) (by decide +kernel) (by decide +kernel)
theorem k_68_87 : OkOp mt Ev 68 87 (o_iast 2 (fun x => x)) := ok_iast (by decide +kernel)
theorem k_68_88 : OkOp mt Ev 68 88 (o_putf 7 [11] 2) := ok_putf (i := 38) (rf := "BridgeSentences") (nm := "tapeSort") (ds := "[I") (ty := (.array .int)) (fin := true) (by decide +kernel) fc_42 wd_225 (tc_11) ff_39 (by decide) (by decide +kernel) (ov_arr .int)
theorem k_68_91 : OkOp mt Ev 68 91 (o_aload 0 1) := ok_aload_n (k := 0) (by decide +kernel) rfl
theorem k_68_92 : OkOp mt Ev 68 92 (o_push (.int (6)) 2) := ok_bipush (n := 6) (by decide +kernel) (by decide +kernel)
theorem k_68_94 : OkOp mt Ev 68 94 (o_newa 2 (.inl (fun _ => 0)) 2) := ok_newa (at_ := .int) (by decide +kernel) (by decide) rfl (fun _ _ => rfl) (by decide) wd_118
theorem k_68_96 : OkOp mt Ev 68 96 (o_putf 8 [11] 2) := ok_putf (i := 42) (rf := "BridgeSentences") (nm := "tapeSize") (ds := "[I") (ty := (.array .int)) (fin := true) (by decide +kernel) fc_43 wd_226 (tc_11) ff_40 (by decide) (by decide +kernel) (ov_arr .int)
theorem k_68_99 : OkOp mt Ev 68 99 (o_aload 0 1) := ok_aload_n (k := 0) (by decide +kernel) rfl
theorem k_68_100 : OkOp mt Ev 68 100 (o_push (.int (6)) 2) := ok_bipush (n := 6) (by decide +kernel) (by decide +kernel)
theorem k_68_102 : OkOp mt Ev 68 102 (o_push (.int (60)) 2) := ok_bipush (n := 60) (by decide +kernel) (by decide +kernel)
theorem k_68_104 : OkOp mt Ev 68 104 (o_mna) := ok_mna (i := 45) (by decide +kernel) wd_216 wd_249
theorem k_68_108 : OkOp mt Ev 68 108 (o_putf 9 [11] 2) := ok_putf (i := 47) (rf := "BridgeSentences") (nm := "tapeItems") (ds := "[[J") (ty := (.array (.array .long))) (fin := true) (by decide +kernel) fc_44 wd_227 (tc_11) ff_41 (by decide) (by decide +kernel) (ov_arr (.array .long))
theorem k_68_111 : OkOp mt Ev 68 111 (o_retv) := ok_retv (by decide +kernel) rfl
theorem kt_68 : ∀ pc o, cd_X11_init Ev pc = some o → OkOp mt Ev 68 pc o ∧ Gw o := (tN_ok (tN_ok (tN_ok (tN_ok (tN_ok (tN_ok (tL_ok ⟨k_68_0, gw_aload⟩) (tL_ok ⟨k_68_1, gw_oi⟩)) (tN_ok (tL_ok ⟨k_68_4, gw_aload⟩) (tL_ok ⟨k_68_5, gw_new⟩))) (tN_ok (tN_ok (tL_ok ⟨k_68_8, gw_dup⟩) (tL_ok ⟨k_68_9, gw_ci⟩)) (tN_ok (tL_ok ⟨k_68_12, gw_putf⟩) (tL_ok ⟨k_68_15, gw_aload⟩)))) (tN_ok (tN_ok (tN_ok (tL_ok ⟨k_68_16, gw_new⟩) (tL_ok ⟨k_68_19, gw_dup⟩)) (tN_ok (tL_ok ⟨k_68_20, gw_ci⟩) (tL_ok ⟨k_68_23, gw_putf⟩))) (tN_ok (tN_ok (tL_ok ⟨k_68_26, gw_aload⟩) (tL_ok ⟨k_68_27, gw_new⟩)) (tN_ok (tL_ok ⟨k_68_30, gw_dup⟩) (tL_ok ⟨k_68_31, gw_ci⟩))))) (tN_ok (tN_ok (tN_ok (tN_ok (tL_ok ⟨k_68_34, gw_putf⟩) (tL_ok ⟨k_68_37, gw_aload⟩)) (tN_ok (tL_ok ⟨k_68_38, gw_new⟩) (tL_ok ⟨k_68_41, gw_dup⟩))) (tN_ok (tN_ok (tL_ok ⟨k_68_42, gw_ci⟩) (tL_ok ⟨k_68_45, gw_putf⟩)) (tN_ok (tL_ok ⟨k_68_48, gw_aload⟩) (tL_ok ⟨k_68_49, gw_new⟩)))) (tN_ok (tN_ok (tN_ok (tL_ok ⟨k_68_52, gw_dup⟩) (tL_ok ⟨k_68_53, gw_ci⟩)) (tN_ok (tL_ok ⟨k_68_56, gw_putf⟩) (tL_ok ⟨k_68_59, gw_aload⟩))) (tN_ok (tN_ok (tL_ok ⟨k_68_60, gw_push⟩) (tL_ok ⟨k_68_62, gw_newa⟩)) (tN_ok (tL_ok ⟨k_68_64, gw_dup⟩) (tL_ok ⟨k_68_65, gw_push⟩)))))) (tN_ok (tN_ok (tN_ok (tN_ok (tN_ok (tL_ok ⟨k_68_66, gw_push⟩) (tL_ok ⟨k_68_67, gw_iast⟩)) (tN_ok (tL_ok ⟨k_68_68, gw_dup⟩) (tL_ok ⟨k_68_69, gw_push⟩))) (tN_ok (tN_ok (tL_ok ⟨k_68_70, gw_push⟩) (tL_ok ⟨k_68_71, gw_iast⟩)) (tN_ok (tL_ok ⟨k_68_72, gw_dup⟩) (tL_ok ⟨k_68_73, gw_push⟩)))) (tN_ok (tN_ok (tN_ok (tL_ok ⟨k_68_74, gw_push⟩) (tL_ok ⟨k_68_75, gw_iast⟩)) (tN_ok (tL_ok ⟨k_68_76, gw_dup⟩) (tL_ok ⟨k_68_77, gw_push⟩))) (tN_ok (tN_ok (tL_ok ⟨k_68_78, gw_push⟩) (tL_ok ⟨k_68_79, gw_iast⟩)) (tN_ok (tL_ok ⟨k_68_80, gw_dup⟩) (tL_ok ⟨k_68_81, gw_push⟩))))) (tN_ok (tN_ok (tN_ok (tN_ok (tL_ok ⟨k_68_82, gw_push⟩) (tL_ok ⟨k_68_83, gw_iast⟩)) (tN_ok (tL_ok ⟨k_68_84, gw_dup⟩) (tL_ok ⟨k_68_85, gw_push⟩))) (tN_ok (tN_ok (tL_ok ⟨k_68_86, gw_push⟩) (tL_ok ⟨k_68_87, gw_iast⟩)) (tN_ok (tL_ok ⟨k_68_88, gw_putf⟩) (tL_ok ⟨k_68_91, gw_aload⟩)))) (tN_ok (tN_ok (tN_ok (tL_ok ⟨k_68_92, gw_push⟩) (tL_ok ⟨k_68_94, gw_newa⟩)) (tN_ok (tL_ok ⟨k_68_96, gw_putf⟩) (tL_ok ⟨k_68_99, gw_aload⟩))) (tN_ok (tN_ok (tL_ok ⟨k_68_100, gw_push⟩) (tL_ok ⟨k_68_102, gw_push⟩)) (tN_ok (tL_ok ⟨k_68_104, gw_mna⟩) (tN_ok (tL_ok ⟨k_68_108, gw_putf⟩) (tL_ok ⟨k_68_111, gw_retv⟩))))))))
theorem k_69_0 : OkOp mt Ev 69 0 (o_iload 1 1) := ok_iload_n (k := 1) (by decide +kernel) rfl
theorem k_69_1 : OkOp mt Ev 69 1 (o_if1 (fun x => decide (x < 0)) 12) := ok_if_lt (off := 11) (by decide +kernel) (by decide +kernel)
theorem k_69_4 : OkOp mt Ev 69 4 (o_iload 1 1) := ok_iload_n (k := 1) (by decide +kernel) rfl
theorem k_69_5 : OkOp mt Ev 69 5 (o_push (Ev 0) 3) := ok_stat (i := 50) (K := "BridgeSentences") (n := "ABOVE") (d := "[I") (by decide +kernel) (by simp [stL, RX11, RJ0]) wd_254
theorem k_69_8 : OkOp mt Ev 69 8 (o_alen) := ok_alen (by decide +kernel)
theorem k_69_9 : OkOp mt Ev 69 9 (o_if2 (fun x y => decide (x < y)) 14) := ok_icmp_lt (off := 5) (by decide +kernel) (by decide +kernel)
theorem k_69_12 : OkOp mt Ev 69 12 (o_push (.int (-1)) 1) := ok_iconst (n := -1) (by decide +kernel) (by decide +kernel)
theorem k_69_13 : OkOp mt Ev 69 13 (o_ret 0) := ok_reti (ty := .int) (by decide +kernel) rfl (Or.inl ⟨rfl, rfl⟩)
theorem k_69_14 : OkOp mt Ev 69 14 (o_iload 2 1) := ok_iload_n (k := 2) (by decide +kernel) rfl
theorem k_69_15 : OkOp mt Ev 69 15 (o_if1 (fun x => decide (x < 0)) 31) := ok_if_lt (off := 16) (by decide +kernel) (by decide +kernel)
theorem k_69_18 : OkOp mt Ev 69 18 (o_iload 2 1) := ok_iload_n (k := 2) (by decide +kernel) rfl
theorem k_69_19 : OkOp mt Ev 69 19 (o_push (.int (9)) 2) := ok_bipush (n := 9) (by decide +kernel) (by decide +kernel)
theorem k_69_21 : OkOp mt Ev 69 21 (o_if2 (fun x y => decide (y < x)) 31) := ok_icmp_gt (off := 10) (by decide +kernel) (by decide +kernel)
theorem k_69_24 : OkOp mt Ev 69 24 (o_iload 3 1) := ok_iload_n (k := 3) (by decide +kernel) rfl
theorem k_69_25 : OkOp mt Ev 69 25 (o_cs 102 1) := ok_cs (i := 53) (by decide +kernel) wd_256 wd_257 wd_56 wd_258 nk_18
theorem k_69_28 : OkOp mt Ev 69 28 (o_if1 (fun x => decide (¬ x = 0)) 34) := ok_if_ne (off := 6) (by decide +kernel) (by decide +kernel)
theorem k_69_31 : OkOp mt Ev 69 31 (o_push (.int (-2)) 2) := ok_bipush (n := -2) (by decide +kernel) (by decide +kernel)
theorem k_69_33 : OkOp mt Ev 69 33 (o_ret 0) := ok_reti (ty := .int) (by decide +kernel) rfl (Or.inl ⟨rfl, rfl⟩)
theorem k_69_34 : OkOp mt Ev 69 34 (o_aload 0 1) := ok_aload_n (k := 0) (by decide +kernel) rfl
theorem k_69_35 : OkOp mt Ev 69 35 (o_getf 0 [11]) := ok_getf (i := 12) (rf := "BridgeSentences") (nm := "now") (ds := "LBridgeSentences$World;") (by decide +kernel) fc_37 wd_218
theorem k_69_38 : OkOp mt Ev 69 38 (o_getf 2 [10]) := ok_getf (i := 57) (rf := "BridgeSentences$World") (nm := "count") (ds := "I") (by decide +kernel) fc_32 wd_124
theorem k_69_41 : OkOp mt Ev 69 41 (o_push (.int (6)) 2) := ok_bipush (n := 6) (by decide +kernel) (by decide +kernel)
theorem k_69_43 : OkOp mt Ev 69 43 (o_if2 (fun x y => decide (x < y)) 49) := ok_icmp_lt (off := 6) (by decide +kernel) (by decide +kernel)
theorem k_69_46 : OkOp mt Ev 69 46 (o_push (.int (-4)) 2) := ok_bipush (n := -4) (by decide +kernel) (by decide +kernel)
theorem k_69_48 : OkOp mt Ev 69 48 (o_ret 0) := ok_reti (ty := .int) (by decide +kernel) rfl (Or.inl ⟨rfl, rfl⟩)
theorem k_69_49 : OkOp mt Ev 69 49 (o_iload 1 1) := ok_iload_n (k := 1) (by decide +kernel) rfl
theorem k_69_50 : OkOp mt Ev 69 50 (o_aload 0 1) := ok_aload_n (k := 0) (by decide +kernel) rfl
theorem k_69_51 : OkOp mt Ev 69 51 (o_getf 0 [11]) := ok_getf (i := 12) (rf := "BridgeSentences") (nm := "now") (ds := "LBridgeSentences$World;") (by decide +kernel) fc_37 wd_218
theorem k_69_54 : OkOp mt Ev 69 54 (o_getf 2 [10]) := ok_getf (i := 57) (rf := "BridgeSentences$World") (nm := "count") (ds := "I") (by decide +kernel) fc_32 wd_124
theorem k_69_57 : OkOp mt Ev 69 57 (o_cs 112 2) := ok_cs (i := 61) (by decide +kernel) wd_259 wd_260 wd_56 wd_261 nk_12
theorem k_69_60 : OkOp mt Ev 69 60 (o_astore 4 2) := ok_astore (by decide +kernel)
theorem k_69_62 : OkOp mt Ev 69 62 (o_aload 4 2) := ok_aload (by decide +kernel)
theorem k_69_64 : OkOp mt Ev 69 64 (o_iload 2 1) := ok_iload_n (k := 2) (by decide +kernel) rfl
theorem k_69_65 : OkOp mt Ev 69 65 (o_putf 2 [1, 2, 3, 4, 5, 6, 8] 0) := ok_putf (i := 65) (rf := "BridgeSentences$One") (nm := "v") (ds := "I") (ty := .int) (fin := false) (by decide +kernel) fc_13 wd_282 (tc_1_2_3_4_5_6_8) ff_42 (by decide) (by decide +kernel) ov_int
theorem k_69_68 : OkOp mt Ev 69 68 (o_aload 4 2) := ok_aload (by decide +kernel)
theorem k_69_70 : OkOp mt Ev 69 70 (o_iload 3 1) := ok_iload_n (k := 3) (by decide +kernel) rfl
theorem k_69_71 : OkOp mt Ev 69 71 (o_putf 3 [1, 2, 3, 4, 5, 6, 8] 0) := ok_putf (i := 70) (rf := "BridgeSentences$One") (nm := "has") (ds := "I") (ty := .int) (fin := false) (by decide +kernel) fc_14 wd_287 (tc_1_2_3_4_5_6_8) ff_43 (by decide) (by decide +kernel) ov_int
theorem k_69_74 : OkOp mt Ev 69 74 (o_aload 0 1) := ok_aload_n (k := 0) (by decide +kernel) rfl
theorem k_69_75 : OkOp mt Ev 69 75 (o_getf 0 [11]) := ok_getf (i := 12) (rf := "BridgeSentences") (nm := "now") (ds := "LBridgeSentences$World;") (by decide +kernel) fc_37 wd_218
theorem k_69_78 : OkOp mt Ev 69 78 (o_getf 1 [10]) := ok_getf (i := 73) (rf := "BridgeSentences$World") (nm := "people") (ds := "[LBridgeSentences$One;") (by decide +kernel) fc_27 wd_122
theorem k_69_81 : OkOp mt Ev 69 81 (o_aload 0 1) := ok_aload_n (k := 0) (by decide +kernel) rfl
theorem k_69_82 : OkOp mt Ev 69 82 (o_getf 0 [11]) := ok_getf (i := 12) (rf := "BridgeSentences") (nm := "now") (ds := "LBridgeSentences$World;") (by decide +kernel) fc_37 wd_218
theorem k_69_85 : OkOp mt Ev 69 85 (o_getf 2 [10]) := ok_getf (i := 57) (rf := "BridgeSentences$World") (nm := "count") (ds := "I") (by decide +kernel) fc_32 wd_124
theorem k_69_88 : OkOp mt Ev 69 88 (o_aload 4 2) := ok_aload (by decide +kernel)
theorem k_69_90 : OkOp mt Ev 69 90 (o_aast [1, 2, 3, 4, 5, 6, 8]) := ok_aast (by decide +kernel) as_one
theorem k_69_91 : OkOp mt Ev 69 91 (o_aload 0 1) := ok_aload_n (k := 0) (by decide +kernel) rfl
theorem k_69_92 : OkOp mt Ev 69 92 (o_getf 0 [11]) := ok_getf (i := 12) (rf := "BridgeSentences") (nm := "now") (ds := "LBridgeSentences$World;") (by decide +kernel) fc_37 wd_218
theorem k_69_95 : OkOp mt Ev 69 95 (o_dup) := ok_dup (by decide +kernel)
theorem k_69_96 : OkOp mt Ev 69 96 (o_getf 2 [10]) := ok_getf (i := 57) (rf := "BridgeSentences$World") (nm := "count") (ds := "I") (by decide +kernel) fc_32 wd_124
theorem k_69_99 : OkOp mt Ev 69 99 (o_push (.int (1)) 1) := ok_iconst (n := 1) (by decide +kernel) (by decide +kernel)
theorem k_69_100 : OkOp mt Ev 69 100 (o_ib (fun x y => x + y)) := ok_iadd (by decide +kernel)
theorem k_69_101 : OkOp mt Ev 69 101 (o_putf 2 [10] 0) := ok_putf (i := 57) (rf := "BridgeSentences$World") (nm := "count") (ds := "I") (ty := .int) (fin := false) (by decide +kernel) fc_32 wd_124 (tc_10) ff_44 (by decide) (by decide +kernel) ov_int
theorem k_69_104 : OkOp mt Ev 69 104 (o_aload 4 2) := ok_aload (by decide +kernel)
theorem k_69_106 : OkOp mt Ev 69 106 (o_getf 1 [1, 2, 3, 4, 5, 6, 8]) := ok_getf (i := 77) (rf := "BridgeSentences$One") (nm := "number") (ds := "I") (by decide +kernel) fc_12 wd_275
theorem k_69_109 : OkOp mt Ev 69 109 (o_ret 0) := ok_reti (ty := .int) (by decide +kernel) rfl (Or.inl ⟨rfl, rfl⟩)
theorem kt_69 : ∀ pc o, cd_X11_one Ev pc = some o → OkOp mt Ev 69 pc o ∧ Gw o := (tN_ok (tN_ok (tN_ok (tN_ok (tN_ok (tL_ok ⟨k_69_0, gw_iload⟩) (tN_ok (tL_ok ⟨k_69_1, gw_if1⟩) (tL_ok ⟨k_69_4, gw_iload⟩))) (tN_ok (tL_ok ⟨k_69_5, gw_push⟩) (tN_ok (tL_ok ⟨k_69_8, gw_alen⟩) (tL_ok ⟨k_69_9, gw_if2⟩)))) (tN_ok (tN_ok (tL_ok ⟨k_69_12, gw_push⟩) (tN_ok (tL_ok ⟨k_69_13, gw_ret⟩) (tL_ok ⟨k_69_14, gw_iload⟩))) (tN_ok (tN_ok (tL_ok ⟨k_69_15, gw_if1⟩) (tL_ok ⟨k_69_18, gw_iload⟩)) (tN_ok (tL_ok ⟨k_69_19, gw_push⟩) (tL_ok ⟨k_69_21, gw_if2⟩))))) (tN_ok (tN_ok (tN_ok (tL_ok ⟨k_69_24, gw_iload⟩) (tN_ok (tL_ok ⟨k_69_25, gw_cs⟩) (tL_ok ⟨k_69_28, gw_if1⟩))) (tN_ok (tN_ok (tL_ok ⟨k_69_31, gw_push⟩) (tL_ok ⟨k_69_33, gw_ret⟩)) (tN_ok (tL_ok ⟨k_69_34, gw_aload⟩) (tL_ok ⟨k_69_35, gw_getf⟩)))) (tN_ok (tN_ok (tL_ok ⟨k_69_38, gw_getf⟩) (tN_ok (tL_ok ⟨k_69_41, gw_push⟩) (tL_ok ⟨k_69_43, gw_if2⟩))) (tN_ok (tN_ok (tL_ok ⟨k_69_46, gw_push⟩) (tL_ok ⟨k_69_48, gw_ret⟩)) (tN_ok (tL_ok ⟨k_69_49, gw_iload⟩) (tL_ok ⟨k_69_50, gw_aload⟩)))))) (tN_ok (tN_ok (tN_ok (tN_ok (tL_ok ⟨k_69_51, gw_getf⟩) (tN_ok (tL_ok ⟨k_69_54, gw_getf⟩) (tL_ok ⟨k_69_57, gw_cs⟩))) (tN_ok (tN_ok (tL_ok ⟨k_69_60, gw_astore⟩) (tL_ok ⟨k_69_62, gw_aload⟩)) (tN_ok (tL_ok ⟨k_69_64, gw_iload⟩) (tL_ok ⟨k_69_65, gw_putf⟩)))) (tN_ok (tN_ok (tL_ok ⟨k_69_68, gw_aload⟩) (tN_ok (tL_ok ⟨k_69_70, gw_iload⟩) (tL_ok ⟨k_69_71, gw_putf⟩))) (tN_ok (tN_ok (tL_ok ⟨k_69_74, gw_aload⟩) (tL_ok ⟨k_69_75, gw_getf⟩)) (tN_ok (tL_ok ⟨k_69_78, gw_getf⟩) (tL_ok ⟨k_69_81, gw_aload⟩))))) (tN_ok (tN_ok (tN_ok (tL_ok ⟨k_69_82, gw_getf⟩) (tN_ok (tL_ok ⟨k_69_85, gw_getf⟩) (tL_ok ⟨k_69_88, gw_aload⟩))) (tN_ok (tN_ok (tL_ok ⟨k_69_90, gw_aast⟩) (tL_ok ⟨k_69_91, gw_aload⟩)) (tN_ok (tL_ok ⟨k_69_92, gw_getf⟩) (tL_ok ⟨k_69_95, gw_dup⟩)))) (tN_ok (tN_ok (tL_ok ⟨k_69_96, gw_getf⟩) (tN_ok (tL_ok ⟨k_69_99, gw_push⟩) (tL_ok ⟨k_69_100, gw_ib⟩))) (tN_ok (tN_ok (tL_ok ⟨k_69_101, gw_putf⟩) (tL_ok ⟨k_69_104, gw_aload⟩)) (tN_ok (tL_ok ⟨k_69_106, gw_getf⟩) (tL_ok ⟨k_69_109, gw_ret⟩)))))))
theorem k_70_0 : OkOp mt Ev 70 0 (o_aload 0 1) := ok_aload_n (k := 0) (by decide +kernel) rfl
theorem k_70_1 : OkOp mt Ev 70 1 (o_getf 0 [11]) := ok_getf (i := 12) (rf := "BridgeSentences") (nm := "now") (ds := "LBridgeSentences$World;") (by decide +kernel) fc_37 wd_218
theorem k_70_4 : OkOp mt Ev 70 4 (o_iload 1 1) := ok_iload_n (k := 1) (by decide +kernel) rfl
theorem k_70_5 : OkOp mt Ev 70 5 (o_cv [(10, 51)] 1) := ok_cv (i := 80) (by decide +kernel) vc_112
theorem k_70_8 : OkOp mt Ev 70 8 (o_astore 3 1) := ok_astore_n (k := 3) (by decide +kernel) rfl
theorem k_70_9 : OkOp mt Ev 70 9 (o_aload 3 1) := ok_aload_n (k := 3) (by decide +kernel) rfl
theorem k_70_10 : OkOp mt Ev 70 10 (o_ifnonnull 15) := ok_ifnonnull (off := 5) (by decide +kernel) (by decide +kernel)
theorem k_70_13 : OkOp mt Ev 70 13 (o_push (.int (-1)) 1) := ok_iconst (n := -1) (by decide +kernel) (by decide +kernel)
theorem k_70_14 : OkOp mt Ev 70 14 (o_ret 0) := ok_reti (ty := .int) (by decide +kernel) rfl (Or.inl ⟨rfl, rfl⟩)
theorem k_70_15 : OkOp mt Ev 70 15 (o_iload 2 1) := ok_iload_n (k := 2) (by decide +kernel) rfl
theorem k_70_16 : OkOp mt Ev 70 16 (o_sw 148 [(0, 68), (1, 73), (2, 78), (3, 83), (4, 96), (5, 101), (6, 117), (7, 123), (8, 129)]) := ok_tsw (dflt := 132) (lo := 0) (hi := 8) (offs := #[52, 57, 62, 67, 80, 85, 101, 107, 113]) (len := 52) (by decide +kernel) (by decide +kernel) (by decide +kernel) (by decide +kernel)
theorem k_70_68 : OkOp mt Ev 70 68 (o_aload 3 1) := ok_aload_n (k := 3) (by decide +kernel) rfl
theorem k_70_69 : OkOp mt Ev 70 69 (o_getf 0 [1, 2, 3, 4, 5, 6, 8]) := ok_getf (i := 84) (rf := "BridgeSentences$One") (nm := "kind") (ds := "I") (by decide +kernel) fc_11 wd_273
theorem k_70_72 : OkOp mt Ev 70 72 (o_ret 0) := ok_reti (ty := .int) (by decide +kernel) rfl (Or.inl ⟨rfl, rfl⟩)
theorem k_70_73 : OkOp mt Ev 70 73 (o_aload 3 1) := ok_aload_n (k := 3) (by decide +kernel) rfl
theorem k_70_74 : OkOp mt Ev 70 74 (o_getf 2 [1, 2, 3, 4, 5, 6, 8]) := ok_getf (i := 65) (rf := "BridgeSentences$One") (nm := "v") (ds := "I") (by decide +kernel) fc_13 wd_282
theorem k_70_77 : OkOp mt Ev 70 77 (o_ret 0) := ok_reti (ty := .int) (by decide +kernel) rfl (Or.inl ⟨rfl, rfl⟩)
theorem k_70_78 : OkOp mt Ev 70 78 (o_aload 3 1) := ok_aload_n (k := 3) (by decide +kernel) rfl
theorem k_70_79 : OkOp mt Ev 70 79 (o_getf 3 [1, 2, 3, 4, 5, 6, 8]) := ok_getf (i := 70) (rf := "BridgeSentences$One") (nm := "has") (ds := "I") (by decide +kernel) fc_14 wd_287
theorem k_70_82 : OkOp mt Ev 70 82 (o_ret 0) := ok_reti (ty := .int) (by decide +kernel) rfl (Or.inl ⟨rfl, rfl⟩)
theorem k_70_83 : OkOp mt Ev 70 83 (o_aload 3 1) := ok_aload_n (k := 3) (by decide +kernel) rfl
theorem k_70_84 : OkOp mt Ev 70 84 (o_getf 4 [1, 2, 3, 4, 5, 6, 8]) := ok_getf (i := 87) (rf := "BridgeSentences$One") (nm := "isBeyond") (ds := "Z") (by decide +kernel) fc_15 wd_292
theorem k_70_87 : OkOp mt Ev 70 87 (o_if1 (fun x => decide (x = 0)) 94) := ok_if_eq (off := 7) (by decide +kernel) (by decide +kernel)
theorem k_70_90 : OkOp mt Ev 70 90 (o_push (.int (1)) 1) := ok_iconst (n := 1) (by decide +kernel) (by decide +kernel)
theorem k_70_91 : OkOp mt Ev 70 91 (o_goto 95) := ok_goto (off := 4) (by decide +kernel) (by decide +kernel)
theorem k_70_94 : OkOp mt Ev 70 94 (o_push (.int (0)) 1) := ok_iconst (n := 0) (by decide +kernel) (by decide +kernel)
theorem k_70_95 : OkOp mt Ev 70 95 (o_ret 0) := ok_reti (ty := .int) (by decide +kernel) rfl (Or.inl ⟨rfl, rfl⟩)
theorem k_70_96 : OkOp mt Ev 70 96 (o_aload 3 1) := ok_aload_n (k := 3) (by decide +kernel) rfl
theorem k_70_97 : OkOp mt Ev 70 97 (o_getf 5 [1, 2, 3, 4, 5, 6, 8]) := ok_getf (i := 91) (rf := "BridgeSentences$One") (nm := "back") (ds := "I") (by decide +kernel) fc_16 wd_297
theorem k_70_100 : OkOp mt Ev 70 100 (o_ret 0) := ok_reti (ty := .int) (by decide +kernel) rfl (Or.inl ⟨rfl, rfl⟩)
theorem k_70_101 : OkOp mt Ev 70 101 (o_aload 0 1) := ok_aload_n (k := 0) (by decide +kernel) rfl
theorem k_70_102 : OkOp mt Ev 70 102 (o_getf 0 [11]) := ok_getf (i := 12) (rf := "BridgeSentences") (nm := "now") (ds := "LBridgeSentences$World;") (by decide +kernel) fc_37 wd_218
theorem k_70_105 : OkOp mt Ev 70 105 (o_aload 3 1) := ok_aload_n (k := 3) (by decide +kernel) rfl
theorem k_70_106 : OkOp mt Ev 70 106 (o_aload 3 1) := ok_aload_n (k := 3) (by decide +kernel) rfl
theorem k_70_107 : OkOp mt Ev 70 107 (o_getf 3 [1, 2, 3, 4, 5, 6, 8]) := ok_getf (i := 70) (rf := "BridgeSentences$One") (nm := "has") (ds := "I") (by decide +kernel) fc_14 wd_287
theorem k_70_110 : OkOp mt Ev 70 110 (o_cv [(10, 58)] 2) := ok_cv (i := 94) (by decide +kernel) vc_113
theorem k_70_113 : OkOp mt Ev 70 113 (o_cs 107 1) := ok_cs (i := 98) (by decide +kernel) wd_450 wd_451 wd_56 wd_452 nk_19
theorem k_70_116 : OkOp mt Ev 70 116 (o_ret 0) := ok_reti (ty := .int) (by decide +kernel) rfl (Or.inl ⟨rfl, rfl⟩)
theorem k_70_117 : OkOp mt Ev 70 117 (o_aload 0 1) := ok_aload_n (k := 0) (by decide +kernel) rfl
theorem k_70_118 : OkOp mt Ev 70 118 (o_aload 3 1) := ok_aload_n (k := 3) (by decide +kernel) rfl
theorem k_70_119 : OkOp mt Ev 70 119 (o_cv [(11, 113)] 1) := ok_cv (i := 102) (by decide +kernel) vc_114
theorem k_70_122 : OkOp mt Ev 70 122 (o_ret 0) := ok_reti (ty := .int) (by decide +kernel) rfl (Or.inl ⟨rfl, rfl⟩)
theorem k_70_123 : OkOp mt Ev 70 123 (o_aload 0 1) := ok_aload_n (k := 0) (by decide +kernel) rfl
theorem k_70_124 : OkOp mt Ev 70 124 (o_aload 3 1) := ok_aload_n (k := 3) (by decide +kernel) rfl
theorem k_70_125 : OkOp mt Ev 70 125 (o_cv [(11, 114)] 1) := ok_cv (i := 106) (by decide +kernel) vc_115
theorem k_70_128 : OkOp mt Ev 70 128 (o_ret 0) := ok_reti (ty := .int) (by decide +kernel) rfl (Or.inl ⟨rfl, rfl⟩)
theorem k_70_129 : OkOp mt Ev 70 129 (o_aload 0 1) := ok_aload_n (k := 0) (by decide +kernel) rfl
theorem k_70_130 : OkOp mt Ev 70 130 (o_aload 3 1) := ok_aload_n (k := 3) (by decide +kernel) rfl
theorem k_70_131 : OkOp mt Ev 70 131 (o_cv [(11, 114)] 1) := ok_cv (i := 106) (by decide +kernel) vc_115
theorem k_70_134 : OkOp mt Ev 70 134 (o_if1 (fun x => decide (¬ x = 0)) 142) := ok_if_ne (off := 8) (by decide +kernel) (by decide +kernel)
theorem k_70_137 : OkOp mt Ev 70 137 (o_push (.int (-5)) 2) := ok_bipush (n := -5) (by decide +kernel) (by decide +kernel)
theorem k_70_139 : OkOp mt Ev 70 139 (o_goto 147) := ok_goto (off := 8) (by decide +kernel) (by decide +kernel)
theorem k_70_142 : OkOp mt Ev 70 142 (o_aload 0 1) := ok_aload_n (k := 0) (by decide +kernel) rfl
theorem k_70_143 : OkOp mt Ev 70 143 (o_aload 3 1) := ok_aload_n (k := 3) (by decide +kernel) rfl
theorem k_70_144 : OkOp mt Ev 70 144 (o_cv [(11, 115)] 1) := ok_cv (i := 109) (by decide +kernel) vc_116
theorem k_70_147 : OkOp mt Ev 70 147 (o_ret 0) := ok_reti (ty := .int) (by decide +kernel) rfl (Or.inl ⟨rfl, rfl⟩)
theorem k_70_148 : OkOp mt Ev 70 148 (o_push (.int (-1)) 1) := ok_iconst (n := -1) (by decide +kernel) (by decide +kernel)
theorem k_70_149 : OkOp mt Ev 70 149 (o_ret 0) := ok_reti (ty := .int) (by decide +kernel) rfl (Or.inl ⟨rfl, rfl⟩)
theorem kt_70 : ∀ pc o, cd_X11_of Ev pc = some o → OkOp mt Ev 70 pc o ∧ Gw o := (tN_ok (tN_ok (tN_ok (tN_ok (tN_ok (tL_ok ⟨k_70_0, gw_aload⟩) (tN_ok (tL_ok ⟨k_70_1, gw_getf⟩) (tL_ok ⟨k_70_4, gw_iload⟩))) (tN_ok (tN_ok (tL_ok ⟨k_70_5, gw_cv⟩) (tL_ok ⟨k_70_8, gw_astore⟩)) (tN_ok (tL_ok ⟨k_70_9, gw_aload⟩) (tL_ok ⟨k_70_10, gw_ifnonnull⟩)))) (tN_ok (tN_ok (tL_ok ⟨k_70_13, gw_push⟩) (tN_ok (tL_ok ⟨k_70_14, gw_ret⟩) (tL_ok ⟨k_70_15, gw_iload⟩))) (tN_ok (tN_ok (tL_ok ⟨k_70_16, gw_sw⟩) (tL_ok ⟨k_70_68, gw_aload⟩)) (tN_ok (tL_ok ⟨k_70_69, gw_getf⟩) (tL_ok ⟨k_70_72, gw_ret⟩))))) (tN_ok (tN_ok (tN_ok (tL_ok ⟨k_70_73, gw_aload⟩) (tN_ok (tL_ok ⟨k_70_74, gw_getf⟩) (tL_ok ⟨k_70_77, gw_ret⟩))) (tN_ok (tN_ok (tL_ok ⟨k_70_78, gw_aload⟩) (tL_ok ⟨k_70_79, gw_getf⟩)) (tN_ok (tL_ok ⟨k_70_82, gw_ret⟩) (tL_ok ⟨k_70_83, gw_aload⟩)))) (tN_ok (tN_ok (tN_ok (tL_ok ⟨k_70_84, gw_getf⟩) (tL_ok ⟨k_70_87, gw_if1⟩)) (tN_ok (tL_ok ⟨k_70_90, gw_push⟩) (tL_ok ⟨k_70_91, gw_goto⟩))) (tN_ok (tN_ok (tL_ok ⟨k_70_94, gw_push⟩) (tL_ok ⟨k_70_95, gw_ret⟩)) (tN_ok (tL_ok ⟨k_70_96, gw_aload⟩) (tL_ok ⟨k_70_97, gw_getf⟩)))))) (tN_ok (tN_ok (tN_ok (tN_ok (tL_ok ⟨k_70_100, gw_ret⟩) (tN_ok (tL_ok ⟨k_70_101, gw_aload⟩) (tL_ok ⟨k_70_102, gw_getf⟩))) (tN_ok (tN_ok (tL_ok ⟨k_70_105, gw_aload⟩) (tL_ok ⟨k_70_106, gw_aload⟩)) (tN_ok (tL_ok ⟨k_70_107, gw_getf⟩) (tL_ok ⟨k_70_110, gw_cv⟩)))) (tN_ok (tN_ok (tL_ok ⟨k_70_113, gw_cs⟩) (tN_ok (tL_ok ⟨k_70_116, gw_ret⟩) (tL_ok ⟨k_70_117, gw_aload⟩))) (tN_ok (tN_ok (tL_ok ⟨k_70_118, gw_aload⟩) (tL_ok ⟨k_70_119, gw_cv⟩)) (tN_ok (tL_ok ⟨k_70_122, gw_ret⟩) (tL_ok ⟨k_70_123, gw_aload⟩))))) (tN_ok (tN_ok (tN_ok (tL_ok ⟨k_70_124, gw_aload⟩) (tN_ok (tL_ok ⟨k_70_125, gw_cv⟩) (tL_ok ⟨k_70_128, gw_ret⟩))) (tN_ok (tN_ok (tL_ok ⟨k_70_129, gw_aload⟩) (tL_ok ⟨k_70_130, gw_aload⟩)) (tN_ok (tL_ok ⟨k_70_131, gw_cv⟩) (tL_ok ⟨k_70_134, gw_if1⟩)))) (tN_ok (tN_ok (tN_ok (tL_ok ⟨k_70_137, gw_push⟩) (tL_ok ⟨k_70_139, gw_goto⟩)) (tN_ok (tL_ok ⟨k_70_142, gw_aload⟩) (tL_ok ⟨k_70_143, gw_aload⟩))) (tN_ok (tN_ok (tL_ok ⟨k_70_144, gw_cv⟩) (tL_ok ⟨k_70_147, gw_ret⟩)) (tN_ok (tL_ok ⟨k_70_148, gw_push⟩) (tL_ok ⟨k_70_149, gw_ret⟩)))))))
end
