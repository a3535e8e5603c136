/-! Operations held against instructions, one by one. -/
section
variable {Ev : Nat → Value}
theorem k_179_0 : OkOp mt Ev 179 0 (o_iload 1 1) := ok_iload_n (k := 1) (by decide +kernel) rfl
theorem k_179_1 : OkOp mt Ev 179 1 (o_push (.int (0)) 1) := ok_iconst (n := 0) (by decide +kernel) (by decide +kernel)
theorem k_179_2 : OkOp mt Ev 179 2 (o_push (.int (1)) 1) := ok_iconst (n := 1) (by decide +kernel) (by decide +kernel)
theorem k_179_3 : OkOp mt Ev 179 3 (o_cs 123 3) := ok_cs (i := 83) (by decide +kernel) wd_1089 wd_1090 wd_62 wd_1091 nk_34
theorem k_179_6 : OkOp mt Ev 179 6 (o_if1 (fun x => decide (¬ x = 0)) 11) := ok_if_ne (off := 5) (by decide +kernel) (by decide +kernel)
theorem k_179_9 : OkOp mt Ev 179 9 (o_push (.int (-1)) 1) := ok_iconst (n := -1) (by decide +kernel) (by decide +kernel)
theorem k_179_10 : OkOp mt Ev 179 10 (o_ret 0) := ok_reti (ty := .int) (by decide +kernel) rfl (Or.inl ⟨rfl, rfl⟩)
theorem k_179_11 : OkOp mt Ev 179 11 (o_aload 0 1) := ok_aload_n (k := 0) (by decide +kernel) rfl
theorem k_179_12 : OkOp mt Ev 179 12 (o_getf 0 [12]) := ok_getf (i := 15) (rf := "BridgeSentencesModel") (nm := "now") (ds := "[I") (by decide +kernel) fc_47 wd_985
theorem k_179_15 : OkOp mt Ev 179 15 (o_aload 0 1) := ok_aload_n (k := 0) (by decide +kernel) rfl
theorem k_179_16 : OkOp mt Ev 179 16 (o_getf 1 [12]) := ok_getf (i := 19) (rf := "BridgeSentencesModel") (nm := "mind") (ds := "[I") (by decide +kernel) fc_48 wd_986
theorem k_179_19 : OkOp mt Ev 179 19 (o_cs 125 2) := ok_cs (i := 79) (by decide +kernel) wd_1078 wd_1079 wd_62 wd_1080 nk_33
theorem k_179_22 : OkOp mt Ev 179 22 (o_push (.int (0)) 1) := ok_iconst (n := 0) (by decide +kernel) (by decide +kernel)
theorem k_179_23 : OkOp mt Ev 179 23 (o_istore 2 1) := ok_istore_n (k := 2) (by decide +kernel) rfl
theorem k_179_24 : OkOp mt Ev 179 24 (o_iload 2 1) := ok_iload_n (k := 2) (by decide +kernel) rfl
theorem k_179_25 : OkOp mt Ev 179 25 (o_aload 0 1) := ok_aload_n (k := 0) (by decide +kernel) rfl
theorem k_179_26 : OkOp mt Ev 179 26 (o_getf 0 [12]) := ok_getf (i := 15) (rf := "BridgeSentencesModel") (nm := "now") (ds := "[I") (by decide +kernel) fc_47 wd_985
theorem k_179_29 : OkOp mt Ev 179 29 (o_push (.int (82)) 2) := ok_bipush (n := 82) (by decide +kernel) (by decide +kernel)
theorem k_179_31 : OkOp mt Ev 179 31 (o_iald 2) := ok_iald (by decide +kernel)
theorem k_179_32 : OkOp mt Ev 179 32 (o_if2 (fun x y => decide (y ≤ x)) 102) := ok_icmp_ge (off := 70) (by decide +kernel) (by decide +kernel)
theorem k_179_35 : OkOp mt Ev 179 35 (o_aload 0 1) := ok_aload_n (k := 0) (by decide +kernel) rfl
theorem k_179_36 : OkOp mt Ev 179 36 (o_getf 0 [12]) := ok_getf (i := 15) (rf := "BridgeSentencesModel") (nm := "now") (ds := "[I") (by decide +kernel) fc_47 wd_985
theorem k_179_39 : OkOp mt Ev 179 39 (o_push (.int (83)) 2) := ok_bipush (n := 83) (by decide +kernel) (by decide +kernel)
theorem k_179_41 : OkOp mt Ev 179 41 (o_push (.int (2)) 1) := ok_iconst (n := 2) (by decide +kernel) (by decide +kernel)
theorem k_179_42 : OkOp mt Ev 179 42 (o_iload 2 1) := ok_iload_n (k := 2) (by decide +kernel) rfl
theorem k_179_43 : OkOp mt Ev 179 43 (o_ib (fun x y => x * y)) := ok_imul (by decide +kernel)
theorem k_179_44 : OkOp mt Ev 179 44 (o_ib (fun x y => x + y)) := ok_iadd (by decide +kernel)
theorem k_179_45 : OkOp mt Ev 179 45 (o_iald 2) := ok_iald (by decide +kernel)
theorem k_179_46 : OkOp mt Ev 179 46 (o_istore 3 1) := ok_istore_n (k := 3) (by decide +kernel) rfl
theorem k_179_47 : OkOp mt Ev 179 47 (o_aload 0 1) := ok_aload_n (k := 0) (by decide +kernel) rfl
theorem k_179_48 : OkOp mt Ev 179 48 (o_getf 0 [12]) := ok_getf (i := 15) (rf := "BridgeSentencesModel") (nm := "now") (ds := "[I") (by decide +kernel) fc_47 wd_985
theorem k_179_51 : OkOp mt Ev 179 51 (o_push (.int (84)) 2) := ok_bipush (n := 84) (by decide +kernel) (by decide +kernel)
theorem k_179_53 : OkOp mt Ev 179 53 (o_push (.int (2)) 1) := ok_iconst (n := 2) (by decide +kernel) (by decide +kernel)
theorem k_179_54 : OkOp mt Ev 179 54 (o_iload 2 1) := ok_iload_n (k := 2) (by decide +kernel) rfl
theorem k_179_55 : OkOp mt Ev 179 55 (o_ib (fun x y => x * y)) := ok_imul (by decide +kernel)
theorem k_179_56 : OkOp mt Ev 179 56 (o_ib (fun x y => x + y)) := ok_iadd (by decide +kernel)
theorem k_179_57 : OkOp mt Ev 179 57 (o_iald 2) := ok_iald (by decide +kernel)
theorem k_179_58 : OkOp mt Ev 179 58 (o_istore 4 2) := ok_istore (by decide +kernel)
theorem k_179_60 : OkOp mt Ev 179 60 (o_iload 3 1) := ok_iload_n (k := 3) (by decide +kernel) rfl
theorem k_179_61 : OkOp mt Ev 179 61 (o_if1 (fun x => decide (¬ x = 0)) 71) := ok_if_ne (off := 10) (by decide +kernel) (by decide +kernel)
theorem k_179_64 : OkOp mt Ev 179 64 (o_aload 0 1) := ok_aload_n (k := 0) (by decide +kernel) rfl
theorem k_179_65 : OkOp mt Ev 179 65 (o_cv [(12, 161)] 0) := ok_cv (i := 207) (by decide +kernel) vc_164
theorem k_179_68 : OkOp mt Ev 179 68 (o_goto 96) := ok_goto (off := 28) (by decide +kernel) (by decide +kernel)
theorem k_179_71 : OkOp mt Ev 179 71 (o_iload 3 1) := ok_iload_n (k := 3) (by decide +kernel) rfl
theorem k_179_72 : OkOp mt Ev 179 72 (o_push (.int (3)) 1) := ok_iconst (n := 3) (by decide +kernel) (by decide +kernel)
theorem k_179_73 : OkOp mt Ev 179 73 (o_if2 (fun x y => decide (¬ x = y)) 85) := ok_icmp_ne (off := 12) (by decide +kernel) (by decide +kernel)
theorem k_179_76 : OkOp mt Ev 179 76 (o_aload 0 1) := ok_aload_n (k := 0) (by decide +kernel) rfl
theorem k_179_77 : OkOp mt Ev 179 77 (o_iload 4 2) := ok_iload (by decide +kernel)
theorem k_179_79 : OkOp mt Ev 179 79 (o_cv [(12, 160)] 1) := ok_cv (i := 204) (by decide +kernel) vc_163
theorem k_179_82 : OkOp mt Ev 179 82 (o_goto 96) := ok_goto (off := 14) (by decide +kernel) (by decide +kernel)
theorem k_179_85 : OkOp mt Ev 179 85 (o_aload 0 1) := ok_aload_n (k := 0) (by decide +kernel) rfl
theorem k_179_86 : OkOp mt Ev 179 86 (o_iload 4 2) := ok_iload (by decide +kernel)
theorem k_179_88 : OkOp mt Ev 179 88 (o_push (.int (3)) 1) := ok_iconst (n := 3) (by decide +kernel) (by decide +kernel)
theorem k_179_89 : OkOp mt Ev 179 89 (o_push (.int (2)) 1) := ok_iconst (n := 2) (by decide +kernel) (by decide +kernel)
theorem k_179_90 : OkOp mt Ev 179 90 (o_iload 3 1) := ok_iload_n (k := 3) (by decide +kernel) rfl
theorem k_179_91 : OkOp mt Ev 179 91 (o_ib (fun x y => x - y)) := ok_isub (by decide +kernel)
theorem k_179_92 : OkOp mt Ev 179 92 (o_cv [(12, 133)] 3) := ok_cv (i := 91) (by decide +kernel) vc_142
theorem k_179_95 : OkOp mt Ev 179 95 (o_pop) := ok_pop (by decide +kernel)
theorem k_179_96 : OkOp mt Ev 179 96 (o_iinc 2 (1)) := ok_iinc (n := 1) (by decide +kernel) (by decide +kernel)
theorem k_179_99 : OkOp mt Ev 179 99 (o_goto 24) := ok_goto (off := -75) (by decide +kernel) (by decide +kernel)
theorem k_179_102 : OkOp mt Ev 179 102 (o_push (.int (0)) 1) := ok_iconst (n := 0) (by decide +kernel) (by decide +kernel)
theorem k_179_103 : OkOp mt Ev 179 103 (o_istore 2 1) := ok_istore_n (k := 2) (by decide +kernel) rfl
theorem k_179_104 : OkOp mt Ev 179 104 (o_push (.int (0)) 1) := ok_iconst (n := 0) (by decide +kernel) (by decide +kernel)
theorem k_179_105 : OkOp mt Ev 179 105 (o_istore 3 1) := ok_istore_n (k := 3) (by decide +kernel) rfl
theorem k_179_106 : OkOp mt Ev 179 106 (o_iload 3 1) := ok_iload_n (k := 3) (by decide +kernel) rfl
theorem k_179_107 : OkOp mt Ev 179 107 (o_aload 0 1) := ok_aload_n (k := 0) (by decide +kernel) rfl
theorem k_179_108 : OkOp mt Ev 179 108 (o_getf 0 [12]) := ok_getf (i := 15) (rf := "BridgeSentencesModel") (nm := "now") (ds := "[I") (by decide +kernel) fc_47 wd_985
theorem k_179_111 : OkOp mt Ev 179 111 (o_push (.int (68)) 2) := ok_bipush (n := 68) (by decide +kernel) (by decide +kernel)
theorem k_179_113 : OkOp mt Ev 179 113 (o_iald 2) := ok_iald (by decide +kernel)
theorem k_179_114 : OkOp mt Ev 179 114 (o_if2 (fun x y => decide (y ≤ x)) 132) := ok_icmp_ge (off := 18) (by decide +kernel) (by decide +kernel)
theorem k_179_117 : OkOp mt Ev 179 117 (o_iload 2 1) := ok_iload_n (k := 2) (by decide +kernel) rfl
theorem k_179_118 : OkOp mt Ev 179 118 (o_aload 0 1) := ok_aload_n (k := 0) (by decide +kernel) rfl
theorem k_179_119 : OkOp mt Ev 179 119 (o_iload 3 1) := ok_iload_n (k := 3) (by decide +kernel) rfl
theorem k_179_120 : OkOp mt Ev 179 120 (o_push (.int (4)) 1) := ok_iconst (n := 4) (by decide +kernel) (by decide +kernel)
theorem k_179_121 : OkOp mt Ev 179 121 (o_cv [(12, 132)] 2) := ok_cv (i := 87) (by decide +kernel) vc_141
theorem k_179_124 : OkOp mt Ev 179 124 (o_ib (fun x y => x + y)) := ok_iadd (by decide +kernel)
theorem k_179_125 : OkOp mt Ev 179 125 (o_istore 2 1) := ok_istore_n (k := 2) (by decide +kernel) rfl
theorem k_179_126 : OkOp mt Ev 179 126 (o_iinc 3 (1)) := ok_iinc (n := 1) (by decide +kernel) (by decide +kernel)
theorem k_179_129 : OkOp mt Ev 179 129 (o_goto 106) := ok_goto (off := -23) (by decide +kernel) (by decide +kernel)
theorem k_179_132 : OkOp mt Ev 179 132 (o_iload 1 1) := ok_iload_n (k := 1) (by decide +kernel) rfl
theorem k_179_133 : OkOp mt Ev 179 133 (o_if1 (fun x => decide (¬ x = 0)) 146) := ok_if_ne (off := 13) (by decide +kernel) (by decide +kernel)
theorem k_179_136 : OkOp mt Ev 179 136 (o_aload 0 1) := ok_aload_n (k := 0) (by decide +kernel) rfl
theorem k_179_137 : OkOp mt Ev 179 137 (o_getf 0 [12]) := ok_getf (i := 15) (rf := "BridgeSentencesModel") (nm := "now") (ds := "[I") (by decide +kernel) fc_47 wd_985
theorem k_179_140 : OkOp mt Ev 179 140 (o_push (.int (13)) 2) := ok_bipush (n := 13) (by decide +kernel) (by decide +kernel)
theorem k_179_142 : OkOp mt Ev 179 142 (o_iald 2) := ok_iald (by decide +kernel)
theorem k_179_143 : OkOp mt Ev 179 143 (o_goto 147) := ok_goto (off := 4) (by decide +kernel) (by decide +kernel)
theorem k_179_146 : OkOp mt Ev 179 146 (o_iload 2 1) := ok_iload_n (k := 2) (by decide +kernel) rfl
theorem k_179_147 : OkOp mt Ev 179 147 (o_istore 3 1) := ok_istore_n (k := 3) (by decide +kernel) rfl
theorem k_179_148 : OkOp mt Ev 179 148 (o_aload 0 1) := ok_aload_n (k := 0) (by decide +kernel) rfl
theorem k_179_149 : OkOp mt Ev 179 149 (o_getf 1 [12]) := ok_getf (i := 19) (rf := "BridgeSentencesModel") (nm := "mind") (ds := "[I") (by decide +kernel) fc_48 wd_986
theorem k_179_152 : OkOp mt Ev 179 152 (o_aload 0 1) := ok_aload_n (k := 0) (by decide +kernel) rfl
theorem k_179_153 : OkOp mt Ev 179 153 (o_getf 0 [12]) := ok_getf (i := 15) (rf := "BridgeSentencesModel") (nm := "now") (ds := "[I") (by decide +kernel) fc_47 wd_985
theorem k_179_156 : OkOp mt Ev 179 156 (o_cs 125 2) := ok_cs (i := 79) (by decide +kernel) wd_1078 wd_1079 wd_62 wd_1080 nk_33
theorem k_179_159 : OkOp mt Ev 179 159 (o_iload 3 1) := ok_iload_n (k := 3) (by decide +kernel) rfl
theorem k_179_160 : OkOp mt Ev 179 160 (o_ret 0) := ok_reti (ty := .int) (by decide +kernel) rfl (Or.inl ⟨rfl, rfl⟩)
theorem kt_179 : ∀ pc o, cd_X12_ends Ev pc = some o → OkOp mt Ev 179 pc o ∧ Gw o := (tN_ok (tN_ok (tN_ok (tN_ok (tN_ok (tN_ok (tL_ok ⟨k_179_0, gw_iload⟩) (tL_ok ⟨k_179_1, gw_push⟩)) (tN_ok (tL_ok ⟨k_179_2, gw_push⟩) (tN_ok (tL_ok ⟨k_179_3, gw_cs⟩) (tL_ok ⟨k_179_6, gw_if1⟩)))) (tN_ok (tN_ok (tL_ok ⟨k_179_9, gw_push⟩) (tN_ok (tL_ok ⟨k_179_10, gw_ret⟩) (tL_ok ⟨k_179_11, gw_aload⟩))) (tN_ok (tL_ok ⟨k_179_12, gw_getf⟩) (tN_ok (tL_ok ⟨k_179_15, gw_aload⟩) (tL_ok ⟨k_179_16, gw_getf⟩))))) (tN_ok (tN_ok (tN_ok (tL_ok ⟨k_179_19, gw_cs⟩) (tN_ok (tL_ok ⟨k_179_22, gw_push⟩) (tL_ok ⟨k_179_23, gw_istore⟩))) (tN_ok (tL_ok ⟨k_179_24, gw_iload⟩) (tN_ok (tL_ok ⟨k_179_25, gw_aload⟩) (tL_ok ⟨k_179_26, gw_getf⟩)))) (tN_ok (tN_ok (tL_ok ⟨k_179_29, gw_push⟩) (tN_ok (tL_ok ⟨k_179_31, gw_iald⟩) (tL_ok ⟨k_179_32, gw_if2⟩))) (tN_ok (tL_ok ⟨k_179_35, gw_aload⟩) (tN_ok (tL_ok ⟨k_179_36, gw_getf⟩) (tL_ok ⟨k_179_39, gw_push⟩)))))) (tN_ok (tN_ok (tN_ok (tN_ok (tL_ok ⟨k_179_41, gw_push⟩) (tN_ok (tL_ok ⟨k_179_42, gw_iload⟩) (tL_ok ⟨k_179_43, gw_ib⟩))) (tN_ok (tL_ok ⟨k_179_44, gw_ib⟩) (tN_ok (tL_ok ⟨k_179_45, gw_iald⟩) (tL_ok ⟨k_179_46, gw_istore⟩)))) (tN_ok (tN_ok (tL_ok ⟨k_179_47, gw_aload⟩) (tN_ok (tL_ok ⟨k_179_48, gw_getf⟩) (tL_ok ⟨k_179_51, gw_push⟩))) (tN_ok (tL_ok ⟨k_179_53, gw_push⟩) (tN_ok (tL_ok ⟨k_179_54, gw_iload⟩) (tL_ok ⟨k_179_55, gw_ib⟩))))) (tN_ok (tN_ok (tN_ok (tL_ok ⟨k_179_56, gw_ib⟩) (tN_ok (tL_ok ⟨k_179_57, gw_iald⟩) (tL_ok ⟨k_179_58, gw_istore⟩))) (tN_ok (tL_ok ⟨k_179_60, gw_iload⟩) (tN_ok (tL_ok ⟨k_179_61, gw_if1⟩) (tL_ok ⟨k_179_64, gw_aload⟩)))) (tN_ok (tN_ok (tL_ok ⟨k_179_65, gw_cv⟩) (tN_ok (tL_ok ⟨k_179_68, gw_goto⟩) (tL_ok ⟨k_179_71, gw_iload⟩))) (tN_ok (tL_ok ⟨k_179_72, gw_push⟩) (tN_ok (tL_ok ⟨k_179_73, gw_if2⟩) (tL_ok ⟨k_179_76, gw_aload⟩))))))) (tN_ok (tN_ok (tN_ok (tN_ok (tN_ok (tL_ok ⟨k_179_77, gw_iload⟩) (tN_ok (tL_ok ⟨k_179_79, gw_cv⟩) (tL_ok ⟨k_179_82, gw_goto⟩))) (tN_ok (tL_ok ⟨k_179_85, gw_aload⟩) (tN_ok (tL_ok ⟨k_179_86, gw_iload⟩) (tL_ok ⟨k_179_88, gw_push⟩)))) (tN_ok (tN_ok (tL_ok ⟨k_179_89, gw_push⟩) (tN_ok (tL_ok ⟨k_179_90, gw_iload⟩) (tL_ok ⟨k_179_91, gw_ib⟩))) (tN_ok (tL_ok ⟨k_179_92, gw_cv⟩) (tN_ok (tL_ok ⟨k_179_95, gw_pop⟩) (tL_ok ⟨k_179_96, gw_iinc⟩))))) (tN_ok (tN_ok (tN_ok (tL_ok ⟨k_179_99, gw_goto⟩) (tN_ok (tL_ok ⟨k_179_102, gw_push⟩) (tL_ok ⟨k_179_103, gw_istore⟩))) (tN_ok (tL_ok ⟨k_179_104, gw_push⟩) (tN_ok (tL_ok ⟨k_179_105, gw_istore⟩) (tL_ok ⟨k_179_106, gw_iload⟩)))) (tN_ok (tN_ok (tL_ok ⟨k_179_107, gw_aload⟩) (tN_ok (tL_ok ⟨k_179_108, gw_getf⟩) (tL_ok ⟨k_179_111, gw_push⟩))) (tN_ok (tL_ok ⟨k_179_113, gw_iald⟩) (tN_ok (tL_ok ⟨k_179_114, gw_if2⟩) (tL_ok ⟨k_179_117, gw_iload⟩)))))) (tN_ok (tN_ok (tN_ok (tN_ok (tL_ok ⟨k_179_118, gw_aload⟩) (tN_ok (tL_ok ⟨k_179_119, gw_iload⟩) (tL_ok ⟨k_179_120, gw_push⟩))) (tN_ok (tL_ok ⟨k_179_121, gw_cv⟩) (tN_ok (tL_ok ⟨k_179_124, gw_ib⟩) (tL_ok ⟨k_179_125, gw_istore⟩)))) (tN_ok (tN_ok (tL_ok ⟨k_179_126, gw_iinc⟩) (tN_ok (tL_ok ⟨k_179_129, gw_goto⟩) (tL_ok ⟨k_179_132, gw_iload⟩))) (tN_ok (tL_ok ⟨k_179_133, gw_if1⟩) (tN_ok (tL_ok ⟨k_179_136, gw_aload⟩) (tL_ok ⟨k_179_137, gw_getf⟩))))) (tN_ok (tN_ok (tN_ok (tL_ok ⟨k_179_140, gw_push⟩) (tN_ok (tL_ok ⟨k_179_142, gw_iald⟩) (tL_ok ⟨k_179_143, gw_goto⟩))) (tN_ok (tL_ok ⟨k_179_146, gw_iload⟩) (tN_ok (tL_ok ⟨k_179_147, gw_istore⟩) (tL_ok ⟨k_179_148, gw_aload⟩)))) (tN_ok (tN_ok (tL_ok ⟨k_179_149, gw_getf⟩) (tN_ok (tL_ok ⟨k_179_152, gw_aload⟩) (tL_ok ⟨k_179_153, gw_getf⟩))) (tN_ok (tL_ok ⟨k_179_156, gw_cs⟩) (tN_ok (tL_ok ⟨k_179_159, gw_iload⟩) (tL_ok ⟨k_179_160, gw_ret⟩))))))))
theorem k_180_0 : OkOp mt Ev 180 0 (o_iload 1 1) := ok_iload_n (k := 1) (by decide +kernel) rfl
theorem k_180_1 : OkOp mt Ev 180 1 (o_push (.int (-1)) 1) := ok_iconst (n := -1) (by decide +kernel) (by decide +kernel)
theorem k_180_2 : OkOp mt Ev 180 2 (o_if2 (fun x y => decide (¬ x = y)) 15) := ok_icmp_ne (off := 13) (by decide +kernel) (by decide +kernel)
theorem k_180_5 : OkOp mt Ev 180 5 (o_aload 0 1) := ok_aload_n (k := 0) (by decide +kernel) rfl
theorem k_180_6 : OkOp mt Ev 180 6 (o_getf 0 [12]) := ok_getf (i := 15) (rf := "BridgeSentencesModel") (nm := "now") (ds := "[I") (by decide +kernel) fc_47 wd_985
theorem k_180_9 : OkOp mt Ev 180 9 (o_push (.int (103)) 2) := ok_bipush (n := 103) (by decide +kernel) (by decide +kernel)
theorem k_180_11 : OkOp mt Ev 180 11 (o_push (.int (0)) 1) := ok_iconst (n := 0) (by decide +kernel) (by decide +kernel)
theorem k_180_12 : OkOp mt Ev 180 12 (o_iast 2 (fun x => x)) := ok_iast (by decide +kernel)
theorem k_180_13 : OkOp mt Ev 180 13 (o_push (.int (0)) 1) := ok_iconst (n := 0) (by decide +kernel) (by decide +kernel)
theorem k_180_14 : OkOp mt Ev 180 14 (o_ret 0) := ok_reti (ty := .int) (by decide +kernel) rfl (Or.inl ⟨rfl, rfl⟩)
theorem k_180_15 : OkOp mt Ev 180 15 (o_iload 1 1) := ok_iload_n (k := 1) (by decide +kernel) rfl
theorem k_180_16 : OkOp mt Ev 180 16 (o_cs 129 1) := ok_cs (i := 113) (by decide +kernel) wd_1192 wd_1193 wd_62 wd_1194 nk_36
theorem k_180_19 : OkOp mt Ev 180 19 (o_if1 (fun x => decide (¬ x = 0)) 24) := ok_if_ne (off := 5) (by decide +kernel) (by decide +kernel)
theorem k_180_22 : OkOp mt Ev 180 22 (o_push (.int (-1)) 1) := ok_iconst (n := -1) (by decide +kernel) (by decide +kernel)
theorem k_180_23 : OkOp mt Ev 180 23 (o_ret 0) := ok_reti (ty := .int) (by decide +kernel) rfl (Or.inl ⟨rfl, rfl⟩)
theorem k_180_24 : OkOp mt Ev 180 24 (o_iload 2 1) := ok_iload_n (k := 2) (by decide +kernel) rfl
theorem k_180_25 : OkOp mt Ev 180 25 (o_push (.int (0)) 1) := ok_iconst (n := 0) (by decide +kernel) (by decide +kernel)
theorem k_180_26 : OkOp mt Ev 180 26 (o_push (.int (20)) 2) := ok_bipush (n := 20) (by decide +kernel) (by decide +kernel)
theorem k_180_28 : OkOp mt Ev 180 28 (o_cs 123 3) := ok_cs (i := 83) (by decide +kernel) wd_1089 wd_1090 wd_62 wd_1091 nk_34
theorem k_180_31 : OkOp mt Ev 180 31 (o_if1 (fun x => decide (¬ x = 0)) 37) := ok_if_ne (off := 6) (by decide +kernel) (by decide +kernel)
theorem k_180_34 : OkOp mt Ev 180 34 (o_push (.int (-2)) 2) := ok_bipush (n := -2) (by decide +kernel) (by decide +kernel)
theorem k_180_36 : OkOp mt Ev 180 36 (o_ret 0) := ok_reti (ty := .int) (by decide +kernel) rfl (Or.inl ⟨rfl, rfl⟩)
theorem k_180_37 : OkOp mt Ev 180 37 (o_aload 0 1) := ok_aload_n (k := 0) (by decide +kernel) rfl
theorem k_180_38 : OkOp mt Ev 180 38 (o_getf 0 [12]) := ok_getf (i := 15) (rf := "BridgeSentencesModel") (nm := "now") (ds := "[I") (by decide +kernel) fc_47 wd_985
theorem k_180_41 : OkOp mt Ev 180 41 (o_push (.int (103)) 2) := ok_bipush (n := 103) (by decide +kernel) (by decide +kernel)
theorem k_180_43 : OkOp mt Ev 180 43 (o_iald 2) := ok_iald (by decide +kernel)
theorem k_180_44 : OkOp mt Ev 180 44 (o_push (.int (8)) 2) := ok_bipush (n := 8) (by decide +kernel) (by decide +kernel)
theorem k_180_46 : OkOp mt Ev 180 46 (o_if2 (fun x y => decide (¬ x = y)) 52) := ok_icmp_ne (off := 6) (by decide +kernel) (by decide +kernel)
theorem k_180_49 : OkOp mt Ev 180 49 (o_push (.int (-4)) 2) := ok_bipush (n := -4) (by decide +kernel) (by decide +kernel)
theorem k_180_51 : OkOp mt Ev 180 51 (o_ret 0) := ok_reti (ty := .int) (by decide +kernel) rfl (Or.inl ⟨rfl, rfl⟩)
theorem k_180_52 : OkOp mt Ev 180 52 (o_aload 0 1) := ok_aload_n (k := 0) (by decide +kernel) rfl
theorem k_180_53 : OkOp mt Ev 180 53 (o_getf 0 [12]) := ok_getf (i := 15) (rf := "BridgeSentencesModel") (nm := "now") (ds := "[I") (by decide +kernel) fc_47 wd_985
theorem k_180_56 : OkOp mt Ev 180 56 (o_push (.int (104)) 2) := ok_bipush (n := 104) (by decide +kernel) (by decide +kernel)
theorem k_180_58 : OkOp mt Ev 180 58 (o_push (.int (2)) 1) := ok_iconst (n := 2) (by decide +kernel) (by decide +kernel)
theorem k_180_59 : OkOp mt Ev 180 59 (o_aload 0 1) := ok_aload_n (k := 0) (by decide +kernel) rfl
theorem k_180_60 : OkOp mt Ev 180 60 (o_getf 0 [12]) := ok_getf (i := 15) (rf := "BridgeSentencesModel") (nm := "now") (ds := "[I") (by decide +kernel) fc_47 wd_985
theorem k_180_63 : OkOp mt Ev 180 63 (o_push (.int (103)) 2) := ok_bipush (n := 103) (by decide +kernel) (by decide +kernel)
theorem k_180_65 : OkOp mt Ev 180 65 (o_iald 2) := ok_iald (by decide +kernel)
theorem k_180_66 : OkOp mt Ev 180 66 (o_ib (fun x y => x * y)) := ok_imul (by decide +kernel)
theorem k_180_67 : OkOp mt Ev 180 67 (o_ib (fun x y => x + y)) := ok_iadd (by decide +kernel)
theorem k_180_68 : OkOp mt Ev 180 68 (o_iload 1 1) := ok_iload_n (k := 1) (by decide +kernel) rfl
theorem k_180_69 : OkOp mt Ev 180 69 (o_iast 2 (fun x => x)) := ok_iast (by decide +kernel)
theorem k_180_70 : OkOp mt Ev 180 70 (o_aload 0 1) := ok_aload_n (k := 0) (by decide +kernel) rfl
theorem k_180_71 : OkOp mt Ev 180 71 (o_getf 0 [12]) := ok_getf (i := 15) (rf := "BridgeSentencesModel") (nm := "now") (ds := "[I") (by decide +kernel) fc_47 wd_985
theorem k_180_74 : OkOp mt Ev 180 74 (o_push (.int (105)) 2) := ok_bipush (n := 105) (by decide +kernel) (by decide +kernel)
theorem k_180_76 : OkOp mt Ev 180 76 (o_push (.int (2)) 1) := ok_iconst (n := 2) (by decide +kernel) (by decide +kernel)
theorem k_180_77 : OkOp mt Ev 180 77 (o_aload 0 1) := ok_aload_n (k := 0) (by decide +kernel) rfl
theorem k_180_78 : OkOp mt Ev 180 78 (o_getf 0 [12]) := ok_getf (i := 15) (rf := "BridgeSentencesModel") (nm := "now") (ds := "[I") (by decide +kernel) fc_47 wd_985
theorem k_180_81 : OkOp mt Ev 180 81 (o_push (.int (103)) 2) := ok_bipush (n := 103) (by decide +kernel) (by decide +kernel)
theorem k_180_83 : OkOp mt Ev 180 83 (o_iald 2) := ok_iald (by decide +kernel)
theorem k_180_84 : OkOp mt Ev 180 84 (o_ib (fun x y => x * y)) := ok_imul (by decide +kernel)
theorem k_180_85 : OkOp mt Ev 180 85 (o_ib (fun x y => x + y)) := ok_iadd (by decide +kernel)
theorem k_180_86 : OkOp mt Ev 180 86 (o_iload 2 1) := ok_iload_n (k := 2) (by decide +kernel) rfl
theorem k_180_87 : OkOp mt Ev 180 87 (o_iast 2 (fun x => x)) := ok_iast (by decide +kernel)
theorem k_180_88 : OkOp mt Ev 180 88 (o_aload 0 1) := ok_aload_n (k := 0) (by decide +kernel) rfl
theorem k_180_89 : OkOp mt Ev 180 89 (o_getf 0 [12]) := ok_getf (i := 15) (rf := "BridgeSentencesModel") (nm := "now") (ds := "[I") (by decide +kernel) fc_47 wd_985
theorem k_180_92 : OkOp mt Ev 180 92 (o_push (.int (103)) 2) := ok_bipush (n := 103) (by decide +kernel) (by decide +kernel)
theorem k_180_94 : OkOp mt Ev 180 94 (o_dup2) := ok_dup2 (by decide +kernel)
theorem k_180_95 : OkOp mt Ev 180 95 (o_iald 2) := ok_iald (by decide +kernel)
theorem k_180_96 : OkOp mt Ev 180 96 (o_push (.int (1)) 1) := ok_iconst (n := 1) (by decide +kernel) (by decide +kernel)
theorem k_180_97 : OkOp mt Ev 180 97 (o_ib (fun x y => x + y)) := ok_iadd (by decide +kernel)
theorem k_180_98 : OkOp mt Ev 180 98 (o_iast 2 (fun x => x)) := ok_iast (by decide +kernel)
theorem k_180_99 : OkOp mt Ev 180 99 (o_aload 0 1) := ok_aload_n (k := 0) (by decide +kernel) rfl
theorem k_180_100 : OkOp mt Ev 180 100 (o_getf 0 [12]) := ok_getf (i := 15) (rf := "BridgeSentencesModel") (nm := "now") (ds := "[I") (by decide +kernel) fc_47 wd_985
theorem k_180_103 : OkOp mt Ev 180 103 (o_push (.int (103)) 2) := ok_bipush (n := 103) (by decide +kernel) (by decide +kernel)
theorem k_180_105 : OkOp mt Ev 180 105 (o_iald 2) := ok_iald (by decide +kernel)
theorem k_180_106 : OkOp mt Ev 180 106 (o_ret 0) := ok_reti (ty := .int) (by decide +kernel) rfl (Or.inl ⟨rfl, rfl⟩)
theorem kt_180 : ∀ pc o, cd_X12_book Ev pc = some o → OkOp mt Ev 180 pc o ∧ Gw o := (tN_ok (tN_ok (tN_ok (tN_ok (tN_ok (tN_ok (tL_ok ⟨k_180_0, gw_iload⟩) (tL_ok ⟨k_180_1, gw_push⟩)) (tN_ok (tL_ok ⟨k_180_2, gw_if2⟩) (tL_ok ⟨k_180_5, gw_aload⟩))) (tN_ok (tN_ok (tL_ok ⟨k_180_6, gw_getf⟩) (tL_ok ⟨k_180_9, gw_push⟩)) (tN_ok (tL_ok ⟨k_180_11, gw_push⟩) (tL_ok ⟨k_180_12, gw_iast⟩)))) (tN_ok (tN_ok (tN_ok (tL_ok ⟨k_180_13, gw_push⟩) (tL_ok ⟨k_180_14, gw_ret⟩)) (tN_ok (tL_ok ⟨k_180_15, gw_iload⟩) (tL_ok ⟨k_180_16, gw_cs⟩))) (tN_ok (tN_ok (tL_ok ⟨k_180_19, gw_if1⟩) (tL_ok ⟨k_180_22, gw_push⟩)) (tN_ok (tL_ok ⟨k_180_23, gw_ret⟩) (tL_ok ⟨k_180_24, gw_iload⟩))))) (tN_ok (tN_ok (tN_ok (tN_ok (tL_ok ⟨k_180_25, gw_push⟩) (tL_ok ⟨k_180_26, gw_push⟩)) (tN_ok (tL_ok ⟨k_180_28, gw_cs⟩) (tL_ok ⟨k_180_31, gw_if1⟩))) (tN_ok (tN_ok (tL_ok ⟨k_180_34, gw_push⟩) (tL_ok ⟨k_180_36, gw_ret⟩)) (tN_ok (tL_ok ⟨k_180_37, gw_aload⟩) (tL_ok ⟨k_180_38, gw_getf⟩)))) (tN_ok (tN_ok (tN_ok (tL_ok ⟨k_180_41, gw_push⟩) (tL_ok ⟨k_180_43, gw_iald⟩)) (tN_ok (tL_ok ⟨k_180_44, gw_push⟩) (tL_ok ⟨k_180_46, gw_if2⟩))) (tN_ok (tN_ok (tL_ok ⟨k_180_49, gw_push⟩) (tL_ok ⟨k_180_51, gw_ret⟩)) (tN_ok (tL_ok ⟨k_180_52, gw_aload⟩) (tN_ok (tL_ok ⟨k_180_53, gw_getf⟩) (tL_ok ⟨k_180_56, gw_push⟩))))))) (tN_ok (tN_ok (tN_ok (tN_ok (tN_ok (tL_ok ⟨k_180_58, gw_push⟩) (tL_ok ⟨k_180_59, gw_aload⟩)) (tN_ok (tL_ok ⟨k_180_60, gw_getf⟩) (tL_ok ⟨k_180_63, gw_push⟩))) (tN_ok (tN_ok (tL_ok ⟨k_180_65, gw_iald⟩) (tL_ok ⟨k_180_66, gw_ib⟩)) (tN_ok (tL_ok ⟨k_180_67, gw_ib⟩) (tL_ok ⟨k_180_68, gw_iload⟩)))) (tN_ok (tN_ok (tN_ok (tL_ok ⟨k_180_69, gw_iast⟩) (tL_ok ⟨k_180_70, gw_aload⟩)) (tN_ok (tL_ok ⟨k_180_71, gw_getf⟩) (tL_ok ⟨k_180_74, gw_push⟩))) (tN_ok (tN_ok (tL_ok ⟨k_180_76, gw_push⟩) (tL_ok ⟨k_180_77, gw_aload⟩)) (tN_ok (tL_ok ⟨k_180_78, gw_getf⟩) (tN_ok (tL_ok ⟨k_180_81, gw_push⟩) (tL_ok ⟨k_180_83, gw_iald⟩)))))) (tN_ok (tN_ok (tN_ok (tN_ok (tL_ok ⟨k_180_84, gw_ib⟩) (tL_ok ⟨k_180_85, gw_ib⟩)) (tN_ok (tL_ok ⟨k_180_86, gw_iload⟩) (tL_ok ⟨k_180_87, gw_iast⟩))) (tN_ok (tN_ok (tL_ok ⟨k_180_88, gw_aload⟩) (tL_ok ⟨k_180_89, gw_getf⟩)) (tN_ok (tL_ok ⟨k_180_92, gw_push⟩) (tL_ok ⟨k_180_94, gw_dup2⟩)))) (tN_ok (tN_ok (tN_ok (tL_ok ⟨k_180_95, gw_iald⟩) (tL_ok ⟨k_180_96, gw_push⟩)) (tN_ok (tL_ok ⟨k_180_97, gw_ib⟩) (tL_ok ⟨k_180_98, gw_iast⟩))) (tN_ok (tN_ok (tL_ok ⟨k_180_99, gw_aload⟩) (tL_ok ⟨k_180_100, gw_getf⟩)) (tN_ok (tL_ok ⟨k_180_103, gw_push⟩) (tN_ok (tL_ok ⟨k_180_105, gw_iald⟩) (tL_ok ⟨k_180_106, gw_ret⟩))))))))
theorem k_181_0 : OkOp mt Ev 181 0 (o_push (.int (0)) 1) := ok_iconst (n := 0) (by decide +kernel) (by decide +kernel)
theorem k_181_1 : OkOp mt Ev 181 1 (o_istore 1 1) := ok_istore_n (k := 1) (by decide +kernel) rfl
theorem k_181_2 : OkOp mt Ev 181 2 (o_iload 1 1) := ok_iload_n (k := 1) (by decide +kernel) rfl
theorem k_181_3 : OkOp mt Ev 181 3 (o_aload 0 1) := ok_aload_n (k := 0) (by decide +kernel) rfl
theorem k_181_4 : OkOp mt Ev 181 4 (o_getf 0 [12]) := ok_getf (i := 15) (rf := "BridgeSentencesModel") (nm := "now") (ds := "[I") (by decide +kernel) fc_47 wd_985
theorem k_181_7 : OkOp mt Ev 181 7 (o_push (.int (103)) 2) := ok_bipush (n := 103) (by decide +kernel) (by decide +kernel)
theorem k_181_9 : OkOp mt Ev 181 9 (o_iald 2) := ok_iald (by decide +kernel)
theorem k_181_10 : OkOp mt Ev 181 10 (o_if2 (fun x y => decide (y ≤ x)) 51) := ok_icmp_ge (off := 41) (by decide +kernel) (by decide +kernel)
theorem k_181_13 : OkOp mt Ev 181 13 (o_aload 0 1) := ok_aload_n (k := 0) (by decide +kernel) rfl
theorem k_181_14 : OkOp mt Ev 181 14 (o_getf 0 [12]) := ok_getf (i := 15) (rf := "BridgeSentencesModel") (nm := "now") (ds := "[I") (by decide +kernel) fc_47 wd_985
theorem k_181_17 : OkOp mt Ev 181 17 (o_aload 0 1) := ok_aload_n (k := 0) (by decide +kernel) rfl
theorem k_181_18 : OkOp mt Ev 181 18 (o_getf 0 [12]) := ok_getf (i := 15) (rf := "BridgeSentencesModel") (nm := "now") (ds := "[I") (by decide +kernel) fc_47 wd_985
theorem k_181_21 : OkOp mt Ev 181 21 (o_push (.int (104)) 2) := ok_bipush (n := 104) (by decide +kernel) (by decide +kernel)
theorem k_181_23 : OkOp mt Ev 181 23 (o_push (.int (2)) 1) := ok_iconst (n := 2) (by decide +kernel) (by decide +kernel)
theorem k_181_24 : OkOp mt Ev 181 24 (o_iload 1 1) := ok_iload_n (k := 1) (by decide +kernel) rfl
theorem k_181_25 : OkOp mt Ev 181 25 (o_ib (fun x y => x * y)) := ok_imul (by decide +kernel)
theorem k_181_26 : OkOp mt Ev 181 26 (o_ib (fun x y => x + y)) := ok_iadd (by decide +kernel)
theorem k_181_27 : OkOp mt Ev 181 27 (o_iald 2) := ok_iald (by decide +kernel)
theorem k_181_28 : OkOp mt Ev 181 28 (o_iald 2) := ok_iald (by decide +kernel)
theorem k_181_29 : OkOp mt Ev 181 29 (o_aload 0 1) := ok_aload_n (k := 0) (by decide +kernel) rfl
theorem k_181_30 : OkOp mt Ev 181 30 (o_getf 0 [12]) := ok_getf (i := 15) (rf := "BridgeSentencesModel") (nm := "now") (ds := "[I") (by decide +kernel) fc_47 wd_985
theorem k_181_33 : OkOp mt Ev 181 33 (o_push (.int (105)) 2) := ok_bipush (n := 105) (by decide +kernel) (by decide +kernel)
theorem k_181_35 : OkOp mt Ev 181 35 (o_push (.int (2)) 1) := ok_iconst (n := 2) (by decide +kernel) (by decide +kernel)
theorem k_181_36 : OkOp mt Ev 181 36 (o_iload 1 1) := ok_iload_n (k := 1) (by decide +kernel) rfl
theorem k_181_37 : OkOp mt Ev 181 37 (o_ib (fun x y => x * y)) := ok_imul (by decide +kernel)
theorem k_181_38 : OkOp mt Ev 181 38 (o_ib (fun x y => x + y)) := ok_iadd (by decide +kernel)
theorem k_181_39 : OkOp mt Ev 181 39 (o_iald 2) := ok_iald (by decide +kernel)
theorem k_181_40 : OkOp mt Ev 181 40 (o_if2 (fun x y => decide (x = y)) 45) := ok_icmp_eq (off := 5) (by decide +kernel) (by decide +kernel)
theorem k_181_43 : OkOp mt Ev 181 43 (o_iload 1 1) := ok_iload_n (k := 1) (by decide +kernel) rfl
theorem k_181_44 : OkOp mt Ev 181 44 (o_ret 0) := ok_reti (ty := .int) (by decide +kernel) rfl (Or.inl ⟨rfl, rfl⟩)
theorem k_181_45 : OkOp mt Ev 181 45 (o_iinc 1 (1)) := ok_iinc (n := 1) (by decide +kernel) (by decide +kernel)
theorem k_181_48 : OkOp mt Ev 181 48 (o_goto 2) := ok_goto (off := -46) (by decide +kernel) (by decide +kernel)
theorem k_181_51 : OkOp mt Ev 181 51 (o_push (.int (-5)) 2) := ok_bipush (n := -5) (by decide +kernel) (by decide +kernel)
theorem k_181_53 : OkOp mt Ev 181 53 (o_ret 0) := ok_reti (ty := .int) (by decide +kernel) rfl (Or.inl ⟨rfl, rfl⟩)
theorem kt_181 : ∀ pc o, cd_X12_looked Ev pc = some o → OkOp mt Ev 181 pc o ∧ Gw o := (tN_ok (tN_ok (tN_ok (tN_ok (tN_ok (tL_ok ⟨k_181_0, gw_push⟩) (tL_ok ⟨k_181_1, gw_istore⟩)) (tN_ok (tL_ok ⟨k_181_2, gw_iload⟩) (tL_ok ⟨k_181_3, gw_aload⟩))) (tN_ok (tN_ok (tL_ok ⟨k_181_4, gw_getf⟩) (tL_ok ⟨k_181_7, gw_push⟩)) (tN_ok (tL_ok ⟨k_181_9, gw_iald⟩) (tL_ok ⟨k_181_10, gw_if2⟩)))) (tN_ok (tN_ok (tN_ok (tL_ok ⟨k_181_13, gw_aload⟩) (tL_ok ⟨k_181_14, gw_getf⟩)) (tN_ok (tL_ok ⟨k_181_17, gw_aload⟩) (tL_ok ⟨k_181_18, gw_getf⟩))) (tN_ok (tN_ok (tL_ok ⟨k_181_21, gw_push⟩) (tL_ok ⟨k_181_23, gw_push⟩)) (tN_ok (tL_ok ⟨k_181_24, gw_iload⟩) (tN_ok (tL_ok ⟨k_181_25, gw_ib⟩) (tL_ok ⟨k_181_26, gw_ib⟩)))))) (tN_ok (tN_ok (tN_ok (tN_ok (tL_ok ⟨k_181_27, gw_iald⟩) (tL_ok ⟨k_181_28, gw_iald⟩)) (tN_ok (tL_ok ⟨k_181_29, gw_aload⟩) (tL_ok ⟨k_181_30, gw_getf⟩))) (tN_ok (tN_ok (tL_ok ⟨k_181_33, gw_push⟩) (tL_ok ⟨k_181_35, gw_push⟩)) (tN_ok (tL_ok ⟨k_181_36, gw_iload⟩) (tL_ok ⟨k_181_37, gw_ib⟩)))) (tN_ok (tN_ok (tN_ok (tL_ok ⟨k_181_38, gw_ib⟩) (tL_ok ⟨k_181_39, gw_iald⟩)) (tN_ok (tL_ok ⟨k_181_40, gw_if2⟩) (tL_ok ⟨k_181_43, gw_iload⟩))) (tN_ok (tN_ok (tL_ok ⟨k_181_44, gw_ret⟩) (tL_ok ⟨k_181_45, gw_iinc⟩)) (tN_ok (tL_ok ⟨k_181_48, gw_goto⟩) (tN_ok (tL_ok ⟨k_181_51, gw_push⟩) (tL_ok ⟨k_181_53, gw_ret⟩)))))))
theorem k_182_0 : OkOp mt Ev 182 0 (o_aload 0 1) := ok_aload_n (k := 0) (by decide +kernel) rfl
theorem k_182_1 : OkOp mt Ev 182 1 (o_getf 24 [12]) := ok_getf (i := 237) (rf := "BridgeSentencesModel") (nm := "ran") (ds := "I") (by decide +kernel) fc_75 wd_1009
theorem k_182_4 : OkOp mt Ev 182 4 (o_push (.int (20)) 2) := ok_bipush (n := 20) (by decide +kernel) (by decide +kernel)
theorem k_182_6 : OkOp mt Ev 182 6 (o_if2 (fun x y => decide (y ≤ x)) 19) := ok_icmp_ge (off := 13) (by decide +kernel) (by decide +kernel)
theorem k_182_9 : OkOp mt Ev 182 9 (o_aload 0 1) := ok_aload_n (k := 0) (by decide +kernel) rfl
theorem k_182_10 : OkOp mt Ev 182 10 (o_getf 23 [12]) := ok_getf (i := 59) (rf := "BridgeSentencesModel") (nm := "trace") (ds := "[I") (by decide +kernel) fc_61 wd_1008
theorem k_182_13 : OkOp mt Ev 182 13 (o_aload 0 1) := ok_aload_n (k := 0) (by decide +kernel) rfl
theorem k_182_14 : OkOp mt Ev 182 14 (o_getf 24 [12]) := ok_getf (i := 237) (rf := "BridgeSentencesModel") (nm := "ran") (ds := "I") (by decide +kernel) fc_75 wd_1009
theorem k_182_17 : OkOp mt Ev 182 17 (o_iload 1 1) := ok_iload_n (k := 1) (by decide +kernel) rfl
theorem k_182_18 : OkOp mt Ev 182 18 (o_iast 2 (fun x => x)) := ok_iast (by decide +kernel)
theorem k_182_19 : OkOp mt Ev 182 19 (o_aload 0 1) := ok_aload_n (k := 0) (by decide +kernel) rfl
theorem k_182_20 : OkOp mt Ev 182 20 (o_dup) := ok_dup (by decide +kernel)
theorem k_182_21 : OkOp mt Ev 182 21 (o_getf 24 [12]) := ok_getf (i := 237) (rf := "BridgeSentencesModel") (nm := "ran") (ds := "I") (by decide +kernel) fc_75 wd_1009
theorem k_182_24 : OkOp mt Ev 182 24 (o_push (.int (1)) 1) := ok_iconst (n := 1) (by decide +kernel) (by decide +kernel)
theorem k_182_25 : OkOp mt Ev 182 25 (o_ib (fun x y => x + y)) := ok_iadd (by decide +kernel)
theorem k_182_26 : OkOp mt Ev 182 26 (o_putf 24 [12] 0) := ok_putf (i := 237) (rf := "BridgeSentencesModel") (nm := "ran") (ds := "I") (ty := .int) (fin := false) (by decide +kernel) fc_75 wd_1009 (tc_12) ff_79 (by decide) (by decide +kernel) ov_int
theorem k_182_29 : OkOp mt Ev 182 29 (o_iload 1 1) := ok_iload_n (k := 1) (by decide +kernel) rfl
theorem k_182_30 : OkOp mt Ev 182 30 (o_ret 0) := ok_reti (ty := .int) (by decide +kernel) rfl (Or.inl ⟨rfl, rfl⟩)
theorem kt_182 : ∀ pc o, cd_X12_body Ev pc = some o → OkOp mt Ev 182 pc o ∧ Gw o := (tN_ok (tN_ok (tN_ok (tN_ok (tL_ok ⟨k_182_0, gw_aload⟩) (tL_ok ⟨k_182_1, gw_getf⟩)) (tN_ok (tL_ok ⟨k_182_4, gw_push⟩) (tL_ok ⟨k_182_6, gw_if2⟩))) (tN_ok (tN_ok (tL_ok ⟨k_182_9, gw_aload⟩) (tL_ok ⟨k_182_10, gw_getf⟩)) (tN_ok (tL_ok ⟨k_182_13, gw_aload⟩) (tN_ok (tL_ok ⟨k_182_14, gw_getf⟩) (tL_ok ⟨k_182_17, gw_iload⟩))))) (tN_ok (tN_ok (tN_ok (tL_ok ⟨k_182_18, gw_iast⟩) (tL_ok ⟨k_182_19, gw_aload⟩)) (tN_ok (tL_ok ⟨k_182_20, gw_dup⟩) (tL_ok ⟨k_182_21, gw_getf⟩))) (tN_ok (tN_ok (tL_ok ⟨k_182_24, gw_push⟩) (tL_ok ⟨k_182_25, gw_ib⟩)) (tN_ok (tL_ok ⟨k_182_26, gw_putf⟩) (tN_ok (tL_ok ⟨k_182_29, gw_iload⟩) (tL_ok ⟨k_182_30, gw_ret⟩))))))
theorem k_183_0 : OkOp mt Ev 183 0 (o_aload 0 1) := ok_aload_n (k := 0) (by decide +kernel) rfl
theorem k_183_1 : OkOp mt Ev 183 1 (o_aload 0 1) := ok_aload_n (k := 0) (by decide +kernel) rfl
theorem k_183_2 : OkOp mt Ev 183 2 (o_iload 1 1) := ok_iload_n (k := 1) (by decide +kernel) rfl
theorem k_183_3 : OkOp mt Ev 183 3 (o_push (.int (0)) 1) := ok_iconst (n := 0) (by decide +kernel) (by decide +kernel)
theorem k_183_4 : OkOp mt Ev 183 4 (o_cv [(12, 132)] 2) := ok_cv (i := 87) (by decide +kernel) vc_141
theorem k_183_7 : OkOp mt Ev 183 7 (o_iload 1 1) := ok_iload_n (k := 1) (by decide +kernel) rfl
theorem k_183_8 : OkOp mt Ev 183 8 (o_iload 2 1) := ok_iload_n (k := 2) (by decide +kernel) rfl
theorem k_183_9 : OkOp mt Ev 183 9 (o_iload 3 1) := ok_iload_n (k := 3) (by decide +kernel) rfl
theorem k_183_10 : OkOp mt Ev 183 10 (o_cv [(12, 184)] 4) := ok_cv (i := 240) (by decide +kernel) vc_171
theorem k_183_13 : OkOp mt Ev 183 13 (o_ret 0) := ok_reti (ty := .int) (by decide +kernel) rfl (Or.inl ⟨rfl, rfl⟩)
theorem kt_183 : ∀ pc o, cd_X12_all Ev pc = some o → OkOp mt Ev 183 pc o ∧ Gw o := (tN_ok (tN_ok (tN_ok (tL_ok ⟨k_183_0, gw_aload⟩) (tL_ok ⟨k_183_1, gw_aload⟩)) (tN_ok (tL_ok ⟨k_183_2, gw_iload⟩) (tN_ok (tL_ok ⟨k_183_3, gw_push⟩) (tL_ok ⟨k_183_4, gw_cv⟩)))) (tN_ok (tN_ok (tL_ok ⟨k_183_7, gw_iload⟩) (tL_ok ⟨k_183_8, gw_iload⟩)) (tN_ok (tL_ok ⟨k_183_9, gw_iload⟩) (tN_ok (tL_ok ⟨k_183_10, gw_cv⟩) (tL_ok ⟨k_183_13, gw_ret⟩)))))
theorem k_184_0 : OkOp mt Ev 184 0 (o_iload 1 1) := ok_iload_n (k := 1) (by decide +kernel) rfl
theorem k_184_1 : OkOp mt Ev 184 1 (o_istore 5 2) := ok_istore (by decide +kernel)
theorem k_184_3 : OkOp mt Ev 184 3 (o_aload 0 1) := ok_aload_n (k := 0) (by decide +kernel) rfl
theorem k_184_4 : OkOp mt Ev 184 4 (o_getf 22 [12]) := ok_getf (i := 56) (rf := "BridgeSentencesModel") (nm := "bodies") (ds := "[I") (by decide +kernel) fc_60 wd_1007
theorem k_184_7 : OkOp mt Ev 184 7 (o_push (.int (3)) 1) := ok_iconst (n := 3) (by decide +kernel) (by decide +kernel)
theorem k_184_8 : OkOp mt Ev 184 8 (o_iload 5 2) := ok_iload (by decide +kernel)
theorem k_184_10 : OkOp mt Ev 184 10 (o_ib (fun x y => x * y)) := ok_imul (by decide +kernel)
theorem k_184_11 : OkOp mt Ev 184 11 (o_iload 3 1) := ok_iload_n (k := 3) (by decide +kernel) rfl
theorem k_184_12 : OkOp mt Ev 184 12 (o_ib (fun x y => x + y)) := ok_iadd (by decide +kernel)
theorem k_184_13 : OkOp mt Ev 184 13 (o_iald 2) := ok_iald (by decide +kernel)
theorem k_184_14 : OkOp mt Ev 184 14 (o_if1 (fun x => decide (¬ x = 0)) 29) := ok_if_ne (off := 15) (by decide +kernel) (by decide +kernel)
theorem k_184_17 : OkOp mt Ev 184 17 (o_aload 0 1) := ok_aload_n (k := 0) (by decide +kernel) rfl
theorem k_184_18 : OkOp mt Ev 184 18 (o_getf 21 [12]) := ok_getf (i := 53) (rf := "BridgeSentencesModel") (nm := "above") (ds := "[I") (by decide +kernel) fc_59 wd_1006
theorem k_184_21 : OkOp mt Ev 184 21 (o_iload 5 2) := ok_iload (by decide +kernel)
theorem k_184_23 : OkOp mt Ev 184 23 (o_iald 2) := ok_iald (by decide +kernel)
theorem k_184_24 : OkOp mt Ev 184 24 (o_istore 5 2) := ok_istore (by decide +kernel)
theorem k_184_26 : OkOp mt Ev 184 26 (o_goto 3) := ok_goto (off := -23) (by decide +kernel) (by decide +kernel)
theorem k_184_29 : OkOp mt Ev 184 29 (o_aload 0 1) := ok_aload_n (k := 0) (by decide +kernel) rfl
theorem k_184_30 : OkOp mt Ev 184 30 (o_getf 21 [12]) := ok_getf (i := 53) (rf := "BridgeSentencesModel") (nm := "above") (ds := "[I") (by decide +kernel) fc_59 wd_1006
theorem k_184_33 : OkOp mt Ev 184 33 (o_iload 5 2) := ok_iload (by decide +kernel)
theorem k_184_35 : OkOp mt Ev 184 35 (o_iald 2) := ok_iald (by decide +kernel)
theorem k_184_36 : OkOp mt Ev 184 36 (o_istore 6 2) := ok_istore (by decide +kernel)
theorem k_184_38 : OkOp mt Ev 184 38 (o_aload 0 1) := ok_aload_n (k := 0) (by decide +kernel) rfl
theorem k_184_39 : OkOp mt Ev 184 39 (o_aload 0 1) := ok_aload_n (k := 0) (by decide +kernel) rfl
theorem k_184_40 : OkOp mt Ev 184 40 (o_getf 22 [12]) := ok_getf (i := 56) (rf := "BridgeSentencesModel") (nm := "bodies") (ds := "[I") (by decide +kernel) fc_60 wd_1007
theorem k_184_43 : OkOp mt Ev 184 43 (o_push (.int (3)) 1) := ok_iconst (n := 3) (by decide +kernel) (by decide +kernel)
theorem k_184_44 : OkOp mt Ev 184 44 (o_iload 5 2) := ok_iload (by decide +kernel)
theorem k_184_46 : OkOp mt Ev 184 46 (o_ib (fun x y => x * y)) := ok_imul (by decide +kernel)
theorem k_184_47 : OkOp mt Ev 184 47 (o_iload 3 1) := ok_iload_n (k := 3) (by decide +kernel) rfl
theorem k_184_48 : OkOp mt Ev 184 48 (o_ib (fun x y => x + y)) := ok_iadd (by decide +kernel)
theorem k_184_49 : OkOp mt Ev 184 49 (o_iald 2) := ok_iald (by decide +kernel)
theorem k_184_50 : OkOp mt Ev 184 50 (o_cv [(12, 182)] 1) := ok_cv (i := 243) (by decide +kernel) vc_172
theorem k_184_53 : OkOp mt Ev 184 53 (o_sw 281 [(10, 144), (11, 149), (12, 165), (20, 176), (30, 190), (40, 203), (50, 222), (51, 234), (60, 247), (70, 260)]) := ok_lsw (dflt := 228) (ps := #[(10, 91), (11, 96), (12, 112), (20, 123), (30, 137), (40, 150), (50, 169), (51, 181), (60, 194), (70, 207)]) (len := 91) (by decide +kernel) (by decide +kernel) (fun x => lsw_ok x _ _ (by decide +kernel))
theorem k_184_144 : OkOp mt Ev 184 144 (o_iload 4 2) := ok_iload (by decide +kernel)
theorem k_184_146 : OkOp mt Ev 184 146 (o_iload 2 1) := ok_iload_n (k := 2) (by decide +kernel) rfl
theorem k_184_147 : OkOp mt Ev 184 147 (o_ib (fun x y => x + y)) := ok_iadd (by decide +kernel)
theorem k_184_148 : OkOp mt Ev 184 148 (o_ret 0) := ok_reti (ty := .int) (by decide +kernel) rfl (Or.inl ⟨rfl, rfl⟩)
theorem k_184_149 : OkOp mt Ev 184 149 (o_aload 0 1) := ok_aload_n (k := 0) (by decide +kernel) rfl
theorem k_184_150 : OkOp mt Ev 184 150 (o_iload 2 1) := ok_iload_n (k := 2) (by decide +kernel) rfl
theorem k_184_151 : OkOp mt Ev 184 151 (o_push (.int (0)) 1) := ok_iconst (n := 0) (by decide +kernel) (by decide +kernel)
theorem k_184_152 : OkOp mt Ev 184 152 (o_iload 4 2) := ok_iload (by decide +kernel)
theorem k_184_154 : OkOp mt Ev 184 154 (o_cv [(12, 183)] 3) := ok_cv (i := 246) (by decide +kernel) vc_173
theorem k_184_157 : OkOp mt Ev 184 157 (o_aload 0 1) := ok_aload_n (k := 0) (by decide +kernel) rfl
theorem k_184_158 : OkOp mt Ev 184 158 (o_iload 2 1) := ok_iload_n (k := 2) (by decide +kernel) rfl
theorem k_184_159 : OkOp mt Ev 184 159 (o_push (.int (1)) 1) := ok_iconst (n := 1) (by decide +kernel) (by decide +kernel)
theorem k_184_160 : OkOp mt Ev 184 160 (o_cv [(12, 132)] 2) := ok_cv (i := 87) (by decide +kernel) vc_141
theorem k_184_163 : OkOp mt Ev 184 163 (o_ib (fun x y => x - y)) := ok_isub (by decide +kernel)
theorem k_184_164 : OkOp mt Ev 184 164 (o_ret 0) := ok_reti (ty := .int) (by decide +kernel) rfl (Or.inl ⟨rfl, rfl⟩)
theorem k_184_165 : OkOp mt Ev 184 165 (o_aload 0 1) := ok_aload_n (k := 0) (by decide +kernel) rfl
theorem k_184_166 : OkOp mt Ev 184 166 (o_iload 2 1) := ok_iload_n (k := 2) (by decide +kernel) rfl
theorem k_184_167 : OkOp mt Ev 184 167 (o_push (.int (1)) 1) := ok_iconst (n := 1) (by decide +kernel) (by decide +kernel)
theorem k_184_168 : OkOp mt Ev 184 168 (o_iload 4 2) := ok_iload (by decide +kernel)
theorem k_184_170 : OkOp mt Ev 184 170 (o_cv [(12, 183)] 3) := ok_cv (i := 246) (by decide +kernel) vc_173
theorem k_184_173 : OkOp mt Ev 184 173 (o_push (.int (2)) 1) := ok_iconst (n := 2) (by decide +kernel) (by decide +kernel)
theorem k_184_174 : OkOp mt Ev 184 174 (o_ib (fun x y => x * y)) := ok_imul (by decide +kernel)
theorem k_184_175 : OkOp mt Ev 184 175 (o_ret 0) := ok_reti (ty := .int) (by decide +kernel) rfl (Or.inl ⟨rfl, rfl⟩)
theorem k_184_176 : OkOp mt Ev 184 176 (o_aload 0 1) := ok_aload_n (k := 0) (by decide +kernel) rfl
theorem k_184_177 : OkOp mt Ev 184 177 (o_iload 6 2) := ok_iload (by decide +kernel)
theorem k_184_179 : OkOp mt Ev 184 179 (o_iload 2 1) := ok_iload_n (k := 2) (by decide +kernel) rfl
theorem k_184_180 : OkOp mt Ev 184 180 (o_push (.int (1)) 1) := ok_iconst (n := 1) (by decide +kernel) (by decide +kernel)
theorem k_184_181 : OkOp mt Ev 184 181 (o_iload 4 2) := ok_iload (by decide +kernel)
theorem k_184_183 : OkOp mt Ev 184 183 (o_cv [(12, 184)] 4) := ok_cv (i := 240) (by decide +kernel) vc_171
theorem k_184_186 : OkOp mt Ev 184 186 (o_push (.int (6)) 2) := ok_bipush (n := 6) (by decide +kernel) (by decide +kernel)
theorem k_184_188 : OkOp mt Ev 184 188 (o_ib (fun x y => x ^^^ y)) := ok_ixor (by decide +kernel)
theorem k_184_189 : OkOp mt Ev 184 189 (o_ret 0) := ok_reti (ty := .int) (by decide +kernel) rfl (Or.inl ⟨rfl, rfl⟩)
theorem k_184_190 : OkOp mt Ev 184 190 (o_aload 0 1) := ok_aload_n (k := 0) (by decide +kernel) rfl
theorem k_184_191 : OkOp mt Ev 184 191 (o_iload 6 2) := ok_iload (by decide +kernel)
theorem k_184_193 : OkOp mt Ev 184 193 (o_iload 2 1) := ok_iload_n (k := 2) (by decide +kernel) rfl
theorem k_184_194 : OkOp mt Ev 184 194 (o_push (.int (0)) 1) := ok_iconst (n := 0) (by decide +kernel) (by decide +kernel)
theorem k_184_195 : OkOp mt Ev 184 195 (o_iload 4 2) := ok_iload (by decide +kernel)
theorem k_184_197 : OkOp mt Ev 184 197 (o_push (.int (3)) 1) := ok_iconst (n := 3) (by decide +kernel) (by decide +kernel)
theorem k_184_198 : OkOp mt Ev 184 198 (o_ib (fun x y => x * y)) := ok_imul (by decide +kernel)
theorem k_184_199 : OkOp mt Ev 184 199 (o_cv [(12, 184)] 4) := ok_cv (i := 240) (by decide +kernel) vc_171
theorem k_184_202 : OkOp mt Ev 184 202 (o_ret 0) := ok_reti (ty := .int) (by decide +kernel) rfl (Or.inl ⟨rfl, rfl⟩)
theorem k_184_203 : OkOp mt Ev 184 203 (o_aload 0 1) := ok_aload_n (k := 0) (by decide +kernel) rfl
theorem k_184_204 : OkOp mt Ev 184 204 (o_iload 6 2) := ok_iload (by decide +kernel)
theorem k_184_206 : OkOp mt Ev 184 206 (o_iload 2 1) := ok_iload_n (k := 2) (by decide +kernel) rfl
theorem k_184_207 : OkOp mt Ev 184 207 (o_push (.int (2)) 1) := ok_iconst (n := 2) (by decide +kernel) (by decide +kernel)
theorem k_184_208 : OkOp mt Ev 184 208 (o_iload 4 2) := ok_iload (by decide +kernel)
theorem k_184_210 : OkOp mt Ev 184 210 (o_cv [(12, 184)] 4) := ok_cv (i := 240) (by decide +kernel) vc_171
theorem k_184_213 : OkOp mt Ev 184 213 (o_aload 0 1) := ok_aload_n (k := 0) (by decide +kernel) rfl
theorem k_184_214 : OkOp mt Ev 184 214 (o_iload 2 1) := ok_iload_n (k := 2) (by decide +kernel) rfl
theorem k_184_215 : OkOp mt Ev 184 215 (o_push (.int (1)) 1) := ok_iconst (n := 1) (by decide +kernel) (by decide +kernel)
theorem k_184_216 : OkOp mt Ev 184 216 (o_push (.int (1)) 1) := ok_iconst (n := 1) (by decide +kernel) (by decide +kernel)
theorem k_184_217 : OkOp mt Ev 184 217 (o_cv [(12, 183)] 3) := ok_cv (i := 246) (by decide +kernel) vc_173
theorem k_184_220 : OkOp mt Ev 184 220 (o_ib (fun x y => x + y)) := ok_iadd (by decide +kernel)
theorem k_184_221 : OkOp mt Ev 184 221 (o_ret 0) := ok_reti (ty := .int) (by decide +kernel) rfl (Or.inl ⟨rfl, rfl⟩)
theorem k_184_222 : OkOp mt Ev 184 222 (o_aload 0 1) := ok_aload_n (k := 0) (by decide +kernel) rfl
theorem k_184_223 : OkOp mt Ev 184 223 (o_iload 6 2) := ok_iload (by decide +kernel)
theorem k_184_225 : OkOp mt Ev 184 225 (o_iload 2 1) := ok_iload_n (k := 2) (by decide +kernel) rfl
theorem k_184_226 : OkOp mt Ev 184 226 (o_push (.int (0)) 1) := ok_iconst (n := 0) (by decide +kernel) (by decide +kernel)
theorem k_184_227 : OkOp mt Ev 184 227 (o_iload 4 2) := ok_iload (by decide +kernel)
theorem k_184_229 : OkOp mt Ev 184 229 (o_cv [(12, 184)] 4) := ok_cv (i := 240) (by decide +kernel) vc_171
theorem k_184_232 : OkOp mt Ev 184 232 (o_iu (fun x => -x)) := ok_ineg (by decide +kernel)
theorem k_184_233 : OkOp mt Ev 184 233 (o_ret 0) := ok_reti (ty := .int) (by decide +kernel) rfl (Or.inl ⟨rfl, rfl⟩)
theorem k_184_234 : OkOp mt Ev 184 234 (o_aload 0 1) := ok_aload_n (k := 0) (by decide +kernel) rfl
theorem k_184_235 : OkOp mt Ev 184 235 (o_iload 6 2) := ok_iload (by decide +kernel)
theorem k_184_237 : OkOp mt Ev 184 237 (o_iload 2 1) := ok_iload_n (k := 2) (by decide +kernel) rfl
theorem k_184_238 : OkOp mt Ev 184 238 (o_push (.int (1)) 1) := ok_iconst (n := 1) (by decide +kernel) (by decide +kernel)
theorem k_184_239 : OkOp mt Ev 184 239 (o_iload 4 2) := ok_iload (by decide +kernel)
theorem k_184_241 : OkOp mt Ev 184 241 (o_push (.int (1)) 1) := ok_iconst (n := 1) (by decide +kernel) (by decide +kernel)
theorem k_184_242 : OkOp mt Ev 184 242 (o_ib (fun x y => x + y)) := ok_iadd (by decide +kernel)
theorem k_184_243 : OkOp mt Ev 184 243 (o_cv [(12, 184)] 4) := ok_cv (i := 240) (by decide +kernel) vc_171
theorem k_184_246 : OkOp mt Ev 184 246 (o_ret 0) := ok_reti (ty := .int) (by decide +kernel) rfl (Or.inl ⟨rfl, rfl⟩)
theorem k_184_247 : OkOp mt Ev 184 247 (o_aload 0 1) := ok_aload_n (k := 0) (by decide +kernel) rfl
theorem k_184_248 : OkOp mt Ev 184 248 (o_iload 6 2) := ok_iload (by decide +kernel)
theorem k_184_250 : OkOp mt Ev 184 250 (o_iload 2 1) := ok_iload_n (k := 2) (by decide +kernel) rfl
theorem k_184_251 : OkOp mt Ev 184 251 (o_push (.int (2)) 1) := ok_iconst (n := 2) (by decide +kernel) (by decide +kernel)
theorem k_184_252 : OkOp mt Ev 184 252 (o_iload 4 2) := ok_iload (by decide +kernel)
theorem k_184_254 : OkOp mt Ev 184 254 (o_iload 2 1) := ok_iload_n (k := 2) (by decide +kernel) rfl
theorem k_184_255 : OkOp mt Ev 184 255 (o_ib (fun x y => x - y)) := ok_isub (by decide +kernel)
theorem k_184_256 : OkOp mt Ev 184 256 (o_cv [(12, 184)] 4) := ok_cv (i := 240) (by decide +kernel) vc_171
theorem k_184_259 : OkOp mt Ev 184 259 (o_ret 0) := ok_reti (ty := .int) (by decide +kernel) rfl (Or.inl ⟨rfl, rfl⟩)
theorem k_184_260 : OkOp mt Ev 184 260 (o_aload 0 1) := ok_aload_n (k := 0) (by decide +kernel) rfl
theorem k_184_261 : OkOp mt Ev 184 261 (o_iload 6 2) := ok_iload (by decide +kernel)
theorem k_184_263 : OkOp mt Ev 184 263 (o_iload 2 1) := ok_iload_n (k := 2) (by decide +kernel) rfl
theorem k_184_264 : OkOp mt Ev 184 264 (o_push (.int (1)) 1) := ok_iconst (n := 1) (by decide +kernel) (by decide +kernel)
theorem k_184_265 : OkOp mt Ev 184 265 (o_iload 4 2) := ok_iload (by decide +kernel)
theorem k_184_267 : OkOp mt Ev 184 267 (o_cv [(12, 184)] 4) := ok_cv (i := 240) (by decide +kernel) vc_171
theorem k_184_270 : OkOp mt Ev 184 270 (o_aload 0 1) := ok_aload_n (k := 0) (by decide +kernel) rfl
theorem k_184_271 : OkOp mt Ev 184 271 (o_iload 6 2) := ok_iload (by decide +kernel)
theorem k_184_273 : OkOp mt Ev 184 273 (o_iload 2 1) := ok_iload_n (k := 2) (by decide +kernel) rfl
theorem k_184_274 : OkOp mt Ev 184 274 (o_push (.int (0)) 1) := ok_iconst (n := 0) (by decide +kernel) (by decide +kernel)
theorem k_184_275 : OkOp mt Ev 184 275 (o_push (.int (2)) 1) := ok_iconst (n := 2) (by decide +kernel) (by decide +kernel)
theorem k_184_276 : OkOp mt Ev 184 276 (o_cv [(12, 184)] 4) := ok_cv (i := 240) (by decide +kernel) vc_171
theorem k_184_279 : OkOp mt Ev 184 279 (o_ib (fun x y => x + y)) := ok_iadd (by decide +kernel)
theorem k_184_280 : OkOp mt Ev 184 280 (o_ret 0) := ok_reti (ty := .int) (by decide +kernel) rfl (Or.inl ⟨rfl, rfl⟩)
theorem k_184_281 : OkOp mt Ev 184 281 (o_aload 0 1) := ok_aload_n (k := 0) (by decide +kernel) rfl
theorem k_184_282 : OkOp mt Ev 184 282 (o_iload 6 2) := ok_iload (by decide +kernel)
theorem k_184_284 : OkOp mt Ev 184 284 (o_iload 2 1) := ok_iload_n (k := 2) (by decide +kernel) rfl
theorem k_184_285 : OkOp mt Ev 184 285 (o_push (.int (0)) 1) := ok_iconst (n := 0) (by decide +kernel) (by decide +kernel)
theorem k_184_286 : OkOp mt Ev 184 286 (o_iload 4 2) := ok_iload (by decide +kernel)
theorem k_184_288 : OkOp mt Ev 184 288 (o_cv [(12, 184)] 4) := ok_cv (i := 240) (by decide +kernel) vc_171
theorem k_184_291 : OkOp mt Ev 184 291 (o_aload 0 1) := ok_aload_n (k := 0) (by decide +kernel) rfl
theorem k_184_292 : OkOp mt Ev 184 292 (o_iload 2 1) := ok_iload_n (k := 2) (by decide +kernel) rfl
theorem k_184_293 : OkOp mt Ev 184 293 (o_push (.int (1)) 1) := ok_iconst (n := 1) (by decide +kernel) (by decide +kernel)
theorem k_184_294 : OkOp mt Ev 184 294 (o_cv [(12, 132)] 2) := ok_cv (i := 87) (by decide +kernel) vc_141
theorem k_184_297 : OkOp mt Ev 184 297 (o_ib (fun x y => x ^^^ y)) := ok_ixor (by decide +kernel)
theorem k_184_298 : OkOp mt Ev 184 298 (o_ret 0) := ok_reti (ty := .int) (by decide +kernel) rfl (Or.inl ⟨rfl, rfl⟩)
theorem kt_184 : ∀ pc o, cd_X12_byKind Ev pc = some o → OkOp mt Ev 184 pc o ∧ Gw o := (tN_ok (tN_ok (tN_ok (tN_ok (tN_ok (tN_ok (tN_ok (tL_ok ⟨k_184_0, gw_iload⟩) (tL_ok ⟨k_184_1, gw_istore⟩)) (tN_ok (tL_ok ⟨k_184_3, gw_aload⟩) (tL_ok ⟨k_184_4, gw_getf⟩))) (tN_ok (tN_ok (tL_ok ⟨k_184_7, gw_push⟩) (tL_ok ⟨k_184_8, gw_iload⟩)) (tN_ok (tL_ok ⟨k_184_10, gw_ib⟩) (tL_ok ⟨k_184_11, gw_iload⟩)))) (tN_ok (tN_ok (tN_ok (tL_ok ⟨k_184_12, gw_ib⟩) (tL_ok ⟨k_184_13, gw_iald⟩)) (tN_ok (tL_ok ⟨k_184_14, gw_if1⟩) (tL_ok ⟨k_184_17, gw_aload⟩))) (tN_ok (tN_ok (tL_ok ⟨k_184_18, gw_getf⟩) (tL_ok ⟨k_184_21, gw_iload⟩)) (tN_ok (tL_ok ⟨k_184_23, gw_iald⟩) (tN_ok (tL_ok ⟨k_184_24, gw_istore⟩) (tL_ok ⟨k_184_26, gw_goto⟩)))))) (tN_ok (tN_ok (tN_ok (tN_ok (tL_ok ⟨k_184_29, gw_aload⟩) (tL_ok ⟨k_184_30, gw_getf⟩)) (tN_ok (tL_ok ⟨k_184_33, gw_iload⟩) (tL_ok ⟨k_184_35, gw_iald⟩))) (tN_ok (tN_ok (tL_ok ⟨k_184_36, gw_istore⟩) (tL_ok ⟨k_184_38, gw_aload⟩)) (tN_ok (tL_ok ⟨k_184_39, gw_aload⟩) (tL_ok ⟨k_184_40, gw_getf⟩)))) (tN_ok (tN_ok (tN_ok (tL_ok ⟨k_184_43, gw_push⟩) (tL_ok ⟨k_184_44, gw_iload⟩)) (tN_ok (tL_ok ⟨k_184_46, gw_ib⟩) (tL_ok ⟨k_184_47, gw_iload⟩))) (tN_ok (tN_ok (tL_ok ⟨k_184_48, gw_ib⟩) (tL_ok ⟨k_184_49, gw_iald⟩)) (tN_ok (tL_ok ⟨k_184_50, gw_cv⟩) (tN_ok (tL_ok ⟨k_184_53, gw_sw⟩) (tL_ok ⟨k_184_144, gw_iload⟩))))))) (tN_ok (tN_ok (tN_ok (tN_ok (tN_ok (tL_ok ⟨k_184_146, gw_iload⟩) (tL_ok ⟨k_184_147, gw_ib⟩)) (tN_ok (tL_ok ⟨k_184_148, gw_ret⟩) (tL_ok ⟨k_184_149, gw_aload⟩))) (tN_ok (tN_ok (tL_ok ⟨k_184_150, gw_iload⟩) (tL_ok ⟨k_184_151, gw_push⟩)) (tN_ok (tL_ok ⟨k_184_152, gw_iload⟩) (tL_ok ⟨k_184_154, gw_cv⟩)))) (tN_ok (tN_ok (tN_ok (tL_ok ⟨k_184_157, gw_aload⟩) (tL_ok ⟨k_184_158, gw_iload⟩)) (tN_ok (tL_ok ⟨k_184_159, gw_push⟩) (tL_ok ⟨k_184_160, gw_cv⟩))) (tN_ok (tN_ok (tL_ok ⟨k_184_163, gw_ib⟩) (tL_ok ⟨k_184_164, gw_ret⟩)) (tN_ok (tL_ok ⟨k_184_165, gw_aload⟩) (tN_ok (tL_ok ⟨k_184_166, gw_iload⟩) (tL_ok ⟨k_184_167, gw_push⟩)))))) (tN_ok (tN_ok (tN_ok (tN_ok (tL_ok ⟨k_184_168, gw_iload⟩) (tL_ok ⟨k_184_170, gw_cv⟩)) (tN_ok (tL_ok ⟨k_184_173, gw_push⟩) (tL_ok ⟨k_184_174, gw_ib⟩))) (tN_ok (tN_ok (tL_ok ⟨k_184_175, gw_ret⟩) (tL_ok ⟨k_184_176, gw_aload⟩)) (tN_ok (tL_ok ⟨k_184_177, gw_iload⟩) (tN_ok (tL_ok ⟨k_184_179, gw_iload⟩) (tL_ok ⟨k_184_180, gw_push⟩))))) (tN_ok (tN_ok (tN_ok (tL_ok ⟨k_184_181, gw_iload⟩) (tL_ok ⟨k_184_183, gw_cv⟩)) (tN_ok (tL_ok ⟨k_184_186, gw_push⟩) (tL_ok ⟨k_184_188, gw_ib⟩))) (tN_ok (tN_ok (tL_ok ⟨k_184_189, gw_ret⟩) (tL_ok ⟨k_184_190, gw_aload⟩)) (tN_ok (tL_ok ⟨k_184_191, gw_iload⟩) (tN_ok (tL_ok ⟨k_184_193, gw_iload⟩) (tL_ok ⟨k_184_194, gw_push⟩)))))))) (tN_ok (tN_ok (tN_ok (tN_ok (tN_ok (tN_ok (tL_ok ⟨k_184_195, gw_iload⟩) (tL_ok ⟨k_184_197, gw_push⟩)) (tN_ok (tL_ok ⟨k_184_198, gw_ib⟩) (tL_ok ⟨k_184_199, gw_cv⟩))) (tN_ok (tN_ok (tL_ok ⟨k_184_202, gw_ret⟩) (tL_ok ⟨k_184_203, gw_aload⟩)) (tN_ok (tL_ok ⟨k_184_204, gw_iload⟩) (tL_ok ⟨k_184_206, gw_iload⟩)))) (tN_ok (tN_ok (tN_ok (tL_ok ⟨k_184_207, gw_push⟩) (tL_ok ⟨k_184_208, gw_iload⟩)) (tN_ok (tL_ok ⟨k_184_210, gw_cv⟩) (tL_ok ⟨k_184_213, gw_aload⟩))) (tN_ok (tN_ok (tL_ok ⟨k_184_214, gw_iload⟩) (tL_ok ⟨k_184_215, gw_push⟩)) (tN_ok (tL_ok ⟨k_184_216, gw_push⟩) (tN_ok (tL_ok ⟨k_184_217, gw_cv⟩) (tL_ok ⟨k_184_220, gw_ib⟩)))))) (tN_ok (tN_ok (tN_ok (tN_ok (tL_ok ⟨k_184_221, gw_ret⟩) (tL_ok ⟨k_184_222, gw_aload⟩)) (tN_ok (tL_ok ⟨k_184_223, gw_iload⟩) (tL_ok ⟨k_184_225, gw_iload⟩))) (tN_ok (tN_ok (tL_ok ⟨k_184_226, gw_push⟩) (tL_ok ⟨k_184_227, gw_iload⟩)) (tN_ok (tL_ok ⟨k_184_229, gw_cv⟩) (tN_ok (tL_ok ⟨k_184_232, gw_iu⟩) (tL_ok ⟨k_184_233, gw_ret⟩))))) (tN_ok (tN_ok (tN_ok (tL_ok ⟨k_184_234, gw_aload⟩) (tL_ok ⟨k_184_235, gw_iload⟩)) (tN_ok (tL_ok ⟨k_184_237, gw_iload⟩) (tL_ok ⟨k_184_238, gw_push⟩))) (tN_ok (tN_ok (tL_ok ⟨k_184_239, gw_iload⟩) (tL_ok ⟨k_184_241, gw_push⟩)) (tN_ok (tL_ok ⟨k_184_242, gw_ib⟩) (tN_ok (tL_ok ⟨k_184_243, gw_cv⟩) (tL_ok ⟨k_184_246, gw_ret⟩))))))) (tN_ok (tN_ok (tN_ok (tN_ok (tN_ok (tL_ok ⟨k_184_247, gw_aload⟩) (tL_ok ⟨k_184_248, gw_iload⟩)) (tN_ok (tL_ok ⟨k_184_250, gw_iload⟩) (tL_ok ⟨k_184_251, gw_push⟩))) (tN_ok (tN_ok (tL_ok ⟨k_184_252, gw_iload⟩) (tL_ok ⟨k_184_254, gw_iload⟩)) (tN_ok (tL_ok ⟨k_184_255, gw_ib⟩) (tL_ok ⟨k_184_256, gw_cv⟩)))) (tN_ok (tN_ok (tN_ok (tL_ok ⟨k_184_259, gw_ret⟩) (tL_ok ⟨k_184_260, gw_aload⟩)) (tN_ok (tL_ok ⟨k_184_261, gw_iload⟩) (tL_ok ⟨k_184_263, gw_iload⟩))) (tN_ok (tN_ok (tL_ok ⟨k_184_264, gw_push⟩) (tL_ok ⟨k_184_265, gw_iload⟩)) (tN_ok (tL_ok ⟨k_184_267, gw_cv⟩) (tN_ok (tL_ok ⟨k_184_270, gw_aload⟩) (tL_ok ⟨k_184_271, gw_iload⟩)))))) (tN_ok (tN_ok (tN_ok (tN_ok (tL_ok ⟨k_184_273, gw_iload⟩) (tL_ok ⟨k_184_274, gw_push⟩)) (tN_ok (tL_ok ⟨k_184_275, gw_push⟩) (tL_ok ⟨k_184_276, gw_cv⟩))) (tN_ok (tN_ok (tL_ok ⟨k_184_279, gw_ib⟩) (tL_ok ⟨k_184_280, gw_ret⟩)) (tN_ok (tL_ok ⟨k_184_281, gw_aload⟩) (tN_ok (tL_ok ⟨k_184_282, gw_iload⟩) (tL_ok ⟨k_184_284, gw_iload⟩))))) (tN_ok (tN_ok (tN_ok (tL_ok ⟨k_184_285, gw_push⟩) (tL_ok ⟨k_184_286, gw_iload⟩)) (tN_ok (tL_ok ⟨k_184_288, gw_cv⟩) (tL_ok ⟨k_184_291, gw_aload⟩))) (tN_ok (tN_ok (tL_ok ⟨k_184_292, gw_iload⟩) (tL_ok ⟨k_184_293, gw_push⟩)) (tN_ok (tL_ok ⟨k_184_294, gw_cv⟩) (tN_ok (tL_ok ⟨k_184_297, gw_ib⟩) (tL_ok ⟨k_184_298, gw_ret⟩)))))))))
theorem k_185_0 : OkOp mt Ev 185 0 (o_aload 0 1) := ok_aload_n (k := 0) (by decide +kernel) rfl
theorem k_185_1 : OkOp mt Ev 185 1 (o_push (.int (0)) 1) := ok_iconst (n := 0) (by decide +kernel) (by decide +kernel)
theorem k_185_2 : OkOp mt Ev 185 2 (o_putf 24 [12] 0) := ok_putf (i := 237) (rf := "BridgeSentencesModel") (nm := "ran") (ds := "I") (ty := .int) (fin := false) (by decide +kernel) fc_75 wd_1009 (tc_12) ff_79 (by decide) (by decide +kernel) ov_int
theorem k_185_5 : OkOp mt Ev 185 5 (o_aload 0 1) := ok_aload_n (k := 0) (by decide +kernel) rfl
theorem k_185_6 : OkOp mt Ev 185 6 (o_iload 1 1) := ok_iload_n (k := 1) (by decide +kernel) rfl
theorem k_185_7 : OkOp mt Ev 185 7 (o_cv [(12, 128)] 1) := ok_cv (i := 95) (by decide +kernel) vc_143
theorem k_185_10 : OkOp mt Ev 185 10 (o_if1 (fun x => decide (x = 0)) 32) := ok_if_eq (off := 22) (by decide +kernel) (by decide +kernel)
theorem k_185_13 : OkOp mt Ev 185 13 (o_iload 2 1) := ok_iload_n (k := 2) (by decide +kernel) rfl
theorem k_185_14 : OkOp mt Ev 185 14 (o_push (.int (0)) 1) := ok_iconst (n := 0) (by decide +kernel) (by decide +kernel)
theorem k_185_15 : OkOp mt Ev 185 15 (o_push (.int (2)) 1) := ok_iconst (n := 2) (by decide +kernel) (by decide +kernel)
theorem k_185_16 : OkOp mt Ev 185 16 (o_cs 123 3) := ok_cs (i := 83) (by decide +kernel) wd_1089 wd_1090 wd_62 wd_1091 nk_34
theorem k_185_19 : OkOp mt Ev 185 19 (o_if1 (fun x => decide (x = 0)) 32) := ok_if_eq (off := 13) (by decide +kernel) (by decide +kernel)
theorem k_185_22 : OkOp mt Ev 185 22 (o_aload 0 1) := ok_aload_n (k := 0) (by decide +kernel) rfl
theorem k_185_23 : OkOp mt Ev 185 23 (o_iload 1 1) := ok_iload_n (k := 1) (by decide +kernel) rfl
theorem k_185_24 : OkOp mt Ev 185 24 (o_iload 2 1) := ok_iload_n (k := 2) (by decide +kernel) rfl
theorem k_185_25 : OkOp mt Ev 185 25 (o_iload 3 1) := ok_iload_n (k := 3) (by decide +kernel) rfl
theorem k_185_26 : OkOp mt Ev 185 26 (o_cv [(12, 183)] 3) := ok_cv (i := 246) (by decide +kernel) vc_173
theorem k_185_29 : OkOp mt Ev 185 29 (o_goto 33) := ok_goto (off := 4) (by decide +kernel) (by decide +kernel)
theorem k_185_32 : OkOp mt Ev 185 32 (o_push (.int (0)) 1) := ok_iconst (n := 0) (by decide +kernel) (by decide +kernel)
theorem k_185_33 : OkOp mt Ev 185 33 (o_ret 0) := ok_reti (ty := .int) (by decide +kernel) rfl (Or.inl ⟨rfl, rfl⟩)
theorem kt_185 : ∀ pc o, cd_X12_act Ev pc = some o → OkOp mt Ev 185 pc o ∧ Gw o := (tN_ok (tN_ok (tN_ok (tN_ok (tL_ok ⟨k_185_0, gw_aload⟩) (tL_ok ⟨k_185_1, gw_push⟩)) (tN_ok (tL_ok ⟨k_185_2, gw_putf⟩) (tN_ok (tL_ok ⟨k_185_5, gw_aload⟩) (tL_ok ⟨k_185_6, gw_iload⟩)))) (tN_ok (tN_ok (tL_ok ⟨k_185_7, gw_cv⟩) (tL_ok ⟨k_185_10, gw_if1⟩)) (tN_ok (tL_ok ⟨k_185_13, gw_iload⟩) (tN_ok (tL_ok ⟨k_185_14, gw_push⟩) (tL_ok ⟨k_185_15, gw_push⟩))))) (tN_ok (tN_ok (tN_ok (tL_ok ⟨k_185_16, gw_cs⟩) (tL_ok ⟨k_185_19, gw_if1⟩)) (tN_ok (tL_ok ⟨k_185_22, gw_aload⟩) (tN_ok (tL_ok ⟨k_185_23, gw_iload⟩) (tL_ok ⟨k_185_24, gw_iload⟩)))) (tN_ok (tN_ok (tL_ok ⟨k_185_25, gw_iload⟩) (tL_ok ⟨k_185_26, gw_cv⟩)) (tN_ok (tL_ok ⟨k_185_29, gw_goto⟩) (tN_ok (tL_ok ⟨k_185_32, gw_push⟩) (tL_ok ⟨k_185_33, gw_ret⟩))))))
theorem k_186_0 : OkOp mt Ev 186 0 (o_iload 1 1) := ok_iload_n (k := 1) (by decide +kernel) rfl
theorem k_186_1 : OkOp mt Ev 186 1 (o_push (.int (0)) 1) := ok_iconst (n := 0) (by decide +kernel) (by decide +kernel)
theorem k_186_2 : OkOp mt Ev 186 2 (o_push (.int (20)) 2) := ok_bipush (n := 20) (by decide +kernel) (by decide +kernel)
theorem k_186_4 : OkOp mt Ev 186 4 (o_aload 0 1) := ok_aload_n (k := 0) (by decide +kernel) rfl
theorem k_186_5 : OkOp mt Ev 186 5 (o_getf 24 [12]) := ok_getf (i := 237) (rf := "BridgeSentencesModel") (nm := "ran") (ds := "I") (by decide +kernel) fc_75 wd_1009
theorem k_186_8 : OkOp mt Ev 186 8 (o_cs 197 2) := ok_cs (i := 184) (by decide +kernel) wd_1171 wd_432 wd_59 wd_433 nk_6
theorem k_186_11 : OkOp mt Ev 186 11 (o_push (.int (1)) 1) := ok_iconst (n := 1) (by decide +kernel) (by decide +kernel)
theorem k_186_12 : OkOp mt Ev 186 12 (o_ib (fun x y => x - y)) := ok_isub (by decide +kernel)
theorem k_186_13 : OkOp mt Ev 186 13 (o_cs 123 3) := ok_cs (i := 83) (by decide +kernel) wd_1089 wd_1090 wd_62 wd_1091 nk_34
theorem k_186_16 : OkOp mt Ev 186 16 (o_if1 (fun x => decide (x = 0)) 28) := ok_if_eq (off := 12) (by decide +kernel) (by decide +kernel)
theorem k_186_19 : OkOp mt Ev 186 19 (o_aload 0 1) := ok_aload_n (k := 0) (by decide +kernel) rfl
theorem k_186_20 : OkOp mt Ev 186 20 (o_getf 23 [12]) := ok_getf (i := 59) (rf := "BridgeSentencesModel") (nm := "trace") (ds := "[I") (by decide +kernel) fc_61 wd_1008
theorem k_186_23 : OkOp mt Ev 186 23 (o_iload 1 1) := ok_iload_n (k := 1) (by decide +kernel) rfl
theorem k_186_24 : OkOp mt Ev 186 24 (o_iald 2) := ok_iald (by decide +kernel)
theorem k_186_25 : OkOp mt Ev 186 25 (o_goto 29) := ok_goto (off := 4) (by decide +kernel) (by decide +kernel)
theorem k_186_28 : OkOp mt Ev 186 28 (o_push (.int (-1)) 1) := ok_iconst (n := -1) (by decide +kernel) (by decide +kernel)
theorem k_186_29 : OkOp mt Ev 186 29 (o_ret 0) := ok_reti (ty := .int) (by decide +kernel) rfl (Or.inl ⟨rfl, rfl⟩)
theorem kt_186 : ∀ pc o, cd_X12_trace Ev pc = some o → OkOp mt Ev 186 pc o ∧ Gw o := (tN_ok (tN_ok (tN_ok (tN_ok (tL_ok ⟨k_186_0, gw_iload⟩) (tL_ok ⟨k_186_1, gw_push⟩)) (tN_ok (tL_ok ⟨k_186_2, gw_push⟩) (tL_ok ⟨k_186_4, gw_aload⟩))) (tN_ok (tN_ok (tL_ok ⟨k_186_5, gw_getf⟩) (tL_ok ⟨k_186_8, gw_cs⟩)) (tN_ok (tL_ok ⟨k_186_11, gw_push⟩) (tL_ok ⟨k_186_12, gw_ib⟩)))) (tN_ok (tN_ok (tN_ok (tL_ok ⟨k_186_13, gw_cs⟩) (tL_ok ⟨k_186_16, gw_if1⟩)) (tN_ok (tL_ok ⟨k_186_19, gw_aload⟩) (tL_ok ⟨k_186_20, gw_getf⟩))) (tN_ok (tN_ok (tL_ok ⟨k_186_23, gw_iload⟩) (tL_ok ⟨k_186_24, gw_iald⟩)) (tN_ok (tL_ok ⟨k_186_25, gw_goto⟩) (tN_ok (tL_ok ⟨k_186_28, gw_push⟩) (tL_ok ⟨k_186_29, gw_ret⟩))))))
theorem k_187_0 : OkOp mt Ev 187 0 (o_iload 2 1) := ok_iload_n (k := 2) (by decide +kernel) rfl
theorem k_187_1 : OkOp mt Ev 187 1 (o_push (.int (0)) 1) := ok_iconst (n := 0) (by decide +kernel) (by decide +kernel)
theorem k_187_2 : OkOp mt Ev 187 2 (o_push (.int (6)) 2) := ok_bipush (n := 6) (by decide +kernel) (by decide +kernel)
theorem k_187_4 : OkOp mt Ev 187 4 (o_cs 123 3) := ok_cs (i := 83) (by decide +kernel) wd_1089 wd_1090 wd_62 wd_1091 nk_34
theorem k_187_7 : OkOp mt Ev 187 7 (o_if1 (fun x => decide (¬ x = 0)) 13) := ok_if_ne (off := 6) (by decide +kernel) (by decide +kernel)
theorem k_187_10 : OkOp mt Ev 187 10 (o_push (.int (-2)) 2) := ok_bipush (n := -2) (by decide +kernel) (by decide +kernel)
theorem k_187_12 : OkOp mt Ev 187 12 (o_ret 0) := ok_reti (ty := .int) (by decide +kernel) rfl (Or.inl ⟨rfl, rfl⟩)
theorem k_187_13 : OkOp mt Ev 187 13 (o_aload 0 1) := ok_aload_n (k := 0) (by decide +kernel) rfl
theorem k_187_14 : OkOp mt Ev 187 14 (o_iload 1 1) := ok_iload_n (k := 1) (by decide +kernel) rfl
theorem k_187_15 : OkOp mt Ev 187 15 (o_cv [(12, 128)] 1) := ok_cv (i := 95) (by decide +kernel) vc_143
theorem k_187_18 : OkOp mt Ev 187 18 (o_if1 (fun x => decide (¬ x = 0)) 24) := ok_if_ne (off := 6) (by decide +kernel) (by decide +kernel)
theorem k_187_21 : OkOp mt Ev 187 21 (o_push (.int (-11)) 2) := ok_bipush (n := -11) (by decide +kernel) (by decide +kernel)
theorem k_187_23 : OkOp mt Ev 187 23 (o_ret 0) := ok_reti (ty := .int) (by decide +kernel) rfl (Or.inl ⟨rfl, rfl⟩)
theorem k_187_24 : OkOp mt Ev 187 24 (o_aload 0 1) := ok_aload_n (k := 0) (by decide +kernel) rfl
theorem k_187_25 : OkOp mt Ev 187 25 (o_iload 1 1) := ok_iload_n (k := 1) (by decide +kernel) rfl
theorem k_187_26 : OkOp mt Ev 187 26 (o_push (.int (0)) 1) := ok_iconst (n := 0) (by decide +kernel) (by decide +kernel)
theorem k_187_27 : OkOp mt Ev 187 27 (o_cv [(12, 132)] 2) := ok_cv (i := 87) (by decide +kernel) vc_141
theorem k_187_30 : OkOp mt Ev 187 30 (o_istore 3 1) := ok_istore_n (k := 3) (by decide +kernel) rfl
theorem k_187_31 : OkOp mt Ev 187 31 (o_iload 3 1) := ok_iload_n (k := 3) (by decide +kernel) rfl
theorem k_187_32 : OkOp mt Ev 187 32 (o_push (.int (-1)) 1) := ok_iconst (n := -1) (by decide +kernel) (by decide +kernel)
theorem k_187_33 : OkOp mt Ev 187 33 (o_if2 (fun x y => decide (x = y)) 51) := ok_icmp_eq (off := 18) (by decide +kernel) (by decide +kernel)
theorem k_187_36 : OkOp mt Ev 187 36 (o_iload 3 1) := ok_iload_n (k := 3) (by decide +kernel) rfl
theorem k_187_37 : OkOp mt Ev 187 37 (o_iload 2 1) := ok_iload_n (k := 2) (by decide +kernel) rfl
theorem k_187_38 : OkOp mt Ev 187 38 (o_if2 (fun x y => decide (x = y)) 51) := ok_icmp_eq (off := 13) (by decide +kernel) (by decide +kernel)
theorem k_187_41 : OkOp mt Ev 187 41 (o_aload 0 1) := ok_aload_n (k := 0) (by decide +kernel) rfl
theorem k_187_42 : OkOp mt Ev 187 42 (o_getf 21 [12]) := ok_getf (i := 53) (rf := "BridgeSentencesModel") (nm := "above") (ds := "[I") (by decide +kernel) fc_59 wd_1006
theorem k_187_45 : OkOp mt Ev 187 45 (o_iload 3 1) := ok_iload_n (k := 3) (by decide +kernel) rfl
theorem k_187_46 : OkOp mt Ev 187 46 (o_iald 2) := ok_iald (by decide +kernel)
theorem k_187_47 : OkOp mt Ev 187 47 (o_istore 3 1) := ok_istore_n (k := 3) (by decide +kernel) rfl
theorem k_187_48 : OkOp mt Ev 187 48 (o_goto 31) := ok_goto (off := -17) (by decide +kernel) (by decide +kernel)
theorem k_187_51 : OkOp mt Ev 187 51 (o_iload 3 1) := ok_iload_n (k := 3) (by decide +kernel) rfl
theorem k_187_52 : OkOp mt Ev 187 52 (o_iload 2 1) := ok_iload_n (k := 2) (by decide +kernel) rfl
theorem k_187_53 : OkOp mt Ev 187 53 (o_if2 (fun x y => decide (¬ x = y)) 65) := ok_icmp_ne (off := 12) (by decide +kernel) (by decide +kernel)
theorem k_187_56 : OkOp mt Ev 187 56 (o_aload 0 1) := ok_aload_n (k := 0) (by decide +kernel) rfl
theorem k_187_57 : OkOp mt Ev 187 57 (o_iload 1 1) := ok_iload_n (k := 1) (by decide +kernel) rfl
theorem k_187_58 : OkOp mt Ev 187 58 (o_push (.int (0)) 1) := ok_iconst (n := 0) (by decide +kernel) (by decide +kernel)
theorem k_187_59 : OkOp mt Ev 187 59 (o_cv [(12, 132)] 2) := ok_cv (i := 87) (by decide +kernel) vc_141
theorem k_187_62 : OkOp mt Ev 187 62 (o_goto 67) := ok_goto (off := 5) (by decide +kernel) (by decide +kernel)
theorem k_187_65 : OkOp mt Ev 187 65 (o_push (.int (-12)) 2) := ok_bipush (n := -12) (by decide +kernel) (by decide +kernel)
theorem k_187_67 : OkOp mt Ev 187 67 (o_ret 0) := ok_reti (ty := .int) (by decide +kernel) rfl (Or.inl ⟨rfl, rfl⟩)
theorem kt_187 : ∀ pc o, cd_X12_taken Ev pc = some o → OkOp mt Ev 187 pc o ∧ Gw o := (tN_ok (tN_ok (tN_ok (tN_ok (tN_ok (tL_ok ⟨k_187_0, gw_iload⟩) (tL_ok ⟨k_187_1, gw_push⟩)) (tN_ok (tL_ok ⟨k_187_2, gw_push⟩) (tN_ok (tL_ok ⟨k_187_4, gw_cs⟩) (tL_ok ⟨k_187_7, gw_if1⟩)))) (tN_ok (tN_ok (tL_ok ⟨k_187_10, gw_push⟩) (tL_ok ⟨k_187_12, gw_ret⟩)) (tN_ok (tL_ok ⟨k_187_13, gw_aload⟩) (tN_ok (tL_ok ⟨k_187_14, gw_iload⟩) (tL_ok ⟨k_187_15, gw_cv⟩))))) (tN_ok (tN_ok (tN_ok (tL_ok ⟨k_187_18, gw_if1⟩) (tL_ok ⟨k_187_21, gw_push⟩)) (tN_ok (tL_ok ⟨k_187_23, gw_ret⟩) (tN_ok (tL_ok ⟨k_187_24, gw_aload⟩) (tL_ok ⟨k_187_25, gw_iload⟩)))) (tN_ok (tN_ok (tL_ok ⟨k_187_26, gw_push⟩) (tL_ok ⟨k_187_27, gw_cv⟩)) (tN_ok (tL_ok ⟨k_187_30, gw_istore⟩) (tN_ok (tL_ok ⟨k_187_31, gw_iload⟩) (tL_ok ⟨k_187_32, gw_push⟩)))))) (tN_ok (tN_ok (tN_ok (tN_ok (tL_ok ⟨k_187_33, gw_if2⟩) (tL_ok ⟨k_187_36, gw_iload⟩)) (tN_ok (tL_ok ⟨k_187_37, gw_iload⟩) (tN_ok (tL_ok ⟨k_187_38, gw_if2⟩) (tL_ok ⟨k_187_41, gw_aload⟩)))) (tN_ok (tN_ok (tL_ok ⟨k_187_42, gw_getf⟩) (tL_ok ⟨k_187_45, gw_iload⟩)) (tN_ok (tL_ok ⟨k_187_46, gw_iald⟩) (tN_ok (tL_ok ⟨k_187_47, gw_istore⟩) (tL_ok ⟨k_187_48, gw_goto⟩))))) (tN_ok (tN_ok (tN_ok (tL_ok ⟨k_187_51, gw_iload⟩) (tL_ok ⟨k_187_52, gw_iload⟩)) (tN_ok (tL_ok ⟨k_187_53, gw_if2⟩) (tN_ok (tL_ok ⟨k_187_56, gw_aload⟩) (tL_ok ⟨k_187_57, gw_iload⟩)))) (tN_ok (tN_ok (tL_ok ⟨k_187_58, gw_push⟩) (tL_ok ⟨k_187_59, gw_cv⟩)) (tN_ok (tL_ok ⟨k_187_62, gw_goto⟩) (tN_ok (tL_ok ⟨k_187_65, gw_push⟩) (tL_ok ⟨k_187_67, gw_ret⟩)))))))
theorem k_188_0 : OkOp mt Ev 188 0 (o_iload 1 1) := ok_iload_n (k := 1) (by decide +kernel) rfl
theorem k_188_1 : OkOp mt Ev 188 1 (o_sw 91 [(0, 44), (1, 52), (2, 57), (3, 65), (4, 73), (5, 81), (6, 86)]) := ok_tsw (dflt := 90) (lo := 0) (hi := 6) (offs := #[43, 51, 56, 64, 72, 80, 85]) (len := 43) (by decide +kernel) (by decide +kernel) (by decide +kernel) (by decide +kernel)
theorem k_188_44 : OkOp mt Ev 188 44 (o_aload 0 1) := ok_aload_n (k := 0) (by decide +kernel) rfl
theorem k_188_45 : OkOp mt Ev 188 45 (o_getf 0 [12]) := ok_getf (i := 15) (rf := "BridgeSentencesModel") (nm := "now") (ds := "[I") (by decide +kernel) fc_47 wd_985
theorem k_188_48 : OkOp mt Ev 188 48 (o_push (.int (68)) 2) := ok_bipush (n := 68) (by decide +kernel) (by decide +kernel)
theorem k_188_50 : OkOp mt Ev 188 50 (o_iald 2) := ok_iald (by decide +kernel)
theorem k_188_51 : OkOp mt Ev 188 51 (o_ret 0) := ok_reti (ty := .int) (by decide +kernel) rfl (Or.inl ⟨rfl, rfl⟩)
theorem k_188_52 : OkOp mt Ev 188 52 (o_aload 0 1) := ok_aload_n (k := 0) (by decide +kernel) rfl
theorem k_188_53 : OkOp mt Ev 188 53 (o_getf 8 [12]) := ok_getf (i := 178) (rf := "BridgeSentencesModel") (nm := "ruled") (ds := "I") (by decide +kernel) fc_74 wd_993
theorem k_188_56 : OkOp mt Ev 188 56 (o_ret 0) := ok_reti (ty := .int) (by decide +kernel) rfl (Or.inl ⟨rfl, rfl⟩)
theorem k_188_57 : OkOp mt Ev 188 57 (o_aload 0 1) := ok_aload_n (k := 0) (by decide +kernel) rfl
theorem k_188_58 : OkOp mt Ev 188 58 (o_getf 0 [12]) := ok_getf (i := 15) (rf := "BridgeSentencesModel") (nm := "now") (ds := "[I") (by decide +kernel) fc_47 wd_985
theorem k_188_61 : OkOp mt Ev 188 61 (o_push (.int (71)) 2) := ok_bipush (n := 71) (by decide +kernel) (by decide +kernel)
theorem k_188_63 : OkOp mt Ev 188 63 (o_iald 2) := ok_iald (by decide +kernel)
theorem k_188_64 : OkOp mt Ev 188 64 (o_ret 0) := ok_reti (ty := .int) (by decide +kernel) rfl (Or.inl ⟨rfl, rfl⟩)
theorem k_188_65 : OkOp mt Ev 188 65 (o_aload 0 1) := ok_aload_n (k := 0) (by decide +kernel) rfl
theorem k_188_66 : OkOp mt Ev 188 66 (o_getf 0 [12]) := ok_getf (i := 15) (rf := "BridgeSentencesModel") (nm := "now") (ds := "[I") (by decide +kernel) fc_47 wd_985
theorem k_188_69 : OkOp mt Ev 188 69 (o_push (.int (82)) 2) := ok_bipush (n := 82) (by decide +kernel) (by decide +kernel)
theorem k_188_71 : OkOp mt Ev 188 71 (o_iald 2) := ok_iald (by decide +kernel)
theorem k_188_72 : OkOp mt Ev 188 72 (o_ret 0) := ok_reti (ty := .int) (by decide +kernel) rfl (Or.inl ⟨rfl, rfl⟩)
theorem k_188_73 : OkOp mt Ev 188 73 (o_aload 0 1) := ok_aload_n (k := 0) (by decide +kernel) rfl
theorem k_188_74 : OkOp mt Ev 188 74 (o_getf 0 [12]) := ok_getf (i := 15) (rf := "BridgeSentencesModel") (nm := "now") (ds := "[I") (by decide +kernel) fc_47 wd_985
theorem k_188_77 : OkOp mt Ev 188 77 (o_push (.int (103)) 2) := ok_bipush (n := 103) (by decide +kernel) (by decide +kernel)
theorem k_188_79 : OkOp mt Ev 188 79 (o_iald 2) := ok_iald (by decide +kernel)
theorem k_188_80 : OkOp mt Ev 188 80 (o_ret 0) := ok_reti (ty := .int) (by decide +kernel) rfl (Or.inl ⟨rfl, rfl⟩)
theorem k_188_81 : OkOp mt Ev 188 81 (o_aload 0 1) := ok_aload_n (k := 0) (by decide +kernel) rfl
theorem k_188_82 : OkOp mt Ev 188 82 (o_getf 5 [12]) := ok_getf (i := 128) (rf := "BridgeSentencesModel") (nm := "texted") (ds := "I") (by decide +kernel) fc_68 wd_990
theorem k_188_85 : OkOp mt Ev 188 85 (o_ret 0) := ok_reti (ty := .int) (by decide +kernel) rfl (Or.inl ⟨rfl, rfl⟩)
theorem k_188_86 : OkOp mt Ev 188 86 (o_aload 0 1) := ok_aload_n (k := 0) (by decide +kernel) rfl
theorem k_188_87 : OkOp mt Ev 188 87 (o_getf 24 [12]) := ok_getf (i := 237) (rf := "BridgeSentencesModel") (nm := "ran") (ds := "I") (by decide +kernel) fc_75 wd_1009
theorem k_188_90 : OkOp mt Ev 188 90 (o_ret 0) := ok_reti (ty := .int) (by decide +kernel) rfl (Or.inl ⟨rfl, rfl⟩)
theorem k_188_91 : OkOp mt Ev 188 91 (o_push (.int (-2)) 2) := ok_bipush (n := -2) (by decide +kernel) (by decide +kernel)
theorem k_188_93 : OkOp mt Ev 188 93 (o_ret 0) := ok_reti (ty := .int) (by decide +kernel) rfl (Or.inl ⟨rfl, rfl⟩)
theorem kt_188 : ∀ pc o, cd_X12_count Ev pc = some o → OkOp mt Ev 188 pc o ∧ Gw o := (tN_ok (tN_ok (tN_ok (tN_ok (tN_ok (tL_ok ⟨k_188_0, gw_iload⟩) (tL_ok ⟨k_188_1, gw_sw⟩)) (tN_ok (tL_ok ⟨k_188_44, gw_aload⟩) (tL_ok ⟨k_188_45, gw_getf⟩))) (tN_ok (tN_ok (tL_ok ⟨k_188_48, gw_push⟩) (tL_ok ⟨k_188_50, gw_iald⟩)) (tN_ok (tL_ok ⟨k_188_51, gw_ret⟩) (tL_ok ⟨k_188_52, gw_aload⟩)))) (tN_ok (tN_ok (tN_ok (tL_ok ⟨k_188_53, gw_getf⟩) (tL_ok ⟨k_188_56, gw_ret⟩)) (tN_ok (tL_ok ⟨k_188_57, gw_aload⟩) (tL_ok ⟨k_188_58, gw_getf⟩))) (tN_ok (tN_ok (tL_ok ⟨k_188_61, gw_push⟩) (tL_ok ⟨k_188_63, gw_iald⟩)) (tN_ok (tL_ok ⟨k_188_64, gw_ret⟩) (tL_ok ⟨k_188_65, gw_aload⟩))))) (tN_ok (tN_ok (tN_ok (tN_ok (tL_ok ⟨k_188_66, gw_getf⟩) (tL_ok ⟨k_188_69, gw_push⟩)) (tN_ok (tL_ok ⟨k_188_71, gw_iald⟩) (tL_ok ⟨k_188_72, gw_ret⟩))) (tN_ok (tN_ok (tL_ok ⟨k_188_73, gw_aload⟩) (tL_ok ⟨k_188_74, gw_getf⟩)) (tN_ok (tL_ok ⟨k_188_77, gw_push⟩) (tL_ok ⟨k_188_79, gw_iald⟩)))) (tN_ok (tN_ok (tN_ok (tL_ok ⟨k_188_80, gw_ret⟩) (tL_ok ⟨k_188_81, gw_aload⟩)) (tN_ok (tL_ok ⟨k_188_82, gw_getf⟩) (tL_ok ⟨k_188_85, gw_ret⟩))) (tN_ok (tN_ok (tL_ok ⟨k_188_86, gw_aload⟩) (tL_ok ⟨k_188_87, gw_getf⟩)) (tN_ok (tL_ok ⟨k_188_90, gw_ret⟩) (tN_ok (tL_ok ⟨k_188_91, gw_push⟩) (tL_ok ⟨k_188_93, gw_ret⟩)))))))
theorem k_189_0 : OkOp mt Ev 189 0 (o_iload 0 1) := ok_iload_n (k := 0) (by decide +kernel) rfl
theorem k_189_1 : OkOp mt Ev 189 1 (o_push (.int (0)) 1) := ok_iconst (n := 0) (by decide +kernel) (by decide +kernel)
theorem k_189_2 : OkOp mt Ev 189 2 (o_push (.int (5)) 1) := ok_iconst (n := 5) (by decide +kernel) (by decide +kernel)
theorem k_189_3 : OkOp mt Ev 189 3 (o_cs 123 3) := ok_cs (i := 83) (by decide +kernel) wd_1089 wd_1090 wd_62 wd_1091 nk_34
theorem k_189_6 : OkOp mt Ev 189 6 (o_ret 1) := ok_reti (ty := .boolean) (by decide +kernel) rfl (Or.inr (Or.inl ⟨rfl, rfl⟩))
theorem kt_189 : ∀ pc o, cd_X12_isTape Ev pc = some o → OkOp mt Ev 189 pc o ∧ Gw o := (tN_ok (tN_ok (tL_ok ⟨k_189_0, gw_iload⟩) (tL_ok ⟨k_189_1, gw_push⟩)) (tN_ok (tL_ok ⟨k_189_2, gw_push⟩) (tN_ok (tL_ok ⟨k_189_3, gw_cs⟩) (tL_ok ⟨k_189_6, gw_ret⟩))))
theorem k_190_0 : OkOp mt Ev 190 0 (o_iload 1 1) := ok_iload_n (k := 1) (by decide +kernel) rfl
theorem k_190_1 : OkOp mt Ev 190 1 (o_cs 189 1) := ok_cs (i := 249) (by decide +kernel) wd_1337 wd_1338 wd_62 wd_1339 nk_39
theorem k_190_4 : OkOp mt Ev 190 4 (o_if1 (fun x => decide (¬ x = 0)) 9) := ok_if_ne (off := 5) (by decide +kernel) (by decide +kernel)
theorem k_190_7 : OkOp mt Ev 190 7 (o_push (.int (-1)) 1) := ok_iconst (n := -1) (by decide +kernel) (by decide +kernel)
theorem k_190_8 : OkOp mt Ev 190 8 (o_ret 0) := ok_reti (ty := .int) (by decide +kernel) rfl (Or.inl ⟨rfl, rfl⟩)
theorem k_190_9 : OkOp mt Ev 190 9 (o_iload 2 1) := ok_iload_n (k := 2) (by decide +kernel) rfl
theorem k_190_10 : OkOp mt Ev 190 10 (o_push (.int (-1)) 1) := ok_iconst (n := -1) (by decide +kernel) (by decide +kernel)
theorem k_190_11 : OkOp mt Ev 190 11 (o_push (.int (4)) 1) := ok_iconst (n := 4) (by decide +kernel) (by decide +kernel)
theorem k_190_12 : OkOp mt Ev 190 12 (o_cs 123 3) := ok_cs (i := 83) (by decide +kernel) wd_1089 wd_1090 wd_62 wd_1091 nk_34
theorem k_190_15 : OkOp mt Ev 190 15 (o_if1 (fun x => decide (x = 0)) 28) := ok_if_eq (off := 13) (by decide +kernel) (by decide +kernel)
theorem k_190_18 : OkOp mt Ev 190 18 (o_iload 2 1) := ok_iload_n (k := 2) (by decide +kernel) rfl
theorem k_190_19 : OkOp mt Ev 190 19 (o_if1 (fun x => decide (x < 0)) 31) := ok_if_lt (off := 12) (by decide +kernel) (by decide +kernel)
theorem k_190_22 : OkOp mt Ev 190 22 (o_iload 3 1) := ok_iload_n (k := 3) (by decide +kernel) rfl
theorem k_190_23 : OkOp mt Ev 190 23 (o_push (.int (60)) 2) := ok_bipush (n := 60) (by decide +kernel) (by decide +kernel)
theorem k_190_25 : OkOp mt Ev 190 25 (o_if2 (fun x y => decide (x ≤ y)) 31) := ok_icmp_le (off := 6) (by decide +kernel) (by decide +kernel)
theorem k_190_28 : OkOp mt Ev 190 28 (o_push (.int (-2)) 2) := ok_bipush (n := -2) (by decide +kernel) (by decide +kernel)
theorem k_190_30 : OkOp mt Ev 190 30 (o_ret 0) := ok_reti (ty := .int) (by decide +kernel) rfl (Or.inl ⟨rfl, rfl⟩)
theorem k_190_31 : OkOp mt Ev 190 31 (o_iload 2 1) := ok_iload_n (k := 2) (by decide +kernel) rfl
theorem k_190_32 : OkOp mt Ev 190 32 (o_if1 (fun x => decide (x < 0)) 42) := ok_if_lt (off := 10) (by decide +kernel) (by decide +kernel)
theorem k_190_35 : OkOp mt Ev 190 35 (o_iload 3 1) := ok_iload_n (k := 3) (by decide +kernel) rfl
theorem k_190_36 : OkOp mt Ev 190 36 (o_if1 (fun x => decide (0 ≤ x)) 42) := ok_if_ge (off := 6) (by decide +kernel) (by decide +kernel)
theorem k_190_39 : OkOp mt Ev 190 39 (o_push (.int (-14)) 2) := ok_bipush (n := -14) (by decide +kernel) (by decide +kernel)
theorem k_190_41 : OkOp mt Ev 190 41 (o_ret 0) := ok_reti (ty := .int) (by decide +kernel) rfl (Or.inl ⟨rfl, rfl⟩)
theorem k_190_42 : OkOp mt Ev 190 42 (o_aload 0 1) := ok_aload_n (k := 0) (by decide +kernel) rfl
theorem k_190_43 : OkOp mt Ev 190 43 (o_getf 25 [12]) := ok_getf (i := 62) (rf := "BridgeSentencesModel") (nm := "sorts") (ds := "[I") (by decide +kernel) fc_62 wd_1010
theorem k_190_46 : OkOp mt Ev 190 46 (o_iload 1 1) := ok_iload_n (k := 1) (by decide +kernel) rfl
theorem k_190_47 : OkOp mt Ev 190 47 (o_iload 2 1) := ok_iload_n (k := 2) (by decide +kernel) rfl
theorem k_190_48 : OkOp mt Ev 190 48 (o_iast 2 (fun x => x)) := ok_iast (by decide +kernel)
theorem k_190_49 : OkOp mt Ev 190 49 (o_aload 0 1) := ok_aload_n (k := 0) (by decide +kernel) rfl
theorem k_190_50 : OkOp mt Ev 190 50 (o_getf 26 [12]) := ok_getf (i := 65) (rf := "BridgeSentencesModel") (nm := "lengths") (ds := "[I") (by decide +kernel) fc_63 wd_1011
theorem k_190_53 : OkOp mt Ev 190 53 (o_iload 1 1) := ok_iload_n (k := 1) (by decide +kernel) rfl
theorem k_190_54 : OkOp mt Ev 190 54 (o_iload 2 1) := ok_iload_n (k := 2) (by decide +kernel) rfl
theorem k_190_55 : OkOp mt Ev 190 55 (o_if1 (fun x => decide (0 ≤ x)) 62) := ok_if_ge (off := 7) (by decide +kernel) (by decide +kernel)
theorem k_190_58 : OkOp mt Ev 190 58 (o_push (.int (0)) 1) := ok_iconst (n := 0) (by decide +kernel) (by decide +kernel)
theorem k_190_59 : OkOp mt Ev 190 59 (o_goto 63) := ok_goto (off := 4) (by decide +kernel) (by decide +kernel)
theorem k_190_62 : OkOp mt Ev 190 62 (o_iload 3 1) := ok_iload_n (k := 3) (by decide +kernel) rfl
theorem k_190_63 : OkOp mt Ev 190 63 (o_iast 2 (fun x => x)) := ok_iast (by decide +kernel)
theorem k_190_64 : OkOp mt Ev 190 64 (o_push (.int (0)) 1) := ok_iconst (n := 0) (by decide +kernel) (by decide +kernel)
theorem k_190_65 : OkOp mt Ev 190 65 (o_istore 4 2) := ok_istore (by decide +kernel)
theorem k_190_67 : OkOp mt Ev 190 67 (o_iload 4 2) := ok_iload (by decide +kernel)
theorem k_190_69 : OkOp mt Ev 190 69 (o_push (.int (60)) 2) := ok_bipush (n := 60) (by decide +kernel) (by decide +kernel)
theorem k_190_71 : OkOp mt Ev 190 71 (o_if2 (fun x y => decide (y ≤ x)) 93) := ok_icmp_ge (off := 22) (by decide +kernel) (by decide +kernel)
theorem k_190_74 : OkOp mt Ev 190 74 (o_aload 0 1) := ok_aload_n (k := 0) (by decide +kernel) rfl
theorem k_190_75 : OkOp mt Ev 190 75 (o_getf 27 [12]) := ok_getf (i := 68) (rf := "BridgeSentencesModel") (nm := "items") (ds := "[J") (by decide +kernel) fc_64 wd_1012
theorem k_190_78 : OkOp mt Ev 190 78 (o_push (.int (60)) 2) := ok_bipush (n := 60) (by decide +kernel) (by decide +kernel)
theorem k_190_80 : OkOp mt Ev 190 80 (o_iload 1 1) := ok_iload_n (k := 1) (by decide +kernel) rfl
theorem k_190_81 : OkOp mt Ev 190 81 (o_ib (fun x y => x * y)) := ok_imul (by decide +kernel)
theorem k_190_82 : OkOp mt Ev 190 82 (o_iload 4 2) := ok_iload (by decide +kernel)
theorem k_190_84 : OkOp mt Ev 190 84 (o_ib (fun x y => x + y)) := ok_iadd (by decide +kernel)
theorem k_190_85 : OkOp mt Ev 190 85 (o_push (.long (0)) 1) := ok_lconst (n := 0) (by decide +kernel) (by decide +kernel)
theorem k_190_86 : OkOp mt Ev 190 86 (o_last) := ok_last (by decide +kernel)
theorem k_190_87 : OkOp mt Ev 190 87 (o_iinc 4 (1)) := ok_iinc (n := 1) (by decide +kernel) (by decide +kernel)
theorem k_190_90 : OkOp mt Ev 190 90 (o_goto 67) := ok_goto (off := -23) (by decide +kernel) (by decide +kernel)
theorem k_190_93 : OkOp mt Ev 190 93 (o_push (.int (1)) 1) := ok_iconst (n := 1) (by decide +kernel) (by decide +kernel)
theorem k_190_94 : OkOp mt Ev 190 94 (o_ret 0) := ok_reti (ty := .int) (by decide +kernel) rfl (Or.inl ⟨rfl, rfl⟩)
theorem kt_190 : ∀ pc o, cd_X12_tape Ev pc = some o → OkOp mt Ev 190 pc o ∧ Gw o := (tN_ok (tN_ok (tN_ok (tN_ok (tN_ok (tL_ok ⟨k_190_0, gw_iload⟩) (tN_ok (tL_ok ⟨k_190_1, gw_cs⟩) (tL_ok ⟨k_190_4, gw_if1⟩))) (tN_ok (tL_ok ⟨k_190_7, gw_push⟩) (tN_ok (tL_ok ⟨k_190_8, gw_ret⟩) (tL_ok ⟨k_190_9, gw_iload⟩)))) (tN_ok (tN_ok (tL_ok ⟨k_190_10, gw_push⟩) (tN_ok (tL_ok ⟨k_190_11, gw_push⟩) (tL_ok ⟨k_190_12, gw_cs⟩))) (tN_ok (tN_ok (tL_ok ⟨k_190_15, gw_if1⟩) (tL_ok ⟨k_190_18, gw_iload⟩)) (tN_ok (tL_ok ⟨k_190_19, gw_if1⟩) (tL_ok ⟨k_190_22, gw_iload⟩))))) (tN_ok (tN_ok (tN_ok (tL_ok ⟨k_190_23, gw_push⟩) (tN_ok (tL_ok ⟨k_190_25, gw_if2⟩) (tL_ok ⟨k_190_28, gw_push⟩))) (tN_ok (tN_ok (tL_ok ⟨k_190_30, gw_ret⟩) (tL_ok ⟨k_190_31, gw_iload⟩)) (tN_ok (tL_ok ⟨k_190_32, gw_if1⟩) (tL_ok ⟨k_190_35, gw_iload⟩)))) (tN_ok (tN_ok (tL_ok ⟨k_190_36, gw_if1⟩) (tN_ok (tL_ok ⟨k_190_39, gw_push⟩) (tL_ok ⟨k_190_41, gw_ret⟩))) (tN_ok (tN_ok (tL_ok ⟨k_190_42, gw_aload⟩) (tL_ok ⟨k_190_43, gw_getf⟩)) (tN_ok (tL_ok ⟨k_190_46, gw_iload⟩) (tL_ok ⟨k_190_47, gw_iload⟩)))))) (tN_ok (tN_ok (tN_ok (tN_ok (tL_ok ⟨k_190_48, gw_iast⟩) (tN_ok (tL_ok ⟨k_190_49, gw_aload⟩) (tL_ok ⟨k_190_50, gw_getf⟩))) (tN_ok (tN_ok (tL_ok ⟨k_190_53, gw_iload⟩) (tL_ok ⟨k_190_54, gw_iload⟩)) (tN_ok (tL_ok ⟨k_190_55, gw_if1⟩) (tL_ok ⟨k_190_58, gw_push⟩)))) (tN_ok (tN_ok (tL_ok ⟨k_190_59, gw_goto⟩) (tN_ok (tL_ok ⟨k_190_62, gw_iload⟩) (tL_ok ⟨k_190_63, gw_iast⟩))) (tN_ok (tN_ok (tL_ok ⟨k_190_64, gw_push⟩) (tL_ok ⟨k_190_65, gw_istore⟩)) (tN_ok (tL_ok ⟨k_190_67, gw_iload⟩) (tL_ok ⟨k_190_69, gw_push⟩))))) (tN_ok (tN_ok (tN_ok (tL_ok ⟨k_190_71, gw_if2⟩) (tN_ok (tL_ok ⟨k_190_74, gw_aload⟩) (tL_ok ⟨k_190_75, gw_getf⟩))) (tN_ok (tN_ok (tL_ok ⟨k_190_78, gw_push⟩) (tL_ok ⟨k_190_80, gw_iload⟩)) (tN_ok (tL_ok ⟨k_190_81, gw_ib⟩) (tL_ok ⟨k_190_82, gw_iload⟩)))) (tN_ok (tN_ok (tL_ok ⟨k_190_84, gw_ib⟩) (tN_ok (tL_ok ⟨k_190_85, gw_push⟩) (tL_ok ⟨k_190_86, gw_last⟩))) (tN_ok (tN_ok (tL_ok ⟨k_190_87, gw_iinc⟩) (tL_ok ⟨k_190_90, gw_goto⟩)) (tN_ok (tL_ok ⟨k_190_93, gw_push⟩) (tL_ok ⟨k_190_94, gw_ret⟩)))))))
theorem k_191_0 : OkOp mt Ev 191 0 (o_iload 1 1) := ok_iload_n (k := 1) (by decide +kernel) rfl
theorem k_191_1 : OkOp mt Ev 191 1 (o_cs 189 1) := ok_cs (i := 249) (by decide +kernel) wd_1337 wd_1338 wd_62 wd_1339 nk_39
theorem k_191_4 : OkOp mt Ev 191 4 (o_if1 (fun x => decide (¬ x = 0)) 9) := ok_if_ne (off := 5) (by decide +kernel) (by decide +kernel)
theorem k_191_7 : OkOp mt Ev 191 7 (o_push (.int (-1)) 1) := ok_iconst (n := -1) (by decide +kernel) (by decide +kernel)
theorem k_191_8 : OkOp mt Ev 191 8 (o_ret 0) := ok_reti (ty := .int) (by decide +kernel) rfl (Or.inl ⟨rfl, rfl⟩)
theorem k_191_9 : OkOp mt Ev 191 9 (o_aload 0 1) := ok_aload_n (k := 0) (by decide +kernel) rfl
theorem k_191_10 : OkOp mt Ev 191 10 (o_getf 25 [12]) := ok_getf (i := 62) (rf := "BridgeSentencesModel") (nm := "sorts") (ds := "[I") (by decide +kernel) fc_62 wd_1010
theorem k_191_13 : OkOp mt Ev 191 13 (o_iload 1 1) := ok_iload_n (k := 1) (by decide +kernel) rfl
theorem k_191_14 : OkOp mt Ev 191 14 (o_iald 2) := ok_iald (by decide +kernel)
theorem k_191_15 : OkOp mt Ev 191 15 (o_if1 (fun x => decide (0 ≤ x)) 21) := ok_if_ge (off := 6) (by decide +kernel) (by decide +kernel)
theorem k_191_18 : OkOp mt Ev 191 18 (o_push (.int (-11)) 2) := ok_bipush (n := -11) (by decide +kernel) (by decide +kernel)
theorem k_191_20 : OkOp mt Ev 191 20 (o_ret 0) := ok_reti (ty := .int) (by decide +kernel) rfl (Or.inl ⟨rfl, rfl⟩)
theorem k_191_21 : OkOp mt Ev 191 21 (o_iload 2 1) := ok_iload_n (k := 2) (by decide +kernel) rfl
theorem k_191_22 : OkOp mt Ev 191 22 (o_push (.int (0)) 1) := ok_iconst (n := 0) (by decide +kernel) (by decide +kernel)
theorem k_191_23 : OkOp mt Ev 191 23 (o_aload 0 1) := ok_aload_n (k := 0) (by decide +kernel) rfl
theorem k_191_24 : OkOp mt Ev 191 24 (o_getf 26 [12]) := ok_getf (i := 65) (rf := "BridgeSentencesModel") (nm := "lengths") (ds := "[I") (by decide +kernel) fc_63 wd_1011
theorem k_191_27 : OkOp mt Ev 191 27 (o_iload 1 1) := ok_iload_n (k := 1) (by decide +kernel) rfl
theorem k_191_28 : OkOp mt Ev 191 28 (o_iald 2) := ok_iald (by decide +kernel)
theorem k_191_29 : OkOp mt Ev 191 29 (o_push (.int (1)) 1) := ok_iconst (n := 1) (by decide +kernel) (by decide +kernel)
theorem k_191_30 : OkOp mt Ev 191 30 (o_ib (fun x y => x - y)) := ok_isub (by decide +kernel)
theorem k_191_31 : OkOp mt Ev 191 31 (o_cs 123 3) := ok_cs (i := 83) (by decide +kernel) wd_1089 wd_1090 wd_62 wd_1091 nk_34
theorem k_191_34 : OkOp mt Ev 191 34 (o_if1 (fun x => decide (¬ x = 0)) 40) := ok_if_ne (off := 6) (by decide +kernel) (by decide +kernel)
theorem k_191_37 : OkOp mt Ev 191 37 (o_push (.int (-13)) 2) := ok_bipush (n := -13) (by decide +kernel) (by decide +kernel)
theorem k_191_39 : OkOp mt Ev 191 39 (o_ret 0) := ok_reti (ty := .int) (by decide +kernel) rfl (Or.inl ⟨rfl, rfl⟩)
theorem k_191_40 : OkOp mt Ev 191 40 (o_aload 0 1) := ok_aload_n (k := 0) (by decide +kernel) rfl
theorem k_191_41 : OkOp mt Ev 191 41 (o_getf 25 [12]) := ok_getf (i := 62) (rf := "BridgeSentencesModel") (nm := "sorts") (ds := "[I") (by decide +kernel) fc_62 wd_1010
theorem k_191_44 : OkOp mt Ev 191 44 (o_iload 1 1) := ok_iload_n (k := 1) (by decide +kernel) rfl
theorem k_191_45 : OkOp mt Ev 191 45 (o_iald 2) := ok_iald (by decide +kernel)
theorem k_191_46 : OkOp mt Ev 191 46 (o_istore 5 2) := ok_istore (by decide +kernel)
theorem k_191_48 : OkOp mt Ev 191 48 (o_aload 0 1) := ok_aload_n (k := 0) (by decide +kernel) rfl
theorem k_191_49 : OkOp mt Ev 191 49 (o_getf 27 [12]) := ok_getf (i := 68) (rf := "BridgeSentencesModel") (nm := "items") (ds := "[J") (by decide +kernel) fc_64 wd_1012
theorem k_191_52 : OkOp mt Ev 191 52 (o_push (.int (60)) 2) := ok_bipush (n := 60) (by decide +kernel) (by decide +kernel)
theorem k_191_54 : OkOp mt Ev 191 54 (o_iload 1 1) := ok_iload_n (k := 1) (by decide +kernel) rfl
theorem k_191_55 : OkOp mt Ev 191 55 (o_ib (fun x y => x * y)) := ok_imul (by decide +kernel)
theorem k_191_56 : OkOp mt Ev 191 56 (o_iload 2 1) := ok_iload_n (k := 2) (by decide +kernel) rfl
theorem k_191_57 : OkOp mt Ev 191 57 (o_ib (fun x y => x + y)) := ok_iadd (by decide +kernel)
theorem k_191_58 : OkOp mt Ev 191 58 (o_iload 5 2) := ok_iload (by decide +kernel)
theorem k_191_60 : OkOp mt Ev 191 60 (o_if1 (fun x => decide (¬ x = 0)) 70) := ok_if_ne (off := 10) (by decide +kernel) (by decide +kernel)
theorem k_191_63 : OkOp mt Ev 191 63 (o_lload 3 1) := ok_lload_n (k := 3) (by decide +kernel) rfl
theorem k_191_64 : OkOp mt Ev 191 64 (o_l2i) := ok_l2i (by decide +kernel)
theorem k_191_65 : OkOp mt Ev 191 65 (o_iu (fun x => x.toInt8.toInt32)) := ok_i2b (by decide +kernel)
theorem k_191_66 : OkOp mt Ev 191 66 (o_i2l) := ok_i2l (by decide +kernel)
theorem k_191_67 : OkOp mt Ev 191 67 (o_goto 116) := ok_goto (off := 49) (by decide +kernel) (by decide +kernel)
theorem k_191_70 : OkOp mt Ev 191 70 (o_iload 5 2) := ok_iload (by decide +kernel)
theorem k_191_72 : OkOp mt Ev 191 72 (o_push (.int (1)) 1) := ok_iconst (n := 1) (by decide +kernel) (by decide +kernel)
theorem k_191_73 : OkOp mt Ev 191 73 (o_if2 (fun x y => decide (¬ x = y)) 83) := ok_icmp_ne (off := 10) (by decide +kernel) (by decide +kernel)
theorem k_191_76 : OkOp mt Ev 191 76 (o_lload 3 1) := ok_lload_n (k := 3) (by decide +kernel) rfl
theorem k_191_77 : OkOp mt Ev 191 77 (o_l2i) := ok_l2i (by decide +kernel)
theorem k_191_78 : OkOp mt Ev 191 78 (o_iu (fun x => x.toInt16.toInt32)) := ok_i2s (by decide +kernel)
theorem k_191_79 : OkOp mt Ev 191 79 (o_i2l) := ok_i2l (by decide +kernel)
theorem k_191_80 : OkOp mt Ev 191 80 (o_goto 116) := ok_goto (off := 36) (by decide +kernel) (by decide +kernel)
theorem k_191_83 : OkOp mt Ev 191 83 (o_iload 5 2) := ok_iload (by decide +kernel)
theorem k_191_85 : OkOp mt Ev 191 85 (o_push (.int (2)) 1) := ok_iconst (n := 2) (by decide +kernel) (by decide +kernel)
theorem k_191_86 : OkOp mt Ev 191 86 (o_if2 (fun x y => decide (¬ x = y)) 95) := ok_icmp_ne (off := 9) (by decide +kernel) (by decide +kernel)
theorem k_191_89 : OkOp mt Ev 191 89 (o_lload 3 1) := ok_lload_n (k := 3) (by decide +kernel) rfl
theorem k_191_90 : OkOp mt Ev 191 90 (o_l2i) := ok_l2i (by decide +kernel)
theorem k_191_91 : OkOp mt Ev 191 91 (o_i2l) := ok_i2l (by decide +kernel)
theorem k_191_92 : OkOp mt Ev 191 92 (o_goto 116) := ok_goto (off := 24) (by decide +kernel) (by decide +kernel)
theorem k_191_95 : OkOp mt Ev 191 95 (o_iload 5 2) := ok_iload (by decide +kernel)
theorem k_191_97 : OkOp mt Ev 191 97 (o_push (.int (3)) 1) := ok_iconst (n := 3) (by decide +kernel) (by decide +kernel)
theorem k_191_98 : OkOp mt Ev 191 98 (o_if2 (fun x y => decide (¬ x = y)) 105) := ok_icmp_ne (off := 7) (by decide +kernel) (by decide +kernel)
theorem k_191_101 : OkOp mt Ev 191 101 (o_lload 3 1) := ok_lload_n (k := 3) (by decide +kernel) rfl
theorem k_191_102 : OkOp mt Ev 191 102 (o_goto 116) := ok_goto (off := 14) (by decide +kernel) (by decide +kernel)
theorem k_191_105 : OkOp mt Ev 191 105 (o_lload 3 1) := ok_lload_n (k := 3) (by decide +kernel) rfl
theorem k_191_106 : OkOp mt Ev 191 106 (o_push (.long (0)) 1) := ok_lconst (n := 0) (by decide +kernel) (by decide +kernel)
theorem k_191_107 : OkOp mt Ev 191 107 (o_lcmp) := ok_lcmp (by decide +kernel)
theorem k_191_108 : OkOp mt Ev 191 108 (o_if1 (fun x => decide (x = 0)) 115) := ok_if_eq (off := 7) (by decide +kernel) (by decide +kernel)
theorem k_191_111 : OkOp mt Ev 191 111 (o_push (.long (1)) 1) := ok_lconst (n := 1) (by decide +kernel) (by decide +kernel)
theorem k_191_112 : OkOp mt Ev 191 112 (o_goto 116) := ok_goto (off := 4) (by decide +kernel) (by decide +kernel)
theorem k_191_115 : OkOp mt Ev 191 115 (o_push (.long (0)) 1) := ok_lconst (n := 0) (by decide +kernel) (by decide +kernel)
theorem k_191_116 : OkOp mt Ev 191 116 (o_last) := ok_last (by decide +kernel)
theorem k_191_117 : OkOp mt Ev 191 117 (o_push (.int (1)) 1) := ok_iconst (n := 1) (by decide +kernel) (by decide +kernel)
theorem k_191_118 : OkOp mt Ev 191 118 (o_ret 0) := ok_reti (ty := .int) (by decide +kernel) rfl (Or.inl ⟨rfl, rfl⟩)
theorem kt_191 : ∀ pc o, cd_X12_item Ev pc = some o → OkOp mt Ev 191 pc o ∧ Gw o := (tN_ok (tN_ok (tN_ok (tN_ok (tN_ok (tN_ok (tL_ok ⟨k_191_0, gw_iload⟩) (tL_ok ⟨k_191_1, gw_cs⟩)) (tN_ok (tL_ok ⟨k_191_4, gw_if1⟩) (tL_ok ⟨k_191_7, gw_push⟩))) (tN_ok (tN_ok (tL_ok ⟨k_191_8, gw_ret⟩) (tL_ok ⟨k_191_9, gw_aload⟩)) (tN_ok (tL_ok ⟨k_191_10, gw_getf⟩) (tN_ok (tL_ok ⟨k_191_13, gw_iload⟩) (tL_ok ⟨k_191_14, gw_iald⟩))))) (tN_ok (tN_ok (tN_ok (tL_ok ⟨k_191_15, gw_if1⟩) (tL_ok ⟨k_191_18, gw_push⟩)) (tN_ok (tL_ok ⟨k_191_20, gw_ret⟩) (tL_ok ⟨k_191_21, gw_iload⟩))) (tN_ok (tN_ok (tL_ok ⟨k_191_22, gw_push⟩) (tL_ok ⟨k_191_23, gw_aload⟩)) (tN_ok (tL_ok ⟨k_191_24, gw_getf⟩) (tN_ok (tL_ok ⟨k_191_27, gw_iload⟩) (tL_ok ⟨k_191_28, gw_iald⟩)))))) (tN_ok (tN_ok (tN_ok (tN_ok (tL_ok ⟨k_191_29, gw_push⟩) (tL_ok ⟨k_191_30, gw_ib⟩)) (tN_ok (tL_ok ⟨k_191_31, gw_cs⟩) (tL_ok ⟨k_191_34, gw_if1⟩))) (tN_ok (tN_ok (tL_ok ⟨k_191_37, gw_push⟩) (tL_ok ⟨k_191_39, gw_ret⟩)) (tN_ok (tL_ok ⟨k_191_40, gw_aload⟩) (tN_ok (tL_ok ⟨k_191_41, gw_getf⟩) (tL_ok ⟨k_191_44, gw_iload⟩))))) (tN_ok (tN_ok (tN_ok (tL_ok ⟨k_191_45, gw_iald⟩) (tL_ok ⟨k_191_46, gw_istore⟩)) (tN_ok (tL_ok ⟨k_191_48, gw_aload⟩) (tL_ok ⟨k_191_49, gw_getf⟩))) (tN_ok (tN_ok (tL_ok ⟨k_191_52, gw_push⟩) (tL_ok ⟨k_191_54, gw_iload⟩)) (tN_ok (tL_ok ⟨k_191_55, gw_ib⟩) (tN_ok (tL_ok ⟨k_191_56, gw_iload⟩) (tL_ok ⟨k_191_57, gw_ib⟩))))))) (tN_ok (tN_ok (tN_ok (tN_ok (tN_ok (tL_ok ⟨k_191_58, gw_iload⟩) (tL_ok ⟨k_191_60, gw_if1⟩)) (tN_ok (tL_ok ⟨k_191_63, gw_lload⟩) (tL_ok ⟨k_191_64, gw_l2i⟩))) (tN_ok (tN_ok (tL_ok ⟨k_191_65, gw_iu⟩) (tL_ok ⟨k_191_66, gw_i2l⟩)) (tN_ok (tL_ok ⟨k_191_67, gw_goto⟩) (tN_ok (tL_ok ⟨k_191_70, gw_iload⟩) (tL_ok ⟨k_191_72, gw_push⟩))))) (tN_ok (tN_ok (tN_ok (tL_ok ⟨k_191_73, gw_if2⟩) (tL_ok ⟨k_191_76, gw_lload⟩)) (tN_ok (tL_ok ⟨k_191_77, gw_l2i⟩) (tL_ok ⟨k_191_78, gw_iu⟩))) (tN_ok (tN_ok (tL_ok ⟨k_191_79, gw_i2l⟩) (tL_ok ⟨k_191_80, gw_goto⟩)) (tN_ok (tL_ok ⟨k_191_83, gw_iload⟩) (tN_ok (tL_ok ⟨k_191_85, gw_push⟩) (tL_ok ⟨k_191_86, gw_if2⟩)))))) (tN_ok (tN_ok (tN_ok (tN_ok (tL_ok ⟨k_191_89, gw_lload⟩) (tL_ok ⟨k_191_90, gw_l2i⟩)) (tN_ok (tL_ok ⟨k_191_91, gw_i2l⟩) (tL_ok ⟨k_191_92, gw_goto⟩))) (tN_ok (tN_ok (tL_ok ⟨k_191_95, gw_iload⟩) (tL_ok ⟨k_191_97, gw_push⟩)) (tN_ok (tL_ok ⟨k_191_98, gw_if2⟩) (tN_ok (tL_ok ⟨k_191_101, gw_lload⟩) (tL_ok ⟨k_191_102, gw_goto⟩))))) (tN_ok (tN_ok (tN_ok (tL_ok ⟨k_191_105, gw_lload⟩) (tL_ok ⟨k_191_106, gw_push⟩)) (tN_ok (tL_ok ⟨k_191_107, gw_lcmp⟩) (tN_ok (tL_ok ⟨k_191_108, gw_if1⟩) (tL_ok ⟨k_191_111, gw_push⟩)))) (tN_ok (tN_ok (tL_ok ⟨k_191_112, gw_goto⟩) (tL_ok ⟨k_191_115, gw_push⟩)) (tN_ok (tL_ok ⟨k_191_116, gw_last⟩) (tN_ok (tL_ok ⟨k_191_117, gw_push⟩) (tL_ok ⟨k_191_118, gw_ret⟩))))))))
theorem k_192_0 : OkOp mt Ev 192 0 (o_iload 1 1) := ok_iload_n (k := 1) (by decide +kernel) rfl
theorem k_192_1 : OkOp mt Ev 192 1 (o_cs 189 1) := ok_cs (i := 249) (by decide +kernel) wd_1337 wd_1338 wd_62 wd_1339 nk_39
theorem k_192_4 : OkOp mt Ev 192 4 (o_if1 (fun x => decide (x = 0)) 37) := ok_if_eq (off := 33) (by decide +kernel) (by decide +kernel)
theorem k_192_7 : OkOp mt Ev 192 7 (o_iload 2 1) := ok_iload_n (k := 2) (by decide +kernel) rfl
theorem k_192_8 : OkOp mt Ev 192 8 (o_push (.int (0)) 1) := ok_iconst (n := 0) (by decide +kernel) (by decide +kernel)
theorem k_192_9 : OkOp mt Ev 192 9 (o_aload 0 1) := ok_aload_n (k := 0) (by decide +kernel) rfl
theorem k_192_10 : OkOp mt Ev 192 10 (o_getf 26 [12]) := ok_getf (i := 65) (rf := "BridgeSentencesModel") (nm := "lengths") (ds := "[I") (by decide +kernel) fc_63 wd_1011
theorem k_192_13 : OkOp mt Ev 192 13 (o_iload 1 1) := ok_iload_n (k := 1) (by decide +kernel) rfl
theorem k_192_14 : OkOp mt Ev 192 14 (o_iald 2) := ok_iald (by decide +kernel)
theorem k_192_15 : OkOp mt Ev 192 15 (o_push (.int (1)) 1) := ok_iconst (n := 1) (by decide +kernel) (by decide +kernel)
theorem k_192_16 : OkOp mt Ev 192 16 (o_ib (fun x y => x - y)) := ok_isub (by decide +kernel)
theorem k_192_17 : OkOp mt Ev 192 17 (o_cs 123 3) := ok_cs (i := 83) (by decide +kernel) wd_1089 wd_1090 wd_62 wd_1091 nk_34
theorem k_192_20 : OkOp mt Ev 192 20 (o_if1 (fun x => decide (x = 0)) 37) := ok_if_eq (off := 17) (by decide +kernel) (by decide +kernel)
theorem k_192_23 : OkOp mt Ev 192 23 (o_aload 0 1) := ok_aload_n (k := 0) (by decide +kernel) rfl
theorem k_192_24 : OkOp mt Ev 192 24 (o_getf 27 [12]) := ok_getf (i := 68) (rf := "BridgeSentencesModel") (nm := "items") (ds := "[J") (by decide +kernel) fc_64 wd_1012
theorem k_192_27 : OkOp mt Ev 192 27 (o_push (.int (60)) 2) := ok_bipush (n := 60) (by decide +kernel) (by decide +kernel)
theorem k_192_29 : OkOp mt Ev 192 29 (o_iload 1 1) := ok_iload_n (k := 1) (by decide +kernel) rfl
theorem k_192_30 : OkOp mt Ev 192 30 (o_ib (fun x y => x * y)) := ok_imul (by decide +kernel)
theorem k_192_31 : OkOp mt Ev 192 31 (o_iload 2 1) := ok_iload_n (k := 2) (by decide +kernel) rfl
theorem k_192_32 : OkOp mt Ev 192 32 (o_ib (fun x y => x + y)) := ok_iadd (by decide +kernel)
theorem k_192_33 : OkOp mt Ev 192 33 (o_lald) := ok_lald (by decide +kernel)
theorem k_192_34 : OkOp mt Ev 192 34 (o_goto 40) := ok_goto (off := 6) (by decide +kernel) (by decide +kernel)
theorem k_192_37 : OkOp mt Ev 192 37 (o_push (.long (-9223372036854775808)) 3) := ok_ldc2 (i := 226) (by decide +kernel) wd_1279
theorem k_192_40 : OkOp mt Ev 192 40 (o_ret 2) := ok_retl (by decide +kernel) rfl
theorem kt_192 : ∀ pc o, cd_X12_read Ev pc = some o → OkOp mt Ev 192 pc o ∧ Gw o := (tN_ok (tN_ok (tN_ok (tN_ok (tL_ok ⟨k_192_0, gw_iload⟩) (tN_ok (tL_ok ⟨k_192_1, gw_cs⟩) (tL_ok ⟨k_192_4, gw_if1⟩))) (tN_ok (tL_ok ⟨k_192_7, gw_iload⟩) (tN_ok (tL_ok ⟨k_192_8, gw_push⟩) (tL_ok ⟨k_192_9, gw_aload⟩)))) (tN_ok (tN_ok (tL_ok ⟨k_192_10, gw_getf⟩) (tN_ok (tL_ok ⟨k_192_13, gw_iload⟩) (tL_ok ⟨k_192_14, gw_iald⟩))) (tN_ok (tL_ok ⟨k_192_15, gw_push⟩) (tN_ok (tL_ok ⟨k_192_16, gw_ib⟩) (tL_ok ⟨k_192_17, gw_cs⟩))))) (tN_ok (tN_ok (tN_ok (tL_ok ⟨k_192_20, gw_if1⟩) (tN_ok (tL_ok ⟨k_192_23, gw_aload⟩) (tL_ok ⟨k_192_24, gw_getf⟩))) (tN_ok (tL_ok ⟨k_192_27, gw_push⟩) (tN_ok (tL_ok ⟨k_192_29, gw_iload⟩) (tL_ok ⟨k_192_30, gw_ib⟩)))) (tN_ok (tN_ok (tL_ok ⟨k_192_31, gw_iload⟩) (tN_ok (tL_ok ⟨k_192_32, gw_ib⟩) (tL_ok ⟨k_192_33, gw_lald⟩))) (tN_ok (tL_ok ⟨k_192_34, gw_goto⟩) (tN_ok (tL_ok ⟨k_192_37, gw_push⟩) (tL_ok ⟨k_192_40, gw_ret⟩))))))
theorem k_193_0 : OkOp mt Ev 193 0 (o_iload 1 1) := ok_iload_n (k := 1) (by decide +kernel) rfl
theorem k_193_1 : OkOp mt Ev 193 1 (o_cs 189 1) := ok_cs (i := 249) (by decide +kernel) wd_1337 wd_1338 wd_62 wd_1339 nk_39
theorem k_193_4 : OkOp mt Ev 193 4 (o_if1 (fun x => decide (x = 0)) 14) := ok_if_eq (off := 10) (by decide +kernel) (by decide +kernel)
theorem k_193_7 : OkOp mt Ev 193 7 (o_iload 3 1) := ok_iload_n (k := 3) (by decide +kernel) rfl
theorem k_193_8 : OkOp mt Ev 193 8 (o_cs 189 1) := ok_cs (i := 249) (by decide +kernel) wd_1337 wd_1338 wd_62 wd_1339 nk_39
theorem k_193_11 : OkOp mt Ev 193 11 (o_if1 (fun x => decide (¬ x = 0)) 16) := ok_if_ne (off := 5) (by decide +kernel) (by decide +kernel)
theorem k_193_14 : OkOp mt Ev 193 14 (o_push (.int (-1)) 1) := ok_iconst (n := -1) (by decide +kernel) (by decide +kernel)
theorem k_193_15 : OkOp mt Ev 193 15 (o_ret 0) := ok_reti (ty := .int) (by decide +kernel) rfl (Or.inl ⟨rfl, rfl⟩)
theorem k_193_16 : OkOp mt Ev 193 16 (o_aload 0 1) := ok_aload_n (k := 0) (by decide +kernel) rfl
theorem k_193_17 : OkOp mt Ev 193 17 (o_getf 25 [12]) := ok_getf (i := 62) (rf := "BridgeSentencesModel") (nm := "sorts") (ds := "[I") (by decide +kernel) fc_62 wd_1010
theorem k_193_20 : OkOp mt Ev 193 20 (o_iload 1 1) := ok_iload_n (k := 1) (by decide +kernel) rfl
theorem k_193_21 : OkOp mt Ev 193 21 (o_iald 2) := ok_iald (by decide +kernel)
theorem k_193_22 : OkOp mt Ev 193 22 (o_if1 (fun x => decide (x < 0)) 34) := ok_if_lt (off := 12) (by decide +kernel) (by decide +kernel)
theorem k_193_25 : OkOp mt Ev 193 25 (o_aload 0 1) := ok_aload_n (k := 0) (by decide +kernel) rfl
theorem k_193_26 : OkOp mt Ev 193 26 (o_getf 25 [12]) := ok_getf (i := 62) (rf := "BridgeSentencesModel") (nm := "sorts") (ds := "[I") (by decide +kernel) fc_62 wd_1010
theorem k_193_29 : OkOp mt Ev 193 29 (o_iload 3 1) := ok_iload_n (k := 3) (by decide +kernel) rfl
theorem k_193_30 : OkOp mt Ev 193 30 (o_iald 2) := ok_iald (by decide +kernel)
theorem k_193_31 : OkOp mt Ev 193 31 (o_if1 (fun x => decide (0 ≤ x)) 37) := ok_if_ge (off := 6) (by decide +kernel) (by decide +kernel)
theorem k_193_34 : OkOp mt Ev 193 34 (o_push (.int (-11)) 2) := ok_bipush (n := -11) (by decide +kernel) (by decide +kernel)
theorem k_193_36 : OkOp mt Ev 193 36 (o_ret 0) := ok_reti (ty := .int) (by decide +kernel) rfl (Or.inl ⟨rfl, rfl⟩)
theorem k_193_37 : OkOp mt Ev 193 37 (o_aload 0 1) := ok_aload_n (k := 0) (by decide +kernel) rfl
theorem k_193_38 : OkOp mt Ev 193 38 (o_getf 25 [12]) := ok_getf (i := 62) (rf := "BridgeSentencesModel") (nm := "sorts") (ds := "[I") (by decide +kernel) fc_62 wd_1010
theorem k_193_41 : OkOp mt Ev 193 41 (o_iload 1 1) := ok_iload_n (k := 1) (by decide +kernel) rfl
theorem k_193_42 : OkOp mt Ev 193 42 (o_iald 2) := ok_iald (by decide +kernel)
theorem k_193_43 : OkOp mt Ev 193 43 (o_aload 0 1) := ok_aload_n (k := 0) (by decide +kernel) rfl
theorem k_193_44 : OkOp mt Ev 193 44 (o_getf 25 [12]) := ok_getf (i := 62) (rf := "BridgeSentencesModel") (nm := "sorts") (ds := "[I") (by decide +kernel) fc_62 wd_1010
theorem k_193_47 : OkOp mt Ev 193 47 (o_iload 3 1) := ok_iload_n (k := 3) (by decide +kernel) rfl
theorem k_193_48 : OkOp mt Ev 193 48 (o_iald 2) := ok_iald (by decide +kernel)
theorem k_193_49 : OkOp mt Ev 193 49 (o_if2 (fun x y => decide (x = y)) 55) := ok_icmp_eq (off := 6) (by decide +kernel) (by decide +kernel)
theorem k_193_52 : OkOp mt Ev 193 52 (o_push (.int (-12)) 2) := ok_bipush (n := -12) (by decide +kernel) (by decide +kernel)
theorem k_193_54 : OkOp mt Ev 193 54 (o_ret 0) := ok_reti (ty := .int) (by decide +kernel) rfl (Or.inl ⟨rfl, rfl⟩)
theorem k_193_55 : OkOp mt Ev 193 55 (o_iload 5 2) := ok_iload (by decide +kernel)
theorem k_193_57 : OkOp mt Ev 193 57 (o_if1 (fun x => decide (x < 0)) 96) := ok_if_lt (off := 39) (by decide +kernel) (by decide +kernel)
theorem k_193_60 : OkOp mt Ev 193 60 (o_iload 2 1) := ok_iload_n (k := 2) (by decide +kernel) rfl
theorem k_193_61 : OkOp mt Ev 193 61 (o_if1 (fun x => decide (x < 0)) 96) := ok_if_lt (off := 35) (by decide +kernel) (by decide +kernel)
theorem k_193_64 : OkOp mt Ev 193 64 (o_iload 4 2) := ok_iload (by decide +kernel)
theorem k_193_66 : OkOp mt Ev 193 66 (o_if1 (fun x => decide (x < 0)) 96) := ok_if_lt (off := 30) (by decide +kernel) (by decide +kernel)
theorem k_193_69 : OkOp mt Ev 193 69 (o_iload 5 2) := ok_iload (by decide +kernel)
theorem k_193_71 : OkOp mt Ev 193 71 (o_aload 0 1) := ok_aload_n (k := 0) (by decide +kernel) rfl
theorem k_193_72 : OkOp mt Ev 193 72 (o_getf 26 [12]) := ok_getf (i := 65) (rf := "BridgeSentencesModel") (nm := "lengths") (ds := "[I") (by decide +kernel) fc_63 wd_1011
theorem k_193_75 : OkOp mt Ev 193 75 (o_iload 1 1) := ok_iload_n (k := 1) (by decide +kernel) rfl
theorem k_193_76 : OkOp mt Ev 193 76 (o_iald 2) := ok_iald (by decide +kernel)
theorem k_193_77 : OkOp mt Ev 193 77 (o_iload 2 1) := ok_iload_n (k := 2) (by decide +kernel) rfl
theorem k_193_78 : OkOp mt Ev 193 78 (o_ib (fun x y => x - y)) := ok_isub (by decide +kernel)
theorem k_193_79 : OkOp mt Ev 193 79 (o_if2 (fun x y => decide (y < x)) 96) := ok_icmp_gt (off := 17) (by decide +kernel) (by decide +kernel)
theorem k_193_82 : OkOp mt Ev 193 82 (o_iload 5 2) := ok_iload (by decide +kernel)
theorem k_193_84 : OkOp mt Ev 193 84 (o_aload 0 1) := ok_aload_n (k := 0) (by decide +kernel) rfl
theorem k_193_85 : OkOp mt Ev 193 85 (o_getf 26 [12]) := ok_getf (i := 65) (rf := "BridgeSentencesModel") (nm := "lengths") (ds := "[I") (by decide +kernel) fc_63 wd_1011
theorem k_193_88 : OkOp mt Ev 193 88 (o_iload 3 1) := ok_iload_n (k := 3) (by decide +kernel) rfl
theorem k_193_89 : OkOp mt Ev 193 89 (o_iald 2) := ok_iald (by decide +kernel)
theorem k_193_90 : OkOp mt Ev 193 90 (o_iload 4 2) := ok_iload (by decide +kernel)
theorem k_193_92 : OkOp mt Ev 193 92 (o_ib (fun x y => x - y)) := ok_isub (by decide +kernel)
theorem k_193_93 : OkOp mt Ev 193 93 (o_if2 (fun x y => decide (x ≤ y)) 99) := ok_icmp_le (off := 6) (by decide +kernel) (by decide +kernel)
theorem k_193_96 : OkOp mt Ev 193 96 (o_push (.int (-13)) 2) := ok_bipush (n := -13) (by decide +kernel) (by decide +kernel)
theorem k_193_98 : OkOp mt Ev 193 98 (o_ret 0) := ok_reti (ty := .int) (by decide +kernel) rfl (Or.inl ⟨rfl, rfl⟩)
theorem k_193_99 : OkOp mt Ev 193 99 (o_push (.int (0)) 1) := ok_iconst (n := 0) (by decide +kernel) (by decide +kernel)
theorem k_193_100 : OkOp mt Ev 193 100 (o_istore 6 2) := ok_istore (by decide +kernel)
theorem k_193_102 : OkOp mt Ev 193 102 (o_iload 6 2) := ok_iload (by decide +kernel)
theorem k_193_104 : OkOp mt Ev 193 104 (o_iload 5 2) := ok_iload (by decide +kernel)
theorem k_193_106 : OkOp mt Ev 193 106 (o_if2 (fun x y => decide (y ≤ x)) 136) := ok_icmp_ge (off := 30) (by decide +kernel) (by decide +kernel)
theorem k_193_109 : OkOp mt Ev 193 109 (o_aload 0 1) := ok_aload_n (k := 0) (by decide +kernel) rfl
theorem k_193_110 : OkOp mt Ev 193 110 (o_getf 28 [12]) := ok_getf (i := 72) (rf := "BridgeSentencesModel") (nm := "moved") (ds := "[J") (by decide +kernel) fc_65 wd_1013
theorem k_193_113 : OkOp mt Ev 193 113 (o_iload 6 2) := ok_iload (by decide +kernel)
theorem k_193_115 : OkOp mt Ev 193 115 (o_aload 0 1) := ok_aload_n (k := 0) (by decide +kernel) rfl
theorem k_193_116 : OkOp mt Ev 193 116 (o_getf 27 [12]) := ok_getf (i := 68) (rf := "BridgeSentencesModel") (nm := "items") (ds := "[J") (by decide +kernel) fc_64 wd_1012
theorem k_193_119 : OkOp mt Ev 193 119 (o_push (.int (60)) 2) := ok_bipush (n := 60) (by decide +kernel) (by decide +kernel)
theorem k_193_121 : OkOp mt Ev 193 121 (o_iload 1 1) := ok_iload_n (k := 1) (by decide +kernel) rfl
theorem k_193_122 : OkOp mt Ev 193 122 (o_ib (fun x y => x * y)) := ok_imul (by decide +kernel)
theorem k_193_123 : OkOp mt Ev 193 123 (o_iload 2 1) := ok_iload_n (k := 2) (by decide +kernel) rfl
theorem k_193_124 : OkOp mt Ev 193 124 (o_ib (fun x y => x + y)) := ok_iadd (by decide +kernel)
theorem k_193_125 : OkOp mt Ev 193 125 (o_iload 6 2) := ok_iload (by decide +kernel)
theorem k_193_127 : OkOp mt Ev 193 127 (o_ib (fun x y => x + y)) := ok_iadd (by decide +kernel)
theorem k_193_128 : OkOp mt Ev 193 128 (o_lald) := ok_lald (by decide +kernel)
theorem k_193_129 : OkOp mt Ev 193 129 (o_last) := ok_last (by decide +kernel)
theorem k_193_130 : OkOp mt Ev 193 130 (o_iinc 6 (1)) := ok_iinc (n := 1) (by decide +kernel) (by decide +kernel)
theorem k_193_133 : OkOp mt Ev 193 133 (o_goto 102) := ok_goto (off := -31) (by decide +kernel) (by decide +kernel)
theorem k_193_136 : OkOp mt Ev 193 136 (o_push (.int (0)) 1) := ok_iconst (n := 0) (by decide +kernel) (by decide +kernel)
theorem k_193_137 : OkOp mt Ev 193 137 (o_istore 6 2) := ok_istore (by decide +kernel)
theorem k_193_139 : OkOp mt Ev 193 139 (o_iload 6 2) := ok_iload (by decide +kernel)
theorem k_193_141 : OkOp mt Ev 193 141 (o_iload 5 2) := ok_iload (by decide +kernel)
theorem k_193_143 : OkOp mt Ev 193 143 (o_if2 (fun x y => decide (y ≤ x)) 174) := ok_icmp_ge (off := 31) (by decide +kernel) (by decide +kernel)
theorem k_193_146 : OkOp mt Ev 193 146 (o_aload 0 1) := ok_aload_n (k := 0) (by decide +kernel) rfl
theorem k_193_147 : OkOp mt Ev 193 147 (o_getf 27 [12]) := ok_getf (i := 68) (rf := "BridgeSentencesModel") (nm := "items") (ds := "[J") (by decide +kernel) fc_64 wd_1012
theorem k_193_150 : OkOp mt Ev 193 150 (o_push (.int (60)) 2) := ok_bipush (n := 60) (by decide +kernel) (by decide +kernel)
theorem k_193_152 : OkOp mt Ev 193 152 (o_iload 3 1) := ok_iload_n (k := 3) (by decide +kernel) rfl
theorem k_193_153 : OkOp mt Ev 193 153 (o_ib (fun x y => x * y)) := ok_imul (by decide +kernel)
theorem k_193_154 : OkOp mt Ev 193 154 (o_iload 4 2) := ok_iload (by decide +kernel)
theorem k_193_156 : OkOp mt Ev 193 156 (o_ib (fun x y => x + y)) := ok_iadd (by decide +kernel)
theorem k_193_157 : OkOp mt Ev 193 157 (o_iload 6 2) := ok_iload (by decide +kernel)
theorem k_193_159 : OkOp mt Ev 193 159 (o_ib (fun x y => x + y)) := ok_iadd (by decide +kernel)
theorem k_193_160 : OkOp mt Ev 193 160 (o_aload 0 1) := ok_aload_n (k := 0) (by decide +kernel) rfl
theorem k_193_161 : OkOp mt Ev 193 161 (o_getf 28 [12]) := ok_getf (i := 72) (rf := "BridgeSentencesModel") (nm := "moved") (ds := "[J") (by decide +kernel) fc_65 wd_1013
theorem k_193_164 : OkOp mt Ev 193 164 (o_iload 6 2) := ok_iload (by decide +kernel)
theorem k_193_166 : OkOp mt Ev 193 166 (o_lald) := ok_lald (by decide +kernel)
theorem k_193_167 : OkOp mt Ev 193 167 (o_last) := ok_last (by decide +kernel)
theorem k_193_168 : OkOp mt Ev 193 168 (o_iinc 6 (1)) := ok_iinc (n := 1) (by decide +kernel) (by decide +kernel)
theorem k_193_171 : OkOp mt Ev 193 171 (o_goto 139) := ok_goto (off := -32) (by decide +kernel) (by decide +kernel)
theorem k_193_174 : OkOp mt Ev 193 174 (o_iload 5 2) := ok_iload (by decide +kernel)
theorem k_193_176 : OkOp mt Ev 193 176 (o_ret 0) := ok_reti (ty := .int) (by decide +kernel) rfl (Or.inl ⟨rfl, rfl⟩)
theorem kt_193 : ∀ pc o, cd_X12_shift Ev pc = some o → OkOp mt Ev 193 pc o ∧ Gw o := (tN_ok (tN_ok (tN_ok (tN_ok (tN_ok (tN_ok (tL_ok ⟨k_193_0, gw_iload⟩) (tN_ok (tL_ok ⟨k_193_1, gw_cs⟩) (tL_ok ⟨k_193_4, gw_if1⟩))) (tN_ok (tL_ok ⟨k_193_7, gw_iload⟩) (tN_ok (tL_ok ⟨k_193_8, gw_cs⟩) (tL_ok ⟨k_193_11, gw_if1⟩)))) (tN_ok (tN_ok (tL_ok ⟨k_193_14, gw_push⟩) (tN_ok (tL_ok ⟨k_193_15, gw_ret⟩) (tL_ok ⟨k_193_16, gw_aload⟩))) (tN_ok (tL_ok ⟨k_193_17, gw_getf⟩) (tN_ok (tL_ok ⟨k_193_20, gw_iload⟩) (tL_ok ⟨k_193_21, gw_iald⟩))))) (tN_ok (tN_ok (tN_ok (tL_ok ⟨k_193_22, gw_if1⟩) (tN_ok (tL_ok ⟨k_193_25, gw_aload⟩) (tL_ok ⟨k_193_26, gw_getf⟩))) (tN_ok (tL_ok ⟨k_193_29, gw_iload⟩) (tN_ok (tL_ok ⟨k_193_30, gw_iald⟩) (tL_ok ⟨k_193_31, gw_if1⟩)))) (tN_ok (tN_ok (tL_ok ⟨k_193_34, gw_push⟩) (tN_ok (tL_ok ⟨k_193_36, gw_ret⟩) (tL_ok ⟨k_193_37, gw_aload⟩))) (tN_ok (tL_ok ⟨k_193_38, gw_getf⟩) (tN_ok (tL_ok ⟨k_193_41, gw_iload⟩) (tL_ok ⟨k_193_42, gw_iald⟩)))))) (tN_ok (tN_ok (tN_ok (tN_ok (tL_ok ⟨k_193_43, gw_aload⟩) (tN_ok (tL_ok ⟨k_193_44, gw_getf⟩) (tL_ok ⟨k_193_47, gw_iload⟩))) (tN_ok (tL_ok ⟨k_193_48, gw_iald⟩) (tN_ok (tL_ok ⟨k_193_49, gw_if2⟩) (tL_ok ⟨k_193_52, gw_push⟩)))) (tN_ok (tN_ok (tL_ok ⟨k_193_54, gw_ret⟩) (tN_ok (tL_ok ⟨k_193_55, gw_iload⟩) (tL_ok ⟨k_193_57, gw_if1⟩))) (tN_ok (tL_ok ⟨k_193_60, gw_iload⟩) (tN_ok (tL_ok ⟨k_193_61, gw_if1⟩) (tL_ok ⟨k_193_64, gw_iload⟩))))) (tN_ok (tN_ok (tN_ok (tL_ok ⟨k_193_66, gw_if1⟩) (tN_ok (tL_ok ⟨k_193_69, gw_iload⟩) (tL_ok ⟨k_193_71, gw_aload⟩))) (tN_ok (tL_ok ⟨k_193_72, gw_getf⟩) (tN_ok (tL_ok ⟨k_193_75, gw_iload⟩) (tL_ok ⟨k_193_76, gw_iald⟩)))) (tN_ok (tN_ok (tL_ok ⟨k_193_77, gw_iload⟩) (tN_ok (tL_ok ⟨k_193_78, gw_ib⟩) (tL_ok ⟨k_193_79, gw_if2⟩))) (tN_ok (tN_ok (tL_ok ⟨k_193_82, gw_iload⟩) (tL_ok ⟨k_193_84, gw_aload⟩)) (tN_ok (tL_ok ⟨k_193_85, gw_getf⟩) (tL_ok ⟨k_193_88, gw_iload⟩))))))) (tN_ok (tN_ok (tN_ok (tN_ok (tN_ok (tL_ok ⟨k_193_89, gw_iald⟩) (tN_ok (tL_ok ⟨k_193_90, gw_iload⟩) (tL_ok ⟨k_193_92, gw_ib⟩))) (tN_ok (tL_ok ⟨k_193_93, gw_if2⟩) (tN_ok (tL_ok ⟨k_193_96, gw_push⟩) (tL_ok ⟨k_193_98, gw_ret⟩)))) (tN_ok (tN_ok (tL_ok ⟨k_193_99, gw_push⟩) (tN_ok (tL_ok ⟨k_193_100, gw_istore⟩) (tL_ok ⟨k_193_102, gw_iload⟩))) (tN_ok (tL_ok ⟨k_193_104, gw_iload⟩) (tN_ok (tL_ok ⟨k_193_106, gw_if2⟩) (tL_ok ⟨k_193_109, gw_aload⟩))))) (tN_ok (tN_ok (tN_ok (tL_ok ⟨k_193_110, gw_getf⟩) (tN_ok (tL_ok ⟨k_193_113, gw_iload⟩) (tL_ok ⟨k_193_115, gw_aload⟩))) (tN_ok (tL_ok ⟨k_193_116, gw_getf⟩) (tN_ok (tL_ok ⟨k_193_119, gw_push⟩) (tL_ok ⟨k_193_121, gw_iload⟩)))) (tN_ok (tN_ok (tL_ok ⟨k_193_122, gw_ib⟩) (tN_ok (tL_ok ⟨k_193_123, gw_iload⟩) (tL_ok ⟨k_193_124, gw_ib⟩))) (tN_ok (tN_ok (tL_ok ⟨k_193_125, gw_iload⟩) (tL_ok ⟨k_193_127, gw_ib⟩)) (tN_ok (tL_ok ⟨k_193_128, gw_lald⟩) (tL_ok ⟨k_193_129, gw_last⟩)))))) (tN_ok (tN_ok (tN_ok (tN_ok (tL_ok ⟨k_193_130, gw_iinc⟩) (tN_ok (tL_ok ⟨k_193_133, gw_goto⟩) (tL_ok ⟨k_193_136, gw_push⟩))) (tN_ok (tL_ok ⟨k_193_137, gw_istore⟩) (tN_ok (tL_ok ⟨k_193_139, gw_iload⟩) (tL_ok ⟨k_193_141, gw_iload⟩)))) (tN_ok (tN_ok (tL_ok ⟨k_193_143, gw_if2⟩) (tN_ok (tL_ok ⟨k_193_146, gw_aload⟩) (tL_ok ⟨k_193_147, gw_getf⟩))) (tN_ok (tL_ok ⟨k_193_150, gw_push⟩) (tN_ok (tL_ok ⟨k_193_152, gw_iload⟩) (tL_ok ⟨k_193_153, gw_ib⟩))))) (tN_ok (tN_ok (tN_ok (tL_ok ⟨k_193_154, gw_iload⟩) (tN_ok (tL_ok ⟨k_193_156, gw_ib⟩) (tL_ok ⟨k_193_157, gw_iload⟩))) (tN_ok (tL_ok ⟨k_193_159, gw_ib⟩) (tN_ok (tL_ok ⟨k_193_160, gw_aload⟩) (tL_ok ⟨k_193_161, gw_getf⟩)))) (tN_ok (tN_ok (tL_ok ⟨k_193_164, gw_iload⟩) (tN_ok (tL_ok ⟨k_193_166, gw_lald⟩) (tL_ok ⟨k_193_167, gw_last⟩))) (tN_ok (tN_ok (tL_ok ⟨k_193_168, gw_iinc⟩) (tL_ok ⟨k_193_171, gw_goto⟩)) (tN_ok (tL_ok ⟨k_193_174, gw_iload⟩) (tL_ok ⟨k_193_176, gw_ret⟩))))))))
theorem k_194_0 : OkOp mt Ev 194 0 (o_iload 1 1) := ok_iload_n (k := 1) (by decide +kernel) rfl
theorem k_194_1 : OkOp mt Ev 194 1 (o_cs 189 1) := ok_cs (i := 249) (by decide +kernel) wd_1337 wd_1338 wd_62 wd_1339 nk_39
theorem k_194_4 : OkOp mt Ev 194 4 (o_if1 (fun x => decide (¬ x = 0)) 9) := ok_if_ne (off := 5) (by decide +kernel) (by decide +kernel)
theorem k_194_7 : OkOp mt Ev 194 7 (o_push (.int (-1)) 1) := ok_iconst (n := -1) (by decide +kernel) (by decide +kernel)
theorem k_194_8 : OkOp mt Ev 194 8 (o_ret 0) := ok_reti (ty := .int) (by decide +kernel) rfl (Or.inl ⟨rfl, rfl⟩)
theorem k_194_9 : OkOp mt Ev 194 9 (o_aload 0 1) := ok_aload_n (k := 0) (by decide +kernel) rfl
theorem k_194_10 : OkOp mt Ev 194 10 (o_getf 25 [12]) := ok_getf (i := 62) (rf := "BridgeSentencesModel") (nm := "sorts") (ds := "[I") (by decide +kernel) fc_62 wd_1010
theorem k_194_13 : OkOp mt Ev 194 13 (o_iload 1 1) := ok_iload_n (k := 1) (by decide +kernel) rfl
theorem k_194_14 : OkOp mt Ev 194 14 (o_iald 2) := ok_iald (by decide +kernel)
theorem k_194_15 : OkOp mt Ev 194 15 (o_push (.int (-1)) 1) := ok_iconst (n := -1) (by decide +kernel) (by decide +kernel)
theorem k_194_16 : OkOp mt Ev 194 16 (o_if2 (fun x y => decide (x = y)) 32) := ok_icmp_eq (off := 16) (by decide +kernel) (by decide +kernel)
theorem k_194_19 : OkOp mt Ev 194 19 (o_aload 0 1) := ok_aload_n (k := 0) (by decide +kernel) rfl
theorem k_194_20 : OkOp mt Ev 194 20 (o_getf 25 [12]) := ok_getf (i := 62) (rf := "BridgeSentencesModel") (nm := "sorts") (ds := "[I") (by decide +kernel) fc_62 wd_1010
theorem k_194_23 : OkOp mt Ev 194 23 (o_iload 1 1) := ok_iload_n (k := 1) (by decide +kernel) rfl
theorem k_194_24 : OkOp mt Ev 194 24 (o_iald 2) := ok_iald (by decide +kernel)
theorem k_194_25 : OkOp mt Ev 194 25 (o_push (.int (3)) 1) := ok_iconst (n := 3) (by decide +kernel) (by decide +kernel)
theorem k_194_26 : OkOp mt Ev 194 26 (o_if2 (fun x y => decide (x = y)) 32) := ok_icmp_eq (off := 6) (by decide +kernel) (by decide +kernel)
theorem k_194_29 : OkOp mt Ev 194 29 (o_push (.int (-12)) 2) := ok_bipush (n := -12) (by decide +kernel) (by decide +kernel)
theorem k_194_31 : OkOp mt Ev 194 31 (o_ret 0) := ok_reti (ty := .int) (by decide +kernel) rfl (Or.inl ⟨rfl, rfl⟩)
theorem k_194_32 : OkOp mt Ev 194 32 (o_push (.int (0)) 1) := ok_iconst (n := 0) (by decide +kernel) (by decide +kernel)
theorem k_194_33 : OkOp mt Ev 194 33 (o_istore 3 1) := ok_istore_n (k := 3) (by decide +kernel) rfl
theorem k_194_34 : OkOp mt Ev 194 34 (o_iload 3 1) := ok_iload_n (k := 3) (by decide +kernel) rfl
theorem k_194_35 : OkOp mt Ev 194 35 (o_push (.int (12)) 2) := ok_bipush (n := 12) (by decide +kernel) (by decide +kernel)
theorem k_194_37 : OkOp mt Ev 194 37 (o_if2 (fun x y => decide (y ≤ x)) 101) := ok_icmp_ge (off := 64) (by decide +kernel) (by decide +kernel)
theorem k_194_40 : OkOp mt Ev 194 40 (o_iload 2 1) := ok_iload_n (k := 2) (by decide +kernel) rfl
theorem k_194_41 : OkOp mt Ev 194 41 (o_i2l) := ok_i2l (by decide +kernel)
theorem k_194_42 : OkOp mt Ev 194 42 (o_iload 3 1) := ok_iload_n (k := 3) (by decide +kernel) rfl
theorem k_194_43 : OkOp mt Ev 194 43 (o_i2l) := ok_i2l (by decide +kernel)
theorem k_194_44 : OkOp mt Ev 194 44 (o_lb (fun x y => x + y)) := ok_ladd (by decide +kernel)
theorem k_194_45 : OkOp mt Ev 194 45 (o_lstore 4 2) := ok_lstore (by decide +kernel)
theorem k_194_47 : OkOp mt Ev 194 47 (o_iload 2 1) := ok_iload_n (k := 2) (by decide +kernel) rfl
theorem k_194_48 : OkOp mt Ev 194 48 (o_if1 (fun x => decide (x < 0)) 64) := ok_if_lt (off := 16) (by decide +kernel) (by decide +kernel)
theorem k_194_51 : OkOp mt Ev 194 51 (o_lload 4 2) := ok_lload (by decide +kernel)
theorem k_194_53 : OkOp mt Ev 194 53 (o_aload 0 1) := ok_aload_n (k := 0) (by decide +kernel) rfl
theorem k_194_54 : OkOp mt Ev 194 54 (o_getf 26 [12]) := ok_getf (i := 65) (rf := "BridgeSentencesModel") (nm := "lengths") (ds := "[I") (by decide +kernel) fc_63 wd_1011
theorem k_194_57 : OkOp mt Ev 194 57 (o_iload 1 1) := ok_iload_n (k := 1) (by decide +kernel) rfl
theorem k_194_58 : OkOp mt Ev 194 58 (o_iald 2) := ok_iald (by decide +kernel)
theorem k_194_59 : OkOp mt Ev 194 59 (o_i2l) := ok_i2l (by decide +kernel)
theorem k_194_60 : OkOp mt Ev 194 60 (o_lcmp) := ok_lcmp (by decide +kernel)
theorem k_194_61 : OkOp mt Ev 194 61 (o_if1 (fun x => decide (x < 0)) 69) := ok_if_lt (off := 8) (by decide +kernel) (by decide +kernel)
theorem k_194_64 : OkOp mt Ev 194 64 (o_push (.int (100)) 2) := ok_bipush (n := 100) (by decide +kernel) (by decide +kernel)
theorem k_194_66 : OkOp mt Ev 194 66 (o_iload 3 1) := ok_iload_n (k := 3) (by decide +kernel) rfl
theorem k_194_67 : OkOp mt Ev 194 67 (o_ib (fun x y => x + y)) := ok_iadd (by decide +kernel)
theorem k_194_68 : OkOp mt Ev 194 68 (o_ret 0) := ok_reti (ty := .int) (by decide +kernel) rfl (Or.inl ⟨rfl, rfl⟩)
theorem k_194_69 : OkOp mt Ev 194 69 (o_aload 0 1) := ok_aload_n (k := 0) (by decide +kernel) rfl
theorem k_194_70 : OkOp mt Ev 194 70 (o_getf 27 [12]) := ok_getf (i := 68) (rf := "BridgeSentencesModel") (nm := "items") (ds := "[J") (by decide +kernel) fc_64 wd_1012
theorem k_194_73 : OkOp mt Ev 194 73 (o_push (.int (60)) 2) := ok_bipush (n := 60) (by decide +kernel) (by decide +kernel)
theorem k_194_75 : OkOp mt Ev 194 75 (o_iload 1 1) := ok_iload_n (k := 1) (by decide +kernel) rfl
theorem k_194_76 : OkOp mt Ev 194 76 (o_ib (fun x y => x * y)) := ok_imul (by decide +kernel)
theorem k_194_77 : OkOp mt Ev 194 77 (o_lload 4 2) := ok_lload (by decide +kernel)
theorem k_194_79 : OkOp mt Ev 194 79 (o_l2i) := ok_l2i (by decide +kernel)
theorem k_194_80 : OkOp mt Ev 194 80 (o_ib (fun x y => x + y)) := ok_iadd (by decide +kernel)
theorem k_194_81 : OkOp mt Ev 194 81 (o_lald) := ok_lald (by decide +kernel)
theorem k_194_82 : OkOp mt Ev 194 82 (o_aload 0 1) := ok_aload_n (k := 0) (by decide +kernel) rfl
theorem k_194_83 : OkOp mt Ev 194 83 (o_getf 0 [12]) := ok_getf (i := 15) (rf := "BridgeSentencesModel") (nm := "now") (ds := "[I") (by decide +kernel) fc_47 wd_985
theorem k_194_86 : OkOp mt Ev 194 86 (o_iload 3 1) := ok_iload_n (k := 3) (by decide +kernel) rfl
theorem k_194_87 : OkOp mt Ev 194 87 (o_iald 2) := ok_iald (by decide +kernel)
theorem k_194_88 : OkOp mt Ev 194 88 (o_i2l) := ok_i2l (by decide +kernel)
theorem k_194_89 : OkOp mt Ev 194 89 (o_lcmp) := ok_lcmp (by decide +kernel)
theorem k_194_90 : OkOp mt Ev 194 90 (o_if1 (fun x => decide (x = 0)) 95) := ok_if_eq (off := 5) (by decide +kernel) (by decide +kernel)
theorem k_194_93 : OkOp mt Ev 194 93 (o_iload 3 1) := ok_iload_n (k := 3) (by decide +kernel) rfl
theorem k_194_94 : OkOp mt Ev 194 94 (o_ret 0) := ok_reti (ty := .int) (by decide +kernel) rfl (Or.inl ⟨rfl, rfl⟩)
theorem k_194_95 : OkOp mt Ev 194 95 (o_iinc 3 (1)) := ok_iinc (n := 1) (by decide +kernel) (by decide +kernel)
theorem k_194_98 : OkOp mt Ev 194 98 (o_goto 34) := ok_goto (off := -64) (by decide +kernel) (by decide +kernel)
theorem k_194_101 : OkOp mt Ev 194 101 (o_push (.int (-5)) 2) := ok_bipush (n := -5) (by decide +kernel) (by decide +kernel)
theorem k_194_103 : OkOp mt Ev 194 103 (o_ret 0) := ok_reti (ty := .int) (by decide +kernel) rfl (Or.inl ⟨rfl, rfl⟩)
theorem kt_194 : ∀ pc o, cd_X12_judge Ev pc = some o → OkOp mt Ev 194 pc o ∧ Gw o := (tN_ok (tN_ok (tN_ok (tN_ok (tN_ok (tN_ok (tL_ok ⟨k_194_0, gw_iload⟩) (tL_ok ⟨k_194_1, gw_cs⟩)) (tN_ok (tL_ok ⟨k_194_4, gw_if1⟩) (tL_ok ⟨k_194_7, gw_push⟩))) (tN_ok (tN_ok (tL_ok ⟨k_194_8, gw_ret⟩) (tL_ok ⟨k_194_9, gw_aload⟩)) (tN_ok (tL_ok ⟨k_194_10, gw_getf⟩) (tL_ok ⟨k_194_13, gw_iload⟩)))) (tN_ok (tN_ok (tN_ok (tL_ok ⟨k_194_14, gw_iald⟩) (tL_ok ⟨k_194_15, gw_push⟩)) (tN_ok (tL_ok ⟨k_194_16, gw_if2⟩) (tL_ok ⟨k_194_19, gw_aload⟩))) (tN_ok (tN_ok (tL_ok ⟨k_194_20, gw_getf⟩) (tL_ok ⟨k_194_23, gw_iload⟩)) (tN_ok (tL_ok ⟨k_194_24, gw_iald⟩) (tL_ok ⟨k_194_25, gw_push⟩))))) (tN_ok (tN_ok (tN_ok (tN_ok (tL_ok ⟨k_194_26, gw_if2⟩) (tL_ok ⟨k_194_29, gw_push⟩)) (tN_ok (tL_ok ⟨k_194_31, gw_ret⟩) (tL_ok ⟨k_194_32, gw_push⟩))) (tN_ok (tN_ok (tL_ok ⟨k_194_33, gw_istore⟩) (tL_ok ⟨k_194_34, gw_iload⟩)) (tN_ok (tL_ok ⟨k_194_35, gw_push⟩) (tL_ok ⟨k_194_37, gw_if2⟩)))) (tN_ok (tN_ok (tN_ok (tL_ok ⟨k_194_40, gw_iload⟩) (tL_ok ⟨k_194_41, gw_i2l⟩)) (tN_ok (tL_ok ⟨k_194_42, gw_iload⟩) (tL_ok ⟨k_194_43, gw_i2l⟩))) (tN_ok (tN_ok (tL_ok ⟨k_194_44, gw_lb⟩) (tL_ok ⟨k_194_45, gw_lstore⟩)) (tN_ok (tL_ok ⟨k_194_47, gw_iload⟩) (tN_ok (tL_ok ⟨k_194_48, gw_if1⟩) (tL_ok ⟨k_194_51, gw_lload⟩))))))) (tN_ok (tN_ok (tN_ok (tN_ok (tN_ok (tL_ok ⟨k_194_53, gw_aload⟩) (tL_ok ⟨k_194_54, gw_getf⟩)) (tN_ok (tL_ok ⟨k_194_57, gw_iload⟩) (tL_ok ⟨k_194_58, gw_iald⟩))) (tN_ok (tN_ok (tL_ok ⟨k_194_59, gw_i2l⟩) (tL_ok ⟨k_194_60, gw_lcmp⟩)) (tN_ok (tL_ok ⟨k_194_61, gw_if1⟩) (tL_ok ⟨k_194_64, gw_push⟩)))) (tN_ok (tN_ok (tN_ok (tL_ok ⟨k_194_66, gw_iload⟩) (tL_ok ⟨k_194_67, gw_ib⟩)) (tN_ok (tL_ok ⟨k_194_68, gw_ret⟩) (tL_ok ⟨k_194_69, gw_aload⟩))) (tN_ok (tN_ok (tL_ok ⟨k_194_70, gw_getf⟩) (tL_ok ⟨k_194_73, gw_push⟩)) (tN_ok (tL_ok ⟨k_194_75, gw_iload⟩) (tL_ok ⟨k_194_76, gw_ib⟩))))) (tN_ok (tN_ok (tN_ok (tN_ok (tL_ok ⟨k_194_77, gw_lload⟩) (tL_ok ⟨k_194_79, gw_l2i⟩)) (tN_ok (tL_ok ⟨k_194_80, gw_ib⟩) (tL_ok ⟨k_194_81, gw_lald⟩))) (tN_ok (tN_ok (tL_ok ⟨k_194_82, gw_aload⟩) (tL_ok ⟨k_194_83, gw_getf⟩)) (tN_ok (tL_ok ⟨k_194_86, gw_iload⟩) (tL_ok ⟨k_194_87, gw_iald⟩)))) (tN_ok (tN_ok (tN_ok (tL_ok ⟨k_194_88, gw_i2l⟩) (tL_ok ⟨k_194_89, gw_lcmp⟩)) (tN_ok (tL_ok ⟨k_194_90, gw_if1⟩) (tL_ok ⟨k_194_93, gw_iload⟩))) (tN_ok (tN_ok (tL_ok ⟨k_194_94, gw_ret⟩) (tL_ok ⟨k_194_95, gw_iinc⟩)) (tN_ok (tL_ok ⟨k_194_98, gw_goto⟩) (tN_ok (tL_ok ⟨k_194_101, gw_push⟩) (tL_ok ⟨k_194_103, gw_ret⟩))))))))
theorem k_195_0 : OkOp mt Ev 195 0 (o_iload 0 1) := ok_iload_n (k := 0) (by decide +kernel) rfl
theorem k_195_1 : OkOp mt Ev 195 1 (o_iload 0 1) := ok_iload_n (k := 0) (by decide +kernel) rfl
theorem k_195_2 : OkOp mt Ev 195 2 (o_push (.int (1)) 1) := ok_iconst (n := 1) (by decide +kernel) (by decide +kernel)
theorem k_195_3 : OkOp mt Ev 195 3 (o_ib (fun x y => (x.toUInt32 >>> (y.toUInt32 &&& Int32.toUInt32 31)).toInt32)) := ok_iushr (by decide +kernel)
theorem k_195_4 : OkOp mt Ev 195 4 (o_push (.int (1431655765)) 3) := ok_ldcw (i := 265) (by decide +kernel) wd_406
theorem k_195_7 : OkOp mt Ev 195 7 (o_ib (fun x y => x &&& y)) := ok_iand (by decide +kernel)
theorem k_195_8 : OkOp mt Ev 195 8 (o_ib (fun x y => x - y)) := ok_isub (by decide +kernel)
theorem k_195_9 : OkOp mt Ev 195 9 (o_istore 0 1) := ok_istore_n (k := 0) (by decide +kernel) rfl
theorem k_195_10 : OkOp mt Ev 195 10 (o_iload 0 1) := ok_iload_n (k := 0) (by decide +kernel) rfl
theorem k_195_11 : OkOp mt Ev 195 11 (o_push (.int (858993459)) 3) := ok_ldcw (i := 266) (by decide +kernel) wd_407
theorem k_195_14 : OkOp mt Ev 195 14 (o_ib (fun x y => x &&& y)) := ok_iand (by decide +kernel)
theorem k_195_15 : OkOp mt Ev 195 15 (o_iload 0 1) := ok_iload_n (k := 0) (by decide +kernel) rfl
theorem k_195_16 : OkOp mt Ev 195 16 (o_push (.int (2)) 1) := ok_iconst (n := 2) (by decide +kernel) (by decide +kernel)
theorem k_195_17 : OkOp mt Ev 195 17 (o_ib (fun x y => (x.toUInt32 >>> (y.toUInt32 &&& Int32.toUInt32 31)).toInt32)) := ok_iushr (by decide +kernel)
theorem k_195_18 : OkOp mt Ev 195 18 (o_push (.int (858993459)) 3) := ok_ldcw (i := 266) (by decide +kernel) wd_407
theorem k_195_21 : OkOp mt Ev 195 21 (o_ib (fun x y => x &&& y)) := ok_iand (by decide +kernel)
theorem k_195_22 : OkOp mt Ev 195 22 (o_ib (fun x y => x + y)) := ok_iadd (by decide +kernel)
theorem k_195_23 : OkOp mt Ev 195 23 (o_istore 0 1) := ok_istore_n (k := 0) (by decide +kernel) rfl
theorem k_195_24 : OkOp mt Ev 195 24 (o_iload 0 1) := ok_iload_n (k := 0) (by decide +kernel) rfl
theorem k_195_25 : OkOp mt Ev 195 25 (o_iload 0 1) := ok_iload_n (k := 0) (by decide +kernel) rfl
theorem k_195_26 : OkOp mt Ev 195 26 (o_push (.int (4)) 1) := ok_iconst (n := 4) (by decide +kernel) (by decide +kernel)
theorem k_195_27 : OkOp mt Ev 195 27 (o_ib (fun x y => (x.toUInt32 >>> (y.toUInt32 &&& Int32.toUInt32 31)).toInt32)) := ok_iushr (by decide +kernel)
theorem k_195_28 : OkOp mt Ev 195 28 (o_ib (fun x y => x + y)) := ok_iadd (by decide +kernel)
theorem k_195_29 : OkOp mt Ev 195 29 (o_push (.int (252645135)) 3) := ok_ldcw (i := 267) (by decide +kernel) wd_408
theorem k_195_32 : OkOp mt Ev 195 32 (o_ib (fun x y => x &&& y)) := ok_iand (by decide +kernel)
theorem k_195_33 : OkOp mt Ev 195 33 (o_istore 0 1) := ok_istore_n (k := 0) (by decide +kernel) rfl
theorem k_195_34 : OkOp mt Ev 195 34 (o_iload 0 1) := ok_iload_n (k := 0) (by decide +kernel) rfl
theorem k_195_35 : OkOp mt Ev 195 35 (o_iload 0 1) := ok_iload_n (k := 0) (by decide +kernel) rfl
theorem k_195_36 : OkOp mt Ev 195 36 (o_push (.int (8)) 2) := ok_bipush (n := 8) (by decide +kernel) (by decide +kernel)
theorem k_195_38 : OkOp mt Ev 195 38 (o_ib (fun x y => (x.toUInt32 >>> (y.toUInt32 &&& Int32.toUInt32 31)).toInt32)) := ok_iushr (by decide +kernel)
theorem k_195_39 : OkOp mt Ev 195 39 (o_ib (fun x y => x + y)) := ok_iadd (by decide +kernel)
theorem k_195_40 : OkOp mt Ev 195 40 (o_istore 0 1) := ok_istore_n (k := 0) (by decide +kernel) rfl
theorem k_195_41 : OkOp mt Ev 195 41 (o_iload 0 1) := ok_iload_n (k := 0) (by decide +kernel) rfl
theorem k_195_42 : OkOp mt Ev 195 42 (o_iload 0 1) := ok_iload_n (k := 0) (by decide +kernel) rfl
theorem k_195_43 : OkOp mt Ev 195 43 (o_push (.int (16)) 2) := ok_bipush (n := 16) (by decide +kernel) (by decide +kernel)
theorem k_195_45 : OkOp mt Ev 195 45 (o_ib (fun x y => (x.toUInt32 >>> (y.toUInt32 &&& Int32.toUInt32 31)).toInt32)) := ok_iushr (by decide +kernel)
theorem k_195_46 : OkOp mt Ev 195 46 (o_ib (fun x y => x + y)) := ok_iadd (by decide +kernel)
theorem k_195_47 : OkOp mt Ev 195 47 (o_istore 0 1) := ok_istore_n (k := 0) (by decide +kernel) rfl
theorem k_195_48 : OkOp mt Ev 195 48 (o_iload 0 1) := ok_iload_n (k := 0) (by decide +kernel) rfl
theorem k_195_49 : OkOp mt Ev 195 49 (o_push (.int (63)) 2) := ok_bipush (n := 63) (by decide +kernel) (by decide +kernel)
theorem k_195_51 : OkOp mt Ev 195 51 (o_ib (fun x y => x &&& y)) := ok_iand (by decide +kernel)
theorem k_195_52 : OkOp mt Ev 195 52 (o_ret 0) := ok_reti (ty := .int) (by decide +kernel) rfl (Or.inl ⟨rfl, rfl⟩)
theorem kt_195 : ∀ pc o, cd_J6_bitCount_0f7a4 Ev pc = some o → OkOp mt Ev 195 pc o ∧ Gw o := (tN_ok (tN_ok (tN_ok (tN_ok (tN_ok (tL_ok ⟨k_195_0, gw_iload⟩) (tL_ok ⟨k_195_1, gw_iload⟩)) (tN_ok (tL_ok ⟨k_195_2, gw_push⟩) (tN_ok (tL_ok ⟨k_195_3, gw_ib⟩) (tL_ok ⟨k_195_4, gw_push⟩)))) (tN_ok (tN_ok (tL_ok ⟨k_195_7, gw_ib⟩) (tL_ok ⟨k_195_8, gw_ib⟩)) (tN_ok (tL_ok ⟨k_195_9, gw_istore⟩) (tN_ok (tL_ok ⟨k_195_10, gw_iload⟩) (tL_ok ⟨k_195_11, gw_push⟩))))) (tN_ok (tN_ok (tN_ok (tL_ok ⟨k_195_14, gw_ib⟩) (tL_ok ⟨k_195_15, gw_iload⟩)) (tN_ok (tL_ok ⟨k_195_16, gw_push⟩) (tN_ok (tL_ok ⟨k_195_17, gw_ib⟩) (tL_ok ⟨k_195_18, gw_push⟩)))) (tN_ok (tN_ok (tL_ok ⟨k_195_21, gw_ib⟩) (tN_ok (tL_ok ⟨k_195_22, gw_ib⟩) (tL_ok ⟨k_195_23, gw_istore⟩))) (tN_ok (tL_ok ⟨k_195_24, gw_iload⟩) (tN_ok (tL_ok ⟨k_195_25, gw_iload⟩) (tL_ok ⟨k_195_26, gw_push⟩)))))) (tN_ok (tN_ok (tN_ok (tN_ok (tL_ok ⟨k_195_27, gw_ib⟩) (tL_ok ⟨k_195_28, gw_ib⟩)) (tN_ok (tL_ok ⟨k_195_29, gw_push⟩) (tN_ok (tL_ok ⟨k_195_32, gw_ib⟩) (tL_ok ⟨k_195_33, gw_istore⟩)))) (tN_ok (tN_ok (tL_ok ⟨k_195_34, gw_iload⟩) (tL_ok ⟨k_195_35, gw_iload⟩)) (tN_ok (tL_ok ⟨k_195_36, gw_push⟩) (tN_ok (tL_ok ⟨k_195_38, gw_ib⟩) (tL_ok ⟨k_195_39, gw_ib⟩))))) (tN_ok (tN_ok (tN_ok (tL_ok ⟨k_195_40, gw_istore⟩) (tL_ok ⟨k_195_41, gw_iload⟩)) (tN_ok (tL_ok ⟨k_195_42, gw_iload⟩) (tN_ok (tL_ok ⟨k_195_43, gw_push⟩) (tL_ok ⟨k_195_45, gw_ib⟩)))) (tN_ok (tN_ok (tL_ok ⟨k_195_46, gw_ib⟩) (tN_ok (tL_ok ⟨k_195_47, gw_istore⟩) (tL_ok ⟨k_195_48, gw_iload⟩))) (tN_ok (tL_ok ⟨k_195_49, gw_push⟩) (tN_ok (tL_ok ⟨k_195_51, gw_ib⟩) (tL_ok ⟨k_195_52, gw_ret⟩)))))))
theorem k_196_0 : OkOp mt Ev 196 0 (o_iload 0 1) := ok_iload_n (k := 0) (by decide +kernel) rfl
theorem k_196_1 : OkOp mt Ev 196 1 (o_iload 1 1) := ok_iload_n (k := 1) (by decide +kernel) rfl
theorem k_196_2 : OkOp mt Ev 196 2 (o_if2 (fun x y => decide (x < y)) 9) := ok_icmp_lt (off := 7) (by decide +kernel) (by decide +kernel)
theorem k_196_5 : OkOp mt Ev 196 5 (o_iload 0 1) := ok_iload_n (k := 0) (by decide +kernel) rfl
theorem k_196_6 : OkOp mt Ev 196 6 (o_goto 10) := ok_goto (off := 4) (by decide +kernel) (by decide +kernel)
theorem k_196_9 : OkOp mt Ev 196 9 (o_iload 1 1) := ok_iload_n (k := 1) (by decide +kernel) rfl
theorem k_196_10 : OkOp mt Ev 196 10 (o_ret 0) := ok_reti (ty := .int) (by decide +kernel) rfl (Or.inl ⟨rfl, rfl⟩)
theorem kt_196 : ∀ pc o, cd_J9_max_7cf53 Ev pc = some o → OkOp mt Ev 196 pc o ∧ Gw o := (tN_ok (tN_ok (tL_ok ⟨k_196_0, gw_iload⟩) (tN_ok (tL_ok ⟨k_196_1, gw_iload⟩) (tL_ok ⟨k_196_2, gw_if2⟩))) (tN_ok (tN_ok (tL_ok ⟨k_196_5, gw_iload⟩) (tL_ok ⟨k_196_6, gw_goto⟩)) (tN_ok (tL_ok ⟨k_196_9, gw_iload⟩) (tL_ok ⟨k_196_10, gw_ret⟩))))
theorem k_197_0 : OkOp mt Ev 197 0 (o_iload 0 1) := ok_iload_n (k := 0) (by decide +kernel) rfl
theorem k_197_1 : OkOp mt Ev 197 1 (o_iload 1 1) := ok_iload_n (k := 1) (by decide +kernel) rfl
theorem k_197_2 : OkOp mt Ev 197 2 (o_if2 (fun x y => decide (y < x)) 9) := ok_icmp_gt (off := 7) (by decide +kernel) (by decide +kernel)
theorem k_197_5 : OkOp mt Ev 197 5 (o_iload 0 1) := ok_iload_n (k := 0) (by decide +kernel) rfl
theorem k_197_6 : OkOp mt Ev 197 6 (o_goto 10) := ok_goto (off := 4) (by decide +kernel) (by decide +kernel)
theorem k_197_9 : OkOp mt Ev 197 9 (o_iload 1 1) := ok_iload_n (k := 1) (by decide +kernel) rfl
theorem k_197_10 : OkOp mt Ev 197 10 (o_ret 0) := ok_reti (ty := .int) (by decide +kernel) rfl (Or.inl ⟨rfl, rfl⟩)
theorem kt_197 : ∀ pc o, cd_J9_min_7cf53 Ev pc = some o → OkOp mt Ev 197 pc o ∧ Gw o := (tN_ok (tN_ok (tL_ok ⟨k_197_0, gw_iload⟩) (tN_ok (tL_ok ⟨k_197_1, gw_iload⟩) (tL_ok ⟨k_197_2, gw_if2⟩))) (tN_ok (tN_ok (tL_ok ⟨k_197_5, gw_iload⟩) (tL_ok ⟨k_197_6, gw_goto⟩)) (tN_ok (tL_ok ⟨k_197_9, gw_iload⟩) (tL_ok ⟨k_197_10, gw_ret⟩))))
theorem k_198_0 : OkOp mt Ev 198 0 (o_aload 0 1) := ok_aload_n (k := 0) (by decide +kernel) rfl
theorem k_198_1 : OkOp mt Ev 198 1 (o_gets 0) := ok_gets (i := 9) (nm := "value") (ds := "[B") (by decide +kernel) (by decide) wd_1367
theorem k_198_4 : OkOp mt Ev 198 4 (o_alen) := ok_alen (by decide +kernel)
theorem k_198_5 : OkOp mt Ev 198 5 (o_aload 0 1) := ok_aload_n (k := 0) (by decide +kernel) rfl
theorem k_198_6 : OkOp mt Ev 198 6 (o_cstr 202 0) := ok_cstr (i := 335) (by decide +kernel) rfl nk_40 wd_582 wd_583 wd_584 wd_72 wd_585
theorem k_198_9 : OkOp mt Ev 198 9 (o_ib (fun x y => x >>> (y &&& 31))) := ok_ishr (by decide +kernel)
theorem k_198_10 : OkOp mt Ev 198 10 (o_ret 0) := ok_reti (ty := .int) (by decide +kernel) rfl (Or.inl ⟨rfl, rfl⟩)
theorem kt_198 : ∀ pc o, cd_J0_length_8abf5 Ev pc = some o → OkOp mt Ev 198 pc o ∧ Gw o := (tN_ok (tN_ok (tL_ok ⟨k_198_0, gw_aload⟩) (tN_ok (tL_ok ⟨k_198_1, gw_gets⟩) (tL_ok ⟨k_198_4, gw_alen⟩))) (tN_ok (tN_ok (tL_ok ⟨k_198_5, gw_aload⟩) (tL_ok ⟨k_198_6, gw_cstr⟩)) (tN_ok (tL_ok ⟨k_198_9, gw_ib⟩) (tL_ok ⟨k_198_10, gw_ret⟩))))
theorem k_199_0 : OkOp mt Ev 199 0 (o_aload 0 1) := ok_aload_n (k := 0) (by decide +kernel) rfl
theorem k_199_1 : OkOp mt Ev 199 1 (o_cstr 203 0) := ok_cstr (i := 492) (by decide +kernel) rfl nk_41 wd_592 wd_593 wd_594 wd_72 wd_595
theorem k_199_4 : OkOp mt Ev 199 4 (o_if1 (fun x => decide (x = 0)) 16) := ok_if_eq (off := 12) (by decide +kernel) (by decide +kernel)
theorem k_199_7 : OkOp mt Ev 199 7 (o_aload 0 1) := ok_aload_n (k := 0) (by decide +kernel) rfl
theorem k_199_8 : OkOp mt Ev 199 8 (o_gets 0) := ok_gets (i := 9) (nm := "value") (ds := "[B") (by decide +kernel) (by decide) wd_1367
theorem k_199_11 : OkOp mt Ev 199 11 (o_iload 1 1) := ok_iload_n (k := 1) (by decide +kernel) rfl
theorem k_199_12 : OkOp mt Ev 199 12 (o_cs 205 2) := ok_cs (i := 495) (by decide +kernel) wd_596 wd_597 wd_73 wd_598 nk_42
theorem k_199_15 : OkOp mt Ev 199 15 (o_ret 4) := ok_reti (ty := .char) (by decide +kernel) rfl (Or.inr (Or.inr (Or.inl ⟨rfl, rfl⟩)))
theorem k_199_16 : OkOp mt Ev 199 16 (o_aload 0 1) := ok_aload_n (k := 0) (by decide +kernel) rfl
theorem k_199_17 : OkOp mt Ev 199 17 (o_gets 0) := ok_gets (i := 9) (nm := "value") (ds := "[B") (by decide +kernel) (by decide) wd_1367
theorem k_199_20 : OkOp mt Ev 199 20 (o_iload 1 1) := ok_iload_n (k := 1) (by decide +kernel) rfl
theorem k_199_21 : OkOp mt Ev 199 21 (o_bad) := ok_bad
theorem k_199_24 : OkOp mt Ev 199 24 (o_ret 4) := ok_reti (ty := .char) (by decide +kernel) rfl (Or.inr (Or.inr (Or.inl ⟨rfl, rfl⟩)))
theorem kt_199 : ∀ pc o, cd_J0_charAt_5068e Ev pc = some o → OkOp mt Ev 199 pc o ∧ Gw o := (tN_ok (tN_ok (tN_ok (tL_ok ⟨k_199_0, gw_aload⟩) (tN_ok (tL_ok ⟨k_199_1, gw_cstr⟩) (tL_ok ⟨k_199_4, gw_if1⟩))) (tN_ok (tL_ok ⟨k_199_7, gw_aload⟩) (tN_ok (tL_ok ⟨k_199_8, gw_gets⟩) (tL_ok ⟨k_199_11, gw_iload⟩)))) (tN_ok (tN_ok (tL_ok ⟨k_199_12, gw_cs⟩) (tN_ok (tL_ok ⟨k_199_15, gw_ret⟩) (tL_ok ⟨k_199_16, gw_aload⟩))) (tN_ok (tN_ok (tL_ok ⟨k_199_17, gw_gets⟩) (tL_ok ⟨k_199_20, gw_iload⟩)) (tN_ok (tL_ok ⟨k_199_21, gw_bad⟩) (tL_ok ⟨k_199_24, gw_ret⟩)))))
theorem k_200_0 : OkOp mt Ev 200 0 (o_aload 0 1) := ok_aload_n (k := 0) (by decide +kernel) rfl
theorem k_200_1 : OkOp mt Ev 200 1 (o_iload 1 1) := ok_iload_n (k := 1) (by decide +kernel) rfl
theorem k_200_2 : OkOp mt Ev 200 2 (o_push (.int (0)) 1) := ok_iconst (n := 0) (by decide +kernel) (by decide +kernel)
theorem k_200_3 : OkOp mt Ev 200 3 (o_cstr 201 2) := ok_cstr (i := 633) (by decide +kernel) rfl nk_43 wd_659 wd_660 wd_661 wd_72 wd_662
theorem k_200_6 : OkOp mt Ev 200 6 (o_ret 0) := ok_reti (ty := .int) (by decide +kernel) rfl (Or.inl ⟨rfl, rfl⟩)
theorem kt_200 : ∀ pc o, cd_J0_indexOf_0f7a4 Ev pc = some o → OkOp mt Ev 200 pc o ∧ Gw o := (tN_ok (tN_ok (tL_ok ⟨k_200_0, gw_aload⟩) (tL_ok ⟨k_200_1, gw_iload⟩)) (tN_ok (tL_ok ⟨k_200_2, gw_push⟩) (tN_ok (tL_ok ⟨k_200_3, gw_cstr⟩) (tL_ok ⟨k_200_6, gw_ret⟩))))
theorem k_201_0 : OkOp mt Ev 201 0 (o_aload 0 1) := ok_aload_n (k := 0) (by decide +kernel) rfl
theorem k_201_1 : OkOp mt Ev 201 1 (o_cstr 203 0) := ok_cstr (i := 492) (by decide +kernel) rfl nk_41 wd_592 wd_593 wd_594 wd_72 wd_595
theorem k_201_4 : OkOp mt Ev 201 4 (o_if1 (fun x => decide (x = 0)) 23) := ok_if_eq (off := 19) (by decide +kernel) (by decide +kernel)
theorem k_201_7 : OkOp mt Ev 201 7 (o_aload 0 1) := ok_aload_n (k := 0) (by decide +kernel) rfl
theorem k_201_8 : OkOp mt Ev 201 8 (o_gets 0) := ok_gets (i := 9) (nm := "value") (ds := "[B") (by decide +kernel) (by decide) wd_1367
theorem k_201_11 : OkOp mt Ev 201 11 (o_iload 1 1) := ok_iload_n (k := 1) (by decide +kernel) rfl
theorem k_201_12 : OkOp mt Ev 201 12 (o_iload 2 1) := ok_iload_n (k := 2) (by decide +kernel) rfl
theorem k_201_13 : OkOp mt Ev 201 13 (o_aload 0 1) := ok_aload_n (k := 0) (by decide +kernel) rfl
theorem k_201_14 : OkOp mt Ev 201 14 (o_cstr 198 0) := ok_cstr (i := 505) (by decide +kernel) rfl nk_3 wd_663 wd_579 wd_580 wd_72 wd_581
theorem k_201_17 : OkOp mt Ev 201 17 (o_cs 207 4) := ok_cs (i := 637) (by decide +kernel) wd_664 wd_665 wd_73 wd_666 nk_44
theorem k_201_20 : OkOp mt Ev 201 20 (o_goto 36) := ok_goto (off := 16) (by decide +kernel) (by decide +kernel)
theorem k_201_23 : OkOp mt Ev 201 23 (o_aload 0 1) := ok_aload_n (k := 0) (by decide +kernel) rfl
theorem k_201_24 : OkOp mt Ev 201 24 (o_gets 0) := ok_gets (i := 9) (nm := "value") (ds := "[B") (by decide +kernel) (by decide) wd_1367
theorem k_201_27 : OkOp mt Ev 201 27 (o_iload 1 1) := ok_iload_n (k := 1) (by decide +kernel) rfl
theorem k_201_28 : OkOp mt Ev 201 28 (o_iload 2 1) := ok_iload_n (k := 2) (by decide +kernel) rfl
theorem k_201_29 : OkOp mt Ev 201 29 (o_aload 0 1) := ok_aload_n (k := 0) (by decide +kernel) rfl
theorem k_201_30 : OkOp mt Ev 201 30 (o_cstr 198 0) := ok_cstr (i := 505) (by decide +kernel) rfl nk_3 wd_663 wd_579 wd_580 wd_72 wd_581
theorem k_201_33 : OkOp mt Ev 201 33 (o_bad) := ok_bad
theorem k_201_36 : OkOp mt Ev 201 36 (o_ret 0) := ok_reti (ty := .int) (by decide +kernel) rfl (Or.inl ⟨rfl, rfl⟩)
theorem kt_201 : ∀ pc o, cd_J0_indexOf_7cf53 Ev pc = some o → OkOp mt Ev 201 pc o ∧ Gw o := (tN_ok (tN_ok (tN_ok (tN_ok (tL_ok ⟨k_201_0, gw_aload⟩) (tL_ok ⟨k_201_1, gw_cstr⟩)) (tN_ok (tL_ok ⟨k_201_4, gw_if1⟩) (tL_ok ⟨k_201_7, gw_aload⟩))) (tN_ok (tN_ok (tL_ok ⟨k_201_8, gw_gets⟩) (tL_ok ⟨k_201_11, gw_iload⟩)) (tN_ok (tL_ok ⟨k_201_12, gw_iload⟩) (tN_ok (tL_ok ⟨k_201_13, gw_aload⟩) (tL_ok ⟨k_201_14, gw_cstr⟩))))) (tN_ok (tN_ok (tN_ok (tL_ok ⟨k_201_17, gw_cs⟩) (tL_ok ⟨k_201_20, gw_goto⟩)) (tN_ok (tL_ok ⟨k_201_23, gw_aload⟩) (tN_ok (tL_ok ⟨k_201_24, gw_gets⟩) (tL_ok ⟨k_201_27, gw_iload⟩)))) (tN_ok (tN_ok (tL_ok ⟨k_201_28, gw_iload⟩) (tL_ok ⟨k_201_29, gw_aload⟩)) (tN_ok (tL_ok ⟨k_201_30, gw_cstr⟩) (tN_ok (tL_ok ⟨k_201_33, gw_bad⟩) (tL_ok ⟨k_201_36, gw_ret⟩))))))
theorem k_202_0 : OkOp mt Ev 202 0 (o_push (.int 1) 3) := ok_stat (i := 38) (K := "java/lang/String") (n := "COMPACT_STRINGS") (d := "Z") (by decide +kernel) (by simp [stL, RX11, RJ0]) wd_586
theorem k_202_3 : OkOp mt Ev 202 3 (o_if1 (fun x => decide (x = 0)) 13) := ok_if_eq (off := 10) (by decide +kernel) (by decide +kernel)
theorem k_202_6 : OkOp mt Ev 202 6 (o_aload 0 1) := ok_aload_n (k := 0) (by decide +kernel) rfl
theorem k_202_7 : OkOp mt Ev 202 7 (o_gets 1) := ok_gets (i := 15) (nm := "coder") (ds := "B") (by decide +kernel) (by decide) wd_1368
theorem k_202_10 : OkOp mt Ev 202 10 (o_goto 14) := ok_goto (off := 4) (by decide +kernel) (by decide +kernel)
theorem k_202_13 : OkOp mt Ev 202 13 (o_push (.int (1)) 1) := ok_iconst (n := 1) (by decide +kernel) (by decide +kernel)
theorem k_202_14 : OkOp mt Ev 202 14 (o_ret 5) := ok_reti (ty := .byte) (by decide +kernel) rfl (Or.inr (Or.inr (Or.inr ⟨rfl, rfl⟩)))
theorem kt_202 : ∀ pc o, cd_J0_coder_7d493 Ev pc = some o → OkOp mt Ev 202 pc o ∧ Gw o := (tN_ok (tN_ok (tL_ok ⟨k_202_0, gw_push⟩) (tN_ok (tL_ok ⟨k_202_3, gw_if1⟩) (tL_ok ⟨k_202_6, gw_aload⟩))) (tN_ok (tN_ok (tL_ok ⟨k_202_7, gw_gets⟩) (tL_ok ⟨k_202_10, gw_goto⟩)) (tN_ok (tL_ok ⟨k_202_13, gw_push⟩) (tL_ok ⟨k_202_14, gw_ret⟩))))
theorem k_203_0 : OkOp mt Ev 203 0 (o_push (.int 1) 3) := ok_stat (i := 38) (K := "java/lang/String") (n := "COMPACT_STRINGS") (d := "Z") (by decide +kernel) (by simp [stL, RX11, RJ0]) wd_586
theorem k_203_3 : OkOp mt Ev 203 3 (o_if1 (fun x => decide (x = 0)) 17) := ok_if_eq (off := 14) (by decide +kernel) (by decide +kernel)
theorem k_203_6 : OkOp mt Ev 203 6 (o_aload 0 1) := ok_aload_n (k := 0) (by decide +kernel) rfl
theorem k_203_7 : OkOp mt Ev 203 7 (o_gets 1) := ok_gets (i := 15) (nm := "coder") (ds := "B") (by decide +kernel) (by decide) wd_1368
theorem k_203_10 : OkOp mt Ev 203 10 (o_if1 (fun x => decide (¬ x = 0)) 17) := ok_if_ne (off := 7) (by decide +kernel) (by decide +kernel)
theorem k_203_13 : OkOp mt Ev 203 13 (o_push (.int (1)) 1) := ok_iconst (n := 1) (by decide +kernel) (by decide +kernel)
theorem k_203_14 : OkOp mt Ev 203 14 (o_goto 18) := ok_goto (off := 4) (by decide +kernel) (by decide +kernel)
theorem k_203_17 : OkOp mt Ev 203 17 (o_push (.int (0)) 1) := ok_iconst (n := 0) (by decide +kernel) (by decide +kernel)
theorem k_203_18 : OkOp mt Ev 203 18 (o_ret 1) := ok_reti (ty := .boolean) (by decide +kernel) rfl (Or.inr (Or.inl ⟨rfl, rfl⟩))
theorem kt_203 : ∀ pc o, cd_J0_isLatin1_aae02 Ev pc = some o → OkOp mt Ev 203 pc o ∧ Gw o := (tN_ok (tN_ok (tN_ok (tL_ok ⟨k_203_0, gw_push⟩) (tL_ok ⟨k_203_3, gw_if1⟩)) (tN_ok (tL_ok ⟨k_203_6, gw_aload⟩) (tL_ok ⟨k_203_7, gw_gets⟩))) (tN_ok (tN_ok (tL_ok ⟨k_203_10, gw_if1⟩) (tL_ok ⟨k_203_13, gw_push⟩)) (tN_ok (tL_ok ⟨k_203_14, gw_goto⟩) (tN_ok (tL_ok ⟨k_203_17, gw_push⟩) (tL_ok ⟨k_203_18, gw_ret⟩)))))
theorem k_204_0 : OkOp mt Ev 204 0 (o_iload 0 1) := ok_iload_n (k := 0) (by decide +kernel) rfl
theorem k_204_1 : OkOp mt Ev 204 1 (o_iload 1 1) := ok_iload_n (k := 1) (by decide +kernel) rfl
theorem k_204_2 : OkOp mt Ev 204 2 (o_push (Ev 6) 3) := ok_stat (i := 1053) (K := "jdk/internal/util/Preconditions") (n := "SIOOBE_FORMATTER") (d := "Ljava/util/function/BiFunction;") (by decide +kernel) (by simp [stL, RX11, RJ0]) wd_602
theorem k_204_5 : OkOp mt Ev 204 5 (o_cs 209 3) := ok_cs (i := 1059) (by decide +kernel) wd_604 wd_605 wd_74 wd_606 nk_45
theorem k_204_8 : OkOp mt Ev 204 8 (o_pop) := ok_pop (by decide +kernel)
theorem k_204_9 : OkOp mt Ev 204 9 (o_retv) := ok_retv (by decide +kernel) rfl
theorem kt_204 : ∀ pc o, cd_J0_checkIndex_df160 Ev pc = some o → OkOp mt Ev 204 pc o ∧ Gw o := (tN_ok (tN_ok (tL_ok ⟨k_204_0, gw_iload⟩) (tN_ok (tL_ok ⟨k_204_1, gw_iload⟩) (tL_ok ⟨k_204_2, gw_push⟩))) (tN_ok (tL_ok ⟨k_204_5, gw_cs⟩) (tN_ok (tL_ok ⟨k_204_8, gw_pop⟩) (tL_ok ⟨k_204_9, gw_retv⟩))))
theorem k_205_0 : OkOp mt Ev 205 0 (o_iload 1 1) := ok_iload_n (k := 1) (by decide +kernel) rfl
theorem k_205_1 : OkOp mt Ev 205 1 (o_aload 0 1) := ok_aload_n (k := 0) (by decide +kernel) rfl
theorem k_205_2 : OkOp mt Ev 205 2 (o_alen) := ok_alen (by decide +kernel)
theorem k_205_3 : OkOp mt Ev 205 3 (o_cs 204 2) := ok_cs (i := 9) (by decide +kernel) wd_599 wd_600 wd_72 wd_601 nk_46
theorem k_205_6 : OkOp mt Ev 205 6 (o_aload 0 1) := ok_aload_n (k := 0) (by decide +kernel) rfl
theorem k_205_7 : OkOp mt Ev 205 7 (o_iload 1 1) := ok_iload_n (k := 1) (by decide +kernel) rfl
theorem k_205_8 : OkOp mt Ev 205 8 (o_iald 0) := ok_bald (by decide +kernel)
theorem k_205_9 : OkOp mt Ev 205 9 (o_push (.int (255)) 3) := ok_sipush (n := 255) (by decide +kernel) (by decide +kernel)
theorem k_205_12 : OkOp mt Ev 205 12 (o_ib (fun x y => x &&& y)) := ok_iand (by decide +kernel)
theorem k_205_13 : OkOp mt Ev 205 13 (o_iu (fun x => (x.toUInt32 % 65536).toInt32)) := ok_i2c (by decide +kernel)
theorem k_205_14 : OkOp mt Ev 205 14 (o_ret 4) := ok_reti (ty := .char) (by decide +kernel) rfl (Or.inr (Or.inr (Or.inl ⟨rfl, rfl⟩)))
theorem kt_205 : ∀ pc o, cd_J1_charAt_3b067 Ev pc = some o → OkOp mt Ev 205 pc o ∧ Gw o := (tN_ok (tN_ok (tN_ok (tL_ok ⟨k_205_0, gw_iload⟩) (tL_ok ⟨k_205_1, gw_aload⟩)) (tN_ok (tL_ok ⟨k_205_2, gw_alen⟩) (tN_ok (tL_ok ⟨k_205_3, gw_cs⟩) (tL_ok ⟨k_205_6, gw_aload⟩)))) (tN_ok (tN_ok (tL_ok ⟨k_205_7, gw_iload⟩) (tN_ok (tL_ok ⟨k_205_8, gw_iald⟩) (tL_ok ⟨k_205_9, gw_push⟩))) (tN_ok (tL_ok ⟨k_205_12, gw_ib⟩) (tN_ok (tL_ok ⟨k_205_13, gw_iu⟩) (tL_ok ⟨k_205_14, gw_ret⟩)))))
theorem k_206_0 : OkOp mt Ev 206 0 (o_iload 0 1) := ok_iload_n (k := 0) (by decide +kernel) rfl
theorem k_206_1 : OkOp mt Ev 206 1 (o_if1 (fun x => decide (x < 0)) 15) := ok_if_lt (off := 14) (by decide +kernel) (by decide +kernel)
theorem k_206_4 : OkOp mt Ev 206 4 (o_iload 0 1) := ok_iload_n (k := 0) (by decide +kernel) rfl
theorem k_206_5 : OkOp mt Ev 206 5 (o_push (.int (255)) 3) := ok_sipush (n := 255) (by decide +kernel) (by decide +kernel)
theorem k_206_8 : OkOp mt Ev 206 8 (o_if2 (fun x y => decide (y < x)) 15) := ok_icmp_gt (off := 7) (by decide +kernel) (by decide +kernel)
theorem k_206_11 : OkOp mt Ev 206 11 (o_push (.int (1)) 1) := ok_iconst (n := 1) (by decide +kernel) (by decide +kernel)
theorem k_206_12 : OkOp mt Ev 206 12 (o_goto 16) := ok_goto (off := 4) (by decide +kernel) (by decide +kernel)
theorem k_206_15 : OkOp mt Ev 206 15 (o_push (.int (0)) 1) := ok_iconst (n := 0) (by decide +kernel) (by decide +kernel)
theorem k_206_16 : OkOp mt Ev 206 16 (o_ret 1) := ok_reti (ty := .boolean) (by decide +kernel) rfl (Or.inr (Or.inl ⟨rfl, rfl⟩))
theorem kt_206 : ∀ pc o, cd_J1_canEncode_9a6ad Ev pc = some o → OkOp mt Ev 206 pc o ∧ Gw o := (tN_ok (tN_ok (tN_ok (tL_ok ⟨k_206_0, gw_iload⟩) (tL_ok ⟨k_206_1, gw_if1⟩)) (tN_ok (tL_ok ⟨k_206_4, gw_iload⟩) (tL_ok ⟨k_206_5, gw_push⟩))) (tN_ok (tN_ok (tL_ok ⟨k_206_8, gw_if2⟩) (tL_ok ⟨k_206_11, gw_push⟩)) (tN_ok (tL_ok ⟨k_206_12, gw_goto⟩) (tN_ok (tL_ok ⟨k_206_15, gw_push⟩) (tL_ok ⟨k_206_16, gw_ret⟩)))))
theorem k_207_0 : OkOp mt Ev 207 0 (o_iload 1 1) := ok_iload_n (k := 1) (by decide +kernel) rfl
theorem k_207_1 : OkOp mt Ev 207 1 (o_cs 206 1) := ok_cs (i := 88) (by decide +kernel) wd_667 wd_668 wd_73 wd_669 nk_47
theorem k_207_4 : OkOp mt Ev 207 4 (o_if1 (fun x => decide (¬ x = 0)) 9) := ok_if_ne (off := 5) (by decide +kernel) (by decide +kernel)
theorem k_207_7 : OkOp mt Ev 207 7 (o_push (.int (-1)) 1) := ok_iconst (n := -1) (by decide +kernel) (by decide +kernel)
theorem k_207_8 : OkOp mt Ev 207 8 (o_ret 0) := ok_reti (ty := .int) (by decide +kernel) rfl (Or.inl ⟨rfl, rfl⟩)
theorem k_207_9 : OkOp mt Ev 207 9 (o_iload 2 1) := ok_iload_n (k := 2) (by decide +kernel) rfl
theorem k_207_10 : OkOp mt Ev 207 10 (o_push (.int (0)) 1) := ok_iconst (n := 0) (by decide +kernel) (by decide +kernel)
theorem k_207_11 : OkOp mt Ev 207 11 (o_cs 196 2) := ok_cs (i := 92) (by decide +kernel) wd_670 wd_100 wd_59 wd_101 nk_9
theorem k_207_14 : OkOp mt Ev 207 14 (o_istore 2 1) := ok_istore_n (k := 2) (by decide +kernel) rfl
theorem k_207_15 : OkOp mt Ev 207 15 (o_iload 3 1) := ok_iload_n (k := 3) (by decide +kernel) rfl
theorem k_207_16 : OkOp mt Ev 207 16 (o_aload 0 1) := ok_aload_n (k := 0) (by decide +kernel) rfl
theorem k_207_17 : OkOp mt Ev 207 17 (o_alen) := ok_alen (by decide +kernel)
theorem k_207_18 : OkOp mt Ev 207 18 (o_cs 197 2) := ok_cs (i := 38) (by decide +kernel) wd_671 wd_432 wd_59 wd_433 nk_6
theorem k_207_21 : OkOp mt Ev 207 21 (o_istore 3 1) := ok_istore_n (k := 3) (by decide +kernel) rfl
theorem k_207_22 : OkOp mt Ev 207 22 (o_iload 2 1) := ok_iload_n (k := 2) (by decide +kernel) rfl
theorem k_207_23 : OkOp mt Ev 207 23 (o_iload 3 1) := ok_iload_n (k := 3) (by decide +kernel) rfl
theorem k_207_24 : OkOp mt Ev 207 24 (o_if2 (fun x y => decide (x < y)) 29) := ok_icmp_lt (off := 5) (by decide +kernel) (by decide +kernel)
theorem k_207_27 : OkOp mt Ev 207 27 (o_push (.int (-1)) 1) := ok_iconst (n := -1) (by decide +kernel) (by decide +kernel)
theorem k_207_28 : OkOp mt Ev 207 28 (o_ret 0) := ok_reti (ty := .int) (by decide +kernel) rfl (Or.inl ⟨rfl, rfl⟩)
theorem k_207_29 : OkOp mt Ev 207 29 (o_aload 0 1) := ok_aload_n (k := 0) (by decide +kernel) rfl
theorem k_207_30 : OkOp mt Ev 207 30 (o_iload 1 1) := ok_iload_n (k := 1) (by decide +kernel) rfl
theorem k_207_31 : OkOp mt Ev 207 31 (o_iload 2 1) := ok_iload_n (k := 2) (by decide +kernel) rfl
theorem k_207_32 : OkOp mt Ev 207 32 (o_iload 3 1) := ok_iload_n (k := 3) (by decide +kernel) rfl
theorem k_207_33 : OkOp mt Ev 207 33 (o_cs 208 4) := ok_cs (i := 95) (by decide +kernel) wd_672 wd_673 wd_73 wd_674 nk_48
theorem k_207_36 : OkOp mt Ev 207 36 (o_ret 0) := ok_reti (ty := .int) (by decide +kernel) rfl (Or.inl ⟨rfl, rfl⟩)
theorem kt_207 : ∀ pc o, cd_J1_indexOf_4cfef Ev pc = some o → OkOp mt Ev 207 pc o ∧ Gw o := (tN_ok (tN_ok (tN_ok (tN_ok (tL_ok ⟨k_207_0, gw_iload⟩) (tN_ok (tL_ok ⟨k_207_1, gw_cs⟩) (tL_ok ⟨k_207_4, gw_if1⟩))) (tN_ok (tL_ok ⟨k_207_7, gw_push⟩) (tN_ok (tL_ok ⟨k_207_8, gw_ret⟩) (tL_ok ⟨k_207_9, gw_iload⟩)))) (tN_ok (tN_ok (tL_ok ⟨k_207_10, gw_push⟩) (tN_ok (tL_ok ⟨k_207_11, gw_cs⟩) (tL_ok ⟨k_207_14, gw_istore⟩))) (tN_ok (tL_ok ⟨k_207_15, gw_iload⟩) (tN_ok (tL_ok ⟨k_207_16, gw_aload⟩) (tL_ok ⟨k_207_17, gw_alen⟩))))) (tN_ok (tN_ok (tN_ok (tL_ok ⟨k_207_18, gw_cs⟩) (tN_ok (tL_ok ⟨k_207_21, gw_istore⟩) (tL_ok ⟨k_207_22, gw_iload⟩))) (tN_ok (tL_ok ⟨k_207_23, gw_iload⟩) (tN_ok (tL_ok ⟨k_207_24, gw_if2⟩) (tL_ok ⟨k_207_27, gw_push⟩)))) (tN_ok (tN_ok (tL_ok ⟨k_207_28, gw_ret⟩) (tN_ok (tL_ok ⟨k_207_29, gw_aload⟩) (tL_ok ⟨k_207_30, gw_iload⟩))) (tN_ok (tN_ok (tL_ok ⟨k_207_31, gw_iload⟩) (tL_ok ⟨k_207_32, gw_iload⟩)) (tN_ok (tL_ok ⟨k_207_33, gw_cs⟩) (tL_ok ⟨k_207_36, gw_ret⟩))))))
theorem k_208_0 : OkOp mt Ev 208 0 (o_iload 1 1) := ok_iload_n (k := 1) (by decide +kernel) rfl
theorem k_208_1 : OkOp mt Ev 208 1 (o_iu (fun x => x.toInt8.toInt32)) := ok_i2b (by decide +kernel)
theorem k_208_2 : OkOp mt Ev 208 2 (o_istore 4 2) := ok_istore (by decide +kernel)
theorem k_208_4 : OkOp mt Ev 208 4 (o_iload 2 1) := ok_iload_n (k := 2) (by decide +kernel) rfl
theorem k_208_5 : OkOp mt Ev 208 5 (o_istore 5 2) := ok_istore (by decide +kernel)
theorem k_208_7 : OkOp mt Ev 208 7 (o_iload 5 2) := ok_iload (by decide +kernel)
theorem k_208_9 : OkOp mt Ev 208 9 (o_iload 3 1) := ok_iload_n (k := 3) (by decide +kernel) rfl
theorem k_208_10 : OkOp mt Ev 208 10 (o_if2 (fun x y => decide (y ≤ x)) 31) := ok_icmp_ge (off := 21) (by decide +kernel) (by decide +kernel)
theorem k_208_13 : OkOp mt Ev 208 13 (o_aload 0 1) := ok_aload_n (k := 0) (by decide +kernel) rfl
theorem k_208_14 : OkOp mt Ev 208 14 (o_iload 5 2) := ok_iload (by decide +kernel)
theorem k_208_16 : OkOp mt Ev 208 16 (o_iald 0) := ok_bald (by decide +kernel)
theorem k_208_17 : OkOp mt Ev 208 17 (o_iload 4 2) := ok_iload (by decide +kernel)
theorem k_208_19 : OkOp mt Ev 208 19 (o_if2 (fun x y => decide (¬ x = y)) 25) := ok_icmp_ne (off := 6) (by decide +kernel) (by decide +kernel)
theorem k_208_22 : OkOp mt Ev 208 22 (o_iload 5 2) := ok_iload (by decide +kernel)
theorem k_208_24 : OkOp mt Ev 208 24 (o_ret 0) := ok_reti (ty := .int) (by decide +kernel) rfl (Or.inl ⟨rfl, rfl⟩)
theorem k_208_25 : OkOp mt Ev 208 25 (o_iinc 5 (1)) := ok_iinc (n := 1) (by decide +kernel) (by decide +kernel)
theorem k_208_28 : OkOp mt Ev 208 28 (o_goto 7) := ok_goto (off := -21) (by decide +kernel) (by decide +kernel)
theorem k_208_31 : OkOp mt Ev 208 31 (o_push (.int (-1)) 1) := ok_iconst (n := -1) (by decide +kernel) (by decide +kernel)
theorem k_208_32 : OkOp mt Ev 208 32 (o_ret 0) := ok_reti (ty := .int) (by decide +kernel) rfl (Or.inl ⟨rfl, rfl⟩)
theorem kt_208 : ∀ pc o, cd_J1_indexOfChar_4cfef Ev pc = some o → OkOp mt Ev 208 pc o ∧ Gw o := (tN_ok (tN_ok (tN_ok (tN_ok (tL_ok ⟨k_208_0, gw_iload⟩) (tL_ok ⟨k_208_1, gw_iu⟩)) (tN_ok (tL_ok ⟨k_208_2, gw_istore⟩) (tL_ok ⟨k_208_4, gw_iload⟩))) (tN_ok (tN_ok (tL_ok ⟨k_208_5, gw_istore⟩) (tL_ok ⟨k_208_7, gw_iload⟩)) (tN_ok (tL_ok ⟨k_208_9, gw_iload⟩) (tN_ok (tL_ok ⟨k_208_10, gw_if2⟩) (tL_ok ⟨k_208_13, gw_aload⟩))))) (tN_ok (tN_ok (tN_ok (tL_ok ⟨k_208_14, gw_iload⟩) (tL_ok ⟨k_208_16, gw_iald⟩)) (tN_ok (tL_ok ⟨k_208_17, gw_iload⟩) (tN_ok (tL_ok ⟨k_208_19, gw_if2⟩) (tL_ok ⟨k_208_22, gw_iload⟩)))) (tN_ok (tN_ok (tL_ok ⟨k_208_24, gw_ret⟩) (tL_ok ⟨k_208_25, gw_iinc⟩)) (tN_ok (tL_ok ⟨k_208_28, gw_goto⟩) (tN_ok (tL_ok ⟨k_208_31, gw_push⟩) (tL_ok ⟨k_208_32, gw_ret⟩))))))
theorem k_209_0 : OkOp mt Ev 209 0 (o_iload 0 1) := ok_iload_n (k := 0) (by decide +kernel) rfl
theorem k_209_1 : OkOp mt Ev 209 1 (o_if1 (fun x => decide (x < 0)) 9) := ok_if_lt (off := 8) (by decide +kernel) (by decide +kernel)
theorem k_209_4 : OkOp mt Ev 209 4 (o_iload 0 1) := ok_iload_n (k := 0) (by decide +kernel) rfl
theorem k_209_5 : OkOp mt Ev 209 5 (o_iload 1 1) := ok_iload_n (k := 1) (by decide +kernel) rfl
theorem k_209_6 : OkOp mt Ev 209 6 (o_if2 (fun x y => decide (x < y)) 16) := ok_icmp_lt (off := 10) (by decide +kernel) (by decide +kernel)
theorem k_209_9 : OkOp mt Ev 209 9 (o_aload 2 1) := ok_aload_n (k := 2) (by decide +kernel) rfl
theorem k_209_10 : OkOp mt Ev 209 10 (o_iload 0 1) := ok_iload_n (k := 0) (by decide +kernel) rfl
theorem k_209_11 : OkOp mt Ev 209 11 (o_iload 1 1) := ok_iload_n (k := 1) (by decide +kernel) rfl
theorem k_209_12 : OkOp mt Ev 209 12 (o_bad) := ok_bad
theorem k_209_15 : OkOp mt Ev 209 15 (o_bad) := ok_bad
theorem k_209_16 : OkOp mt Ev 209 16 (o_iload 0 1) := ok_iload_n (k := 0) (by decide +kernel) rfl
theorem k_209_17 : OkOp mt Ev 209 17 (o_ret 0) := ok_reti (ty := .int) (by decide +kernel) rfl (Or.inl ⟨rfl, rfl⟩)
theorem kt_209 : ∀ pc o, cd_J3_checkIndex_8e157 Ev pc = some o → OkOp mt Ev 209 pc o ∧ Gw o := (tN_ok (tN_ok (tN_ok (tL_ok ⟨k_209_0, gw_iload⟩) (tN_ok (tL_ok ⟨k_209_1, gw_if1⟩) (tL_ok ⟨k_209_4, gw_iload⟩))) (tN_ok (tL_ok ⟨k_209_5, gw_iload⟩) (tN_ok (tL_ok ⟨k_209_6, gw_if2⟩) (tL_ok ⟨k_209_9, gw_aload⟩)))) (tN_ok (tN_ok (tL_ok ⟨k_209_10, gw_iload⟩) (tN_ok (tL_ok ⟨k_209_11, gw_iload⟩) (tL_ok ⟨k_209_12, gw_bad⟩))) (tN_ok (tL_ok ⟨k_209_15, gw_bad⟩) (tN_ok (tL_ok ⟨k_209_16, gw_iload⟩) (tL_ok ⟨k_209_17, gw_ret⟩)))))
end
