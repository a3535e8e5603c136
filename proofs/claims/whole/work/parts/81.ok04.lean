/-! Operations held against instructions, one by one. -/
section
variable {Ev : Nat → Value}
theorem k_151_0 : OkOp mt Ev 151 0 (o_aload 0 1) := ok_aload_n (k := 0) (by decide +kernel) rfl
theorem k_151_1 : OkOp mt Ev 151 1 (o_push (.int (0)) 1) := ok_iconst (n := 0) (by decide +kernel) (by decide +kernel)
theorem k_151_2 : OkOp mt Ev 151 2 (o_putf 11 [12] 0) := ok_putf (i := 134) (rf := "BridgeSentencesModel") (nm := "at") (ds := "I") (ty := .int) (fin := false) (by decide +kernel) fc_70 wd_996 (tc_12) ff_72 (by decide) (by decide +kernel) ov_int
theorem k_151_5 : OkOp mt Ev 151 5 (o_aload 0 1) := ok_aload_n (k := 0) (by decide +kernel) rfl
theorem k_151_6 : OkOp mt Ev 151 6 (o_push (.int (1)) 1) := ok_iconst (n := 1) (by decide +kernel) (by decide +kernel)
theorem k_151_7 : OkOp mt Ev 151 7 (o_putf 12 [12] 1) := ok_putf (i := 131) (rf := "BridgeSentencesModel") (nm := "well") (ds := "Z") (ty := .boolean) (fin := false) (by decide +kernel) fc_69 wd_997 (tc_12) ff_73 (by decide) (by decide +kernel) ov_bool
theorem k_151_10 : OkOp mt Ev 151 10 (o_aload 0 1) := ok_aload_n (k := 0) (by decide +kernel) rfl
theorem k_151_11 : OkOp mt Ev 151 11 (o_aload 0 1) := ok_aload_n (k := 0) (by decide +kernel) rfl
theorem k_151_12 : OkOp mt Ev 151 12 (o_getf 16 [12]) := ok_getf (i := 37) (rf := "BridgeSentencesModel") (nm := "names") (ds := "[I") (by decide +kernel) fc_54 wd_1001
theorem k_151_15 : OkOp mt Ev 151 15 (o_push (.int (4)) 1) := ok_iconst (n := 4) (by decide +kernel) (by decide +kernel)
theorem k_151_16 : OkOp mt Ev 151 16 (o_iald 2) := ok_iald (by decide +kernel)
theorem k_151_17 : OkOp mt Ev 151 17 (o_putf 14 [12] 0) := ok_putf (i := 120) (rf := "BridgeSentencesModel") (nm := "sum") (ds := "I") (ty := .int) (fin := false) (by decide +kernel) fc_67 wd_999 (tc_12) ff_76 (by decide) (by decide +kernel) ov_int
theorem k_151_20 : OkOp mt Ev 151 20 (o_aload 0 1) := ok_aload_n (k := 0) (by decide +kernel) rfl
theorem k_151_21 : OkOp mt Ev 151 21 (o_push (.int (0)) 1) := ok_iconst (n := 0) (by decide +kernel) (by decide +kernel)
theorem k_151_22 : OkOp mt Ev 151 22 (o_putf 15 [12] 0) := ok_putf (i := 169) (rf := "BridgeSentencesModel") (nm := "free") (ds := "I") (ty := .int) (fin := false) (by decide +kernel) fc_73 wd_1000 (tc_12) ff_75 (by decide) (by decide +kernel) ov_int
theorem k_151_25 : OkOp mt Ev 151 25 (o_push (.int (1)) 1) := ok_iconst (n := 1) (by decide +kernel) (by decide +kernel)
theorem k_151_26 : OkOp mt Ev 151 26 (o_istore 1 1) := ok_istore_n (k := 1) (by decide +kernel) rfl
theorem k_151_27 : OkOp mt Ev 151 27 (o_aload 0 1) := ok_aload_n (k := 0) (by decide +kernel) rfl
theorem k_151_28 : OkOp mt Ev 151 28 (o_cv [(12, 150)] 0) := ok_cv (i := 172) (by decide +kernel) vc_157
theorem k_151_31 : OkOp mt Ev 151 31 (o_iload 1 1) := ok_iload_n (k := 1) (by decide +kernel) rfl
theorem k_151_32 : OkOp mt Ev 151 32 (o_push (.int (10)) 2) := ok_bipush (n := 10) (by decide +kernel) (by decide +kernel)
theorem k_151_34 : OkOp mt Ev 151 34 (o_if2 (fun x y => decide (y ≤ x)) 66) := ok_icmp_ge (off := 32) (by decide +kernel) (by decide +kernel)
theorem k_151_37 : OkOp mt Ev 151 37 (o_aload 0 1) := ok_aload_n (k := 0) (by decide +kernel) rfl
theorem k_151_38 : OkOp mt Ev 151 38 (o_push (.int (59)) 2) := ok_bipush (n := 59) (by decide +kernel) (by decide +kernel)
theorem k_151_40 : OkOp mt Ev 151 40 (o_cv [(12, 142)] 1) := ok_cv (i := 140) (by decide +kernel) vc_149
theorem k_151_43 : OkOp mt Ev 151 43 (o_if1 (fun x => decide (x = 0)) 66) := ok_if_eq (off := 23) (by decide +kernel) (by decide +kernel)
theorem k_151_46 : OkOp mt Ev 151 46 (o_aload 0 1) := ok_aload_n (k := 0) (by decide +kernel) rfl
theorem k_151_47 : OkOp mt Ev 151 47 (o_dup) := ok_dup (by decide +kernel)
theorem k_151_48 : OkOp mt Ev 151 48 (o_getf 11 [12]) := ok_getf (i := 134) (rf := "BridgeSentencesModel") (nm := "at") (ds := "I") (by decide +kernel) fc_70 wd_996
theorem k_151_51 : OkOp mt Ev 151 51 (o_push (.int (1)) 1) := ok_iconst (n := 1) (by decide +kernel) (by decide +kernel)
theorem k_151_52 : OkOp mt Ev 151 52 (o_ib (fun x y => x + y)) := ok_iadd (by decide +kernel)
theorem k_151_53 : OkOp mt Ev 151 53 (o_putf 11 [12] 0) := ok_putf (i := 134) (rf := "BridgeSentencesModel") (nm := "at") (ds := "I") (ty := .int) (fin := false) (by decide +kernel) fc_70 wd_996 (tc_12) ff_72 (by decide) (by decide +kernel) ov_int
theorem k_151_56 : OkOp mt Ev 151 56 (o_aload 0 1) := ok_aload_n (k := 0) (by decide +kernel) rfl
theorem k_151_57 : OkOp mt Ev 151 57 (o_cv [(12, 150)] 0) := ok_cv (i := 172) (by decide +kernel) vc_157
theorem k_151_60 : OkOp mt Ev 151 60 (o_iinc 1 (1)) := ok_iinc (n := 1) (by decide +kernel) (by decide +kernel)
theorem k_151_63 : OkOp mt Ev 151 63 (o_goto 31) := ok_goto (off := -32) (by decide +kernel) (by decide +kernel)
theorem k_151_66 : OkOp mt Ev 151 66 (o_aload 0 1) := ok_aload_n (k := 0) (by decide +kernel) rfl
theorem k_151_67 : OkOp mt Ev 151 67 (o_getf 12 [12]) := ok_getf (i := 131) (rf := "BridgeSentencesModel") (nm := "well") (ds := "Z") (by decide +kernel) fc_69 wd_997
theorem k_151_70 : OkOp mt Ev 151 70 (o_if1 (fun x => decide (x = 0)) 88) := ok_if_eq (off := 18) (by decide +kernel) (by decide +kernel)
theorem k_151_73 : OkOp mt Ev 151 73 (o_aload 0 1) := ok_aload_n (k := 0) (by decide +kernel) rfl
theorem k_151_74 : OkOp mt Ev 151 74 (o_getf 11 [12]) := ok_getf (i := 134) (rf := "BridgeSentencesModel") (nm := "at") (ds := "I") (by decide +kernel) fc_70 wd_996
theorem k_151_77 : OkOp mt Ev 151 77 (o_aload 0 1) := ok_aload_n (k := 0) (by decide +kernel) rfl
theorem k_151_78 : OkOp mt Ev 151 78 (o_getf 10 [12]) := ok_getf (i := 137) (rf := "BridgeSentencesModel") (nm := "size") (ds := "I") (by decide +kernel) fc_71 wd_995
theorem k_151_81 : OkOp mt Ev 151 81 (o_if2 (fun x y => decide (¬ x = y)) 88) := ok_icmp_ne (off := 7) (by decide +kernel) (by decide +kernel)
theorem k_151_84 : OkOp mt Ev 151 84 (o_push (.int (1)) 1) := ok_iconst (n := 1) (by decide +kernel) (by decide +kernel)
theorem k_151_85 : OkOp mt Ev 151 85 (o_goto 89) := ok_goto (off := 4) (by decide +kernel) (by decide +kernel)
theorem k_151_88 : OkOp mt Ev 151 88 (o_push (.int (0)) 1) := ok_iconst (n := 0) (by decide +kernel) (by decide +kernel)
theorem k_151_89 : OkOp mt Ev 151 89 (o_ret 1) := ok_reti (ty := .boolean) (by decide +kernel) rfl (Or.inr (Or.inl ⟨rfl, rfl⟩))
theorem kt_151 : ∀ pc o, cd_X12_readAll Ev pc = some o → OkOp mt Ev 151 pc o ∧ Gw o := (tN_ok (tN_ok (tN_ok (tN_ok (tN_ok (tL_ok ⟨k_151_0, gw_aload⟩) (tN_ok (tL_ok ⟨k_151_1, gw_push⟩) (tL_ok ⟨k_151_2, gw_putf⟩))) (tN_ok (tL_ok ⟨k_151_5, gw_aload⟩) (tN_ok (tL_ok ⟨k_151_6, gw_push⟩) (tL_ok ⟨k_151_7, gw_putf⟩)))) (tN_ok (tN_ok (tL_ok ⟨k_151_10, gw_aload⟩) (tN_ok (tL_ok ⟨k_151_11, gw_aload⟩) (tL_ok ⟨k_151_12, gw_getf⟩))) (tN_ok (tL_ok ⟨k_151_15, gw_push⟩) (tN_ok (tL_ok ⟨k_151_16, gw_iald⟩) (tL_ok ⟨k_151_17, gw_putf⟩))))) (tN_ok (tN_ok (tN_ok (tL_ok ⟨k_151_20, gw_aload⟩) (tN_ok (tL_ok ⟨k_151_21, gw_push⟩) (tL_ok ⟨k_151_22, gw_putf⟩))) (tN_ok (tL_ok ⟨k_151_25, gw_push⟩) (tN_ok (tL_ok ⟨k_151_26, gw_istore⟩) (tL_ok ⟨k_151_27, gw_aload⟩)))) (tN_ok (tN_ok (tL_ok ⟨k_151_28, gw_cv⟩) (tN_ok (tL_ok ⟨k_151_31, gw_iload⟩) (tL_ok ⟨k_151_32, gw_push⟩))) (tN_ok (tL_ok ⟨k_151_34, gw_if2⟩) (tN_ok (tL_ok ⟨k_151_37, gw_aload⟩) (tL_ok ⟨k_151_38, gw_push⟩)))))) (tN_ok (tN_ok (tN_ok (tN_ok (tL_ok ⟨k_151_40, gw_cv⟩) (tN_ok (tL_ok ⟨k_151_43, gw_if1⟩) (tL_ok ⟨k_151_46, gw_aload⟩))) (tN_ok (tL_ok ⟨k_151_47, gw_dup⟩) (tN_ok (tL_ok ⟨k_151_48, gw_getf⟩) (tL_ok ⟨k_151_51, gw_push⟩)))) (tN_ok (tN_ok (tL_ok ⟨k_151_52, gw_ib⟩) (tN_ok (tL_ok ⟨k_151_53, gw_putf⟩) (tL_ok ⟨k_151_56, gw_aload⟩))) (tN_ok (tL_ok ⟨k_151_57, gw_cv⟩) (tN_ok (tL_ok ⟨k_151_60, gw_iinc⟩) (tL_ok ⟨k_151_63, gw_goto⟩))))) (tN_ok (tN_ok (tN_ok (tL_ok ⟨k_151_66, gw_aload⟩) (tN_ok (tL_ok ⟨k_151_67, gw_getf⟩) (tL_ok ⟨k_151_70, gw_if1⟩))) (tN_ok (tL_ok ⟨k_151_73, gw_aload⟩) (tN_ok (tL_ok ⟨k_151_74, gw_getf⟩) (tL_ok ⟨k_151_77, gw_aload⟩)))) (tN_ok (tN_ok (tL_ok ⟨k_151_78, gw_getf⟩) (tN_ok (tL_ok ⟨k_151_81, gw_if2⟩) (tL_ok ⟨k_151_84, gw_push⟩))) (tN_ok (tL_ok ⟨k_151_85, gw_goto⟩) (tN_ok (tL_ok ⟨k_151_88, gw_push⟩) (tL_ok ⟨k_151_89, gw_ret⟩)))))))
theorem k_152_0 : OkOp mt Ev 152 0 (o_aload 0 1) := ok_aload_n (k := 0) (by decide +kernel) rfl
theorem k_152_1 : OkOp mt Ev 152 1 (o_getf 16 [12]) := ok_getf (i := 37) (rf := "BridgeSentencesModel") (nm := "names") (ds := "[I") (by decide +kernel) fc_54 wd_1001
theorem k_152_4 : OkOp mt Ev 152 4 (o_push (.int (0)) 1) := ok_iconst (n := 0) (by decide +kernel) (by decide +kernel)
theorem k_152_5 : OkOp mt Ev 152 5 (o_iload 1 1) := ok_iload_n (k := 1) (by decide +kernel) rfl
theorem k_152_6 : OkOp mt Ev 152 6 (o_iast 2 (fun x => x)) := ok_iast (by decide +kernel)
theorem k_152_7 : OkOp mt Ev 152 7 (o_aload 0 1) := ok_aload_n (k := 0) (by decide +kernel) rfl
theorem k_152_8 : OkOp mt Ev 152 8 (o_getf 16 [12]) := ok_getf (i := 37) (rf := "BridgeSentencesModel") (nm := "names") (ds := "[I") (by decide +kernel) fc_54 wd_1001
theorem k_152_11 : OkOp mt Ev 152 11 (o_push (.int (1)) 1) := ok_iconst (n := 1) (by decide +kernel) (by decide +kernel)
theorem k_152_12 : OkOp mt Ev 152 12 (o_aload 0 1) := ok_aload_n (k := 0) (by decide +kernel) rfl
theorem k_152_13 : OkOp mt Ev 152 13 (o_iload 1 1) := ok_iload_n (k := 1) (by decide +kernel) rfl
theorem k_152_14 : OkOp mt Ev 152 14 (o_push (.int (0)) 1) := ok_iconst (n := 0) (by decide +kernel) (by decide +kernel)
theorem k_152_15 : OkOp mt Ev 152 15 (o_cv [(12, 132)] 2) := ok_cv (i := 87) (by decide +kernel) vc_141
theorem k_152_18 : OkOp mt Ev 152 18 (o_iast 2 (fun x => x)) := ok_iast (by decide +kernel)
theorem k_152_19 : OkOp mt Ev 152 19 (o_aload 0 1) := ok_aload_n (k := 0) (by decide +kernel) rfl
theorem k_152_20 : OkOp mt Ev 152 20 (o_getf 16 [12]) := ok_getf (i := 37) (rf := "BridgeSentencesModel") (nm := "names") (ds := "[I") (by decide +kernel) fc_54 wd_1001
theorem k_152_23 : OkOp mt Ev 152 23 (o_push (.int (2)) 1) := ok_iconst (n := 2) (by decide +kernel) (by decide +kernel)
theorem k_152_24 : OkOp mt Ev 152 24 (o_aload 0 1) := ok_aload_n (k := 0) (by decide +kernel) rfl
theorem k_152_25 : OkOp mt Ev 152 25 (o_iload 1 1) := ok_iload_n (k := 1) (by decide +kernel) rfl
theorem k_152_26 : OkOp mt Ev 152 26 (o_push (.int (1)) 1) := ok_iconst (n := 1) (by decide +kernel) (by decide +kernel)
theorem k_152_27 : OkOp mt Ev 152 27 (o_cv [(12, 132)] 2) := ok_cv (i := 87) (by decide +kernel) vc_141
theorem k_152_30 : OkOp mt Ev 152 30 (o_iast 2 (fun x => x)) := ok_iast (by decide +kernel)
theorem k_152_31 : OkOp mt Ev 152 31 (o_aload 0 1) := ok_aload_n (k := 0) (by decide +kernel) rfl
theorem k_152_32 : OkOp mt Ev 152 32 (o_getf 16 [12]) := ok_getf (i := 37) (rf := "BridgeSentencesModel") (nm := "names") (ds := "[I") (by decide +kernel) fc_54 wd_1001
theorem k_152_35 : OkOp mt Ev 152 35 (o_push (.int (3)) 1) := ok_iconst (n := 3) (by decide +kernel) (by decide +kernel)
theorem k_152_36 : OkOp mt Ev 152 36 (o_iload 2 1) := ok_iload_n (k := 2) (by decide +kernel) rfl
theorem k_152_37 : OkOp mt Ev 152 37 (o_iast 2 (fun x => x)) := ok_iast (by decide +kernel)
theorem k_152_38 : OkOp mt Ev 152 38 (o_aload 0 1) := ok_aload_n (k := 0) (by decide +kernel) rfl
theorem k_152_39 : OkOp mt Ev 152 39 (o_getf 16 [12]) := ok_getf (i := 37) (rf := "BridgeSentencesModel") (nm := "names") (ds := "[I") (by decide +kernel) fc_54 wd_1001
theorem k_152_42 : OkOp mt Ev 152 42 (o_push (.int (4)) 1) := ok_iconst (n := 4) (by decide +kernel) (by decide +kernel)
theorem k_152_43 : OkOp mt Ev 152 43 (o_aload 0 1) := ok_aload_n (k := 0) (by decide +kernel) rfl
theorem k_152_44 : OkOp mt Ev 152 44 (o_getf 0 [12]) := ok_getf (i := 15) (rf := "BridgeSentencesModel") (nm := "now") (ds := "[I") (by decide +kernel) fc_47 wd_985
theorem k_152_47 : OkOp mt Ev 152 47 (o_iload 2 1) := ok_iload_n (k := 2) (by decide +kernel) rfl
theorem k_152_48 : OkOp mt Ev 152 48 (o_iald 2) := ok_iald (by decide +kernel)
theorem k_152_49 : OkOp mt Ev 152 49 (o_iast 2 (fun x => x)) := ok_iast (by decide +kernel)
theorem k_152_50 : OkOp mt Ev 152 50 (o_aload 0 1) := ok_aload_n (k := 0) (by decide +kernel) rfl
theorem k_152_51 : OkOp mt Ev 152 51 (o_getf 16 [12]) := ok_getf (i := 37) (rf := "BridgeSentencesModel") (nm := "names") (ds := "[I") (by decide +kernel) fc_54 wd_1001
theorem k_152_54 : OkOp mt Ev 152 54 (o_push (.int (5)) 1) := ok_iconst (n := 5) (by decide +kernel) (by decide +kernel)
theorem k_152_55 : OkOp mt Ev 152 55 (o_aload 0 1) := ok_aload_n (k := 0) (by decide +kernel) rfl
theorem k_152_56 : OkOp mt Ev 152 56 (o_getf 0 [12]) := ok_getf (i := 15) (rf := "BridgeSentencesModel") (nm := "now") (ds := "[I") (by decide +kernel) fc_47 wd_985
theorem k_152_59 : OkOp mt Ev 152 59 (o_push (.int (69)) 2) := ok_bipush (n := 69) (by decide +kernel) (by decide +kernel)
theorem k_152_61 : OkOp mt Ev 152 61 (o_iald 2) := ok_iald (by decide +kernel)
theorem k_152_62 : OkOp mt Ev 152 62 (o_push (.int (10)) 2) := ok_bipush (n := 10) (by decide +kernel) (by decide +kernel)
theorem k_152_64 : OkOp mt Ev 152 64 (o_ibz (fun x y => x - x / y * y)) := ok_irem (by decide +kernel)
theorem k_152_65 : OkOp mt Ev 152 65 (o_iast 2 (fun x => x)) := ok_iast (by decide +kernel)
theorem k_152_66 : OkOp mt Ev 152 66 (o_aload 0 1) := ok_aload_n (k := 0) (by decide +kernel) rfl
theorem k_152_67 : OkOp mt Ev 152 67 (o_getf 0 [12]) := ok_getf (i := 15) (rf := "BridgeSentencesModel") (nm := "now") (ds := "[I") (by decide +kernel) fc_47 wd_985
theorem k_152_70 : OkOp mt Ev 152 70 (o_push (.int (70)) 2) := ok_bipush (n := 70) (by decide +kernel) (by decide +kernel)
theorem k_152_72 : OkOp mt Ev 152 72 (o_iald 2) := ok_iald (by decide +kernel)
theorem k_152_73 : OkOp mt Ev 152 73 (o_if1 (fun x => decide (¬ x = 0)) 92) := ok_if_ne (off := 19) (by decide +kernel) (by decide +kernel)
theorem k_152_76 : OkOp mt Ev 152 76 (o_aload 0 1) := ok_aload_n (k := 0) (by decide +kernel) rfl
theorem k_152_77 : OkOp mt Ev 152 77 (o_aload 0 1) := ok_aload_n (k := 0) (by decide +kernel) rfl
theorem k_152_78 : OkOp mt Ev 152 78 (o_getf 16 [12]) := ok_getf (i := 37) (rf := "BridgeSentencesModel") (nm := "names") (ds := "[I") (by decide +kernel) fc_54 wd_1001
theorem k_152_81 : OkOp mt Ev 152 81 (o_push (.int (4)) 1) := ok_iconst (n := 4) (by decide +kernel) (by decide +kernel)
theorem k_152_82 : OkOp mt Ev 152 82 (o_iald 2) := ok_iald (by decide +kernel)
theorem k_152_83 : OkOp mt Ev 152 83 (o_putf 14 [12] 0) := ok_putf (i := 120) (rf := "BridgeSentencesModel") (nm := "sum") (ds := "I") (ty := .int) (fin := false) (by decide +kernel) fc_67 wd_999 (tc_12) ff_76 (by decide) (by decide +kernel) ov_int
theorem k_152_86 : OkOp mt Ev 152 86 (o_aload 0 1) := ok_aload_n (k := 0) (by decide +kernel) rfl
theorem k_152_87 : OkOp mt Ev 152 87 (o_push (.int (0)) 1) := ok_iconst (n := 0) (by decide +kernel) (by decide +kernel)
theorem k_152_88 : OkOp mt Ev 152 88 (o_putf 15 [12] 0) := ok_putf (i := 169) (rf := "BridgeSentencesModel") (nm := "free") (ds := "I") (ty := .int) (fin := false) (by decide +kernel) fc_73 wd_1000 (tc_12) ff_75 (by decide) (by decide +kernel) ov_int
theorem k_152_91 : OkOp mt Ev 152 91 (o_retv) := ok_retv (by decide +kernel) rfl
theorem k_152_92 : OkOp mt Ev 152 92 (o_aload 0 1) := ok_aload_n (k := 0) (by decide +kernel) rfl
theorem k_152_93 : OkOp mt Ev 152 93 (o_getf 0 [12]) := ok_getf (i := 15) (rf := "BridgeSentencesModel") (nm := "now") (ds := "[I") (by decide +kernel) fc_47 wd_985
theorem k_152_96 : OkOp mt Ev 152 96 (o_push (.int (70)) 2) := ok_bipush (n := 70) (by decide +kernel) (by decide +kernel)
theorem k_152_98 : OkOp mt Ev 152 98 (o_iald 2) := ok_iald (by decide +kernel)
theorem k_152_99 : OkOp mt Ev 152 99 (o_push (.int (1)) 1) := ok_iconst (n := 1) (by decide +kernel) (by decide +kernel)
theorem k_152_100 : OkOp mt Ev 152 100 (o_ib (fun x y => x - y)) := ok_isub (by decide +kernel)
theorem k_152_101 : OkOp mt Ev 152 101 (o_istore 3 1) := ok_istore_n (k := 3) (by decide +kernel) rfl
theorem k_152_102 : OkOp mt Ev 152 102 (o_aload 0 1) := ok_aload_n (k := 0) (by decide +kernel) rfl
theorem k_152_103 : OkOp mt Ev 152 103 (o_aload 0 1) := ok_aload_n (k := 0) (by decide +kernel) rfl
theorem k_152_104 : OkOp mt Ev 152 104 (o_getf 7 [12]) := ok_getf (i := 31) (rf := "BridgeSentencesModel") (nm := "sizes") (ds := "[I") (by decide +kernel) fc_52 wd_992
theorem k_152_107 : OkOp mt Ev 152 107 (o_iload 3 1) := ok_iload_n (k := 3) (by decide +kernel) rfl
theorem k_152_108 : OkOp mt Ev 152 108 (o_iald 2) := ok_iald (by decide +kernel)
theorem k_152_109 : OkOp mt Ev 152 109 (o_putf 10 [12] 0) := ok_putf (i := 137) (rf := "BridgeSentencesModel") (nm := "size") (ds := "I") (ty := .int) (fin := false) (by decide +kernel) fc_71 wd_995 (tc_12) ff_77 (by decide) (by decide +kernel) ov_int
theorem k_152_112 : OkOp mt Ev 152 112 (o_push (.int (0)) 1) := ok_iconst (n := 0) (by decide +kernel) (by decide +kernel)
theorem k_152_113 : OkOp mt Ev 152 113 (o_istore 4 2) := ok_istore (by decide +kernel)
theorem k_152_115 : OkOp mt Ev 152 115 (o_iload 4 2) := ok_iload (by decide +kernel)
theorem k_152_117 : OkOp mt Ev 152 117 (o_aload 0 1) := ok_aload_n (k := 0) (by decide +kernel) rfl
theorem k_152_118 : OkOp mt Ev 152 118 (o_getf 10 [12]) := ok_getf (i := 137) (rf := "BridgeSentencesModel") (nm := "size") (ds := "I") (by decide +kernel) fc_71 wd_995
theorem k_152_121 : OkOp mt Ev 152 121 (o_if2 (fun x y => decide (y ≤ x)) 149) := ok_icmp_ge (off := 28) (by decide +kernel) (by decide +kernel)
theorem k_152_124 : OkOp mt Ev 152 124 (o_aload 0 1) := ok_aload_n (k := 0) (by decide +kernel) rfl
theorem k_152_125 : OkOp mt Ev 152 125 (o_getf 9 [12]) := ok_getf (i := 34) (rf := "BridgeSentencesModel") (nm := "read") (ds := "[I") (by decide +kernel) fc_53 wd_994
theorem k_152_128 : OkOp mt Ev 152 128 (o_iload 4 2) := ok_iload (by decide +kernel)
theorem k_152_130 : OkOp mt Ev 152 130 (o_aload 0 1) := ok_aload_n (k := 0) (by decide +kernel) rfl
theorem k_152_131 : OkOp mt Ev 152 131 (o_getf 6 [12]) := ok_getf (i := 28) (rf := "BridgeSentencesModel") (nm := "rules") (ds := "[I") (by decide +kernel) fc_51 wd_991
theorem k_152_134 : OkOp mt Ev 152 134 (o_push (.int (100)) 2) := ok_bipush (n := 100) (by decide +kernel) (by decide +kernel)
theorem k_152_136 : OkOp mt Ev 152 136 (o_iload 3 1) := ok_iload_n (k := 3) (by decide +kernel) rfl
theorem k_152_137 : OkOp mt Ev 152 137 (o_ib (fun x y => x * y)) := ok_imul (by decide +kernel)
theorem k_152_138 : OkOp mt Ev 152 138 (o_iload 4 2) := ok_iload (by decide +kernel)
theorem k_152_140 : OkOp mt Ev 152 140 (o_ib (fun x y => x + y)) := ok_iadd (by decide +kernel)
theorem k_152_141 : OkOp mt Ev 152 141 (o_iald 2) := ok_iald (by decide +kernel)
theorem k_152_142 : OkOp mt Ev 152 142 (o_iast 2 (fun x => x)) := ok_iast (by decide +kernel)
theorem k_152_143 : OkOp mt Ev 152 143 (o_iinc 4 (1)) := ok_iinc (n := 1) (by decide +kernel) (by decide +kernel)
theorem k_152_146 : OkOp mt Ev 152 146 (o_goto 115) := ok_goto (off := -31) (by decide +kernel) (by decide +kernel)
theorem k_152_149 : OkOp mt Ev 152 149 (o_aload 0 1) := ok_aload_n (k := 0) (by decide +kernel) rfl
theorem k_152_150 : OkOp mt Ev 152 150 (o_cv [(12, 151)] 0) := ok_cv (i := 175) (by decide +kernel) vc_158
theorem k_152_153 : OkOp mt Ev 152 153 (o_pop) := ok_pop (by decide +kernel)
theorem k_152_154 : OkOp mt Ev 152 154 (o_retv) := ok_retv (by decide +kernel) rfl
theorem kt_152 : ∀ pc o, cd_X12_readFor Ev pc = some o → OkOp mt Ev 152 pc o ∧ Gw o := (tN_ok (tN_ok (tN_ok (tN_ok (tN_ok (tN_ok (tL_ok ⟨k_152_0, gw_aload⟩) (tN_ok (tL_ok ⟨k_152_1, gw_getf⟩) (tL_ok ⟨k_152_4, gw_push⟩))) (tN_ok (tL_ok ⟨k_152_5, gw_iload⟩) (tN_ok (tL_ok ⟨k_152_6, gw_iast⟩) (tL_ok ⟨k_152_7, gw_aload⟩)))) (tN_ok (tN_ok (tL_ok ⟨k_152_8, gw_getf⟩) (tN_ok (tL_ok ⟨k_152_11, gw_push⟩) (tL_ok ⟨k_152_12, gw_aload⟩))) (tN_ok (tL_ok ⟨k_152_13, gw_iload⟩) (tN_ok (tL_ok ⟨k_152_14, gw_push⟩) (tL_ok ⟨k_152_15, gw_cv⟩))))) (tN_ok (tN_ok (tN_ok (tL_ok ⟨k_152_18, gw_iast⟩) (tN_ok (tL_ok ⟨k_152_19, gw_aload⟩) (tL_ok ⟨k_152_20, gw_getf⟩))) (tN_ok (tL_ok ⟨k_152_23, gw_push⟩) (tN_ok (tL_ok ⟨k_152_24, gw_aload⟩) (tL_ok ⟨k_152_25, gw_iload⟩)))) (tN_ok (tN_ok (tL_ok ⟨k_152_26, gw_push⟩) (tN_ok (tL_ok ⟨k_152_27, gw_cv⟩) (tL_ok ⟨k_152_30, gw_iast⟩))) (tN_ok (tL_ok ⟨k_152_31, gw_aload⟩) (tN_ok (tL_ok ⟨k_152_32, gw_getf⟩) (tL_ok ⟨k_152_35, gw_push⟩)))))) (tN_ok (tN_ok (tN_ok (tN_ok (tL_ok ⟨k_152_36, gw_iload⟩) (tN_ok (tL_ok ⟨k_152_37, gw_iast⟩) (tL_ok ⟨k_152_38, gw_aload⟩))) (tN_ok (tL_ok ⟨k_152_39, gw_getf⟩) (tN_ok (tL_ok ⟨k_152_42, gw_push⟩) (tL_ok ⟨k_152_43, gw_aload⟩)))) (tN_ok (tN_ok (tL_ok ⟨k_152_44, gw_getf⟩) (tN_ok (tL_ok ⟨k_152_47, gw_iload⟩) (tL_ok ⟨k_152_48, gw_iald⟩))) (tN_ok (tL_ok ⟨k_152_49, gw_iast⟩) (tN_ok (tL_ok ⟨k_152_50, gw_aload⟩) (tL_ok ⟨k_152_51, gw_getf⟩))))) (tN_ok (tN_ok (tN_ok (tL_ok ⟨k_152_54, gw_push⟩) (tN_ok (tL_ok ⟨k_152_55, gw_aload⟩) (tL_ok ⟨k_152_56, gw_getf⟩))) (tN_ok (tL_ok ⟨k_152_59, gw_push⟩) (tN_ok (tL_ok ⟨k_152_61, gw_iald⟩) (tL_ok ⟨k_152_62, gw_push⟩)))) (tN_ok (tN_ok (tL_ok ⟨k_152_64, gw_ibz⟩) (tN_ok (tL_ok ⟨k_152_65, gw_iast⟩) (tL_ok ⟨k_152_66, gw_aload⟩))) (tN_ok (tL_ok ⟨k_152_67, gw_getf⟩) (tN_ok (tL_ok ⟨k_152_70, gw_push⟩) (tL_ok ⟨k_152_72, gw_iald⟩))))))) (tN_ok (tN_ok (tN_ok (tN_ok (tN_ok (tL_ok ⟨k_152_73, gw_if1⟩) (tN_ok (tL_ok ⟨k_152_76, gw_aload⟩) (tL_ok ⟨k_152_77, gw_aload⟩))) (tN_ok (tL_ok ⟨k_152_78, gw_getf⟩) (tN_ok (tL_ok ⟨k_152_81, gw_push⟩) (tL_ok ⟨k_152_82, gw_iald⟩)))) (tN_ok (tN_ok (tL_ok ⟨k_152_83, gw_putf⟩) (tN_ok (tL_ok ⟨k_152_86, gw_aload⟩) (tL_ok ⟨k_152_87, gw_push⟩))) (tN_ok (tL_ok ⟨k_152_88, gw_putf⟩) (tN_ok (tL_ok ⟨k_152_91, gw_retv⟩) (tL_ok ⟨k_152_92, gw_aload⟩))))) (tN_ok (tN_ok (tN_ok (tL_ok ⟨k_152_93, gw_getf⟩) (tN_ok (tL_ok ⟨k_152_96, gw_push⟩) (tL_ok ⟨k_152_98, gw_iald⟩))) (tN_ok (tL_ok ⟨k_152_99, gw_push⟩) (tN_ok (tL_ok ⟨k_152_100, gw_ib⟩) (tL_ok ⟨k_152_101, gw_istore⟩)))) (tN_ok (tN_ok (tL_ok ⟨k_152_102, gw_aload⟩) (tN_ok (tL_ok ⟨k_152_103, gw_aload⟩) (tL_ok ⟨k_152_104, gw_getf⟩))) (tN_ok (tL_ok ⟨k_152_107, gw_iload⟩) (tN_ok (tL_ok ⟨k_152_108, gw_iald⟩) (tL_ok ⟨k_152_109, gw_putf⟩)))))) (tN_ok (tN_ok (tN_ok (tN_ok (tL_ok ⟨k_152_112, gw_push⟩) (tN_ok (tL_ok ⟨k_152_113, gw_istore⟩) (tL_ok ⟨k_152_115, gw_iload⟩))) (tN_ok (tL_ok ⟨k_152_117, gw_aload⟩) (tN_ok (tL_ok ⟨k_152_118, gw_getf⟩) (tL_ok ⟨k_152_121, gw_if2⟩)))) (tN_ok (tN_ok (tL_ok ⟨k_152_124, gw_aload⟩) (tN_ok (tL_ok ⟨k_152_125, gw_getf⟩) (tL_ok ⟨k_152_128, gw_iload⟩))) (tN_ok (tL_ok ⟨k_152_130, gw_aload⟩) (tN_ok (tL_ok ⟨k_152_131, gw_getf⟩) (tL_ok ⟨k_152_134, gw_push⟩))))) (tN_ok (tN_ok (tN_ok (tL_ok ⟨k_152_136, gw_iload⟩) (tN_ok (tL_ok ⟨k_152_137, gw_ib⟩) (tL_ok ⟨k_152_138, gw_iload⟩))) (tN_ok (tL_ok ⟨k_152_140, gw_ib⟩) (tN_ok (tL_ok ⟨k_152_141, gw_iald⟩) (tL_ok ⟨k_152_142, gw_iast⟩)))) (tN_ok (tN_ok (tL_ok ⟨k_152_143, gw_iinc⟩) (tN_ok (tL_ok ⟨k_152_146, gw_goto⟩) (tL_ok ⟨k_152_149, gw_aload⟩))) (tN_ok (tL_ok ⟨k_152_150, gw_cv⟩) (tN_ok (tL_ok ⟨k_152_153, gw_pop⟩) (tL_ok ⟨k_152_154, gw_retv⟩))))))))
theorem k_153_0 : OkOp mt Ev 153 0 (o_aload 0 1) := ok_aload_n (k := 0) (by decide +kernel) rfl
theorem k_153_1 : OkOp mt Ev 153 1 (o_getf 8 [12]) := ok_getf (i := 178) (rf := "BridgeSentencesModel") (nm := "ruled") (ds := "I") (by decide +kernel) fc_74 wd_993
theorem k_153_4 : OkOp mt Ev 153 4 (o_push (.int (6)) 2) := ok_bipush (n := 6) (by decide +kernel) (by decide +kernel)
theorem k_153_6 : OkOp mt Ev 153 6 (o_if2 (fun x y => decide (¬ x = y)) 12) := ok_icmp_ne (off := 6) (by decide +kernel) (by decide +kernel)
theorem k_153_9 : OkOp mt Ev 153 9 (o_push (.int (-4)) 2) := ok_bipush (n := -4) (by decide +kernel) (by decide +kernel)
theorem k_153_11 : OkOp mt Ev 153 11 (o_ret 0) := ok_reti (ty := .int) (by decide +kernel) rfl (Or.inl ⟨rfl, rfl⟩)
theorem k_153_12 : OkOp mt Ev 153 12 (o_aload 0 1) := ok_aload_n (k := 0) (by decide +kernel) rfl
theorem k_153_13 : OkOp mt Ev 153 13 (o_aload 0 1) := ok_aload_n (k := 0) (by decide +kernel) rfl
theorem k_153_14 : OkOp mt Ev 153 14 (o_getf 5 [12]) := ok_getf (i := 128) (rf := "BridgeSentencesModel") (nm := "texted") (ds := "I") (by decide +kernel) fc_68 wd_990
theorem k_153_17 : OkOp mt Ev 153 17 (o_putf 10 [12] 0) := ok_putf (i := 137) (rf := "BridgeSentencesModel") (nm := "size") (ds := "I") (ty := .int) (fin := false) (by decide +kernel) fc_71 wd_995 (tc_12) ff_77 (by decide) (by decide +kernel) ov_int
theorem k_153_20 : OkOp mt Ev 153 20 (o_push (.int (0)) 1) := ok_iconst (n := 0) (by decide +kernel) (by decide +kernel)
theorem k_153_21 : OkOp mt Ev 153 21 (o_istore 1 1) := ok_istore_n (k := 1) (by decide +kernel) rfl
theorem k_153_22 : OkOp mt Ev 153 22 (o_iload 1 1) := ok_iload_n (k := 1) (by decide +kernel) rfl
theorem k_153_23 : OkOp mt Ev 153 23 (o_aload 0 1) := ok_aload_n (k := 0) (by decide +kernel) rfl
theorem k_153_24 : OkOp mt Ev 153 24 (o_getf 10 [12]) := ok_getf (i := 137) (rf := "BridgeSentencesModel") (nm := "size") (ds := "I") (by decide +kernel) fc_71 wd_995
theorem k_153_27 : OkOp mt Ev 153 27 (o_if2 (fun x y => decide (y ≤ x)) 48) := ok_icmp_ge (off := 21) (by decide +kernel) (by decide +kernel)
theorem k_153_30 : OkOp mt Ev 153 30 (o_aload 0 1) := ok_aload_n (k := 0) (by decide +kernel) rfl
theorem k_153_31 : OkOp mt Ev 153 31 (o_getf 9 [12]) := ok_getf (i := 34) (rf := "BridgeSentencesModel") (nm := "read") (ds := "[I") (by decide +kernel) fc_53 wd_994
theorem k_153_34 : OkOp mt Ev 153 34 (o_iload 1 1) := ok_iload_n (k := 1) (by decide +kernel) rfl
theorem k_153_35 : OkOp mt Ev 153 35 (o_aload 0 1) := ok_aload_n (k := 0) (by decide +kernel) rfl
theorem k_153_36 : OkOp mt Ev 153 36 (o_getf 4 [12]) := ok_getf (i := 25) (rf := "BridgeSentencesModel") (nm := "text") (ds := "[I") (by decide +kernel) fc_50 wd_989
theorem k_153_39 : OkOp mt Ev 153 39 (o_iload 1 1) := ok_iload_n (k := 1) (by decide +kernel) rfl
theorem k_153_40 : OkOp mt Ev 153 40 (o_iald 2) := ok_iald (by decide +kernel)
theorem k_153_41 : OkOp mt Ev 153 41 (o_iast 2 (fun x => x)) := ok_iast (by decide +kernel)
theorem k_153_42 : OkOp mt Ev 153 42 (o_iinc 1 (1)) := ok_iinc (n := 1) (by decide +kernel) (by decide +kernel)
theorem k_153_45 : OkOp mt Ev 153 45 (o_goto 22) := ok_goto (off := -23) (by decide +kernel) (by decide +kernel)
theorem k_153_48 : OkOp mt Ev 153 48 (o_aload 0 1) := ok_aload_n (k := 0) (by decide +kernel) rfl
theorem k_153_49 : OkOp mt Ev 153 49 (o_push (.int (0)) 1) := ok_iconst (n := 0) (by decide +kernel) (by decide +kernel)
theorem k_153_50 : OkOp mt Ev 153 50 (o_putf 5 [12] 0) := ok_putf (i := 128) (rf := "BridgeSentencesModel") (nm := "texted") (ds := "I") (ty := .int) (fin := false) (by decide +kernel) fc_68 wd_990 (tc_12) ff_71 (by decide) (by decide +kernel) ov_int
theorem k_153_53 : OkOp mt Ev 153 53 (o_aload 0 1) := ok_aload_n (k := 0) (by decide +kernel) rfl
theorem k_153_54 : OkOp mt Ev 153 54 (o_cv [(12, 151)] 0) := ok_cv (i := 175) (by decide +kernel) vc_158
theorem k_153_57 : OkOp mt Ev 153 57 (o_if1 (fun x => decide (¬ x = 0)) 68) := ok_if_ne (off := 11) (by decide +kernel) (by decide +kernel)
theorem k_153_60 : OkOp mt Ev 153 60 (o_push (.int (-10)) 2) := ok_bipush (n := -10) (by decide +kernel) (by decide +kernel)
theorem k_153_62 : OkOp mt Ev 153 62 (o_aload 0 1) := ok_aload_n (k := 0) (by decide +kernel) rfl
theorem k_153_63 : OkOp mt Ev 153 63 (o_getf 11 [12]) := ok_getf (i := 134) (rf := "BridgeSentencesModel") (nm := "at") (ds := "I") (by decide +kernel) fc_70 wd_996
theorem k_153_66 : OkOp mt Ev 153 66 (o_ib (fun x y => x - y)) := ok_isub (by decide +kernel)
theorem k_153_67 : OkOp mt Ev 153 67 (o_ret 0) := ok_reti (ty := .int) (by decide +kernel) rfl (Or.inl ⟨rfl, rfl⟩)
theorem k_153_68 : OkOp mt Ev 153 68 (o_push (.int (0)) 1) := ok_iconst (n := 0) (by decide +kernel) (by decide +kernel)
theorem k_153_69 : OkOp mt Ev 153 69 (o_istore 1 1) := ok_istore_n (k := 1) (by decide +kernel) rfl
theorem k_153_70 : OkOp mt Ev 153 70 (o_iload 1 1) := ok_iload_n (k := 1) (by decide +kernel) rfl
theorem k_153_71 : OkOp mt Ev 153 71 (o_aload 0 1) := ok_aload_n (k := 0) (by decide +kernel) rfl
theorem k_153_72 : OkOp mt Ev 153 72 (o_getf 10 [12]) := ok_getf (i := 137) (rf := "BridgeSentencesModel") (nm := "size") (ds := "I") (by decide +kernel) fc_71 wd_995
theorem k_153_75 : OkOp mt Ev 153 75 (o_if2 (fun x y => decide (y ≤ x)) 104) := ok_icmp_ge (off := 29) (by decide +kernel) (by decide +kernel)
theorem k_153_78 : OkOp mt Ev 153 78 (o_aload 0 1) := ok_aload_n (k := 0) (by decide +kernel) rfl
theorem k_153_79 : OkOp mt Ev 153 79 (o_getf 6 [12]) := ok_getf (i := 28) (rf := "BridgeSentencesModel") (nm := "rules") (ds := "[I") (by decide +kernel) fc_51 wd_991
theorem k_153_82 : OkOp mt Ev 153 82 (o_push (.int (100)) 2) := ok_bipush (n := 100) (by decide +kernel) (by decide +kernel)
theorem k_153_84 : OkOp mt Ev 153 84 (o_aload 0 1) := ok_aload_n (k := 0) (by decide +kernel) rfl
theorem k_153_85 : OkOp mt Ev 153 85 (o_getf 8 [12]) := ok_getf (i := 178) (rf := "BridgeSentencesModel") (nm := "ruled") (ds := "I") (by decide +kernel) fc_74 wd_993
theorem k_153_88 : OkOp mt Ev 153 88 (o_ib (fun x y => x * y)) := ok_imul (by decide +kernel)
theorem k_153_89 : OkOp mt Ev 153 89 (o_iload 1 1) := ok_iload_n (k := 1) (by decide +kernel) rfl
theorem k_153_90 : OkOp mt Ev 153 90 (o_ib (fun x y => x + y)) := ok_iadd (by decide +kernel)
theorem k_153_91 : OkOp mt Ev 153 91 (o_aload 0 1) := ok_aload_n (k := 0) (by decide +kernel) rfl
theorem k_153_92 : OkOp mt Ev 153 92 (o_getf 9 [12]) := ok_getf (i := 34) (rf := "BridgeSentencesModel") (nm := "read") (ds := "[I") (by decide +kernel) fc_53 wd_994
theorem k_153_95 : OkOp mt Ev 153 95 (o_iload 1 1) := ok_iload_n (k := 1) (by decide +kernel) rfl
theorem k_153_96 : OkOp mt Ev 153 96 (o_iald 2) := ok_iald (by decide +kernel)
theorem k_153_97 : OkOp mt Ev 153 97 (o_iast 2 (fun x => x)) := ok_iast (by decide +kernel)
theorem k_153_98 : OkOp mt Ev 153 98 (o_iinc 1 (1)) := ok_iinc (n := 1) (by decide +kernel) (by decide +kernel)
theorem k_153_101 : OkOp mt Ev 153 101 (o_goto 70) := ok_goto (off := -31) (by decide +kernel) (by decide +kernel)
theorem k_153_104 : OkOp mt Ev 153 104 (o_aload 0 1) := ok_aload_n (k := 0) (by decide +kernel) rfl
theorem k_153_105 : OkOp mt Ev 153 105 (o_getf 7 [12]) := ok_getf (i := 31) (rf := "BridgeSentencesModel") (nm := "sizes") (ds := "[I") (by decide +kernel) fc_52 wd_992
theorem k_153_108 : OkOp mt Ev 153 108 (o_aload 0 1) := ok_aload_n (k := 0) (by decide +kernel) rfl
theorem k_153_109 : OkOp mt Ev 153 109 (o_getf 8 [12]) := ok_getf (i := 178) (rf := "BridgeSentencesModel") (nm := "ruled") (ds := "I") (by decide +kernel) fc_74 wd_993
theorem k_153_112 : OkOp mt Ev 153 112 (o_aload 0 1) := ok_aload_n (k := 0) (by decide +kernel) rfl
theorem k_153_113 : OkOp mt Ev 153 113 (o_getf 10 [12]) := ok_getf (i := 137) (rf := "BridgeSentencesModel") (nm := "size") (ds := "I") (by decide +kernel) fc_71 wd_995
theorem k_153_116 : OkOp mt Ev 153 116 (o_iast 2 (fun x => x)) := ok_iast (by decide +kernel)
theorem k_153_117 : OkOp mt Ev 153 117 (o_aload 0 1) := ok_aload_n (k := 0) (by decide +kernel) rfl
theorem k_153_118 : OkOp mt Ev 153 118 (o_dup) := ok_dup (by decide +kernel)
theorem k_153_119 : OkOp mt Ev 153 119 (o_getf 8 [12]) := ok_getf (i := 178) (rf := "BridgeSentencesModel") (nm := "ruled") (ds := "I") (by decide +kernel) fc_74 wd_993
theorem k_153_122 : OkOp mt Ev 153 122 (o_push (.int (1)) 1) := ok_iconst (n := 1) (by decide +kernel) (by decide +kernel)
theorem k_153_123 : OkOp mt Ev 153 123 (o_ib (fun x y => x + y)) := ok_iadd (by decide +kernel)
theorem k_153_124 : OkOp mt Ev 153 124 (o_putf 8 [12] 0) := ok_putf (i := 178) (rf := "BridgeSentencesModel") (nm := "ruled") (ds := "I") (ty := .int) (fin := false) (by decide +kernel) fc_74 wd_993 (tc_12) ff_78 (by decide) (by decide +kernel) ov_int
theorem k_153_127 : OkOp mt Ev 153 127 (o_aload 0 1) := ok_aload_n (k := 0) (by decide +kernel) rfl
theorem k_153_128 : OkOp mt Ev 153 128 (o_getf 0 [12]) := ok_getf (i := 15) (rf := "BridgeSentencesModel") (nm := "now") (ds := "[I") (by decide +kernel) fc_47 wd_985
theorem k_153_131 : OkOp mt Ev 153 131 (o_push (.int (70)) 2) := ok_bipush (n := 70) (by decide +kernel) (by decide +kernel)
theorem k_153_133 : OkOp mt Ev 153 133 (o_aload 0 1) := ok_aload_n (k := 0) (by decide +kernel) rfl
theorem k_153_134 : OkOp mt Ev 153 134 (o_getf 8 [12]) := ok_getf (i := 178) (rf := "BridgeSentencesModel") (nm := "ruled") (ds := "I") (by decide +kernel) fc_74 wd_993
theorem k_153_137 : OkOp mt Ev 153 137 (o_iast 2 (fun x => x)) := ok_iast (by decide +kernel)
theorem k_153_138 : OkOp mt Ev 153 138 (o_aload 0 1) := ok_aload_n (k := 0) (by decide +kernel) rfl
theorem k_153_139 : OkOp mt Ev 153 139 (o_getf 8 [12]) := ok_getf (i := 178) (rf := "BridgeSentencesModel") (nm := "ruled") (ds := "I") (by decide +kernel) fc_74 wd_993
theorem k_153_142 : OkOp mt Ev 153 142 (o_push (.int (1)) 1) := ok_iconst (n := 1) (by decide +kernel) (by decide +kernel)
theorem k_153_143 : OkOp mt Ev 153 143 (o_ib (fun x y => x - y)) := ok_isub (by decide +kernel)
theorem k_153_144 : OkOp mt Ev 153 144 (o_ret 0) := ok_reti (ty := .int) (by decide +kernel) rfl (Or.inl ⟨rfl, rfl⟩)
theorem kt_153 : ∀ pc o, cd_X12_bridge Ev pc = some o → OkOp mt Ev 153 pc o ∧ Gw o := (tN_ok (tN_ok (tN_ok (tN_ok (tN_ok (tN_ok (tL_ok ⟨k_153_0, gw_aload⟩) (tL_ok ⟨k_153_1, gw_getf⟩)) (tN_ok (tL_ok ⟨k_153_4, gw_push⟩) (tN_ok (tL_ok ⟨k_153_6, gw_if2⟩) (tL_ok ⟨k_153_9, gw_push⟩)))) (tN_ok (tN_ok (tL_ok ⟨k_153_11, gw_ret⟩) (tL_ok ⟨k_153_12, gw_aload⟩)) (tN_ok (tL_ok ⟨k_153_13, gw_aload⟩) (tN_ok (tL_ok ⟨k_153_14, gw_getf⟩) (tL_ok ⟨k_153_17, gw_putf⟩))))) (tN_ok (tN_ok (tN_ok (tL_ok ⟨k_153_20, gw_push⟩) (tL_ok ⟨k_153_21, gw_istore⟩)) (tN_ok (tL_ok ⟨k_153_22, gw_iload⟩) (tN_ok (tL_ok ⟨k_153_23, gw_aload⟩) (tL_ok ⟨k_153_24, gw_getf⟩)))) (tN_ok (tN_ok (tL_ok ⟨k_153_27, gw_if2⟩) (tL_ok ⟨k_153_30, gw_aload⟩)) (tN_ok (tL_ok ⟨k_153_31, gw_getf⟩) (tN_ok (tL_ok ⟨k_153_34, gw_iload⟩) (tL_ok ⟨k_153_35, gw_aload⟩)))))) (tN_ok (tN_ok (tN_ok (tN_ok (tL_ok ⟨k_153_36, gw_getf⟩) (tL_ok ⟨k_153_39, gw_iload⟩)) (tN_ok (tL_ok ⟨k_153_40, gw_iald⟩) (tN_ok (tL_ok ⟨k_153_41, gw_iast⟩) (tL_ok ⟨k_153_42, gw_iinc⟩)))) (tN_ok (tN_ok (tL_ok ⟨k_153_45, gw_goto⟩) (tL_ok ⟨k_153_48, gw_aload⟩)) (tN_ok (tL_ok ⟨k_153_49, gw_push⟩) (tN_ok (tL_ok ⟨k_153_50, gw_putf⟩) (tL_ok ⟨k_153_53, gw_aload⟩))))) (tN_ok (tN_ok (tN_ok (tL_ok ⟨k_153_54, gw_cv⟩) (tL_ok ⟨k_153_57, gw_if1⟩)) (tN_ok (tL_ok ⟨k_153_60, gw_push⟩) (tN_ok (tL_ok ⟨k_153_62, gw_aload⟩) (tL_ok ⟨k_153_63, gw_getf⟩)))) (tN_ok (tN_ok (tL_ok ⟨k_153_66, gw_ib⟩) (tN_ok (tL_ok ⟨k_153_67, gw_ret⟩) (tL_ok ⟨k_153_68, gw_push⟩))) (tN_ok (tL_ok ⟨k_153_69, gw_istore⟩) (tN_ok (tL_ok ⟨k_153_70, gw_iload⟩) (tL_ok ⟨k_153_71, gw_aload⟩))))))) (tN_ok (tN_ok (tN_ok (tN_ok (tN_ok (tL_ok ⟨k_153_72, gw_getf⟩) (tL_ok ⟨k_153_75, gw_if2⟩)) (tN_ok (tL_ok ⟨k_153_78, gw_aload⟩) (tN_ok (tL_ok ⟨k_153_79, gw_getf⟩) (tL_ok ⟨k_153_82, gw_push⟩)))) (tN_ok (tN_ok (tL_ok ⟨k_153_84, gw_aload⟩) (tL_ok ⟨k_153_85, gw_getf⟩)) (tN_ok (tL_ok ⟨k_153_88, gw_ib⟩) (tN_ok (tL_ok ⟨k_153_89, gw_iload⟩) (tL_ok ⟨k_153_90, gw_ib⟩))))) (tN_ok (tN_ok (tN_ok (tL_ok ⟨k_153_91, gw_aload⟩) (tL_ok ⟨k_153_92, gw_getf⟩)) (tN_ok (tL_ok ⟨k_153_95, gw_iload⟩) (tN_ok (tL_ok ⟨k_153_96, gw_iald⟩) (tL_ok ⟨k_153_97, gw_iast⟩)))) (tN_ok (tN_ok (tL_ok ⟨k_153_98, gw_iinc⟩) (tL_ok ⟨k_153_101, gw_goto⟩)) (tN_ok (tL_ok ⟨k_153_104, gw_aload⟩) (tN_ok (tL_ok ⟨k_153_105, gw_getf⟩) (tL_ok ⟨k_153_108, gw_aload⟩)))))) (tN_ok (tN_ok (tN_ok (tN_ok (tL_ok ⟨k_153_109, gw_getf⟩) (tL_ok ⟨k_153_112, gw_aload⟩)) (tN_ok (tL_ok ⟨k_153_113, gw_getf⟩) (tN_ok (tL_ok ⟨k_153_116, gw_iast⟩) (tL_ok ⟨k_153_117, gw_aload⟩)))) (tN_ok (tN_ok (tL_ok ⟨k_153_118, gw_dup⟩) (tL_ok ⟨k_153_119, gw_getf⟩)) (tN_ok (tL_ok ⟨k_153_122, gw_push⟩) (tN_ok (tL_ok ⟨k_153_123, gw_ib⟩) (tL_ok ⟨k_153_124, gw_putf⟩))))) (tN_ok (tN_ok (tN_ok (tL_ok ⟨k_153_127, gw_aload⟩) (tL_ok ⟨k_153_128, gw_getf⟩)) (tN_ok (tL_ok ⟨k_153_131, gw_push⟩) (tN_ok (tL_ok ⟨k_153_133, gw_aload⟩) (tL_ok ⟨k_153_134, gw_getf⟩)))) (tN_ok (tN_ok (tL_ok ⟨k_153_137, gw_iast⟩) (tN_ok (tL_ok ⟨k_153_138, gw_aload⟩) (tL_ok ⟨k_153_139, gw_getf⟩))) (tN_ok (tL_ok ⟨k_153_142, gw_push⟩) (tN_ok (tL_ok ⟨k_153_143, gw_ib⟩) (tL_ok ⟨k_153_144, gw_ret⟩))))))))
theorem k_154_0 : OkOp mt Ev 154 0 (o_iload 3 1) := ok_iload_n (k := 3) (by decide +kernel) rfl
theorem k_154_1 : OkOp mt Ev 154 1 (o_aload 0 1) := ok_aload_n (k := 0) (by decide +kernel) rfl
theorem k_154_2 : OkOp mt Ev 154 2 (o_iload 1 1) := ok_iload_n (k := 1) (by decide +kernel) rfl
theorem k_154_3 : OkOp mt Ev 154 3 (o_push (.int (3)) 1) := ok_iconst (n := 3) (by decide +kernel) (by decide +kernel)
theorem k_154_4 : OkOp mt Ev 154 4 (o_cv [(12, 132)] 2) := ok_cv (i := 87) (by decide +kernel) vc_141
theorem k_154_7 : OkOp mt Ev 154 7 (o_push (.int (1)) 1) := ok_iconst (n := 1) (by decide +kernel) (by decide +kernel)
theorem k_154_8 : OkOp mt Ev 154 8 (o_if2 (fun x y => decide (¬ x = y)) 20) := ok_icmp_ne (off := 12) (by decide +kernel) (by decide +kernel)
theorem k_154_11 : OkOp mt Ev 154 11 (o_aload 0 1) := ok_aload_n (k := 0) (by decide +kernel) rfl
theorem k_154_12 : OkOp mt Ev 154 12 (o_iload 1 1) := ok_iload_n (k := 1) (by decide +kernel) rfl
theorem k_154_13 : OkOp mt Ev 154 13 (o_push (.int (1)) 1) := ok_iconst (n := 1) (by decide +kernel) (by decide +kernel)
theorem k_154_14 : OkOp mt Ev 154 14 (o_cv [(12, 132)] 2) := ok_cv (i := 87) (by decide +kernel) vc_141
theorem k_154_17 : OkOp mt Ev 154 17 (o_goto 21) := ok_goto (off := 4) (by decide +kernel) (by decide +kernel)
theorem k_154_20 : OkOp mt Ev 154 20 (o_push (.int (0)) 1) := ok_iconst (n := 0) (by decide +kernel) (by decide +kernel)
theorem k_154_21 : OkOp mt Ev 154 21 (o_ib (fun x y => x + y)) := ok_iadd (by decide +kernel)
theorem k_154_22 : OkOp mt Ev 154 22 (o_istore 5 2) := ok_istore (by decide +kernel)
theorem k_154_24 : OkOp mt Ev 154 24 (o_iload 3 1) := ok_iload_n (k := 3) (by decide +kernel) rfl
theorem k_154_25 : OkOp mt Ev 154 25 (o_iload 4 2) := ok_iload (by decide +kernel)
theorem k_154_27 : OkOp mt Ev 154 27 (o_cs 131 1) := ok_cs (i := 181) (by decide +kernel) wd_1168 wd_1169 wd_62 wd_1170 nk_37
theorem k_154_30 : OkOp mt Ev 154 30 (o_ib (fun x y => x - y)) := ok_isub (by decide +kernel)
theorem k_154_31 : OkOp mt Ev 154 31 (o_istore 6 2) := ok_istore (by decide +kernel)
theorem k_154_33 : OkOp mt Ev 154 33 (o_aload 0 1) := ok_aload_n (k := 0) (by decide +kernel) rfl
theorem k_154_34 : OkOp mt Ev 154 34 (o_iload 1 1) := ok_iload_n (k := 1) (by decide +kernel) rfl
theorem k_154_35 : OkOp mt Ev 154 35 (o_push (.int (0)) 1) := ok_iconst (n := 0) (by decide +kernel) (by decide +kernel)
theorem k_154_36 : OkOp mt Ev 154 36 (o_cv [(12, 132)] 2) := ok_cv (i := 87) (by decide +kernel) vc_141
theorem k_154_39 : OkOp mt Ev 154 39 (o_sw 132 [(1, 76), (2, 79), (3, 83), (4, 86), (5, 102), (6, 118)]) := ok_tsw (dflt := 93) (lo := 1) (hi := 6) (offs := #[37, 40, 44, 47, 63, 79]) (len := 37) (by decide +kernel) (by decide +kernel) (by decide +kernel) (by decide +kernel)
theorem k_154_76 : OkOp mt Ev 154 76 (o_iload 5 2) := ok_iload (by decide +kernel)
theorem k_154_78 : OkOp mt Ev 154 78 (o_ret 0) := ok_reti (ty := .int) (by decide +kernel) rfl (Or.inl ⟨rfl, rfl⟩)
theorem k_154_79 : OkOp mt Ev 154 79 (o_iload 3 1) := ok_iload_n (k := 3) (by decide +kernel) rfl
theorem k_154_80 : OkOp mt Ev 154 80 (o_push (.int (2)) 1) := ok_iconst (n := 2) (by decide +kernel) (by decide +kernel)
theorem k_154_81 : OkOp mt Ev 154 81 (o_ibz (fun x y => x / y)) := ok_idiv (by decide +kernel)
theorem k_154_82 : OkOp mt Ev 154 82 (o_ret 0) := ok_reti (ty := .int) (by decide +kernel) rfl (Or.inl ⟨rfl, rfl⟩)
theorem k_154_83 : OkOp mt Ev 154 83 (o_iload 6 2) := ok_iload (by decide +kernel)
theorem k_154_85 : OkOp mt Ev 154 85 (o_ret 0) := ok_reti (ty := .int) (by decide +kernel) rfl (Or.inl ⟨rfl, rfl⟩)
theorem k_154_86 : OkOp mt Ev 154 86 (o_iload 2 1) := ok_iload_n (k := 2) (by decide +kernel) rfl
theorem k_154_87 : OkOp mt Ev 154 87 (o_push (.int (2)) 1) := ok_iconst (n := 2) (by decide +kernel) (by decide +kernel)
theorem k_154_88 : OkOp mt Ev 154 88 (o_ibz (fun x y => x - x / y * y)) := ok_irem (by decide +kernel)
theorem k_154_89 : OkOp mt Ev 154 89 (o_if1 (fun x => decide (¬ x = 0)) 99) := ok_if_ne (off := 10) (by decide +kernel) (by decide +kernel)
theorem k_154_92 : OkOp mt Ev 154 92 (o_push (.int (2)) 1) := ok_iconst (n := 2) (by decide +kernel) (by decide +kernel)
theorem k_154_93 : OkOp mt Ev 154 93 (o_iload 5 2) := ok_iload (by decide +kernel)
theorem k_154_95 : OkOp mt Ev 154 95 (o_ib (fun x y => x * y)) := ok_imul (by decide +kernel)
theorem k_154_96 : OkOp mt Ev 154 96 (o_goto 101) := ok_goto (off := 5) (by decide +kernel) (by decide +kernel)
theorem k_154_99 : OkOp mt Ev 154 99 (o_iload 5 2) := ok_iload (by decide +kernel)
theorem k_154_101 : OkOp mt Ev 154 101 (o_ret 0) := ok_reti (ty := .int) (by decide +kernel) rfl (Or.inl ⟨rfl, rfl⟩)
theorem k_154_102 : OkOp mt Ev 154 102 (o_iload 3 1) := ok_iload_n (k := 3) (by decide +kernel) rfl
theorem k_154_103 : OkOp mt Ev 154 103 (o_push (.int (2)) 1) := ok_iconst (n := 2) (by decide +kernel) (by decide +kernel)
theorem k_154_104 : OkOp mt Ev 154 104 (o_ibz (fun x y => x / y)) := ok_idiv (by decide +kernel)
theorem k_154_105 : OkOp mt Ev 154 105 (o_push (.int (9)) 2) := ok_bipush (n := 9) (by decide +kernel) (by decide +kernel)
theorem k_154_107 : OkOp mt Ev 154 107 (o_aload 0 1) := ok_aload_n (k := 0) (by decide +kernel) rfl
theorem k_154_108 : OkOp mt Ev 154 108 (o_iload 1 1) := ok_iload_n (k := 1) (by decide +kernel) rfl
theorem k_154_109 : OkOp mt Ev 154 109 (o_push (.int (4)) 1) := ok_iconst (n := 4) (by decide +kernel) (by decide +kernel)
theorem k_154_110 : OkOp mt Ev 154 110 (o_cv [(12, 132)] 2) := ok_cv (i := 87) (by decide +kernel) vc_141
theorem k_154_113 : OkOp mt Ev 154 113 (o_cs 197 2) := ok_cs (i := 184) (by decide +kernel) wd_1171 wd_432 wd_59 wd_433 nk_6
theorem k_154_116 : OkOp mt Ev 154 116 (o_ib (fun x y => x - y)) := ok_isub (by decide +kernel)
theorem k_154_117 : OkOp mt Ev 154 117 (o_ret 0) := ok_reti (ty := .int) (by decide +kernel) rfl (Or.inl ⟨rfl, rfl⟩)
theorem k_154_118 : OkOp mt Ev 154 118 (o_iload 6 2) := ok_iload (by decide +kernel)
theorem k_154_120 : OkOp mt Ev 154 120 (o_aload 0 1) := ok_aload_n (k := 0) (by decide +kernel) rfl
theorem k_154_121 : OkOp mt Ev 154 121 (o_iload 1 1) := ok_iload_n (k := 1) (by decide +kernel) rfl
theorem k_154_122 : OkOp mt Ev 154 122 (o_push (.int (5)) 1) := ok_iconst (n := 5) (by decide +kernel) (by decide +kernel)
theorem k_154_123 : OkOp mt Ev 154 123 (o_iload 2 1) := ok_iload_n (k := 2) (by decide +kernel) rfl
theorem k_154_124 : OkOp mt Ev 154 124 (o_push (.int (4)) 1) := ok_iconst (n := 4) (by decide +kernel) (by decide +kernel)
theorem k_154_125 : OkOp mt Ev 154 125 (o_ibz (fun x y => x - x / y * y)) := ok_irem (by decide +kernel)
theorem k_154_126 : OkOp mt Ev 154 126 (o_ib (fun x y => x + y)) := ok_iadd (by decide +kernel)
theorem k_154_127 : OkOp mt Ev 154 127 (o_cv [(12, 132)] 2) := ok_cv (i := 87) (by decide +kernel) vc_141
theorem k_154_130 : OkOp mt Ev 154 130 (o_ib (fun x y => x + y)) := ok_iadd (by decide +kernel)
theorem k_154_131 : OkOp mt Ev 154 131 (o_ret 0) := ok_reti (ty := .int) (by decide +kernel) rfl (Or.inl ⟨rfl, rfl⟩)
theorem k_154_132 : OkOp mt Ev 154 132 (o_iload 3 1) := ok_iload_n (k := 3) (by decide +kernel) rfl
theorem k_154_133 : OkOp mt Ev 154 133 (o_ret 0) := ok_reti (ty := .int) (by decide +kernel) rfl (Or.inl ⟨rfl, rfl⟩)
theorem kt_154 : ∀ pc o, cd_X12_urgeBy Ev pc = some o → OkOp mt Ev 154 pc o ∧ Gw o := (tN_ok (tN_ok (tN_ok (tN_ok (tN_ok (tN_ok (tL_ok ⟨k_154_0, gw_iload⟩) (tL_ok ⟨k_154_1, gw_aload⟩)) (tN_ok (tL_ok ⟨k_154_2, gw_iload⟩) (tL_ok ⟨k_154_3, gw_push⟩))) (tN_ok (tN_ok (tL_ok ⟨k_154_4, gw_cv⟩) (tL_ok ⟨k_154_7, gw_push⟩)) (tN_ok (tL_ok ⟨k_154_8, gw_if2⟩) (tL_ok ⟨k_154_11, gw_aload⟩)))) (tN_ok (tN_ok (tN_ok (tL_ok ⟨k_154_12, gw_iload⟩) (tL_ok ⟨k_154_13, gw_push⟩)) (tN_ok (tL_ok ⟨k_154_14, gw_cv⟩) (tL_ok ⟨k_154_17, gw_goto⟩))) (tN_ok (tN_ok (tL_ok ⟨k_154_20, gw_push⟩) (tL_ok ⟨k_154_21, gw_ib⟩)) (tN_ok (tL_ok ⟨k_154_22, gw_istore⟩) (tL_ok ⟨k_154_24, gw_iload⟩))))) (tN_ok (tN_ok (tN_ok (tN_ok (tL_ok ⟨k_154_25, gw_iload⟩) (tL_ok ⟨k_154_27, gw_cs⟩)) (tN_ok (tL_ok ⟨k_154_30, gw_ib⟩) (tL_ok ⟨k_154_31, gw_istore⟩))) (tN_ok (tN_ok (tL_ok ⟨k_154_33, gw_aload⟩) (tL_ok ⟨k_154_34, gw_iload⟩)) (tN_ok (tL_ok ⟨k_154_35, gw_push⟩) (tL_ok ⟨k_154_36, gw_cv⟩)))) (tN_ok (tN_ok (tN_ok (tL_ok ⟨k_154_39, gw_sw⟩) (tL_ok ⟨k_154_76, gw_iload⟩)) (tN_ok (tL_ok ⟨k_154_78, gw_ret⟩) (tL_ok ⟨k_154_79, gw_iload⟩))) (tN_ok (tN_ok (tL_ok ⟨k_154_80, gw_push⟩) (tL_ok ⟨k_154_81, gw_ibz⟩)) (tN_ok (tL_ok ⟨k_154_82, gw_ret⟩) (tN_ok (tL_ok ⟨k_154_83, gw_iload⟩) (tL_ok ⟨k_154_85, gw_ret⟩))))))) (tN_ok (tN_ok (tN_ok (tN_ok (tN_ok (tL_ok ⟨k_154_86, gw_iload⟩) (tL_ok ⟨k_154_87, gw_push⟩)) (tN_ok (tL_ok ⟨k_154_88, gw_ibz⟩) (tL_ok ⟨k_154_89, gw_if1⟩))) (tN_ok (tN_ok (tL_ok ⟨k_154_92, gw_push⟩) (tL_ok ⟨k_154_93, gw_iload⟩)) (tN_ok (tL_ok ⟨k_154_95, gw_ib⟩) (tL_ok ⟨k_154_96, gw_goto⟩)))) (tN_ok (tN_ok (tN_ok (tL_ok ⟨k_154_99, gw_iload⟩) (tL_ok ⟨k_154_101, gw_ret⟩)) (tN_ok (tL_ok ⟨k_154_102, gw_iload⟩) (tL_ok ⟨k_154_103, gw_push⟩))) (tN_ok (tN_ok (tL_ok ⟨k_154_104, gw_ibz⟩) (tL_ok ⟨k_154_105, gw_push⟩)) (tN_ok (tL_ok ⟨k_154_107, gw_aload⟩) (tN_ok (tL_ok ⟨k_154_108, gw_iload⟩) (tL_ok ⟨k_154_109, gw_push⟩)))))) (tN_ok (tN_ok (tN_ok (tN_ok (tL_ok ⟨k_154_110, gw_cv⟩) (tL_ok ⟨k_154_113, gw_cs⟩)) (tN_ok (tL_ok ⟨k_154_116, gw_ib⟩) (tL_ok ⟨k_154_117, gw_ret⟩))) (tN_ok (tN_ok (tL_ok ⟨k_154_118, gw_iload⟩) (tL_ok ⟨k_154_120, gw_aload⟩)) (tN_ok (tL_ok ⟨k_154_121, gw_iload⟩) (tL_ok ⟨k_154_122, gw_push⟩)))) (tN_ok (tN_ok (tN_ok (tL_ok ⟨k_154_123, gw_iload⟩) (tL_ok ⟨k_154_124, gw_push⟩)) (tN_ok (tL_ok ⟨k_154_125, gw_ibz⟩) (tL_ok ⟨k_154_126, gw_ib⟩))) (tN_ok (tN_ok (tL_ok ⟨k_154_127, gw_cv⟩) (tL_ok ⟨k_154_130, gw_ib⟩)) (tN_ok (tL_ok ⟨k_154_131, gw_ret⟩) (tN_ok (tL_ok ⟨k_154_132, gw_iload⟩) (tL_ok ⟨k_154_133, gw_ret⟩))))))))
theorem k_155_0 : OkOp mt Ev 155 0 (o_push (.int (0)) 1) := ok_iconst (n := 0) (by decide +kernel) (by decide +kernel)
theorem k_155_1 : OkOp mt Ev 155 1 (o_istore 2 1) := ok_istore_n (k := 2) (by decide +kernel) rfl
theorem k_155_2 : OkOp mt Ev 155 2 (o_iload 2 1) := ok_iload_n (k := 2) (by decide +kernel) rfl
theorem k_155_3 : OkOp mt Ev 155 3 (o_push (.int (12)) 2) := ok_bipush (n := 12) (by decide +kernel) (by decide +kernel)
theorem k_155_5 : OkOp mt Ev 155 5 (o_if2 (fun x y => decide (y ≤ x)) 30) := ok_icmp_ge (off := 25) (by decide +kernel) (by decide +kernel)
theorem k_155_8 : OkOp mt Ev 155 8 (o_aload 0 1) := ok_aload_n (k := 0) (by decide +kernel) rfl
theorem k_155_9 : OkOp mt Ev 155 9 (o_iload 1 1) := ok_iload_n (k := 1) (by decide +kernel) rfl
theorem k_155_10 : OkOp mt Ev 155 10 (o_iload 2 1) := ok_iload_n (k := 2) (by decide +kernel) rfl
theorem k_155_11 : OkOp mt Ev 155 11 (o_cv [(12, 152)] 2) := ok_cv (i := 116) (by decide +kernel) vc_147
theorem k_155_14 : OkOp mt Ev 155 14 (o_aload 0 1) := ok_aload_n (k := 0) (by decide +kernel) rfl
theorem k_155_15 : OkOp mt Ev 155 15 (o_getf 20 [12]) := ok_getf (i := 50) (rf := "BridgeSentencesModel") (nm := "sums") (ds := "[I") (by decide +kernel) fc_58 wd_1005
theorem k_155_18 : OkOp mt Ev 155 18 (o_iload 2 1) := ok_iload_n (k := 2) (by decide +kernel) rfl
theorem k_155_19 : OkOp mt Ev 155 19 (o_aload 0 1) := ok_aload_n (k := 0) (by decide +kernel) rfl
theorem k_155_20 : OkOp mt Ev 155 20 (o_getf 14 [12]) := ok_getf (i := 120) (rf := "BridgeSentencesModel") (nm := "sum") (ds := "I") (by decide +kernel) fc_67 wd_999
theorem k_155_23 : OkOp mt Ev 155 23 (o_iast 2 (fun x => x)) := ok_iast (by decide +kernel)
theorem k_155_24 : OkOp mt Ev 155 24 (o_iinc 2 (1)) := ok_iinc (n := 1) (by decide +kernel) (by decide +kernel)
theorem k_155_27 : OkOp mt Ev 155 27 (o_goto 2) := ok_goto (off := -25) (by decide +kernel) (by decide +kernel)
theorem k_155_30 : OkOp mt Ev 155 30 (o_retv) := ok_retv (by decide +kernel) rfl
theorem kt_155 : ∀ pc o, cd_X12_tell Ev pc = some o → OkOp mt Ev 155 pc o ∧ Gw o := (tN_ok (tN_ok (tN_ok (tN_ok (tL_ok ⟨k_155_0, gw_push⟩) (tL_ok ⟨k_155_1, gw_istore⟩)) (tN_ok (tL_ok ⟨k_155_2, gw_iload⟩) (tL_ok ⟨k_155_3, gw_push⟩))) (tN_ok (tN_ok (tL_ok ⟨k_155_5, gw_if2⟩) (tL_ok ⟨k_155_8, gw_aload⟩)) (tN_ok (tL_ok ⟨k_155_9, gw_iload⟩) (tN_ok (tL_ok ⟨k_155_10, gw_iload⟩) (tL_ok ⟨k_155_11, gw_cv⟩))))) (tN_ok (tN_ok (tN_ok (tL_ok ⟨k_155_14, gw_aload⟩) (tL_ok ⟨k_155_15, gw_getf⟩)) (tN_ok (tL_ok ⟨k_155_18, gw_iload⟩) (tL_ok ⟨k_155_19, gw_aload⟩))) (tN_ok (tN_ok (tL_ok ⟨k_155_20, gw_getf⟩) (tL_ok ⟨k_155_23, gw_iast⟩)) (tN_ok (tL_ok ⟨k_155_24, gw_iinc⟩) (tN_ok (tL_ok ⟨k_155_27, gw_goto⟩) (tL_ok ⟨k_155_30, gw_retv⟩))))))
theorem k_156_0 : OkOp mt Ev 156 0 (o_push (.int (-1)) 1) := ok_iconst (n := -1) (by decide +kernel) (by decide +kernel)
theorem k_156_1 : OkOp mt Ev 156 1 (o_istore 3 1) := ok_istore_n (k := 3) (by decide +kernel) rfl
theorem k_156_2 : OkOp mt Ev 156 2 (o_push (.int (0)) 1) := ok_iconst (n := 0) (by decide +kernel) (by decide +kernel)
theorem k_156_3 : OkOp mt Ev 156 3 (o_istore 4 2) := ok_istore (by decide +kernel)
theorem k_156_5 : OkOp mt Ev 156 5 (o_push (.int (0)) 1) := ok_iconst (n := 0) (by decide +kernel) (by decide +kernel)
theorem k_156_6 : OkOp mt Ev 156 6 (o_istore 5 2) := ok_istore (by decide +kernel)
theorem k_156_8 : OkOp mt Ev 156 8 (o_iload 5 2) := ok_iload (by decide +kernel)
theorem k_156_10 : OkOp mt Ev 156 10 (o_push (.int (12)) 2) := ok_bipush (n := 12) (by decide +kernel) (by decide +kernel)
theorem k_156_12 : OkOp mt Ev 156 12 (o_if2 (fun x y => decide (y ≤ x)) 71) := ok_icmp_ge (off := 59) (by decide +kernel) (by decide +kernel)
theorem k_156_15 : OkOp mt Ev 156 15 (o_iload 2 1) := ok_iload_n (k := 2) (by decide +kernel) rfl
theorem k_156_16 : OkOp mt Ev 156 16 (o_iload 5 2) := ok_iload (by decide +kernel)
theorem k_156_18 : OkOp mt Ev 156 18 (o_ib (fun x y => x >>> (y &&& 31))) := ok_ishr (by decide +kernel)
theorem k_156_19 : OkOp mt Ev 156 19 (o_push (.int (1)) 1) := ok_iconst (n := 1) (by decide +kernel) (by decide +kernel)
theorem k_156_20 : OkOp mt Ev 156 20 (o_ib (fun x y => x &&& y)) := ok_iand (by decide +kernel)
theorem k_156_21 : OkOp mt Ev 156 21 (o_push (.int (1)) 1) := ok_iconst (n := 1) (by decide +kernel) (by decide +kernel)
theorem k_156_22 : OkOp mt Ev 156 22 (o_if2 (fun x y => decide (¬ x = y)) 65) := ok_icmp_ne (off := 43) (by decide +kernel) (by decide +kernel)
theorem k_156_25 : OkOp mt Ev 156 25 (o_aload 0 1) := ok_aload_n (k := 0) (by decide +kernel) rfl
theorem k_156_26 : OkOp mt Ev 156 26 (o_iload 1 1) := ok_iload_n (k := 1) (by decide +kernel) rfl
theorem k_156_27 : OkOp mt Ev 156 27 (o_iload 5 2) := ok_iload (by decide +kernel)
theorem k_156_29 : OkOp mt Ev 156 29 (o_aload 0 1) := ok_aload_n (k := 0) (by decide +kernel) rfl
theorem k_156_30 : OkOp mt Ev 156 30 (o_getf 20 [12]) := ok_getf (i := 50) (rf := "BridgeSentencesModel") (nm := "sums") (ds := "[I") (by decide +kernel) fc_58 wd_1005
theorem k_156_33 : OkOp mt Ev 156 33 (o_iload 5 2) := ok_iload (by decide +kernel)
theorem k_156_35 : OkOp mt Ev 156 35 (o_iald 2) := ok_iald (by decide +kernel)
theorem k_156_36 : OkOp mt Ev 156 36 (o_iload 2 1) := ok_iload_n (k := 2) (by decide +kernel) rfl
theorem k_156_37 : OkOp mt Ev 156 37 (o_cv [(12, 154)] 4) := ok_cv (i := 124) (by decide +kernel) vc_148
theorem k_156_40 : OkOp mt Ev 156 40 (o_istore 6 2) := ok_istore (by decide +kernel)
theorem k_156_42 : OkOp mt Ev 156 42 (o_iload 6 2) := ok_iload (by decide +kernel)
theorem k_156_44 : OkOp mt Ev 156 44 (o_iload 4 2) := ok_iload (by decide +kernel)
theorem k_156_46 : OkOp mt Ev 156 46 (o_if2 (fun x y => decide (x ≤ y)) 54) := ok_icmp_le (off := 8) (by decide +kernel) (by decide +kernel)
theorem k_156_49 : OkOp mt Ev 156 49 (o_iload 5 2) := ok_iload (by decide +kernel)
theorem k_156_51 : OkOp mt Ev 156 51 (o_goto 55) := ok_goto (off := 4) (by decide +kernel) (by decide +kernel)
theorem k_156_54 : OkOp mt Ev 156 54 (o_iload 3 1) := ok_iload_n (k := 3) (by decide +kernel) rfl
theorem k_156_55 : OkOp mt Ev 156 55 (o_istore 3 1) := ok_istore_n (k := 3) (by decide +kernel) rfl
theorem k_156_56 : OkOp mt Ev 156 56 (o_iload 6 2) := ok_iload (by decide +kernel)
theorem k_156_58 : OkOp mt Ev 156 58 (o_iload 4 2) := ok_iload (by decide +kernel)
theorem k_156_60 : OkOp mt Ev 156 60 (o_cs 196 2) := ok_cs (i := 189) (by decide +kernel) wd_1172 wd_100 wd_59 wd_101 nk_9
theorem k_156_63 : OkOp mt Ev 156 63 (o_istore 4 2) := ok_istore (by decide +kernel)
theorem k_156_65 : OkOp mt Ev 156 65 (o_iinc 5 (1)) := ok_iinc (n := 1) (by decide +kernel) (by decide +kernel)
theorem k_156_68 : OkOp mt Ev 156 68 (o_goto 8) := ok_goto (off := -60) (by decide +kernel) (by decide +kernel)
theorem k_156_71 : OkOp mt Ev 156 71 (o_iload 3 1) := ok_iload_n (k := 3) (by decide +kernel) rfl
theorem k_156_72 : OkOp mt Ev 156 72 (o_ret 0) := ok_reti (ty := .int) (by decide +kernel) rfl (Or.inl ⟨rfl, rfl⟩)
theorem kt_156 : ∀ pc o, cd_X12_tipBy Ev pc = some o → OkOp mt Ev 156 pc o ∧ Gw o := (tN_ok (tN_ok (tN_ok (tN_ok (tN_ok (tL_ok ⟨k_156_0, gw_push⟩) (tL_ok ⟨k_156_1, gw_istore⟩)) (tN_ok (tL_ok ⟨k_156_2, gw_push⟩) (tN_ok (tL_ok ⟨k_156_3, gw_istore⟩) (tL_ok ⟨k_156_5, gw_push⟩)))) (tN_ok (tN_ok (tL_ok ⟨k_156_6, gw_istore⟩) (tL_ok ⟨k_156_8, gw_iload⟩)) (tN_ok (tL_ok ⟨k_156_10, gw_push⟩) (tN_ok (tL_ok ⟨k_156_12, gw_if2⟩) (tL_ok ⟨k_156_15, gw_iload⟩))))) (tN_ok (tN_ok (tN_ok (tL_ok ⟨k_156_16, gw_iload⟩) (tL_ok ⟨k_156_18, gw_ib⟩)) (tN_ok (tL_ok ⟨k_156_19, gw_push⟩) (tN_ok (tL_ok ⟨k_156_20, gw_ib⟩) (tL_ok ⟨k_156_21, gw_push⟩)))) (tN_ok (tN_ok (tL_ok ⟨k_156_22, gw_if2⟩) (tL_ok ⟨k_156_25, gw_aload⟩)) (tN_ok (tL_ok ⟨k_156_26, gw_iload⟩) (tN_ok (tL_ok ⟨k_156_27, gw_iload⟩) (tL_ok ⟨k_156_29, gw_aload⟩)))))) (tN_ok (tN_ok (tN_ok (tN_ok (tL_ok ⟨k_156_30, gw_getf⟩) (tL_ok ⟨k_156_33, gw_iload⟩)) (tN_ok (tL_ok ⟨k_156_35, gw_iald⟩) (tN_ok (tL_ok ⟨k_156_36, gw_iload⟩) (tL_ok ⟨k_156_37, gw_cv⟩)))) (tN_ok (tN_ok (tL_ok ⟨k_156_40, gw_istore⟩) (tL_ok ⟨k_156_42, gw_iload⟩)) (tN_ok (tL_ok ⟨k_156_44, gw_iload⟩) (tN_ok (tL_ok ⟨k_156_46, gw_if2⟩) (tL_ok ⟨k_156_49, gw_iload⟩))))) (tN_ok (tN_ok (tN_ok (tL_ok ⟨k_156_51, gw_goto⟩) (tL_ok ⟨k_156_54, gw_iload⟩)) (tN_ok (tL_ok ⟨k_156_55, gw_istore⟩) (tN_ok (tL_ok ⟨k_156_56, gw_iload⟩) (tL_ok ⟨k_156_58, gw_iload⟩)))) (tN_ok (tN_ok (tL_ok ⟨k_156_60, gw_cs⟩) (tN_ok (tL_ok ⟨k_156_63, gw_istore⟩) (tL_ok ⟨k_156_65, gw_iinc⟩))) (tN_ok (tL_ok ⟨k_156_68, gw_goto⟩) (tN_ok (tL_ok ⟨k_156_71, gw_iload⟩) (tL_ok ⟨k_156_72, gw_ret⟩)))))))
theorem k_157_0 : OkOp mt Ev 157 0 (o_aload 0 1) := ok_aload_n (k := 0) (by decide +kernel) rfl
theorem k_157_1 : OkOp mt Ev 157 1 (o_iload 1 1) := ok_iload_n (k := 1) (by decide +kernel) rfl
theorem k_157_2 : OkOp mt Ev 157 2 (o_cv [(12, 155)] 1) := ok_cv (i := 192) (by decide +kernel) vc_159
theorem k_157_5 : OkOp mt Ev 157 5 (o_aload 0 1) := ok_aload_n (k := 0) (by decide +kernel) rfl
theorem k_157_6 : OkOp mt Ev 157 6 (o_iload 1 1) := ok_iload_n (k := 1) (by decide +kernel) rfl
theorem k_157_7 : OkOp mt Ev 157 7 (o_aload 0 1) := ok_aload_n (k := 0) (by decide +kernel) rfl
theorem k_157_8 : OkOp mt Ev 157 8 (o_iload 1 1) := ok_iload_n (k := 1) (by decide +kernel) rfl
theorem k_157_9 : OkOp mt Ev 157 9 (o_push (.int (2)) 1) := ok_iconst (n := 2) (by decide +kernel) (by decide +kernel)
theorem k_157_10 : OkOp mt Ev 157 10 (o_cv [(12, 132)] 2) := ok_cv (i := 87) (by decide +kernel) vc_141
theorem k_157_13 : OkOp mt Ev 157 13 (o_cv [(12, 156)] 2) := ok_cv (i := 195) (by decide +kernel) vc_160
theorem k_157_16 : OkOp mt Ev 157 16 (o_ret 0) := ok_reti (ty := .int) (by decide +kernel) rfl (Or.inl ⟨rfl, rfl⟩)
theorem kt_157 : ∀ pc o, cd_X12_tip Ev pc = some o → OkOp mt Ev 157 pc o ∧ Gw o := (tN_ok (tN_ok (tN_ok (tL_ok ⟨k_157_0, gw_aload⟩) (tL_ok ⟨k_157_1, gw_iload⟩)) (tN_ok (tL_ok ⟨k_157_2, gw_cv⟩) (tN_ok (tL_ok ⟨k_157_5, gw_aload⟩) (tL_ok ⟨k_157_6, gw_iload⟩)))) (tN_ok (tN_ok (tL_ok ⟨k_157_7, gw_aload⟩) (tN_ok (tL_ok ⟨k_157_8, gw_iload⟩) (tL_ok ⟨k_157_9, gw_push⟩))) (tN_ok (tL_ok ⟨k_157_10, gw_cv⟩) (tN_ok (tL_ok ⟨k_157_13, gw_cv⟩) (tL_ok ⟨k_157_16, gw_ret⟩)))))
theorem k_158_0 : OkOp mt Ev 158 0 (o_aload 0 1) := ok_aload_n (k := 0) (by decide +kernel) rfl
theorem k_158_1 : OkOp mt Ev 158 1 (o_iload 1 1) := ok_iload_n (k := 1) (by decide +kernel) rfl
theorem k_158_2 : OkOp mt Ev 158 2 (o_cv [(12, 157)] 1) := ok_cv (i := 99) (by decide +kernel) vc_144
theorem k_158_5 : OkOp mt Ev 158 5 (o_istore 2 1) := ok_istore_n (k := 2) (by decide +kernel) rfl
theorem k_158_6 : OkOp mt Ev 158 6 (o_aload 0 1) := ok_aload_n (k := 0) (by decide +kernel) rfl
theorem k_158_7 : OkOp mt Ev 158 7 (o_iload 1 1) := ok_iload_n (k := 1) (by decide +kernel) rfl
theorem k_158_8 : OkOp mt Ev 158 8 (o_push (.int (3)) 1) := ok_iconst (n := 3) (by decide +kernel) (by decide +kernel)
theorem k_158_9 : OkOp mt Ev 158 9 (o_cv [(12, 132)] 2) := ok_cv (i := 87) (by decide +kernel) vc_141
theorem k_158_12 : OkOp mt Ev 158 12 (o_push (.int (1)) 1) := ok_iconst (n := 1) (by decide +kernel) (by decide +kernel)
theorem k_158_13 : OkOp mt Ev 158 13 (o_if2 (fun x y => decide (¬ x = y)) 20) := ok_icmp_ne (off := 7) (by decide +kernel) (by decide +kernel)
theorem k_158_16 : OkOp mt Ev 158 16 (o_push (.int (1)) 1) := ok_iconst (n := 1) (by decide +kernel) (by decide +kernel)
theorem k_158_17 : OkOp mt Ev 158 17 (o_goto 21) := ok_goto (off := 4) (by decide +kernel) (by decide +kernel)
theorem k_158_20 : OkOp mt Ev 158 20 (o_push (.int (0)) 1) := ok_iconst (n := 0) (by decide +kernel) (by decide +kernel)
theorem k_158_21 : OkOp mt Ev 158 21 (o_istore 3 1) := ok_istore_n (k := 3) (by decide +kernel) rfl
theorem k_158_22 : OkOp mt Ev 158 22 (o_iload 2 1) := ok_iload_n (k := 2) (by decide +kernel) rfl
theorem k_158_23 : OkOp mt Ev 158 23 (o_push (.int (-1)) 1) := ok_iconst (n := -1) (by decide +kernel) (by decide +kernel)
theorem k_158_24 : OkOp mt Ev 158 24 (o_if2 (fun x y => decide (¬ x = y)) 51) := ok_icmp_ne (off := 27) (by decide +kernel) (by decide +kernel)
theorem k_158_27 : OkOp mt Ev 158 27 (o_aload 0 1) := ok_aload_n (k := 0) (by decide +kernel) rfl
theorem k_158_28 : OkOp mt Ev 158 28 (o_iload 1 1) := ok_iload_n (k := 1) (by decide +kernel) rfl
theorem k_158_29 : OkOp mt Ev 158 29 (o_push (.int (4)) 1) := ok_iconst (n := 4) (by decide +kernel) (by decide +kernel)
theorem k_158_30 : OkOp mt Ev 158 30 (o_aload 0 1) := ok_aload_n (k := 0) (by decide +kernel) rfl
theorem k_158_31 : OkOp mt Ev 158 31 (o_iload 1 1) := ok_iload_n (k := 1) (by decide +kernel) rfl
theorem k_158_32 : OkOp mt Ev 158 32 (o_push (.int (4)) 1) := ok_iconst (n := 4) (by decide +kernel) (by decide +kernel)
theorem k_158_33 : OkOp mt Ev 158 33 (o_cv [(12, 132)] 2) := ok_cv (i := 87) (by decide +kernel) vc_141
theorem k_158_36 : OkOp mt Ev 158 36 (o_iload 3 1) := ok_iload_n (k := 3) (by decide +kernel) rfl
theorem k_158_37 : OkOp mt Ev 158 37 (o_if1 (fun x => decide (x = 0)) 44) := ok_if_eq (off := 7) (by decide +kernel) (by decide +kernel)
theorem k_158_40 : OkOp mt Ev 158 40 (o_push (.int (0)) 1) := ok_iconst (n := 0) (by decide +kernel) (by decide +kernel)
theorem k_158_41 : OkOp mt Ev 158 41 (o_goto 45) := ok_goto (off := 4) (by decide +kernel) (by decide +kernel)
theorem k_158_44 : OkOp mt Ev 158 44 (o_push (.int (1)) 1) := ok_iconst (n := 1) (by decide +kernel) (by decide +kernel)
theorem k_158_45 : OkOp mt Ev 158 45 (o_ib (fun x y => x + y)) := ok_iadd (by decide +kernel)
theorem k_158_46 : OkOp mt Ev 158 46 (o_cv [(12, 133)] 3) := ok_cv (i := 91) (by decide +kernel) vc_142
theorem k_158_49 : OkOp mt Ev 158 49 (o_pop) := ok_pop (by decide +kernel)
theorem k_158_50 : OkOp mt Ev 158 50 (o_retv) := ok_retv (by decide +kernel) rfl
theorem k_158_51 : OkOp mt Ev 158 51 (o_aload 0 1) := ok_aload_n (k := 0) (by decide +kernel) rfl
theorem k_158_52 : OkOp mt Ev 158 52 (o_iload 1 1) := ok_iload_n (k := 1) (by decide +kernel) rfl
theorem k_158_53 : OkOp mt Ev 158 53 (o_push (.int (2)) 1) := ok_iconst (n := 2) (by decide +kernel) (by decide +kernel)
theorem k_158_54 : OkOp mt Ev 158 54 (o_aload 0 1) := ok_aload_n (k := 0) (by decide +kernel) rfl
theorem k_158_55 : OkOp mt Ev 158 55 (o_iload 1 1) := ok_iload_n (k := 1) (by decide +kernel) rfl
theorem k_158_56 : OkOp mt Ev 158 56 (o_push (.int (2)) 1) := ok_iconst (n := 2) (by decide +kernel) (by decide +kernel)
theorem k_158_57 : OkOp mt Ev 158 57 (o_cv [(12, 132)] 2) := ok_cv (i := 87) (by decide +kernel) vc_141
theorem k_158_60 : OkOp mt Ev 158 60 (o_push (.int (1)) 1) := ok_iconst (n := 1) (by decide +kernel) (by decide +kernel)
theorem k_158_61 : OkOp mt Ev 158 61 (o_iload 2 1) := ok_iload_n (k := 2) (by decide +kernel) rfl
theorem k_158_62 : OkOp mt Ev 158 62 (o_ib (fun x y => x <<< (y &&& 31))) := ok_ishl (by decide +kernel)
theorem k_158_63 : OkOp mt Ev 158 63 (o_push (.int (-1)) 1) := ok_iconst (n := -1) (by decide +kernel) (by decide +kernel)
theorem k_158_64 : OkOp mt Ev 158 64 (o_ib (fun x y => x ^^^ y)) := ok_ixor (by decide +kernel)
theorem k_158_65 : OkOp mt Ev 158 65 (o_ib (fun x y => x &&& y)) := ok_iand (by decide +kernel)
theorem k_158_66 : OkOp mt Ev 158 66 (o_cv [(12, 133)] 3) := ok_cv (i := 91) (by decide +kernel) vc_142
theorem k_158_69 : OkOp mt Ev 158 69 (o_pop) := ok_pop (by decide +kernel)
theorem k_158_70 : OkOp mt Ev 158 70 (o_aload 0 1) := ok_aload_n (k := 0) (by decide +kernel) rfl
theorem k_158_71 : OkOp mt Ev 158 71 (o_getf 0 [12]) := ok_getf (i := 15) (rf := "BridgeSentencesModel") (nm := "now") (ds := "[I") (by decide +kernel) fc_47 wd_985
theorem k_158_74 : OkOp mt Ev 158 74 (o_iload 3 1) := ok_iload_n (k := 3) (by decide +kernel) rfl
theorem k_158_75 : OkOp mt Ev 158 75 (o_if1 (fun x => decide (x = 0)) 83) := ok_if_eq (off := 8) (by decide +kernel) (by decide +kernel)
theorem k_158_78 : OkOp mt Ev 158 78 (o_push (.int (13)) 2) := ok_bipush (n := 13) (by decide +kernel) (by decide +kernel)
theorem k_158_80 : OkOp mt Ev 158 80 (o_goto 85) := ok_goto (off := 5) (by decide +kernel) (by decide +kernel)
theorem k_158_83 : OkOp mt Ev 158 83 (o_push (.int (12)) 2) := ok_bipush (n := 12) (by decide +kernel) (by decide +kernel)
theorem k_158_85 : OkOp mt Ev 158 85 (o_dup2) := ok_dup2 (by decide +kernel)
theorem k_158_86 : OkOp mt Ev 158 86 (o_iald 2) := ok_iald (by decide +kernel)
theorem k_158_87 : OkOp mt Ev 158 87 (o_push (.int (1)) 1) := ok_iconst (n := 1) (by decide +kernel) (by decide +kernel)
theorem k_158_88 : OkOp mt Ev 158 88 (o_iload 2 1) := ok_iload_n (k := 2) (by decide +kernel) rfl
theorem k_158_89 : OkOp mt Ev 158 89 (o_ib (fun x y => x <<< (y &&& 31))) := ok_ishl (by decide +kernel)
theorem k_158_90 : OkOp mt Ev 158 90 (o_ib (fun x y => x ||| y)) := ok_ior (by decide +kernel)
theorem k_158_91 : OkOp mt Ev 158 91 (o_iast 2 (fun x => x)) := ok_iast (by decide +kernel)
theorem k_158_92 : OkOp mt Ev 158 92 (o_aload 0 1) := ok_aload_n (k := 0) (by decide +kernel) rfl
theorem k_158_93 : OkOp mt Ev 158 93 (o_iload 1 1) := ok_iload_n (k := 1) (by decide +kernel) rfl
theorem k_158_94 : OkOp mt Ev 158 94 (o_push (.int (3)) 1) := ok_iconst (n := 3) (by decide +kernel) (by decide +kernel)
theorem k_158_95 : OkOp mt Ev 158 95 (o_push (.int (1)) 1) := ok_iconst (n := 1) (by decide +kernel) (by decide +kernel)
theorem k_158_96 : OkOp mt Ev 158 96 (o_cv [(12, 133)] 3) := ok_cv (i := 91) (by decide +kernel) vc_142
theorem k_158_99 : OkOp mt Ev 158 99 (o_pop) := ok_pop (by decide +kernel)
theorem k_158_100 : OkOp mt Ev 158 100 (o_retv) := ok_retv (by decide +kernel) rfl
theorem kt_158 : ∀ pc o, cd_X12_goes Ev pc = some o → OkOp mt Ev 158 pc o ∧ Gw o := (tN_ok (tN_ok (tN_ok (tN_ok (tN_ok (tN_ok (tL_ok ⟨k_158_0, gw_aload⟩) (tL_ok ⟨k_158_1, gw_iload⟩)) (tN_ok (tL_ok ⟨k_158_2, gw_cv⟩) (tL_ok ⟨k_158_5, gw_istore⟩))) (tN_ok (tN_ok (tL_ok ⟨k_158_6, gw_aload⟩) (tL_ok ⟨k_158_7, gw_iload⟩)) (tN_ok (tL_ok ⟨k_158_8, gw_push⟩) (tL_ok ⟨k_158_9, gw_cv⟩)))) (tN_ok (tN_ok (tN_ok (tL_ok ⟨k_158_12, gw_push⟩) (tL_ok ⟨k_158_13, gw_if2⟩)) (tN_ok (tL_ok ⟨k_158_16, gw_push⟩) (tL_ok ⟨k_158_17, gw_goto⟩))) (tN_ok (tN_ok (tL_ok ⟨k_158_20, gw_push⟩) (tL_ok ⟨k_158_21, gw_istore⟩)) (tN_ok (tL_ok ⟨k_158_22, gw_iload⟩) (tN_ok (tL_ok ⟨k_158_23, gw_push⟩) (tL_ok ⟨k_158_24, gw_if2⟩)))))) (tN_ok (tN_ok (tN_ok (tN_ok (tL_ok ⟨k_158_27, gw_aload⟩) (tL_ok ⟨k_158_28, gw_iload⟩)) (tN_ok (tL_ok ⟨k_158_29, gw_push⟩) (tL_ok ⟨k_158_30, gw_aload⟩))) (tN_ok (tN_ok (tL_ok ⟨k_158_31, gw_iload⟩) (tL_ok ⟨k_158_32, gw_push⟩)) (tN_ok (tL_ok ⟨k_158_33, gw_cv⟩) (tL_ok ⟨k_158_36, gw_iload⟩)))) (tN_ok (tN_ok (tN_ok (tL_ok ⟨k_158_37, gw_if1⟩) (tL_ok ⟨k_158_40, gw_push⟩)) (tN_ok (tL_ok ⟨k_158_41, gw_goto⟩) (tL_ok ⟨k_158_44, gw_push⟩))) (tN_ok (tN_ok (tL_ok ⟨k_158_45, gw_ib⟩) (tL_ok ⟨k_158_46, gw_cv⟩)) (tN_ok (tL_ok ⟨k_158_49, gw_pop⟩) (tN_ok (tL_ok ⟨k_158_50, gw_retv⟩) (tL_ok ⟨k_158_51, gw_aload⟩))))))) (tN_ok (tN_ok (tN_ok (tN_ok (tN_ok (tL_ok ⟨k_158_52, gw_iload⟩) (tL_ok ⟨k_158_53, gw_push⟩)) (tN_ok (tL_ok ⟨k_158_54, gw_aload⟩) (tL_ok ⟨k_158_55, gw_iload⟩))) (tN_ok (tN_ok (tL_ok ⟨k_158_56, gw_push⟩) (tL_ok ⟨k_158_57, gw_cv⟩)) (tN_ok (tL_ok ⟨k_158_60, gw_push⟩) (tL_ok ⟨k_158_61, gw_iload⟩)))) (tN_ok (tN_ok (tN_ok (tL_ok ⟨k_158_62, gw_ib⟩) (tL_ok ⟨k_158_63, gw_push⟩)) (tN_ok (tL_ok ⟨k_158_64, gw_ib⟩) (tL_ok ⟨k_158_65, gw_ib⟩))) (tN_ok (tN_ok (tL_ok ⟨k_158_66, gw_cv⟩) (tL_ok ⟨k_158_69, gw_pop⟩)) (tN_ok (tL_ok ⟨k_158_70, gw_aload⟩) (tN_ok (tL_ok ⟨k_158_71, gw_getf⟩) (tL_ok ⟨k_158_74, gw_iload⟩)))))) (tN_ok (tN_ok (tN_ok (tN_ok (tL_ok ⟨k_158_75, gw_if1⟩) (tL_ok ⟨k_158_78, gw_push⟩)) (tN_ok (tL_ok ⟨k_158_80, gw_goto⟩) (tL_ok ⟨k_158_83, gw_push⟩))) (tN_ok (tN_ok (tL_ok ⟨k_158_85, gw_dup2⟩) (tL_ok ⟨k_158_86, gw_iald⟩)) (tN_ok (tL_ok ⟨k_158_87, gw_push⟩) (tN_ok (tL_ok ⟨k_158_88, gw_iload⟩) (tL_ok ⟨k_158_89, gw_ib⟩))))) (tN_ok (tN_ok (tN_ok (tL_ok ⟨k_158_90, gw_ib⟩) (tL_ok ⟨k_158_91, gw_iast⟩)) (tN_ok (tL_ok ⟨k_158_92, gw_aload⟩) (tL_ok ⟨k_158_93, gw_iload⟩))) (tN_ok (tN_ok (tL_ok ⟨k_158_94, gw_push⟩) (tL_ok ⟨k_158_95, gw_push⟩)) (tN_ok (tL_ok ⟨k_158_96, gw_cv⟩) (tN_ok (tL_ok ⟨k_158_99, gw_pop⟩) (tL_ok ⟨k_158_100, gw_retv⟩))))))))
theorem k_159_0 : OkOp mt Ev 159 0 (o_aload 0 1) := ok_aload_n (k := 0) (by decide +kernel) rfl
theorem k_159_1 : OkOp mt Ev 159 1 (o_push (.int (0)) 1) := ok_iconst (n := 0) (by decide +kernel) (by decide +kernel)
theorem k_159_2 : OkOp mt Ev 159 2 (o_push (.int (0)) 1) := ok_iconst (n := 0) (by decide +kernel) (by decide +kernel)
theorem k_159_3 : OkOp mt Ev 159 3 (o_cv [(12, 152)] 2) := ok_cv (i := 116) (by decide +kernel) vc_147
theorem k_159_6 : OkOp mt Ev 159 6 (o_aload 0 1) := ok_aload_n (k := 0) (by decide +kernel) rfl
theorem k_159_7 : OkOp mt Ev 159 7 (o_getf 15 [12]) := ok_getf (i := 169) (rf := "BridgeSentencesModel") (nm := "free") (ds := "I") (by decide +kernel) fc_73 wd_1000
theorem k_159_10 : OkOp mt Ev 159 10 (o_ret 0) := ok_reti (ty := .int) (by decide +kernel) rfl (Or.inl ⟨rfl, rfl⟩)
theorem kt_159 : ∀ pc o, cd_X12_freeNow Ev pc = some o → OkOp mt Ev 159 pc o ∧ Gw o := (tN_ok (tN_ok (tL_ok ⟨k_159_0, gw_aload⟩) (tN_ok (tL_ok ⟨k_159_1, gw_push⟩) (tL_ok ⟨k_159_2, gw_push⟩))) (tN_ok (tN_ok (tL_ok ⟨k_159_3, gw_cv⟩) (tL_ok ⟨k_159_6, gw_aload⟩)) (tN_ok (tL_ok ⟨k_159_7, gw_getf⟩) (tL_ok ⟨k_159_10, gw_ret⟩))))
theorem k_160_0 : OkOp mt Ev 160 0 (o_aload 0 1) := ok_aload_n (k := 0) (by decide +kernel) rfl
theorem k_160_1 : OkOp mt Ev 160 1 (o_getf 0 [12]) := ok_getf (i := 15) (rf := "BridgeSentencesModel") (nm := "now") (ds := "[I") (by decide +kernel) fc_47 wd_985
theorem k_160_4 : OkOp mt Ev 160 4 (o_push (.int (12)) 2) := ok_bipush (n := 12) (by decide +kernel) (by decide +kernel)
theorem k_160_6 : OkOp mt Ev 160 6 (o_iald 2) := ok_iald (by decide +kernel)
theorem k_160_7 : OkOp mt Ev 160 7 (o_iload 1 1) := ok_iload_n (k := 1) (by decide +kernel) rfl
theorem k_160_8 : OkOp mt Ev 160 8 (o_ib (fun x y => x >>> (y &&& 31))) := ok_ishr (by decide +kernel)
theorem k_160_9 : OkOp mt Ev 160 9 (o_push (.int (1)) 1) := ok_iconst (n := 1) (by decide +kernel) (by decide +kernel)
theorem k_160_10 : OkOp mt Ev 160 10 (o_ib (fun x y => x &&& y)) := ok_iand (by decide +kernel)
theorem k_160_11 : OkOp mt Ev 160 11 (o_push (.int (1)) 1) := ok_iconst (n := 1) (by decide +kernel) (by decide +kernel)
theorem k_160_12 : OkOp mt Ev 160 12 (o_if2 (fun x y => decide (¬ x = y)) 43) := ok_icmp_ne (off := 31) (by decide +kernel) (by decide +kernel)
theorem k_160_15 : OkOp mt Ev 160 15 (o_aload 0 1) := ok_aload_n (k := 0) (by decide +kernel) rfl
theorem k_160_16 : OkOp mt Ev 160 16 (o_getf 0 [12]) := ok_getf (i := 15) (rf := "BridgeSentencesModel") (nm := "now") (ds := "[I") (by decide +kernel) fc_47 wd_985
theorem k_160_19 : OkOp mt Ev 160 19 (o_push (.int (12)) 2) := ok_bipush (n := 12) (by decide +kernel) (by decide +kernel)
theorem k_160_21 : OkOp mt Ev 160 21 (o_dup2) := ok_dup2 (by decide +kernel)
theorem k_160_22 : OkOp mt Ev 160 22 (o_iald 2) := ok_iald (by decide +kernel)
theorem k_160_23 : OkOp mt Ev 160 23 (o_push (.int (1)) 1) := ok_iconst (n := 1) (by decide +kernel) (by decide +kernel)
theorem k_160_24 : OkOp mt Ev 160 24 (o_iload 1 1) := ok_iload_n (k := 1) (by decide +kernel) rfl
theorem k_160_25 : OkOp mt Ev 160 25 (o_ib (fun x y => x <<< (y &&& 31))) := ok_ishl (by decide +kernel)
theorem k_160_26 : OkOp mt Ev 160 26 (o_push (.int (-1)) 1) := ok_iconst (n := -1) (by decide +kernel) (by decide +kernel)
theorem k_160_27 : OkOp mt Ev 160 27 (o_ib (fun x y => x ^^^ y)) := ok_ixor (by decide +kernel)
theorem k_160_28 : OkOp mt Ev 160 28 (o_ib (fun x y => x &&& y)) := ok_iand (by decide +kernel)
theorem k_160_29 : OkOp mt Ev 160 29 (o_iast 2 (fun x => x)) := ok_iast (by decide +kernel)
theorem k_160_30 : OkOp mt Ev 160 30 (o_aload 0 1) := ok_aload_n (k := 0) (by decide +kernel) rfl
theorem k_160_31 : OkOp mt Ev 160 31 (o_getf 0 [12]) := ok_getf (i := 15) (rf := "BridgeSentencesModel") (nm := "now") (ds := "[I") (by decide +kernel) fc_47 wd_985
theorem k_160_34 : OkOp mt Ev 160 34 (o_push (.int (13)) 2) := ok_bipush (n := 13) (by decide +kernel) (by decide +kernel)
theorem k_160_36 : OkOp mt Ev 160 36 (o_dup2) := ok_dup2 (by decide +kernel)
theorem k_160_37 : OkOp mt Ev 160 37 (o_iald 2) := ok_iald (by decide +kernel)
theorem k_160_38 : OkOp mt Ev 160 38 (o_push (.int (1)) 1) := ok_iconst (n := 1) (by decide +kernel) (by decide +kernel)
theorem k_160_39 : OkOp mt Ev 160 39 (o_iload 1 1) := ok_iload_n (k := 1) (by decide +kernel) rfl
theorem k_160_40 : OkOp mt Ev 160 40 (o_ib (fun x y => x <<< (y &&& 31))) := ok_ishl (by decide +kernel)
theorem k_160_41 : OkOp mt Ev 160 41 (o_ib (fun x y => x ||| y)) := ok_ior (by decide +kernel)
theorem k_160_42 : OkOp mt Ev 160 42 (o_iast 2 (fun x => x)) := ok_iast (by decide +kernel)
theorem k_160_43 : OkOp mt Ev 160 43 (o_retv) := ok_retv (by decide +kernel) rfl
theorem kt_160 : ∀ pc o, cd_X12_hears Ev pc = some o → OkOp mt Ev 160 pc o ∧ Gw o := (tN_ok (tN_ok (tN_ok (tN_ok (tN_ok (tL_ok ⟨k_160_0, gw_aload⟩) (tL_ok ⟨k_160_1, gw_getf⟩)) (tN_ok (tL_ok ⟨k_160_4, gw_push⟩) (tL_ok ⟨k_160_6, gw_iald⟩))) (tN_ok (tN_ok (tL_ok ⟨k_160_7, gw_iload⟩) (tL_ok ⟨k_160_8, gw_ib⟩)) (tN_ok (tL_ok ⟨k_160_9, gw_push⟩) (tL_ok ⟨k_160_10, gw_ib⟩)))) (tN_ok (tN_ok (tN_ok (tL_ok ⟨k_160_11, gw_push⟩) (tL_ok ⟨k_160_12, gw_if2⟩)) (tN_ok (tL_ok ⟨k_160_15, gw_aload⟩) (tL_ok ⟨k_160_16, gw_getf⟩))) (tN_ok (tN_ok (tL_ok ⟨k_160_19, gw_push⟩) (tL_ok ⟨k_160_21, gw_dup2⟩)) (tN_ok (tL_ok ⟨k_160_22, gw_iald⟩) (tL_ok ⟨k_160_23, gw_push⟩))))) (tN_ok (tN_ok (tN_ok (tN_ok (tL_ok ⟨k_160_24, gw_iload⟩) (tL_ok ⟨k_160_25, gw_ib⟩)) (tN_ok (tL_ok ⟨k_160_26, gw_push⟩) (tL_ok ⟨k_160_27, gw_ib⟩))) (tN_ok (tN_ok (tL_ok ⟨k_160_28, gw_ib⟩) (tL_ok ⟨k_160_29, gw_iast⟩)) (tN_ok (tL_ok ⟨k_160_30, gw_aload⟩) (tL_ok ⟨k_160_31, gw_getf⟩)))) (tN_ok (tN_ok (tN_ok (tL_ok ⟨k_160_34, gw_push⟩) (tL_ok ⟨k_160_36, gw_dup2⟩)) (tN_ok (tL_ok ⟨k_160_37, gw_iald⟩) (tL_ok ⟨k_160_38, gw_push⟩))) (tN_ok (tN_ok (tL_ok ⟨k_160_39, gw_iload⟩) (tL_ok ⟨k_160_40, gw_ib⟩)) (tN_ok (tL_ok ⟨k_160_41, gw_ib⟩) (tN_ok (tL_ok ⟨k_160_42, gw_iast⟩) (tL_ok ⟨k_160_43, gw_retv⟩)))))))
theorem k_161_0 : OkOp mt Ev 161 0 (o_push (.int (0)) 1) := ok_iconst (n := 0) (by decide +kernel) (by decide +kernel)
theorem k_161_1 : OkOp mt Ev 161 1 (o_istore 1 1) := ok_istore_n (k := 1) (by decide +kernel) rfl
theorem k_161_2 : OkOp mt Ev 161 2 (o_iload 1 1) := ok_iload_n (k := 1) (by decide +kernel) rfl
theorem k_161_3 : OkOp mt Ev 161 3 (o_aload 0 1) := ok_aload_n (k := 0) (by decide +kernel) rfl
theorem k_161_4 : OkOp mt Ev 161 4 (o_getf 0 [12]) := ok_getf (i := 15) (rf := "BridgeSentencesModel") (nm := "now") (ds := "[I") (by decide +kernel) fc_47 wd_985
theorem k_161_7 : OkOp mt Ev 161 7 (o_push (.int (68)) 2) := ok_bipush (n := 68) (by decide +kernel) (by decide +kernel)
theorem k_161_9 : OkOp mt Ev 161 9 (o_iald 2) := ok_iald (by decide +kernel)
theorem k_161_10 : OkOp mt Ev 161 10 (o_if2 (fun x y => decide (y ≤ x)) 24) := ok_icmp_ge (off := 14) (by decide +kernel) (by decide +kernel)
theorem k_161_13 : OkOp mt Ev 161 13 (o_aload 0 1) := ok_aload_n (k := 0) (by decide +kernel) rfl
theorem k_161_14 : OkOp mt Ev 161 14 (o_iload 1 1) := ok_iload_n (k := 1) (by decide +kernel) rfl
theorem k_161_15 : OkOp mt Ev 161 15 (o_cv [(12, 158)] 1) := ok_cv (i := 198) (by decide +kernel) vc_161
theorem k_161_18 : OkOp mt Ev 161 18 (o_iinc 1 (1)) := ok_iinc (n := 1) (by decide +kernel) (by decide +kernel)
theorem k_161_21 : OkOp mt Ev 161 21 (o_goto 2) := ok_goto (off := -19) (by decide +kernel) (by decide +kernel)
theorem k_161_24 : OkOp mt Ev 161 24 (o_aload 0 1) := ok_aload_n (k := 0) (by decide +kernel) rfl
theorem k_161_25 : OkOp mt Ev 161 25 (o_cv [(12, 159)] 0) := ok_cv (i := 201) (by decide +kernel) vc_162
theorem k_161_28 : OkOp mt Ev 161 28 (o_istore 1 1) := ok_istore_n (k := 1) (by decide +kernel) rfl
theorem k_161_29 : OkOp mt Ev 161 29 (o_iload 1 1) := ok_iload_n (k := 1) (by decide +kernel) rfl
theorem k_161_30 : OkOp mt Ev 161 30 (o_if1 (fun x => decide (x ≤ 0)) 82) := ok_if_le (off := 52) (by decide +kernel) (by decide +kernel)
theorem k_161_33 : OkOp mt Ev 161 33 (o_aload 0 1) := ok_aload_n (k := 0) (by decide +kernel) rfl
theorem k_161_34 : OkOp mt Ev 161 34 (o_getf 0 [12]) := ok_getf (i := 15) (rf := "BridgeSentencesModel") (nm := "now") (ds := "[I") (by decide +kernel) fc_47 wd_985
theorem k_161_37 : OkOp mt Ev 161 37 (o_push (.int (69)) 2) := ok_bipush (n := 69) (by decide +kernel) (by decide +kernel)
theorem k_161_39 : OkOp mt Ev 161 39 (o_iald 2) := ok_iald (by decide +kernel)
theorem k_161_40 : OkOp mt Ev 161 40 (o_iload 1 1) := ok_iload_n (k := 1) (by decide +kernel) rfl
theorem k_161_41 : OkOp mt Ev 161 41 (o_ibz (fun x y => x - x / y * y)) := ok_irem (by decide +kernel)
theorem k_161_42 : OkOp mt Ev 161 42 (o_if1 (fun x => decide (¬ x = 0)) 82) := ok_if_ne (off := 40) (by decide +kernel) (by decide +kernel)
theorem k_161_45 : OkOp mt Ev 161 45 (o_aload 0 1) := ok_aload_n (k := 0) (by decide +kernel) rfl
theorem k_161_46 : OkOp mt Ev 161 46 (o_getf 0 [12]) := ok_getf (i := 15) (rf := "BridgeSentencesModel") (nm := "now") (ds := "[I") (by decide +kernel) fc_47 wd_985
theorem k_161_49 : OkOp mt Ev 161 49 (o_push (.int (12)) 2) := ok_bipush (n := 12) (by decide +kernel) (by decide +kernel)
theorem k_161_51 : OkOp mt Ev 161 51 (o_iald 2) := ok_iald (by decide +kernel)
theorem k_161_52 : OkOp mt Ev 161 52 (o_if1 (fun x => decide (x = 0)) 82) := ok_if_eq (off := 30) (by decide +kernel) (by decide +kernel)
theorem k_161_55 : OkOp mt Ev 161 55 (o_push (.int (0)) 1) := ok_iconst (n := 0) (by decide +kernel) (by decide +kernel)
theorem k_161_56 : OkOp mt Ev 161 56 (o_istore 2 1) := ok_istore_n (k := 2) (by decide +kernel) rfl
theorem k_161_57 : OkOp mt Ev 161 57 (o_aload 0 1) := ok_aload_n (k := 0) (by decide +kernel) rfl
theorem k_161_58 : OkOp mt Ev 161 58 (o_getf 0 [12]) := ok_getf (i := 15) (rf := "BridgeSentencesModel") (nm := "now") (ds := "[I") (by decide +kernel) fc_47 wd_985
theorem k_161_61 : OkOp mt Ev 161 61 (o_push (.int (12)) 2) := ok_bipush (n := 12) (by decide +kernel) (by decide +kernel)
theorem k_161_63 : OkOp mt Ev 161 63 (o_iald 2) := ok_iald (by decide +kernel)
theorem k_161_64 : OkOp mt Ev 161 64 (o_iload 2 1) := ok_iload_n (k := 2) (by decide +kernel) rfl
theorem k_161_65 : OkOp mt Ev 161 65 (o_ib (fun x y => x >>> (y &&& 31))) := ok_ishr (by decide +kernel)
theorem k_161_66 : OkOp mt Ev 161 66 (o_push (.int (1)) 1) := ok_iconst (n := 1) (by decide +kernel) (by decide +kernel)
theorem k_161_67 : OkOp mt Ev 161 67 (o_ib (fun x y => x &&& y)) := ok_iand (by decide +kernel)
theorem k_161_68 : OkOp mt Ev 161 68 (o_if1 (fun x => decide (¬ x = 0)) 77) := ok_if_ne (off := 9) (by decide +kernel) (by decide +kernel)
theorem k_161_71 : OkOp mt Ev 161 71 (o_iinc 2 (1)) := ok_iinc (n := 1) (by decide +kernel) (by decide +kernel)
theorem k_161_74 : OkOp mt Ev 161 74 (o_goto 57) := ok_goto (off := -17) (by decide +kernel) (by decide +kernel)
theorem k_161_77 : OkOp mt Ev 161 77 (o_aload 0 1) := ok_aload_n (k := 0) (by decide +kernel) rfl
theorem k_161_78 : OkOp mt Ev 161 78 (o_iload 2 1) := ok_iload_n (k := 2) (by decide +kernel) rfl
theorem k_161_79 : OkOp mt Ev 161 79 (o_cv [(12, 160)] 1) := ok_cv (i := 204) (by decide +kernel) vc_163
theorem k_161_82 : OkOp mt Ev 161 82 (o_aload 0 1) := ok_aload_n (k := 0) (by decide +kernel) rfl
theorem k_161_83 : OkOp mt Ev 161 83 (o_getf 0 [12]) := ok_getf (i := 15) (rf := "BridgeSentencesModel") (nm := "now") (ds := "[I") (by decide +kernel) fc_47 wd_985
theorem k_161_86 : OkOp mt Ev 161 86 (o_push (.int (69)) 2) := ok_bipush (n := 69) (by decide +kernel) (by decide +kernel)
theorem k_161_88 : OkOp mt Ev 161 88 (o_dup2) := ok_dup2 (by decide +kernel)
theorem k_161_89 : OkOp mt Ev 161 89 (o_iald 2) := ok_iald (by decide +kernel)
theorem k_161_90 : OkOp mt Ev 161 90 (o_push (.int (1)) 1) := ok_iconst (n := 1) (by decide +kernel) (by decide +kernel)
theorem k_161_91 : OkOp mt Ev 161 91 (o_ib (fun x y => x + y)) := ok_iadd (by decide +kernel)
theorem k_161_92 : OkOp mt Ev 161 92 (o_iast 2 (fun x => x)) := ok_iast (by decide +kernel)
theorem k_161_93 : OkOp mt Ev 161 93 (o_retv) := ok_retv (by decide +kernel) rfl
theorem kt_161 : ∀ pc o, cd_X12_day Ev pc = some o → OkOp mt Ev 161 pc o ∧ Gw o := (tN_ok (tN_ok (tN_ok (tN_ok (tN_ok (tL_ok ⟨k_161_0, gw_push⟩) (tN_ok (tL_ok ⟨k_161_1, gw_istore⟩) (tL_ok ⟨k_161_2, gw_iload⟩))) (tN_ok (tL_ok ⟨k_161_3, gw_aload⟩) (tN_ok (tL_ok ⟨k_161_4, gw_getf⟩) (tL_ok ⟨k_161_7, gw_push⟩)))) (tN_ok (tN_ok (tL_ok ⟨k_161_9, gw_iald⟩) (tN_ok (tL_ok ⟨k_161_10, gw_if2⟩) (tL_ok ⟨k_161_13, gw_aload⟩))) (tN_ok (tN_ok (tL_ok ⟨k_161_14, gw_iload⟩) (tL_ok ⟨k_161_15, gw_cv⟩)) (tN_ok (tL_ok ⟨k_161_18, gw_iinc⟩) (tL_ok ⟨k_161_21, gw_goto⟩))))) (tN_ok (tN_ok (tN_ok (tL_ok ⟨k_161_24, gw_aload⟩) (tN_ok (tL_ok ⟨k_161_25, gw_cv⟩) (tL_ok ⟨k_161_28, gw_istore⟩))) (tN_ok (tN_ok (tL_ok ⟨k_161_29, gw_iload⟩) (tL_ok ⟨k_161_30, gw_if1⟩)) (tN_ok (tL_ok ⟨k_161_33, gw_aload⟩) (tL_ok ⟨k_161_34, gw_getf⟩)))) (tN_ok (tN_ok (tL_ok ⟨k_161_37, gw_push⟩) (tN_ok (tL_ok ⟨k_161_39, gw_iald⟩) (tL_ok ⟨k_161_40, gw_iload⟩))) (tN_ok (tN_ok (tL_ok ⟨k_161_41, gw_ibz⟩) (tL_ok ⟨k_161_42, gw_if1⟩)) (tN_ok (tL_ok ⟨k_161_45, gw_aload⟩) (tL_ok ⟨k_161_46, gw_getf⟩)))))) (tN_ok (tN_ok (tN_ok (tN_ok (tL_ok ⟨k_161_49, gw_push⟩) (tN_ok (tL_ok ⟨k_161_51, gw_iald⟩) (tL_ok ⟨k_161_52, gw_if1⟩))) (tN_ok (tN_ok (tL_ok ⟨k_161_55, gw_push⟩) (tL_ok ⟨k_161_56, gw_istore⟩)) (tN_ok (tL_ok ⟨k_161_57, gw_aload⟩) (tL_ok ⟨k_161_58, gw_getf⟩)))) (tN_ok (tN_ok (tL_ok ⟨k_161_61, gw_push⟩) (tN_ok (tL_ok ⟨k_161_63, gw_iald⟩) (tL_ok ⟨k_161_64, gw_iload⟩))) (tN_ok (tN_ok (tL_ok ⟨k_161_65, gw_ib⟩) (tL_ok ⟨k_161_66, gw_push⟩)) (tN_ok (tL_ok ⟨k_161_67, gw_ib⟩) (tL_ok ⟨k_161_68, gw_if1⟩))))) (tN_ok (tN_ok (tN_ok (tL_ok ⟨k_161_71, gw_iinc⟩) (tN_ok (tL_ok ⟨k_161_74, gw_goto⟩) (tL_ok ⟨k_161_77, gw_aload⟩))) (tN_ok (tN_ok (tL_ok ⟨k_161_78, gw_iload⟩) (tL_ok ⟨k_161_79, gw_cv⟩)) (tN_ok (tL_ok ⟨k_161_82, gw_aload⟩) (tL_ok ⟨k_161_83, gw_getf⟩)))) (tN_ok (tN_ok (tL_ok ⟨k_161_86, gw_push⟩) (tN_ok (tL_ok ⟨k_161_88, gw_dup2⟩) (tL_ok ⟨k_161_89, gw_iald⟩))) (tN_ok (tN_ok (tL_ok ⟨k_161_90, gw_push⟩) (tL_ok ⟨k_161_91, gw_ib⟩)) (tN_ok (tL_ok ⟨k_161_92, gw_iast⟩) (tL_ok ⟨k_161_93, gw_retv⟩)))))))
theorem k_162_0 : OkOp mt Ev 162 0 (o_push (.int (0)) 1) := ok_iconst (n := 0) (by decide +kernel) (by decide +kernel)
theorem k_162_1 : OkOp mt Ev 162 1 (o_istore 2 1) := ok_istore_n (k := 2) (by decide +kernel) rfl
theorem k_162_2 : OkOp mt Ev 162 2 (o_iload 2 1) := ok_iload_n (k := 2) (by decide +kernel) rfl
theorem k_162_3 : OkOp mt Ev 162 3 (o_iload 1 1) := ok_iload_n (k := 1) (by decide +kernel) rfl
theorem k_162_4 : OkOp mt Ev 162 4 (o_if2 (fun x y => decide (y ≤ x)) 17) := ok_icmp_ge (off := 13) (by decide +kernel) (by decide +kernel)
theorem k_162_7 : OkOp mt Ev 162 7 (o_aload 0 1) := ok_aload_n (k := 0) (by decide +kernel) rfl
theorem k_162_8 : OkOp mt Ev 162 8 (o_cv [(12, 161)] 0) := ok_cv (i := 207) (by decide +kernel) vc_164
theorem k_162_11 : OkOp mt Ev 162 11 (o_iinc 2 (1)) := ok_iinc (n := 1) (by decide +kernel) (by decide +kernel)
theorem k_162_14 : OkOp mt Ev 162 14 (o_goto 2) := ok_goto (off := -12) (by decide +kernel) (by decide +kernel)
theorem k_162_17 : OkOp mt Ev 162 17 (o_retv) := ok_retv (by decide +kernel) rfl
theorem kt_162 : ∀ pc o, cd_X12_days Ev pc = some o → OkOp mt Ev 162 pc o ∧ Gw o := (tN_ok (tN_ok (tN_ok (tL_ok ⟨k_162_0, gw_push⟩) (tL_ok ⟨k_162_1, gw_istore⟩)) (tN_ok (tL_ok ⟨k_162_2, gw_iload⟩) (tN_ok (tL_ok ⟨k_162_3, gw_iload⟩) (tL_ok ⟨k_162_4, gw_if2⟩)))) (tN_ok (tN_ok (tL_ok ⟨k_162_7, gw_aload⟩) (tL_ok ⟨k_162_8, gw_cv⟩)) (tN_ok (tL_ok ⟨k_162_11, gw_iinc⟩) (tN_ok (tL_ok ⟨k_162_14, gw_goto⟩) (tL_ok ⟨k_162_17, gw_retv⟩)))))
theorem k_163_0 : OkOp mt Ev 163 0 (o_push (.int (0)) 1) := ok_iconst (n := 0) (by decide +kernel) (by decide +kernel)
theorem k_163_1 : OkOp mt Ev 163 1 (o_istore 1 1) := ok_istore_n (k := 1) (by decide +kernel) rfl
theorem k_163_2 : OkOp mt Ev 163 2 (o_push (.int (0)) 1) := ok_iconst (n := 0) (by decide +kernel) (by decide +kernel)
theorem k_163_3 : OkOp mt Ev 163 3 (o_istore 2 1) := ok_istore_n (k := 2) (by decide +kernel) rfl
theorem k_163_4 : OkOp mt Ev 163 4 (o_iload 2 1) := ok_iload_n (k := 2) (by decide +kernel) rfl
theorem k_163_5 : OkOp mt Ev 163 5 (o_aload 0 1) := ok_aload_n (k := 0) (by decide +kernel) rfl
theorem k_163_6 : OkOp mt Ev 163 6 (o_getf 0 [12]) := ok_getf (i := 15) (rf := "BridgeSentencesModel") (nm := "now") (ds := "[I") (by decide +kernel) fc_47 wd_985
theorem k_163_9 : OkOp mt Ev 163 9 (o_push (.int (68)) 2) := ok_bipush (n := 68) (by decide +kernel) (by decide +kernel)
theorem k_163_11 : OkOp mt Ev 163 11 (o_iald 2) := ok_iald (by decide +kernel)
theorem k_163_12 : OkOp mt Ev 163 12 (o_if2 (fun x y => decide (y ≤ x)) 32) := ok_icmp_ge (off := 20) (by decide +kernel) (by decide +kernel)
theorem k_163_15 : OkOp mt Ev 163 15 (o_iload 1 1) := ok_iload_n (k := 1) (by decide +kernel) rfl
theorem k_163_16 : OkOp mt Ev 163 16 (o_aload 0 1) := ok_aload_n (k := 0) (by decide +kernel) rfl
theorem k_163_17 : OkOp mt Ev 163 17 (o_iload 2 1) := ok_iload_n (k := 2) (by decide +kernel) rfl
theorem k_163_18 : OkOp mt Ev 163 18 (o_push (.int (3)) 1) := ok_iconst (n := 3) (by decide +kernel) (by decide +kernel)
theorem k_163_19 : OkOp mt Ev 163 19 (o_cv [(12, 132)] 2) := ok_cv (i := 87) (by decide +kernel) vc_141
theorem k_163_22 : OkOp mt Ev 163 22 (o_iload 2 1) := ok_iload_n (k := 2) (by decide +kernel) rfl
theorem k_163_23 : OkOp mt Ev 163 23 (o_ib (fun x y => x <<< (y &&& 31))) := ok_ishl (by decide +kernel)
theorem k_163_24 : OkOp mt Ev 163 24 (o_ib (fun x y => x ||| y)) := ok_ior (by decide +kernel)
theorem k_163_25 : OkOp mt Ev 163 25 (o_istore 1 1) := ok_istore_n (k := 1) (by decide +kernel) rfl
theorem k_163_26 : OkOp mt Ev 163 26 (o_iinc 2 (1)) := ok_iinc (n := 1) (by decide +kernel) (by decide +kernel)
theorem k_163_29 : OkOp mt Ev 163 29 (o_goto 4) := ok_goto (off := -25) (by decide +kernel) (by decide +kernel)
theorem k_163_32 : OkOp mt Ev 163 32 (o_iload 1 1) := ok_iload_n (k := 1) (by decide +kernel) rfl
theorem k_163_33 : OkOp mt Ev 163 33 (o_ret 0) := ok_reti (ty := .int) (by decide +kernel) rfl (Or.inl ⟨rfl, rfl⟩)
theorem kt_163 : ∀ pc o, cd_X12_beyond Ev pc = some o → OkOp mt Ev 163 pc o ∧ Gw o := (tN_ok (tN_ok (tN_ok (tN_ok (tL_ok ⟨k_163_0, gw_push⟩) (tL_ok ⟨k_163_1, gw_istore⟩)) (tN_ok (tL_ok ⟨k_163_2, gw_push⟩) (tN_ok (tL_ok ⟨k_163_3, gw_istore⟩) (tL_ok ⟨k_163_4, gw_iload⟩)))) (tN_ok (tN_ok (tL_ok ⟨k_163_5, gw_aload⟩) (tN_ok (tL_ok ⟨k_163_6, gw_getf⟩) (tL_ok ⟨k_163_9, gw_push⟩))) (tN_ok (tL_ok ⟨k_163_11, gw_iald⟩) (tN_ok (tL_ok ⟨k_163_12, gw_if2⟩) (tL_ok ⟨k_163_15, gw_iload⟩))))) (tN_ok (tN_ok (tN_ok (tL_ok ⟨k_163_16, gw_aload⟩) (tN_ok (tL_ok ⟨k_163_17, gw_iload⟩) (tL_ok ⟨k_163_18, gw_push⟩))) (tN_ok (tL_ok ⟨k_163_19, gw_cv⟩) (tN_ok (tL_ok ⟨k_163_22, gw_iload⟩) (tL_ok ⟨k_163_23, gw_ib⟩)))) (tN_ok (tN_ok (tL_ok ⟨k_163_24, gw_ib⟩) (tN_ok (tL_ok ⟨k_163_25, gw_istore⟩) (tL_ok ⟨k_163_26, gw_iinc⟩))) (tN_ok (tL_ok ⟨k_163_29, gw_goto⟩) (tN_ok (tL_ok ⟨k_163_32, gw_iload⟩) (tL_ok ⟨k_163_33, gw_ret⟩))))))
theorem k_164_0 : OkOp mt Ev 164 0 (o_aload 0 1) := ok_aload_n (k := 0) (by decide +kernel) rfl
theorem k_164_1 : OkOp mt Ev 164 1 (o_getf 0 [12]) := ok_getf (i := 15) (rf := "BridgeSentencesModel") (nm := "now") (ds := "[I") (by decide +kernel) fc_47 wd_985
theorem k_164_4 : OkOp mt Ev 164 4 (o_aload 0 1) := ok_aload_n (k := 0) (by decide +kernel) rfl
theorem k_164_5 : OkOp mt Ev 164 5 (o_getf 1 [12]) := ok_getf (i := 19) (rf := "BridgeSentencesModel") (nm := "mind") (ds := "[I") (by decide +kernel) fc_48 wd_986
theorem k_164_8 : OkOp mt Ev 164 8 (o_cs 125 2) := ok_cs (i := 79) (by decide +kernel) wd_1078 wd_1079 wd_62 wd_1080 nk_33
theorem k_164_11 : OkOp mt Ev 164 11 (o_push (.int (-5)) 2) := ok_bipush (n := -5) (by decide +kernel) (by decide +kernel)
theorem k_164_13 : OkOp mt Ev 164 13 (o_istore 2 1) := ok_istore_n (k := 2) (by decide +kernel) rfl
theorem k_164_14 : OkOp mt Ev 164 14 (o_push (.int (0)) 1) := ok_iconst (n := 0) (by decide +kernel) (by decide +kernel)
theorem k_164_15 : OkOp mt Ev 164 15 (o_istore 3 1) := ok_istore_n (k := 3) (by decide +kernel) rfl
theorem k_164_16 : OkOp mt Ev 164 16 (o_iload 3 1) := ok_iload_n (k := 3) (by decide +kernel) rfl
theorem k_164_17 : OkOp mt Ev 164 17 (o_push (.int (60)) 2) := ok_bipush (n := 60) (by decide +kernel) (by decide +kernel)
theorem k_164_19 : OkOp mt Ev 164 19 (o_if2 (fun x y => decide (y < x)) 60) := ok_icmp_gt (off := 41) (by decide +kernel) (by decide +kernel)
theorem k_164_22 : OkOp mt Ev 164 22 (o_iload 2 1) := ok_iload_n (k := 2) (by decide +kernel) rfl
theorem k_164_23 : OkOp mt Ev 164 23 (o_push (.int (-5)) 2) := ok_bipush (n := -5) (by decide +kernel) (by decide +kernel)
theorem k_164_25 : OkOp mt Ev 164 25 (o_if2 (fun x y => decide (¬ x = y)) 60) := ok_icmp_ne (off := 35) (by decide +kernel) (by decide +kernel)
theorem k_164_28 : OkOp mt Ev 164 28 (o_aload 0 1) := ok_aload_n (k := 0) (by decide +kernel) rfl
theorem k_164_29 : OkOp mt Ev 164 29 (o_getf 0 [12]) := ok_getf (i := 15) (rf := "BridgeSentencesModel") (nm := "now") (ds := "[I") (by decide +kernel) fc_47 wd_985
theorem k_164_32 : OkOp mt Ev 164 32 (o_push (.int (13)) 2) := ok_bipush (n := 13) (by decide +kernel) (by decide +kernel)
theorem k_164_34 : OkOp mt Ev 164 34 (o_iald 2) := ok_iald (by decide +kernel)
theorem k_164_35 : OkOp mt Ev 164 35 (o_iload 1 1) := ok_iload_n (k := 1) (by decide +kernel) rfl
theorem k_164_36 : OkOp mt Ev 164 36 (o_ib (fun x y => x >>> (y &&& 31))) := ok_ishr (by decide +kernel)
theorem k_164_37 : OkOp mt Ev 164 37 (o_push (.int (1)) 1) := ok_iconst (n := 1) (by decide +kernel) (by decide +kernel)
theorem k_164_38 : OkOp mt Ev 164 38 (o_ib (fun x y => x &&& y)) := ok_iand (by decide +kernel)
theorem k_164_39 : OkOp mt Ev 164 39 (o_push (.int (1)) 1) := ok_iconst (n := 1) (by decide +kernel) (by decide +kernel)
theorem k_164_40 : OkOp mt Ev 164 40 (o_if2 (fun x y => decide (¬ x = y)) 47) := ok_icmp_ne (off := 7) (by decide +kernel) (by decide +kernel)
theorem k_164_43 : OkOp mt Ev 164 43 (o_iload 3 1) := ok_iload_n (k := 3) (by decide +kernel) rfl
theorem k_164_44 : OkOp mt Ev 164 44 (o_goto 49) := ok_goto (off := 5) (by decide +kernel) (by decide +kernel)
theorem k_164_47 : OkOp mt Ev 164 47 (o_push (.int (-5)) 2) := ok_bipush (n := -5) (by decide +kernel) (by decide +kernel)
theorem k_164_49 : OkOp mt Ev 164 49 (o_istore 2 1) := ok_istore_n (k := 2) (by decide +kernel) rfl
theorem k_164_50 : OkOp mt Ev 164 50 (o_aload 0 1) := ok_aload_n (k := 0) (by decide +kernel) rfl
theorem k_164_51 : OkOp mt Ev 164 51 (o_cv [(12, 161)] 0) := ok_cv (i := 207) (by decide +kernel) vc_164
theorem k_164_54 : OkOp mt Ev 164 54 (o_iinc 3 (1)) := ok_iinc (n := 1) (by decide +kernel) (by decide +kernel)
theorem k_164_57 : OkOp mt Ev 164 57 (o_goto 16) := ok_goto (off := -41) (by decide +kernel) (by decide +kernel)
theorem k_164_60 : OkOp mt Ev 164 60 (o_aload 0 1) := ok_aload_n (k := 0) (by decide +kernel) rfl
theorem k_164_61 : OkOp mt Ev 164 61 (o_getf 1 [12]) := ok_getf (i := 19) (rf := "BridgeSentencesModel") (nm := "mind") (ds := "[I") (by decide +kernel) fc_48 wd_986
theorem k_164_64 : OkOp mt Ev 164 64 (o_aload 0 1) := ok_aload_n (k := 0) (by decide +kernel) rfl
theorem k_164_65 : OkOp mt Ev 164 65 (o_getf 0 [12]) := ok_getf (i := 15) (rf := "BridgeSentencesModel") (nm := "now") (ds := "[I") (by decide +kernel) fc_47 wd_985
theorem k_164_68 : OkOp mt Ev 164 68 (o_cs 125 2) := ok_cs (i := 79) (by decide +kernel) wd_1078 wd_1079 wd_62 wd_1080 nk_33
theorem k_164_71 : OkOp mt Ev 164 71 (o_iload 2 1) := ok_iload_n (k := 2) (by decide +kernel) rfl
theorem k_164_72 : OkOp mt Ev 164 72 (o_ret 0) := ok_reti (ty := .int) (by decide +kernel) rfl (Or.inl ⟨rfl, rfl⟩)
theorem kt_164 : ∀ pc o, cd_X12_comes Ev pc = some o → OkOp mt Ev 164 pc o ∧ Gw o := (tN_ok (tN_ok (tN_ok (tN_ok (tN_ok (tL_ok ⟨k_164_0, gw_aload⟩) (tL_ok ⟨k_164_1, gw_getf⟩)) (tN_ok (tL_ok ⟨k_164_4, gw_aload⟩) (tN_ok (tL_ok ⟨k_164_5, gw_getf⟩) (tL_ok ⟨k_164_8, gw_cs⟩)))) (tN_ok (tN_ok (tL_ok ⟨k_164_11, gw_push⟩) (tL_ok ⟨k_164_13, gw_istore⟩)) (tN_ok (tL_ok ⟨k_164_14, gw_push⟩) (tN_ok (tL_ok ⟨k_164_15, gw_istore⟩) (tL_ok ⟨k_164_16, gw_iload⟩))))) (tN_ok (tN_ok (tN_ok (tL_ok ⟨k_164_17, gw_push⟩) (tL_ok ⟨k_164_19, gw_if2⟩)) (tN_ok (tL_ok ⟨k_164_22, gw_iload⟩) (tN_ok (tL_ok ⟨k_164_23, gw_push⟩) (tL_ok ⟨k_164_25, gw_if2⟩)))) (tN_ok (tN_ok (tL_ok ⟨k_164_28, gw_aload⟩) (tL_ok ⟨k_164_29, gw_getf⟩)) (tN_ok (tL_ok ⟨k_164_32, gw_push⟩) (tN_ok (tL_ok ⟨k_164_34, gw_iald⟩) (tL_ok ⟨k_164_35, gw_iload⟩)))))) (tN_ok (tN_ok (tN_ok (tN_ok (tL_ok ⟨k_164_36, gw_ib⟩) (tL_ok ⟨k_164_37, gw_push⟩)) (tN_ok (tL_ok ⟨k_164_38, gw_ib⟩) (tN_ok (tL_ok ⟨k_164_39, gw_push⟩) (tL_ok ⟨k_164_40, gw_if2⟩)))) (tN_ok (tN_ok (tL_ok ⟨k_164_43, gw_iload⟩) (tL_ok ⟨k_164_44, gw_goto⟩)) (tN_ok (tL_ok ⟨k_164_47, gw_push⟩) (tN_ok (tL_ok ⟨k_164_49, gw_istore⟩) (tL_ok ⟨k_164_50, gw_aload⟩))))) (tN_ok (tN_ok (tN_ok (tL_ok ⟨k_164_51, gw_cv⟩) (tL_ok ⟨k_164_54, gw_iinc⟩)) (tN_ok (tL_ok ⟨k_164_57, gw_goto⟩) (tN_ok (tL_ok ⟨k_164_60, gw_aload⟩) (tL_ok ⟨k_164_61, gw_getf⟩)))) (tN_ok (tN_ok (tL_ok ⟨k_164_64, gw_aload⟩) (tL_ok ⟨k_164_65, gw_getf⟩)) (tN_ok (tL_ok ⟨k_164_68, gw_cs⟩) (tN_ok (tL_ok ⟨k_164_71, gw_iload⟩) (tL_ok ⟨k_164_72, gw_ret⟩)))))))
theorem k_165_0 : OkOp mt Ev 165 0 (o_aload 0 1) := ok_aload_n (k := 0) (by decide +kernel) rfl
theorem k_165_1 : OkOp mt Ev 165 1 (o_iload 1 1) := ok_iload_n (k := 1) (by decide +kernel) rfl
theorem k_165_2 : OkOp mt Ev 165 2 (o_cv [(12, 157)] 1) := ok_cv (i := 99) (by decide +kernel) vc_144
theorem k_165_5 : OkOp mt Ev 165 5 (o_istore 2 1) := ok_istore_n (k := 2) (by decide +kernel) rfl
theorem k_165_6 : OkOp mt Ev 165 6 (o_iload 2 1) := ok_iload_n (k := 2) (by decide +kernel) rfl
theorem k_165_7 : OkOp mt Ev 165 7 (o_push (.int (-1)) 1) := ok_iconst (n := -1) (by decide +kernel) (by decide +kernel)
theorem k_165_8 : OkOp mt Ev 165 8 (o_if2 (fun x y => decide (¬ x = y)) 14) := ok_icmp_ne (off := 6) (by decide +kernel) (by decide +kernel)
theorem k_165_11 : OkOp mt Ev 165 11 (o_push (.int (-5)) 2) := ok_bipush (n := -5) (by decide +kernel) (by decide +kernel)
theorem k_165_13 : OkOp mt Ev 165 13 (o_ret 0) := ok_reti (ty := .int) (by decide +kernel) rfl (Or.inl ⟨rfl, rfl⟩)
theorem k_165_14 : OkOp mt Ev 165 14 (o_aload 0 1) := ok_aload_n (k := 0) (by decide +kernel) rfl
theorem k_165_15 : OkOp mt Ev 165 15 (o_getf 0 [12]) := ok_getf (i := 15) (rf := "BridgeSentencesModel") (nm := "now") (ds := "[I") (by decide +kernel) fc_47 wd_985
theorem k_165_18 : OkOp mt Ev 165 18 (o_iload 2 1) := ok_iload_n (k := 2) (by decide +kernel) rfl
theorem k_165_19 : OkOp mt Ev 165 19 (o_iald 2) := ok_iald (by decide +kernel)
theorem k_165_20 : OkOp mt Ev 165 20 (o_istore 3 1) := ok_istore_n (k := 3) (by decide +kernel) rfl
theorem k_165_21 : OkOp mt Ev 165 21 (o_push (.int (0)) 1) := ok_iconst (n := 0) (by decide +kernel) (by decide +kernel)
theorem k_165_22 : OkOp mt Ev 165 22 (o_istore 4 2) := ok_istore (by decide +kernel)
theorem k_165_24 : OkOp mt Ev 165 24 (o_push (.int (1)) 1) := ok_iconst (n := 1) (by decide +kernel) (by decide +kernel)
theorem k_165_25 : OkOp mt Ev 165 25 (o_istore 5 2) := ok_istore (by decide +kernel)
theorem k_165_27 : OkOp mt Ev 165 27 (o_iload 5 2) := ok_iload (by decide +kernel)
theorem k_165_29 : OkOp mt Ev 165 29 (o_push (.int (20)) 2) := ok_bipush (n := 20) (by decide +kernel) (by decide +kernel)
theorem k_165_31 : OkOp mt Ev 165 31 (o_if2 (fun x y => decide (y < x)) 72) := ok_icmp_gt (off := 41) (by decide +kernel) (by decide +kernel)
theorem k_165_34 : OkOp mt Ev 165 34 (o_aload 0 1) := ok_aload_n (k := 0) (by decide +kernel) rfl
theorem k_165_35 : OkOp mt Ev 165 35 (o_getf 0 [12]) := ok_getf (i := 15) (rf := "BridgeSentencesModel") (nm := "now") (ds := "[I") (by decide +kernel) fc_47 wd_985
theorem k_165_38 : OkOp mt Ev 165 38 (o_iload 2 1) := ok_iload_n (k := 2) (by decide +kernel) rfl
theorem k_165_39 : OkOp mt Ev 165 39 (o_push (.int (0)) 1) := ok_iconst (n := 0) (by decide +kernel) (by decide +kernel)
theorem k_165_40 : OkOp mt Ev 165 40 (o_iload 3 1) := ok_iload_n (k := 3) (by decide +kernel) rfl
theorem k_165_41 : OkOp mt Ev 165 41 (o_iload 5 2) := ok_iload (by decide +kernel)
theorem k_165_43 : OkOp mt Ev 165 43 (o_ib (fun x y => x - y)) := ok_isub (by decide +kernel)
theorem k_165_44 : OkOp mt Ev 165 44 (o_cs 196 2) := ok_cs (i := 189) (by decide +kernel) wd_1172 wd_100 wd_59 wd_101 nk_9
theorem k_165_47 : OkOp mt Ev 165 47 (o_iast 2 (fun x => x)) := ok_iast (by decide +kernel)
theorem k_165_48 : OkOp mt Ev 165 48 (o_aload 0 1) := ok_aload_n (k := 0) (by decide +kernel) rfl
theorem k_165_49 : OkOp mt Ev 165 49 (o_iload 1 1) := ok_iload_n (k := 1) (by decide +kernel) rfl
theorem k_165_50 : OkOp mt Ev 165 50 (o_cv [(12, 157)] 1) := ok_cv (i := 99) (by decide +kernel) vc_144
theorem k_165_53 : OkOp mt Ev 165 53 (o_iload 2 1) := ok_iload_n (k := 2) (by decide +kernel) rfl
theorem k_165_54 : OkOp mt Ev 165 54 (o_if2 (fun x y => decide (¬ x = y)) 62) := ok_icmp_ne (off := 8) (by decide +kernel) (by decide +kernel)
theorem k_165_57 : OkOp mt Ev 165 57 (o_iload 5 2) := ok_iload (by decide +kernel)
theorem k_165_59 : OkOp mt Ev 165 59 (o_goto 64) := ok_goto (off := 5) (by decide +kernel) (by decide +kernel)
theorem k_165_62 : OkOp mt Ev 165 62 (o_iload 4 2) := ok_iload (by decide +kernel)
theorem k_165_64 : OkOp mt Ev 165 64 (o_istore 4 2) := ok_istore (by decide +kernel)
theorem k_165_66 : OkOp mt Ev 165 66 (o_iinc 5 (1)) := ok_iinc (n := 1) (by decide +kernel) (by decide +kernel)
theorem k_165_69 : OkOp mt Ev 165 69 (o_goto 27) := ok_goto (off := -42) (by decide +kernel) (by decide +kernel)
theorem k_165_72 : OkOp mt Ev 165 72 (o_aload 0 1) := ok_aload_n (k := 0) (by decide +kernel) rfl
theorem k_165_73 : OkOp mt Ev 165 73 (o_getf 0 [12]) := ok_getf (i := 15) (rf := "BridgeSentencesModel") (nm := "now") (ds := "[I") (by decide +kernel) fc_47 wd_985
theorem k_165_76 : OkOp mt Ev 165 76 (o_iload 2 1) := ok_iload_n (k := 2) (by decide +kernel) rfl
theorem k_165_77 : OkOp mt Ev 165 77 (o_iload 3 1) := ok_iload_n (k := 3) (by decide +kernel) rfl
theorem k_165_78 : OkOp mt Ev 165 78 (o_iast 2 (fun x => x)) := ok_iast (by decide +kernel)
theorem k_165_79 : OkOp mt Ev 165 79 (o_iload 4 2) := ok_iload (by decide +kernel)
theorem k_165_81 : OkOp mt Ev 165 81 (o_ret 0) := ok_reti (ty := .int) (by decide +kernel) rfl (Or.inl ⟨rfl, rfl⟩)
theorem kt_165 : ∀ pc o, cd_X12_dear Ev pc = some o → OkOp mt Ev 165 pc o ∧ Gw o := (tN_ok (tN_ok (tN_ok (tN_ok (tN_ok (tL_ok ⟨k_165_0, gw_aload⟩) (tN_ok (tL_ok ⟨k_165_1, gw_iload⟩) (tL_ok ⟨k_165_2, gw_cv⟩))) (tN_ok (tL_ok ⟨k_165_5, gw_istore⟩) (tN_ok (tL_ok ⟨k_165_6, gw_iload⟩) (tL_ok ⟨k_165_7, gw_push⟩)))) (tN_ok (tN_ok (tL_ok ⟨k_165_8, gw_if2⟩) (tN_ok (tL_ok ⟨k_165_11, gw_push⟩) (tL_ok ⟨k_165_13, gw_ret⟩))) (tN_ok (tL_ok ⟨k_165_14, gw_aload⟩) (tN_ok (tL_ok ⟨k_165_15, gw_getf⟩) (tL_ok ⟨k_165_18, gw_iload⟩))))) (tN_ok (tN_ok (tN_ok (tL_ok ⟨k_165_19, gw_iald⟩) (tN_ok (tL_ok ⟨k_165_20, gw_istore⟩) (tL_ok ⟨k_165_21, gw_push⟩))) (tN_ok (tL_ok ⟨k_165_22, gw_istore⟩) (tN_ok (tL_ok ⟨k_165_24, gw_push⟩) (tL_ok ⟨k_165_25, gw_istore⟩)))) (tN_ok (tN_ok (tL_ok ⟨k_165_27, gw_iload⟩) (tN_ok (tL_ok ⟨k_165_29, gw_push⟩) (tL_ok ⟨k_165_31, gw_if2⟩))) (tN_ok (tL_ok ⟨k_165_34, gw_aload⟩) (tN_ok (tL_ok ⟨k_165_35, gw_getf⟩) (tL_ok ⟨k_165_38, gw_iload⟩)))))) (tN_ok (tN_ok (tN_ok (tN_ok (tL_ok ⟨k_165_39, gw_push⟩) (tN_ok (tL_ok ⟨k_165_40, gw_iload⟩) (tL_ok ⟨k_165_41, gw_iload⟩))) (tN_ok (tL_ok ⟨k_165_43, gw_ib⟩) (tN_ok (tL_ok ⟨k_165_44, gw_cs⟩) (tL_ok ⟨k_165_47, gw_iast⟩)))) (tN_ok (tN_ok (tL_ok ⟨k_165_48, gw_aload⟩) (tN_ok (tL_ok ⟨k_165_49, gw_iload⟩) (tL_ok ⟨k_165_50, gw_cv⟩))) (tN_ok (tL_ok ⟨k_165_53, gw_iload⟩) (tN_ok (tL_ok ⟨k_165_54, gw_if2⟩) (tL_ok ⟨k_165_57, gw_iload⟩))))) (tN_ok (tN_ok (tN_ok (tL_ok ⟨k_165_59, gw_goto⟩) (tN_ok (tL_ok ⟨k_165_62, gw_iload⟩) (tL_ok ⟨k_165_64, gw_istore⟩))) (tN_ok (tL_ok ⟨k_165_66, gw_iinc⟩) (tN_ok (tL_ok ⟨k_165_69, gw_goto⟩) (tL_ok ⟨k_165_72, gw_aload⟩)))) (tN_ok (tN_ok (tL_ok ⟨k_165_73, gw_getf⟩) (tN_ok (tL_ok ⟨k_165_76, gw_iload⟩) (tL_ok ⟨k_165_77, gw_iload⟩))) (tN_ok (tL_ok ⟨k_165_78, gw_iast⟩) (tN_ok (tL_ok ⟨k_165_79, gw_iload⟩) (tL_ok ⟨k_165_81, gw_ret⟩)))))))
theorem k_166_0 : OkOp mt Ev 166 0 (o_iload 1 1) := ok_iload_n (k := 1) (by decide +kernel) rfl
theorem k_166_1 : OkOp mt Ev 166 1 (o_sw 70 [(0, 36), (1, 44), (2, 49), (3, 57), (4, 65)]) := ok_tsw (dflt := 69) (lo := 0) (hi := 4) (offs := #[35, 43, 48, 56, 64]) (len := 35) (by decide +kernel) (by decide +kernel) (by decide +kernel) (by decide +kernel)
theorem k_166_36 : OkOp mt Ev 166 36 (o_aload 0 1) := ok_aload_n (k := 0) (by decide +kernel) rfl
theorem k_166_37 : OkOp mt Ev 166 37 (o_getf 0 [12]) := ok_getf (i := 15) (rf := "BridgeSentencesModel") (nm := "now") (ds := "[I") (by decide +kernel) fc_47 wd_985
theorem k_166_40 : OkOp mt Ev 166 40 (o_push (.int (69)) 2) := ok_bipush (n := 69) (by decide +kernel) (by decide +kernel)
theorem k_166_42 : OkOp mt Ev 166 42 (o_iald 2) := ok_iald (by decide +kernel)
theorem k_166_43 : OkOp mt Ev 166 43 (o_ret 0) := ok_reti (ty := .int) (by decide +kernel) rfl (Or.inl ⟨rfl, rfl⟩)
theorem k_166_44 : OkOp mt Ev 166 44 (o_aload 0 1) := ok_aload_n (k := 0) (by decide +kernel) rfl
theorem k_166_45 : OkOp mt Ev 166 45 (o_cv [(12, 159)] 0) := ok_cv (i := 201) (by decide +kernel) vc_162
theorem k_166_48 : OkOp mt Ev 166 48 (o_ret 0) := ok_reti (ty := .int) (by decide +kernel) rfl (Or.inl ⟨rfl, rfl⟩)
theorem k_166_49 : OkOp mt Ev 166 49 (o_aload 0 1) := ok_aload_n (k := 0) (by decide +kernel) rfl
theorem k_166_50 : OkOp mt Ev 166 50 (o_getf 0 [12]) := ok_getf (i := 15) (rf := "BridgeSentencesModel") (nm := "now") (ds := "[I") (by decide +kernel) fc_47 wd_985
theorem k_166_53 : OkOp mt Ev 166 53 (o_push (.int (12)) 2) := ok_bipush (n := 12) (by decide +kernel) (by decide +kernel)
theorem k_166_55 : OkOp mt Ev 166 55 (o_iald 2) := ok_iald (by decide +kernel)
theorem k_166_56 : OkOp mt Ev 166 56 (o_ret 0) := ok_reti (ty := .int) (by decide +kernel) rfl (Or.inl ⟨rfl, rfl⟩)
theorem k_166_57 : OkOp mt Ev 166 57 (o_aload 0 1) := ok_aload_n (k := 0) (by decide +kernel) rfl
theorem k_166_58 : OkOp mt Ev 166 58 (o_getf 0 [12]) := ok_getf (i := 15) (rf := "BridgeSentencesModel") (nm := "now") (ds := "[I") (by decide +kernel) fc_47 wd_985
theorem k_166_61 : OkOp mt Ev 166 61 (o_push (.int (13)) 2) := ok_bipush (n := 13) (by decide +kernel) (by decide +kernel)
theorem k_166_63 : OkOp mt Ev 166 63 (o_iald 2) := ok_iald (by decide +kernel)
theorem k_166_64 : OkOp mt Ev 166 64 (o_ret 0) := ok_reti (ty := .int) (by decide +kernel) rfl (Or.inl ⟨rfl, rfl⟩)
theorem k_166_65 : OkOp mt Ev 166 65 (o_aload 0 1) := ok_aload_n (k := 0) (by decide +kernel) rfl
theorem k_166_66 : OkOp mt Ev 166 66 (o_cv [(12, 163)] 0) := ok_cv (i := 210) (by decide +kernel) vc_165
theorem k_166_69 : OkOp mt Ev 166 69 (o_ret 0) := ok_reti (ty := .int) (by decide +kernel) rfl (Or.inl ⟨rfl, rfl⟩)
theorem k_166_70 : OkOp mt Ev 166 70 (o_iload 1 1) := ok_iload_n (k := 1) (by decide +kernel) rfl
theorem k_166_71 : OkOp mt Ev 166 71 (o_push (.int (10)) 2) := ok_bipush (n := 10) (by decide +kernel) (by decide +kernel)
theorem k_166_73 : OkOp mt Ev 166 73 (o_ib (fun x y => x - y)) := ok_isub (by decide +kernel)
theorem k_166_74 : OkOp mt Ev 166 74 (o_cs 129 1) := ok_cs (i := 113) (by decide +kernel) wd_1192 wd_1193 wd_62 wd_1194 nk_36
theorem k_166_77 : OkOp mt Ev 166 77 (o_if1 (fun x => decide (x = 0)) 92) := ok_if_eq (off := 15) (by decide +kernel) (by decide +kernel)
theorem k_166_80 : OkOp mt Ev 166 80 (o_aload 0 1) := ok_aload_n (k := 0) (by decide +kernel) rfl
theorem k_166_81 : OkOp mt Ev 166 81 (o_getf 0 [12]) := ok_getf (i := 15) (rf := "BridgeSentencesModel") (nm := "now") (ds := "[I") (by decide +kernel) fc_47 wd_985
theorem k_166_84 : OkOp mt Ev 166 84 (o_iload 1 1) := ok_iload_n (k := 1) (by decide +kernel) rfl
theorem k_166_85 : OkOp mt Ev 166 85 (o_push (.int (10)) 2) := ok_bipush (n := 10) (by decide +kernel) (by decide +kernel)
theorem k_166_87 : OkOp mt Ev 166 87 (o_ib (fun x y => x - y)) := ok_isub (by decide +kernel)
theorem k_166_88 : OkOp mt Ev 166 88 (o_iald 2) := ok_iald (by decide +kernel)
theorem k_166_89 : OkOp mt Ev 166 89 (o_goto 135) := ok_goto (off := 46) (by decide +kernel) (by decide +kernel)
theorem k_166_92 : OkOp mt Ev 166 92 (o_iload 1 1) := ok_iload_n (k := 1) (by decide +kernel) rfl
theorem k_166_93 : OkOp mt Ev 166 93 (o_push (.int (30)) 2) := ok_bipush (n := 30) (by decide +kernel) (by decide +kernel)
theorem k_166_95 : OkOp mt Ev 166 95 (o_ib (fun x y => x - y)) := ok_isub (by decide +kernel)
theorem k_166_96 : OkOp mt Ev 166 96 (o_cs 129 1) := ok_cs (i := 113) (by decide +kernel) wd_1192 wd_1193 wd_62 wd_1194 nk_36
theorem k_166_99 : OkOp mt Ev 166 99 (o_if1 (fun x => decide (x = 0)) 113) := ok_if_eq (off := 14) (by decide +kernel) (by decide +kernel)
theorem k_166_102 : OkOp mt Ev 166 102 (o_aload 0 1) := ok_aload_n (k := 0) (by decide +kernel) rfl
theorem k_166_103 : OkOp mt Ev 166 103 (o_iload 1 1) := ok_iload_n (k := 1) (by decide +kernel) rfl
theorem k_166_104 : OkOp mt Ev 166 104 (o_push (.int (30)) 2) := ok_bipush (n := 30) (by decide +kernel) (by decide +kernel)
theorem k_166_106 : OkOp mt Ev 166 106 (o_ib (fun x y => x - y)) := ok_isub (by decide +kernel)
theorem k_166_107 : OkOp mt Ev 166 107 (o_cv [(12, 164)] 1) := ok_cv (i := 213) (by decide +kernel) vc_166
theorem k_166_110 : OkOp mt Ev 166 110 (o_goto 135) := ok_goto (off := 25) (by decide +kernel) (by decide +kernel)
theorem k_166_113 : OkOp mt Ev 166 113 (o_iload 1 1) := ok_iload_n (k := 1) (by decide +kernel) rfl
theorem k_166_114 : OkOp mt Ev 166 114 (o_push (.int (50)) 2) := ok_bipush (n := 50) (by decide +kernel) (by decide +kernel)
theorem k_166_116 : OkOp mt Ev 166 116 (o_ib (fun x y => x - y)) := ok_isub (by decide +kernel)
theorem k_166_117 : OkOp mt Ev 166 117 (o_cs 129 1) := ok_cs (i := 113) (by decide +kernel) wd_1192 wd_1193 wd_62 wd_1194 nk_36
theorem k_166_120 : OkOp mt Ev 166 120 (o_if1 (fun x => decide (x = 0)) 134) := ok_if_eq (off := 14) (by decide +kernel) (by decide +kernel)
theorem k_166_123 : OkOp mt Ev 166 123 (o_aload 0 1) := ok_aload_n (k := 0) (by decide +kernel) rfl
theorem k_166_124 : OkOp mt Ev 166 124 (o_iload 1 1) := ok_iload_n (k := 1) (by decide +kernel) rfl
theorem k_166_125 : OkOp mt Ev 166 125 (o_push (.int (50)) 2) := ok_bipush (n := 50) (by decide +kernel) (by decide +kernel)
theorem k_166_127 : OkOp mt Ev 166 127 (o_ib (fun x y => x - y)) := ok_isub (by decide +kernel)
theorem k_166_128 : OkOp mt Ev 166 128 (o_cv [(12, 173)] 1) := ok_cv (i := 216) (by decide +kernel) vc_167
theorem k_166_131 : OkOp mt Ev 166 131 (o_goto 135) := ok_goto (off := 4) (by decide +kernel) (by decide +kernel)
theorem k_166_134 : OkOp mt Ev 166 134 (o_push (.int (-1)) 1) := ok_iconst (n := -1) (by decide +kernel) (by decide +kernel)
theorem k_166_135 : OkOp mt Ev 166 135 (o_ret 0) := ok_reti (ty := .int) (by decide +kernel) rfl (Or.inl ⟨rfl, rfl⟩)
theorem kt_166 : ∀ pc o, cd_X12_told Ev pc = some o → OkOp mt Ev 166 pc o ∧ Gw o := (tN_ok (tN_ok (tN_ok (tN_ok (tN_ok (tL_ok ⟨k_166_0, gw_iload⟩) (tN_ok (tL_ok ⟨k_166_1, gw_sw⟩) (tL_ok ⟨k_166_36, gw_aload⟩))) (tN_ok (tN_ok (tL_ok ⟨k_166_37, gw_getf⟩) (tL_ok ⟨k_166_40, gw_push⟩)) (tN_ok (tL_ok ⟨k_166_42, gw_iald⟩) (tL_ok ⟨k_166_43, gw_ret⟩)))) (tN_ok (tN_ok (tL_ok ⟨k_166_44, gw_aload⟩) (tN_ok (tL_ok ⟨k_166_45, gw_cv⟩) (tL_ok ⟨k_166_48, gw_ret⟩))) (tN_ok (tN_ok (tL_ok ⟨k_166_49, gw_aload⟩) (tL_ok ⟨k_166_50, gw_getf⟩)) (tN_ok (tL_ok ⟨k_166_53, gw_push⟩) (tL_ok ⟨k_166_55, gw_iald⟩))))) (tN_ok (tN_ok (tN_ok (tL_ok ⟨k_166_56, gw_ret⟩) (tN_ok (tL_ok ⟨k_166_57, gw_aload⟩) (tL_ok ⟨k_166_58, gw_getf⟩))) (tN_ok (tN_ok (tL_ok ⟨k_166_61, gw_push⟩) (tL_ok ⟨k_166_63, gw_iald⟩)) (tN_ok (tL_ok ⟨k_166_64, gw_ret⟩) (tL_ok ⟨k_166_65, gw_aload⟩)))) (tN_ok (tN_ok (tN_ok (tL_ok ⟨k_166_66, gw_cv⟩) (tL_ok ⟨k_166_69, gw_ret⟩)) (tN_ok (tL_ok ⟨k_166_70, gw_iload⟩) (tL_ok ⟨k_166_71, gw_push⟩))) (tN_ok (tN_ok (tL_ok ⟨k_166_73, gw_ib⟩) (tL_ok ⟨k_166_74, gw_cs⟩)) (tN_ok (tL_ok ⟨k_166_77, gw_if1⟩) (tL_ok ⟨k_166_80, gw_aload⟩)))))) (tN_ok (tN_ok (tN_ok (tN_ok (tL_ok ⟨k_166_81, gw_getf⟩) (tN_ok (tL_ok ⟨k_166_84, gw_iload⟩) (tL_ok ⟨k_166_85, gw_push⟩))) (tN_ok (tN_ok (tL_ok ⟨k_166_87, gw_ib⟩) (tL_ok ⟨k_166_88, gw_iald⟩)) (tN_ok (tL_ok ⟨k_166_89, gw_goto⟩) (tL_ok ⟨k_166_92, gw_iload⟩)))) (tN_ok (tN_ok (tN_ok (tL_ok ⟨k_166_93, gw_push⟩) (tL_ok ⟨k_166_95, gw_ib⟩)) (tN_ok (tL_ok ⟨k_166_96, gw_cs⟩) (tL_ok ⟨k_166_99, gw_if1⟩))) (tN_ok (tN_ok (tL_ok ⟨k_166_102, gw_aload⟩) (tL_ok ⟨k_166_103, gw_iload⟩)) (tN_ok (tL_ok ⟨k_166_104, gw_push⟩) (tL_ok ⟨k_166_106, gw_ib⟩))))) (tN_ok (tN_ok (tN_ok (tL_ok ⟨k_166_107, gw_cv⟩) (tN_ok (tL_ok ⟨k_166_110, gw_goto⟩) (tL_ok ⟨k_166_113, gw_iload⟩))) (tN_ok (tN_ok (tL_ok ⟨k_166_114, gw_push⟩) (tL_ok ⟨k_166_116, gw_ib⟩)) (tN_ok (tL_ok ⟨k_166_117, gw_cs⟩) (tL_ok ⟨k_166_120, gw_if1⟩)))) (tN_ok (tN_ok (tN_ok (tL_ok ⟨k_166_123, gw_aload⟩) (tL_ok ⟨k_166_124, gw_iload⟩)) (tN_ok (tL_ok ⟨k_166_125, gw_push⟩) (tL_ok ⟨k_166_127, gw_ib⟩))) (tN_ok (tN_ok (tL_ok ⟨k_166_128, gw_cv⟩) (tL_ok ⟨k_166_131, gw_goto⟩)) (tN_ok (tL_ok ⟨k_166_134, gw_push⟩) (tL_ok ⟨k_166_135, gw_ret⟩)))))))
theorem k_167_0 : OkOp mt Ev 167 0 (o_iload 1 1) := ok_iload_n (k := 1) (by decide +kernel) rfl
theorem k_167_1 : OkOp mt Ev 167 1 (o_push (.int (0)) 1) := ok_iconst (n := 0) (by decide +kernel) (by decide +kernel)
theorem k_167_2 : OkOp mt Ev 167 2 (o_push (.int (60)) 2) := ok_bipush (n := 60) (by decide +kernel) (by decide +kernel)
theorem k_167_4 : OkOp mt Ev 167 4 (o_cs 123 3) := ok_cs (i := 83) (by decide +kernel) wd_1089 wd_1090 wd_62 wd_1091 nk_34
theorem k_167_7 : OkOp mt Ev 167 7 (o_if1 (fun x => decide (¬ x = 0)) 13) := ok_if_ne (off := 6) (by decide +kernel) (by decide +kernel)
theorem k_167_10 : OkOp mt Ev 167 10 (o_push (.int (-2)) 2) := ok_bipush (n := -2) (by decide +kernel) (by decide +kernel)
theorem k_167_12 : OkOp mt Ev 167 12 (o_ret 0) := ok_reti (ty := .int) (by decide +kernel) rfl (Or.inl ⟨rfl, rfl⟩)
theorem k_167_13 : OkOp mt Ev 167 13 (o_aload 0 1) := ok_aload_n (k := 0) (by decide +kernel) rfl
theorem k_167_14 : OkOp mt Ev 167 14 (o_getf 0 [12]) := ok_getf (i := 15) (rf := "BridgeSentencesModel") (nm := "now") (ds := "[I") (by decide +kernel) fc_47 wd_985
theorem k_167_17 : OkOp mt Ev 167 17 (o_push (.int (69)) 2) := ok_bipush (n := 69) (by decide +kernel) (by decide +kernel)
theorem k_167_19 : OkOp mt Ev 167 19 (o_iald 2) := ok_iald (by decide +kernel)
theorem k_167_20 : OkOp mt Ev 167 20 (o_iload 1 1) := ok_iload_n (k := 1) (by decide +kernel) rfl
theorem k_167_21 : OkOp mt Ev 167 21 (o_ib (fun x y => x + y)) := ok_iadd (by decide +kernel)
theorem k_167_22 : OkOp mt Ev 167 22 (o_push (.int (9999)) 3) := ok_sipush (n := 9999) (by decide +kernel) (by decide +kernel)
theorem k_167_25 : OkOp mt Ev 167 25 (o_if2 (fun x y => decide (x ≤ y)) 31) := ok_icmp_le (off := 6) (by decide +kernel) (by decide +kernel)
theorem k_167_28 : OkOp mt Ev 167 28 (o_push (.int (-3)) 2) := ok_bipush (n := -3) (by decide +kernel) (by decide +kernel)
theorem k_167_30 : OkOp mt Ev 167 30 (o_ret 0) := ok_reti (ty := .int) (by decide +kernel) rfl (Or.inl ⟨rfl, rfl⟩)
theorem k_167_31 : OkOp mt Ev 167 31 (o_aload 0 1) := ok_aload_n (k := 0) (by decide +kernel) rfl
theorem k_167_32 : OkOp mt Ev 167 32 (o_iload 1 1) := ok_iload_n (k := 1) (by decide +kernel) rfl
theorem k_167_33 : OkOp mt Ev 167 33 (o_cv [(12, 162)] 1) := ok_cv (i := 219) (by decide +kernel) vc_168
theorem k_167_36 : OkOp mt Ev 167 36 (o_aload 0 1) := ok_aload_n (k := 0) (by decide +kernel) rfl
theorem k_167_37 : OkOp mt Ev 167 37 (o_getf 0 [12]) := ok_getf (i := 15) (rf := "BridgeSentencesModel") (nm := "now") (ds := "[I") (by decide +kernel) fc_47 wd_985
theorem k_167_40 : OkOp mt Ev 167 40 (o_push (.int (69)) 2) := ok_bipush (n := 69) (by decide +kernel) (by decide +kernel)
theorem k_167_42 : OkOp mt Ev 167 42 (o_iald 2) := ok_iald (by decide +kernel)
theorem k_167_43 : OkOp mt Ev 167 43 (o_ret 0) := ok_reti (ty := .int) (by decide +kernel) rfl (Or.inl ⟨rfl, rfl⟩)
theorem kt_167 : ∀ pc o, cd_X12_pass Ev pc = some o → OkOp mt Ev 167 pc o ∧ Gw o := (tN_ok (tN_ok (tN_ok (tN_ok (tL_ok ⟨k_167_0, gw_iload⟩) (tN_ok (tL_ok ⟨k_167_1, gw_push⟩) (tL_ok ⟨k_167_2, gw_push⟩))) (tN_ok (tL_ok ⟨k_167_4, gw_cs⟩) (tN_ok (tL_ok ⟨k_167_7, gw_if1⟩) (tL_ok ⟨k_167_10, gw_push⟩)))) (tN_ok (tN_ok (tL_ok ⟨k_167_12, gw_ret⟩) (tN_ok (tL_ok ⟨k_167_13, gw_aload⟩) (tL_ok ⟨k_167_14, gw_getf⟩))) (tN_ok (tL_ok ⟨k_167_17, gw_push⟩) (tN_ok (tL_ok ⟨k_167_19, gw_iald⟩) (tL_ok ⟨k_167_20, gw_iload⟩))))) (tN_ok (tN_ok (tN_ok (tL_ok ⟨k_167_21, gw_ib⟩) (tN_ok (tL_ok ⟨k_167_22, gw_push⟩) (tL_ok ⟨k_167_25, gw_if2⟩))) (tN_ok (tL_ok ⟨k_167_28, gw_push⟩) (tN_ok (tL_ok ⟨k_167_30, gw_ret⟩) (tL_ok ⟨k_167_31, gw_aload⟩)))) (tN_ok (tN_ok (tL_ok ⟨k_167_32, gw_iload⟩) (tN_ok (tL_ok ⟨k_167_33, gw_cv⟩) (tL_ok ⟨k_167_36, gw_aload⟩))) (tN_ok (tN_ok (tL_ok ⟨k_167_37, gw_getf⟩) (tL_ok ⟨k_167_40, gw_push⟩)) (tN_ok (tL_ok ⟨k_167_42, gw_iald⟩) (tL_ok ⟨k_167_43, gw_ret⟩))))))
theorem k_168_0 : OkOp mt Ev 168 0 (o_iload 2 1) := ok_iload_n (k := 2) (by decide +kernel) rfl
theorem k_168_1 : OkOp mt Ev 168 1 (o_push (.int (0)) 1) := ok_iconst (n := 0) (by decide +kernel) (by decide +kernel)
theorem k_168_2 : OkOp mt Ev 168 2 (o_push (.int (2)) 1) := ok_iconst (n := 2) (by decide +kernel) (by decide +kernel)
theorem k_168_3 : OkOp mt Ev 168 3 (o_cs 123 3) := ok_cs (i := 83) (by decide +kernel) wd_1089 wd_1090 wd_62 wd_1091 nk_34
theorem k_168_6 : OkOp mt Ev 168 6 (o_if1 (fun x => decide (¬ x = 0)) 22) := ok_if_ne (off := 16) (by decide +kernel) (by decide +kernel)
theorem k_168_9 : OkOp mt Ev 168 9 (o_aload 0 1) := ok_aload_n (k := 0) (by decide +kernel) rfl
theorem k_168_10 : OkOp mt Ev 168 10 (o_iload 2 1) := ok_iload_n (k := 2) (by decide +kernel) rfl
theorem k_168_11 : OkOp mt Ev 168 11 (o_push (.int (10)) 2) := ok_bipush (n := 10) (by decide +kernel) (by decide +kernel)
theorem k_168_13 : OkOp mt Ev 168 13 (o_ib (fun x y => x - y)) := ok_isub (by decide +kernel)
theorem k_168_14 : OkOp mt Ev 168 14 (o_cv [(12, 128)] 1) := ok_cv (i := 95) (by decide +kernel) vc_143
theorem k_168_17 : OkOp mt Ev 168 17 (o_if1 (fun x => decide (¬ x = 0)) 22) := ok_if_ne (off := 5) (by decide +kernel) (by decide +kernel)
theorem k_168_20 : OkOp mt Ev 168 20 (o_push (.int (-1)) 1) := ok_iconst (n := -1) (by decide +kernel) (by decide +kernel)
theorem k_168_21 : OkOp mt Ev 168 21 (o_ret 0) := ok_reti (ty := .int) (by decide +kernel) rfl (Or.inl ⟨rfl, rfl⟩)
theorem k_168_22 : OkOp mt Ev 168 22 (o_iload 1 1) := ok_iload_n (k := 1) (by decide +kernel) rfl
theorem k_168_23 : OkOp mt Ev 168 23 (o_push (.int (0)) 1) := ok_iconst (n := 0) (by decide +kernel) (by decide +kernel)
theorem k_168_24 : OkOp mt Ev 168 24 (o_push (.int (60)) 2) := ok_bipush (n := 60) (by decide +kernel) (by decide +kernel)
theorem k_168_26 : OkOp mt Ev 168 26 (o_cs 123 3) := ok_cs (i := 83) (by decide +kernel) wd_1089 wd_1090 wd_62 wd_1091 nk_34
theorem k_168_29 : OkOp mt Ev 168 29 (o_if1 (fun x => decide (¬ x = 0)) 35) := ok_if_ne (off := 6) (by decide +kernel) (by decide +kernel)
theorem k_168_32 : OkOp mt Ev 168 32 (o_push (.int (-2)) 2) := ok_bipush (n := -2) (by decide +kernel) (by decide +kernel)
theorem k_168_34 : OkOp mt Ev 168 34 (o_ret 0) := ok_reti (ty := .int) (by decide +kernel) rfl (Or.inl ⟨rfl, rfl⟩)
theorem k_168_35 : OkOp mt Ev 168 35 (o_aload 0 1) := ok_aload_n (k := 0) (by decide +kernel) rfl
theorem k_168_36 : OkOp mt Ev 168 36 (o_getf 0 [12]) := ok_getf (i := 15) (rf := "BridgeSentencesModel") (nm := "now") (ds := "[I") (by decide +kernel) fc_47 wd_985
theorem k_168_39 : OkOp mt Ev 168 39 (o_aload 0 1) := ok_aload_n (k := 0) (by decide +kernel) rfl
theorem k_168_40 : OkOp mt Ev 168 40 (o_getf 1 [12]) := ok_getf (i := 19) (rf := "BridgeSentencesModel") (nm := "mind") (ds := "[I") (by decide +kernel) fc_48 wd_986
theorem k_168_43 : OkOp mt Ev 168 43 (o_cs 125 2) := ok_cs (i := 79) (by decide +kernel) wd_1078 wd_1079 wd_62 wd_1080 nk_33
theorem k_168_46 : OkOp mt Ev 168 46 (o_aload 0 1) := ok_aload_n (k := 0) (by decide +kernel) rfl
theorem k_168_47 : OkOp mt Ev 168 47 (o_iload 1 1) := ok_iload_n (k := 1) (by decide +kernel) rfl
theorem k_168_48 : OkOp mt Ev 168 48 (o_cv [(12, 162)] 1) := ok_cv (i := 219) (by decide +kernel) vc_168
theorem k_168_51 : OkOp mt Ev 168 51 (o_iload 2 1) := ok_iload_n (k := 2) (by decide +kernel) rfl
theorem k_168_52 : OkOp mt Ev 168 52 (o_if1 (fun x => decide (¬ x = 0)) 65) := ok_if_ne (off := 13) (by decide +kernel) (by decide +kernel)
theorem k_168_55 : OkOp mt Ev 168 55 (o_aload 0 1) := ok_aload_n (k := 0) (by decide +kernel) rfl
theorem k_168_56 : OkOp mt Ev 168 56 (o_getf 0 [12]) := ok_getf (i := 15) (rf := "BridgeSentencesModel") (nm := "now") (ds := "[I") (by decide +kernel) fc_47 wd_985
theorem k_168_59 : OkOp mt Ev 168 59 (o_push (.int (12)) 2) := ok_bipush (n := 12) (by decide +kernel) (by decide +kernel)
theorem k_168_61 : OkOp mt Ev 168 61 (o_iald 2) := ok_iald (by decide +kernel)
theorem k_168_62 : OkOp mt Ev 168 62 (o_goto 101) := ok_goto (off := 39) (by decide +kernel) (by decide +kernel)
theorem k_168_65 : OkOp mt Ev 168 65 (o_iload 2 1) := ok_iload_n (k := 2) (by decide +kernel) rfl
theorem k_168_66 : OkOp mt Ev 168 66 (o_push (.int (1)) 1) := ok_iconst (n := 1) (by decide +kernel) (by decide +kernel)
theorem k_168_67 : OkOp mt Ev 168 67 (o_if2 (fun x y => decide (¬ x = y)) 80) := ok_icmp_ne (off := 13) (by decide +kernel) (by decide +kernel)
theorem k_168_70 : OkOp mt Ev 168 70 (o_aload 0 1) := ok_aload_n (k := 0) (by decide +kernel) rfl
theorem k_168_71 : OkOp mt Ev 168 71 (o_getf 0 [12]) := ok_getf (i := 15) (rf := "BridgeSentencesModel") (nm := "now") (ds := "[I") (by decide +kernel) fc_47 wd_985
theorem k_168_74 : OkOp mt Ev 168 74 (o_push (.int (13)) 2) := ok_bipush (n := 13) (by decide +kernel) (by decide +kernel)
theorem k_168_76 : OkOp mt Ev 168 76 (o_iald 2) := ok_iald (by decide +kernel)
theorem k_168_77 : OkOp mt Ev 168 77 (o_goto 101) := ok_goto (off := 24) (by decide +kernel) (by decide +kernel)
theorem k_168_80 : OkOp mt Ev 168 80 (o_iload 2 1) := ok_iload_n (k := 2) (by decide +kernel) rfl
theorem k_168_81 : OkOp mt Ev 168 81 (o_push (.int (2)) 1) := ok_iconst (n := 2) (by decide +kernel) (by decide +kernel)
theorem k_168_82 : OkOp mt Ev 168 82 (o_if2 (fun x y => decide (¬ x = y)) 92) := ok_icmp_ne (off := 10) (by decide +kernel) (by decide +kernel)
theorem k_168_85 : OkOp mt Ev 168 85 (o_aload 0 1) := ok_aload_n (k := 0) (by decide +kernel) rfl
theorem k_168_86 : OkOp mt Ev 168 86 (o_cv [(12, 163)] 0) := ok_cv (i := 210) (by decide +kernel) vc_165
theorem k_168_89 : OkOp mt Ev 168 89 (o_goto 101) := ok_goto (off := 12) (by decide +kernel) (by decide +kernel)
theorem k_168_92 : OkOp mt Ev 168 92 (o_aload 0 1) := ok_aload_n (k := 0) (by decide +kernel) rfl
theorem k_168_93 : OkOp mt Ev 168 93 (o_iload 2 1) := ok_iload_n (k := 2) (by decide +kernel) rfl
theorem k_168_94 : OkOp mt Ev 168 94 (o_push (.int (10)) 2) := ok_bipush (n := 10) (by decide +kernel) (by decide +kernel)
theorem k_168_96 : OkOp mt Ev 168 96 (o_ib (fun x y => x - y)) := ok_isub (by decide +kernel)
theorem k_168_97 : OkOp mt Ev 168 97 (o_push (.int (2)) 1) := ok_iconst (n := 2) (by decide +kernel) (by decide +kernel)
theorem k_168_98 : OkOp mt Ev 168 98 (o_cv [(12, 132)] 2) := ok_cv (i := 87) (by decide +kernel) vc_141
theorem k_168_101 : OkOp mt Ev 168 101 (o_istore 3 1) := ok_istore_n (k := 3) (by decide +kernel) rfl
theorem k_168_102 : OkOp mt Ev 168 102 (o_aload 0 1) := ok_aload_n (k := 0) (by decide +kernel) rfl
theorem k_168_103 : OkOp mt Ev 168 103 (o_getf 1 [12]) := ok_getf (i := 19) (rf := "BridgeSentencesModel") (nm := "mind") (ds := "[I") (by decide +kernel) fc_48 wd_986
theorem k_168_106 : OkOp mt Ev 168 106 (o_aload 0 1) := ok_aload_n (k := 0) (by decide +kernel) rfl
theorem k_168_107 : OkOp mt Ev 168 107 (o_getf 0 [12]) := ok_getf (i := 15) (rf := "BridgeSentencesModel") (nm := "now") (ds := "[I") (by decide +kernel) fc_47 wd_985
theorem k_168_110 : OkOp mt Ev 168 110 (o_cs 125 2) := ok_cs (i := 79) (by decide +kernel) wd_1078 wd_1079 wd_62 wd_1080 nk_33
theorem k_168_113 : OkOp mt Ev 168 113 (o_iload 3 1) := ok_iload_n (k := 3) (by decide +kernel) rfl
theorem k_168_114 : OkOp mt Ev 168 114 (o_ret 0) := ok_reti (ty := .int) (by decide +kernel) rfl (Or.inl ⟨rfl, rfl⟩)
theorem kt_168 : ∀ pc o, cd_X12_on Ev pc = some o → OkOp mt Ev 168 pc o ∧ Gw o := (tN_ok (tN_ok (tN_ok (tN_ok (tN_ok (tL_ok ⟨k_168_0, gw_iload⟩) (tN_ok (tL_ok ⟨k_168_1, gw_push⟩) (tL_ok ⟨k_168_2, gw_push⟩))) (tN_ok (tN_ok (tL_ok ⟨k_168_3, gw_cs⟩) (tL_ok ⟨k_168_6, gw_if1⟩)) (tN_ok (tL_ok ⟨k_168_9, gw_aload⟩) (tL_ok ⟨k_168_10, gw_iload⟩)))) (tN_ok (tN_ok (tN_ok (tL_ok ⟨k_168_11, gw_push⟩) (tL_ok ⟨k_168_13, gw_ib⟩)) (tN_ok (tL_ok ⟨k_168_14, gw_cv⟩) (tL_ok ⟨k_168_17, gw_if1⟩))) (tN_ok (tN_ok (tL_ok ⟨k_168_20, gw_push⟩) (tL_ok ⟨k_168_21, gw_ret⟩)) (tN_ok (tL_ok ⟨k_168_22, gw_iload⟩) (tL_ok ⟨k_168_23, gw_push⟩))))) (tN_ok (tN_ok (tN_ok (tN_ok (tL_ok ⟨k_168_24, gw_push⟩) (tL_ok ⟨k_168_26, gw_cs⟩)) (tN_ok (tL_ok ⟨k_168_29, gw_if1⟩) (tL_ok ⟨k_168_32, gw_push⟩))) (tN_ok (tN_ok (tL_ok ⟨k_168_34, gw_ret⟩) (tL_ok ⟨k_168_35, gw_aload⟩)) (tN_ok (tL_ok ⟨k_168_36, gw_getf⟩) (tL_ok ⟨k_168_39, gw_aload⟩)))) (tN_ok (tN_ok (tN_ok (tL_ok ⟨k_168_40, gw_getf⟩) (tL_ok ⟨k_168_43, gw_cs⟩)) (tN_ok (tL_ok ⟨k_168_46, gw_aload⟩) (tL_ok ⟨k_168_47, gw_iload⟩))) (tN_ok (tN_ok (tL_ok ⟨k_168_48, gw_cv⟩) (tL_ok ⟨k_168_51, gw_iload⟩)) (tN_ok (tL_ok ⟨k_168_52, gw_if1⟩) (tL_ok ⟨k_168_55, gw_aload⟩)))))) (tN_ok (tN_ok (tN_ok (tN_ok (tN_ok (tL_ok ⟨k_168_56, gw_getf⟩) (tL_ok ⟨k_168_59, gw_push⟩)) (tN_ok (tL_ok ⟨k_168_61, gw_iald⟩) (tL_ok ⟨k_168_62, gw_goto⟩))) (tN_ok (tN_ok (tL_ok ⟨k_168_65, gw_iload⟩) (tL_ok ⟨k_168_66, gw_push⟩)) (tN_ok (tL_ok ⟨k_168_67, gw_if2⟩) (tL_ok ⟨k_168_70, gw_aload⟩)))) (tN_ok (tN_ok (tN_ok (tL_ok ⟨k_168_71, gw_getf⟩) (tL_ok ⟨k_168_74, gw_push⟩)) (tN_ok (tL_ok ⟨k_168_76, gw_iald⟩) (tL_ok ⟨k_168_77, gw_goto⟩))) (tN_ok (tN_ok (tL_ok ⟨k_168_80, gw_iload⟩) (tL_ok ⟨k_168_81, gw_push⟩)) (tN_ok (tL_ok ⟨k_168_82, gw_if2⟩) (tL_ok ⟨k_168_85, gw_aload⟩))))) (tN_ok (tN_ok (tN_ok (tN_ok (tL_ok ⟨k_168_86, gw_cv⟩) (tL_ok ⟨k_168_89, gw_goto⟩)) (tN_ok (tL_ok ⟨k_168_92, gw_aload⟩) (tL_ok ⟨k_168_93, gw_iload⟩))) (tN_ok (tN_ok (tL_ok ⟨k_168_94, gw_push⟩) (tL_ok ⟨k_168_96, gw_ib⟩)) (tN_ok (tL_ok ⟨k_168_97, gw_push⟩) (tL_ok ⟨k_168_98, gw_cv⟩)))) (tN_ok (tN_ok (tN_ok (tL_ok ⟨k_168_101, gw_istore⟩) (tL_ok ⟨k_168_102, gw_aload⟩)) (tN_ok (tL_ok ⟨k_168_103, gw_getf⟩) (tL_ok ⟨k_168_106, gw_aload⟩))) (tN_ok (tN_ok (tL_ok ⟨k_168_107, gw_getf⟩) (tL_ok ⟨k_168_110, gw_cs⟩)) (tN_ok (tL_ok ⟨k_168_113, gw_iload⟩) (tL_ok ⟨k_168_114, gw_ret⟩)))))))
theorem k_169_0 : OkOp mt Ev 169 0 (o_aload 0 1) := ok_aload_n (k := 0) (by decide +kernel) rfl
theorem k_169_1 : OkOp mt Ev 169 1 (o_iload 1 1) := ok_iload_n (k := 1) (by decide +kernel) rfl
theorem k_169_2 : OkOp mt Ev 169 2 (o_cv [(12, 128)] 1) := ok_cv (i := 95) (by decide +kernel) vc_143
theorem k_169_5 : OkOp mt Ev 169 5 (o_if1 (fun x => decide (x = 0)) 15) := ok_if_eq (off := 10) (by decide +kernel) (by decide +kernel)
theorem k_169_8 : OkOp mt Ev 169 8 (o_iload 2 1) := ok_iload_n (k := 2) (by decide +kernel) rfl
theorem k_169_9 : OkOp mt Ev 169 9 (o_cs 129 1) := ok_cs (i := 113) (by decide +kernel) wd_1192 wd_1193 wd_62 wd_1194 nk_36
theorem k_169_12 : OkOp mt Ev 169 12 (o_if1 (fun x => decide (¬ x = 0)) 17) := ok_if_ne (off := 5) (by decide +kernel) (by decide +kernel)
theorem k_169_15 : OkOp mt Ev 169 15 (o_push (.int (-1)) 1) := ok_iconst (n := -1) (by decide +kernel) (by decide +kernel)
theorem k_169_16 : OkOp mt Ev 169 16 (o_ret 0) := ok_reti (ty := .int) (by decide +kernel) rfl (Or.inl ⟨rfl, rfl⟩)
theorem k_169_17 : OkOp mt Ev 169 17 (o_aload 0 1) := ok_aload_n (k := 0) (by decide +kernel) rfl
theorem k_169_18 : OkOp mt Ev 169 18 (o_iload 1 1) := ok_iload_n (k := 1) (by decide +kernel) rfl
theorem k_169_19 : OkOp mt Ev 169 19 (o_push (.int (2)) 1) := ok_iconst (n := 2) (by decide +kernel) (by decide +kernel)
theorem k_169_20 : OkOp mt Ev 169 20 (o_cv [(12, 132)] 2) := ok_cv (i := 87) (by decide +kernel) vc_141
theorem k_169_23 : OkOp mt Ev 169 23 (o_istore 3 1) := ok_istore_n (k := 3) (by decide +kernel) rfl
theorem k_169_24 : OkOp mt Ev 169 24 (o_push (.int (-5)) 2) := ok_bipush (n := -5) (by decide +kernel) (by decide +kernel)
theorem k_169_26 : OkOp mt Ev 169 26 (o_istore 4 2) := ok_istore (by decide +kernel)
theorem k_169_28 : OkOp mt Ev 169 28 (o_aload 0 1) := ok_aload_n (k := 0) (by decide +kernel) rfl
theorem k_169_29 : OkOp mt Ev 169 29 (o_iload 1 1) := ok_iload_n (k := 1) (by decide +kernel) rfl
theorem k_169_30 : OkOp mt Ev 169 30 (o_cv [(12, 155)] 1) := ok_cv (i := 192) (by decide +kernel) vc_159
theorem k_169_33 : OkOp mt Ev 169 33 (o_push (.int (0)) 1) := ok_iconst (n := 0) (by decide +kernel) (by decide +kernel)
theorem k_169_34 : OkOp mt Ev 169 34 (o_istore 5 2) := ok_istore (by decide +kernel)
theorem k_169_36 : OkOp mt Ev 169 36 (o_iload 5 2) := ok_iload (by decide +kernel)
theorem k_169_38 : OkOp mt Ev 169 38 (o_push (.int (4096)) 3) := ok_sipush (n := 4096) (by decide +kernel) (by decide +kernel)
theorem k_169_41 : OkOp mt Ev 169 41 (o_if2 (fun x y => decide (y ≤ x)) 118) := ok_icmp_ge (off := 77) (by decide +kernel) (by decide +kernel)
theorem k_169_44 : OkOp mt Ev 169 44 (o_iload 3 1) := ok_iload_n (k := 3) (by decide +kernel) rfl
theorem k_169_45 : OkOp mt Ev 169 45 (o_iload 2 1) := ok_iload_n (k := 2) (by decide +kernel) rfl
theorem k_169_46 : OkOp mt Ev 169 46 (o_ib (fun x y => x >>> (y &&& 31))) := ok_ishr (by decide +kernel)
theorem k_169_47 : OkOp mt Ev 169 47 (o_push (.int (1)) 1) := ok_iconst (n := 1) (by decide +kernel) (by decide +kernel)
theorem k_169_48 : OkOp mt Ev 169 48 (o_ib (fun x y => x &&& y)) := ok_iand (by decide +kernel)
theorem k_169_49 : OkOp mt Ev 169 49 (o_push (.int (1)) 1) := ok_iconst (n := 1) (by decide +kernel) (by decide +kernel)
theorem k_169_50 : OkOp mt Ev 169 50 (o_if2 (fun x y => decide (¬ x = y)) 118) := ok_icmp_ne (off := 68) (by decide +kernel) (by decide +kernel)
theorem k_169_53 : OkOp mt Ev 169 53 (o_iload 5 2) := ok_iload (by decide +kernel)
theorem k_169_55 : OkOp mt Ev 169 55 (o_iload 3 1) := ok_iload_n (k := 3) (by decide +kernel) rfl
theorem k_169_56 : OkOp mt Ev 169 56 (o_ib (fun x y => x &&& y)) := ok_iand (by decide +kernel)
theorem k_169_57 : OkOp mt Ev 169 57 (o_if1 (fun x => decide (¬ x = 0)) 112) := ok_if_ne (off := 55) (by decide +kernel) (by decide +kernel)
theorem k_169_60 : OkOp mt Ev 169 60 (o_iload 4 2) := ok_iload (by decide +kernel)
theorem k_169_62 : OkOp mt Ev 169 62 (o_push (.int (-5)) 2) := ok_bipush (n := -5) (by decide +kernel) (by decide +kernel)
theorem k_169_64 : OkOp mt Ev 169 64 (o_if2 (fun x y => decide (x = y)) 80) := ok_icmp_eq (off := 16) (by decide +kernel) (by decide +kernel)
theorem k_169_67 : OkOp mt Ev 169 67 (o_iload 5 2) := ok_iload (by decide +kernel)
theorem k_169_69 : OkOp mt Ev 169 69 (o_cs 131 1) := ok_cs (i := 181) (by decide +kernel) wd_1168 wd_1169 wd_62 wd_1170 nk_37
theorem k_169_72 : OkOp mt Ev 169 72 (o_iload 4 2) := ok_iload (by decide +kernel)
theorem k_169_74 : OkOp mt Ev 169 74 (o_cs 131 1) := ok_cs (i := 181) (by decide +kernel) wd_1168 wd_1169 wd_62 wd_1170 nk_37
theorem k_169_77 : OkOp mt Ev 169 77 (o_if2 (fun x y => decide (y ≤ x)) 112) := ok_icmp_ge (off := 35) (by decide +kernel) (by decide +kernel)
theorem k_169_80 : OkOp mt Ev 169 80 (o_aload 0 1) := ok_aload_n (k := 0) (by decide +kernel) rfl
theorem k_169_81 : OkOp mt Ev 169 81 (o_iload 1 1) := ok_iload_n (k := 1) (by decide +kernel) rfl
theorem k_169_82 : OkOp mt Ev 169 82 (o_iload 3 1) := ok_iload_n (k := 3) (by decide +kernel) rfl
theorem k_169_83 : OkOp mt Ev 169 83 (o_iload 5 2) := ok_iload (by decide +kernel)
theorem k_169_85 : OkOp mt Ev 169 85 (o_ib (fun x y => x ||| y)) := ok_ior (by decide +kernel)
theorem k_169_86 : OkOp mt Ev 169 86 (o_cv [(12, 156)] 2) := ok_cv (i := 195) (by decide +kernel) vc_160
theorem k_169_89 : OkOp mt Ev 169 89 (o_istore 6 2) := ok_istore (by decide +kernel)
theorem k_169_91 : OkOp mt Ev 169 91 (o_iload 6 2) := ok_iload (by decide +kernel)
theorem k_169_93 : OkOp mt Ev 169 93 (o_push (.int (-1)) 1) := ok_iconst (n := -1) (by decide +kernel) (by decide +kernel)
theorem k_169_94 : OkOp mt Ev 169 94 (o_if2 (fun x y => decide (x = y)) 108) := ok_icmp_eq (off := 14) (by decide +kernel) (by decide +kernel)
theorem k_169_97 : OkOp mt Ev 169 97 (o_iload 6 2) := ok_iload (by decide +kernel)
theorem k_169_99 : OkOp mt Ev 169 99 (o_iload 2 1) := ok_iload_n (k := 2) (by decide +kernel) rfl
theorem k_169_100 : OkOp mt Ev 169 100 (o_if2 (fun x y => decide (x = y)) 108) := ok_icmp_eq (off := 8) (by decide +kernel) (by decide +kernel)
theorem k_169_103 : OkOp mt Ev 169 103 (o_iload 5 2) := ok_iload (by decide +kernel)
theorem k_169_105 : OkOp mt Ev 169 105 (o_goto 110) := ok_goto (off := 5) (by decide +kernel) (by decide +kernel)
theorem k_169_108 : OkOp mt Ev 169 108 (o_iload 4 2) := ok_iload (by decide +kernel)
theorem k_169_110 : OkOp mt Ev 169 110 (o_istore 4 2) := ok_istore (by decide +kernel)
theorem k_169_112 : OkOp mt Ev 169 112 (o_iinc 5 (1)) := ok_iinc (n := 1) (by decide +kernel) (by decide +kernel)
theorem k_169_115 : OkOp mt Ev 169 115 (o_goto 36) := ok_goto (off := -79) (by decide +kernel) (by decide +kernel)
theorem k_169_118 : OkOp mt Ev 169 118 (o_iload 4 2) := ok_iload (by decide +kernel)
theorem k_169_120 : OkOp mt Ev 169 120 (o_ret 0) := ok_reti (ty := .int) (by decide +kernel) rfl (Or.inl ⟨rfl, rfl⟩)
theorem kt_169 : ∀ pc o, cd_X12_decoy Ev pc = some o → OkOp mt Ev 169 pc o ∧ Gw o := (tN_ok (tN_ok (tN_ok (tN_ok (tN_ok (tN_ok (tL_ok ⟨k_169_0, gw_aload⟩) (tL_ok ⟨k_169_1, gw_iload⟩)) (tN_ok (tL_ok ⟨k_169_2, gw_cv⟩) (tL_ok ⟨k_169_5, gw_if1⟩))) (tN_ok (tN_ok (tL_ok ⟨k_169_8, gw_iload⟩) (tL_ok ⟨k_169_9, gw_cs⟩)) (tN_ok (tL_ok ⟨k_169_12, gw_if1⟩) (tL_ok ⟨k_169_15, gw_push⟩)))) (tN_ok (tN_ok (tN_ok (tL_ok ⟨k_169_16, gw_ret⟩) (tL_ok ⟨k_169_17, gw_aload⟩)) (tN_ok (tL_ok ⟨k_169_18, gw_iload⟩) (tL_ok ⟨k_169_19, gw_push⟩))) (tN_ok (tN_ok (tL_ok ⟨k_169_20, gw_cv⟩) (tL_ok ⟨k_169_23, gw_istore⟩)) (tN_ok (tL_ok ⟨k_169_24, gw_push⟩) (tL_ok ⟨k_169_26, gw_istore⟩))))) (tN_ok (tN_ok (tN_ok (tN_ok (tL_ok ⟨k_169_28, gw_aload⟩) (tL_ok ⟨k_169_29, gw_iload⟩)) (tN_ok (tL_ok ⟨k_169_30, gw_cv⟩) (tL_ok ⟨k_169_33, gw_push⟩))) (tN_ok (tN_ok (tL_ok ⟨k_169_34, gw_istore⟩) (tL_ok ⟨k_169_36, gw_iload⟩)) (tN_ok (tL_ok ⟨k_169_38, gw_push⟩) (tL_ok ⟨k_169_41, gw_if2⟩)))) (tN_ok (tN_ok (tN_ok (tL_ok ⟨k_169_44, gw_iload⟩) (tL_ok ⟨k_169_45, gw_iload⟩)) (tN_ok (tL_ok ⟨k_169_46, gw_ib⟩) (tL_ok ⟨k_169_47, gw_push⟩))) (tN_ok (tN_ok (tL_ok ⟨k_169_48, gw_ib⟩) (tL_ok ⟨k_169_49, gw_push⟩)) (tN_ok (tL_ok ⟨k_169_50, gw_if2⟩) (tL_ok ⟨k_169_53, gw_iload⟩)))))) (tN_ok (tN_ok (tN_ok (tN_ok (tN_ok (tL_ok ⟨k_169_55, gw_iload⟩) (tL_ok ⟨k_169_56, gw_ib⟩)) (tN_ok (tL_ok ⟨k_169_57, gw_if1⟩) (tL_ok ⟨k_169_60, gw_iload⟩))) (tN_ok (tN_ok (tL_ok ⟨k_169_62, gw_push⟩) (tL_ok ⟨k_169_64, gw_if2⟩)) (tN_ok (tL_ok ⟨k_169_67, gw_iload⟩) (tL_ok ⟨k_169_69, gw_cs⟩)))) (tN_ok (tN_ok (tN_ok (tL_ok ⟨k_169_72, gw_iload⟩) (tL_ok ⟨k_169_74, gw_cs⟩)) (tN_ok (tL_ok ⟨k_169_77, gw_if2⟩) (tL_ok ⟨k_169_80, gw_aload⟩))) (tN_ok (tN_ok (tL_ok ⟨k_169_81, gw_iload⟩) (tL_ok ⟨k_169_82, gw_iload⟩)) (tN_ok (tL_ok ⟨k_169_83, gw_iload⟩) (tL_ok ⟨k_169_85, gw_ib⟩))))) (tN_ok (tN_ok (tN_ok (tN_ok (tL_ok ⟨k_169_86, gw_cv⟩) (tL_ok ⟨k_169_89, gw_istore⟩)) (tN_ok (tL_ok ⟨k_169_91, gw_iload⟩) (tL_ok ⟨k_169_93, gw_push⟩))) (tN_ok (tN_ok (tL_ok ⟨k_169_94, gw_if2⟩) (tL_ok ⟨k_169_97, gw_iload⟩)) (tN_ok (tL_ok ⟨k_169_99, gw_iload⟩) (tL_ok ⟨k_169_100, gw_if2⟩)))) (tN_ok (tN_ok (tN_ok (tL_ok ⟨k_169_103, gw_iload⟩) (tL_ok ⟨k_169_105, gw_goto⟩)) (tN_ok (tL_ok ⟨k_169_108, gw_iload⟩) (tL_ok ⟨k_169_110, gw_istore⟩))) (tN_ok (tN_ok (tL_ok ⟨k_169_112, gw_iinc⟩) (tL_ok ⟨k_169_115, gw_goto⟩)) (tN_ok (tL_ok ⟨k_169_118, gw_iload⟩) (tL_ok ⟨k_169_120, gw_ret⟩)))))))
theorem k_170_0 : OkOp mt Ev 170 0 (o_iload 1 1) := ok_iload_n (k := 1) (by decide +kernel) rfl
theorem k_170_1 : OkOp mt Ev 170 1 (o_push (.int (-1)) 1) := ok_iconst (n := -1) (by decide +kernel) (by decide +kernel)
theorem k_170_2 : OkOp mt Ev 170 2 (o_if2 (fun x y => decide (¬ x = y)) 15) := ok_icmp_ne (off := 13) (by decide +kernel) (by decide +kernel)
theorem k_170_5 : OkOp mt Ev 170 5 (o_aload 0 1) := ok_aload_n (k := 0) (by decide +kernel) rfl
theorem k_170_6 : OkOp mt Ev 170 6 (o_getf 0 [12]) := ok_getf (i := 15) (rf := "BridgeSentencesModel") (nm := "now") (ds := "[I") (by decide +kernel) fc_47 wd_985
theorem k_170_9 : OkOp mt Ev 170 9 (o_push (.int (71)) 2) := ok_bipush (n := 71) (by decide +kernel) (by decide +kernel)
theorem k_170_11 : OkOp mt Ev 170 11 (o_push (.int (0)) 1) := ok_iconst (n := 0) (by decide +kernel) (by decide +kernel)
theorem k_170_12 : OkOp mt Ev 170 12 (o_iast 2 (fun x => x)) := ok_iast (by decide +kernel)
theorem k_170_13 : OkOp mt Ev 170 13 (o_push (.int (0)) 1) := ok_iconst (n := 0) (by decide +kernel) (by decide +kernel)
theorem k_170_14 : OkOp mt Ev 170 14 (o_ret 0) := ok_reti (ty := .int) (by decide +kernel) rfl (Or.inl ⟨rfl, rfl⟩)
theorem k_170_15 : OkOp mt Ev 170 15 (o_aload 0 1) := ok_aload_n (k := 0) (by decide +kernel) rfl
theorem k_170_16 : OkOp mt Ev 170 16 (o_iload 1 1) := ok_iload_n (k := 1) (by decide +kernel) rfl
theorem k_170_17 : OkOp mt Ev 170 17 (o_cv [(12, 128)] 1) := ok_cv (i := 95) (by decide +kernel) vc_143
theorem k_170_20 : OkOp mt Ev 170 20 (o_if1 (fun x => decide (x = 0)) 33) := ok_if_eq (off := 13) (by decide +kernel) (by decide +kernel)
theorem k_170_23 : OkOp mt Ev 170 23 (o_iload 2 1) := ok_iload_n (k := 2) (by decide +kernel) rfl
theorem k_170_24 : OkOp mt Ev 170 24 (o_push (.int (-1)) 1) := ok_iconst (n := -1) (by decide +kernel) (by decide +kernel)
theorem k_170_25 : OkOp mt Ev 170 25 (o_push (.int (11)) 2) := ok_bipush (n := 11) (by decide +kernel) (by decide +kernel)
theorem k_170_27 : OkOp mt Ev 170 27 (o_cs 123 3) := ok_cs (i := 83) (by decide +kernel) wd_1089 wd_1090 wd_62 wd_1091 nk_34
theorem k_170_30 : OkOp mt Ev 170 30 (o_if1 (fun x => decide (¬ x = 0)) 35) := ok_if_ne (off := 5) (by decide +kernel) (by decide +kernel)
theorem k_170_33 : OkOp mt Ev 170 33 (o_push (.int (-1)) 1) := ok_iconst (n := -1) (by decide +kernel) (by decide +kernel)
theorem k_170_34 : OkOp mt Ev 170 34 (o_ret 0) := ok_reti (ty := .int) (by decide +kernel) rfl (Or.inl ⟨rfl, rfl⟩)
theorem k_170_35 : OkOp mt Ev 170 35 (o_aload 0 1) := ok_aload_n (k := 0) (by decide +kernel) rfl
theorem k_170_36 : OkOp mt Ev 170 36 (o_getf 0 [12]) := ok_getf (i := 15) (rf := "BridgeSentencesModel") (nm := "now") (ds := "[I") (by decide +kernel) fc_47 wd_985
theorem k_170_39 : OkOp mt Ev 170 39 (o_push (.int (71)) 2) := ok_bipush (n := 71) (by decide +kernel) (by decide +kernel)
theorem k_170_41 : OkOp mt Ev 170 41 (o_iald 2) := ok_iald (by decide +kernel)
theorem k_170_42 : OkOp mt Ev 170 42 (o_push (.int (5)) 1) := ok_iconst (n := 5) (by decide +kernel) (by decide +kernel)
theorem k_170_43 : OkOp mt Ev 170 43 (o_if2 (fun x y => decide (¬ x = y)) 49) := ok_icmp_ne (off := 6) (by decide +kernel) (by decide +kernel)
theorem k_170_46 : OkOp mt Ev 170 46 (o_push (.int (-4)) 2) := ok_bipush (n := -4) (by decide +kernel) (by decide +kernel)
theorem k_170_48 : OkOp mt Ev 170 48 (o_ret 0) := ok_reti (ty := .int) (by decide +kernel) rfl (Or.inl ⟨rfl, rfl⟩)
theorem k_170_49 : OkOp mt Ev 170 49 (o_push (.int (72)) 2) := ok_bipush (n := 72) (by decide +kernel) (by decide +kernel)
theorem k_170_51 : OkOp mt Ev 170 51 (o_push (.int (2)) 1) := ok_iconst (n := 2) (by decide +kernel) (by decide +kernel)
theorem k_170_52 : OkOp mt Ev 170 52 (o_aload 0 1) := ok_aload_n (k := 0) (by decide +kernel) rfl
theorem k_170_53 : OkOp mt Ev 170 53 (o_getf 0 [12]) := ok_getf (i := 15) (rf := "BridgeSentencesModel") (nm := "now") (ds := "[I") (by decide +kernel) fc_47 wd_985
theorem k_170_56 : OkOp mt Ev 170 56 (o_push (.int (71)) 2) := ok_bipush (n := 71) (by decide +kernel) (by decide +kernel)
theorem k_170_58 : OkOp mt Ev 170 58 (o_iald 2) := ok_iald (by decide +kernel)
theorem k_170_59 : OkOp mt Ev 170 59 (o_ib (fun x y => x * y)) := ok_imul (by decide +kernel)
theorem k_170_60 : OkOp mt Ev 170 60 (o_ib (fun x y => x + y)) := ok_iadd (by decide +kernel)
theorem k_170_61 : OkOp mt Ev 170 61 (o_istore 3 1) := ok_istore_n (k := 3) (by decide +kernel) rfl
theorem k_170_62 : OkOp mt Ev 170 62 (o_aload 0 1) := ok_aload_n (k := 0) (by decide +kernel) rfl
theorem k_170_63 : OkOp mt Ev 170 63 (o_getf 0 [12]) := ok_getf (i := 15) (rf := "BridgeSentencesModel") (nm := "now") (ds := "[I") (by decide +kernel) fc_47 wd_985
theorem k_170_66 : OkOp mt Ev 170 66 (o_iload 3 1) := ok_iload_n (k := 3) (by decide +kernel) rfl
theorem k_170_67 : OkOp mt Ev 170 67 (o_iload 1 1) := ok_iload_n (k := 1) (by decide +kernel) rfl
theorem k_170_68 : OkOp mt Ev 170 68 (o_iast 2 (fun x => x)) := ok_iast (by decide +kernel)
theorem k_170_69 : OkOp mt Ev 170 69 (o_aload 0 1) := ok_aload_n (k := 0) (by decide +kernel) rfl
theorem k_170_70 : OkOp mt Ev 170 70 (o_getf 0 [12]) := ok_getf (i := 15) (rf := "BridgeSentencesModel") (nm := "now") (ds := "[I") (by decide +kernel) fc_47 wd_985
theorem k_170_73 : OkOp mt Ev 170 73 (o_iload 3 1) := ok_iload_n (k := 3) (by decide +kernel) rfl
theorem k_170_74 : OkOp mt Ev 170 74 (o_push (.int (1)) 1) := ok_iconst (n := 1) (by decide +kernel) (by decide +kernel)
theorem k_170_75 : OkOp mt Ev 170 75 (o_ib (fun x y => x + y)) := ok_iadd (by decide +kernel)
theorem k_170_76 : OkOp mt Ev 170 76 (o_iload 2 1) := ok_iload_n (k := 2) (by decide +kernel) rfl
theorem k_170_77 : OkOp mt Ev 170 77 (o_iast 2 (fun x => x)) := ok_iast (by decide +kernel)
theorem k_170_78 : OkOp mt Ev 170 78 (o_aload 0 1) := ok_aload_n (k := 0) (by decide +kernel) rfl
theorem k_170_79 : OkOp mt Ev 170 79 (o_getf 0 [12]) := ok_getf (i := 15) (rf := "BridgeSentencesModel") (nm := "now") (ds := "[I") (by decide +kernel) fc_47 wd_985
theorem k_170_82 : OkOp mt Ev 170 82 (o_push (.int (71)) 2) := ok_bipush (n := 71) (by decide +kernel) (by decide +kernel)
theorem k_170_84 : OkOp mt Ev 170 84 (o_dup2) := ok_dup2 (by decide +kernel)
theorem k_170_85 : OkOp mt Ev 170 85 (o_iald 2) := ok_iald (by decide +kernel)
theorem k_170_86 : OkOp mt Ev 170 86 (o_push (.int (1)) 1) := ok_iconst (n := 1) (by decide +kernel) (by decide +kernel)
theorem k_170_87 : OkOp mt Ev 170 87 (o_ib (fun x y => x + y)) := ok_iadd (by decide +kernel)
theorem k_170_88 : OkOp mt Ev 170 88 (o_iast 2 (fun x => x)) := ok_iast (by decide +kernel)
theorem k_170_89 : OkOp mt Ev 170 89 (o_aload 0 1) := ok_aload_n (k := 0) (by decide +kernel) rfl
theorem k_170_90 : OkOp mt Ev 170 90 (o_getf 0 [12]) := ok_getf (i := 15) (rf := "BridgeSentencesModel") (nm := "now") (ds := "[I") (by decide +kernel) fc_47 wd_985
theorem k_170_93 : OkOp mt Ev 170 93 (o_push (.int (71)) 2) := ok_bipush (n := 71) (by decide +kernel) (by decide +kernel)
theorem k_170_95 : OkOp mt Ev 170 95 (o_iald 2) := ok_iald (by decide +kernel)
theorem k_170_96 : OkOp mt Ev 170 96 (o_ret 0) := ok_reti (ty := .int) (by decide +kernel) rfl (Or.inl ⟨rfl, rfl⟩)
theorem kt_170 : ∀ pc o, cd_X12_see Ev pc = some o → OkOp mt Ev 170 pc o ∧ Gw o := (tN_ok (tN_ok (tN_ok (tN_ok (tN_ok (tL_ok ⟨k_170_0, gw_iload⟩) (tN_ok (tL_ok ⟨k_170_1, gw_push⟩) (tL_ok ⟨k_170_2, gw_if2⟩))) (tN_ok (tN_ok (tL_ok ⟨k_170_5, gw_aload⟩) (tL_ok ⟨k_170_6, gw_getf⟩)) (tN_ok (tL_ok ⟨k_170_9, gw_push⟩) (tL_ok ⟨k_170_11, gw_push⟩)))) (tN_ok (tN_ok (tN_ok (tL_ok ⟨k_170_12, gw_iast⟩) (tL_ok ⟨k_170_13, gw_push⟩)) (tN_ok (tL_ok ⟨k_170_14, gw_ret⟩) (tL_ok ⟨k_170_15, gw_aload⟩))) (tN_ok (tN_ok (tL_ok ⟨k_170_16, gw_iload⟩) (tL_ok ⟨k_170_17, gw_cv⟩)) (tN_ok (tL_ok ⟨k_170_20, gw_if1⟩) (tL_ok ⟨k_170_23, gw_iload⟩))))) (tN_ok (tN_ok (tN_ok (tN_ok (tL_ok ⟨k_170_24, gw_push⟩) (tL_ok ⟨k_170_25, gw_push⟩)) (tN_ok (tL_ok ⟨k_170_27, gw_cs⟩) (tL_ok ⟨k_170_30, gw_if1⟩))) (tN_ok (tN_ok (tL_ok ⟨k_170_33, gw_push⟩) (tL_ok ⟨k_170_34, gw_ret⟩)) (tN_ok (tL_ok ⟨k_170_35, gw_aload⟩) (tL_ok ⟨k_170_36, gw_getf⟩)))) (tN_ok (tN_ok (tN_ok (tL_ok ⟨k_170_39, gw_push⟩) (tL_ok ⟨k_170_41, gw_iald⟩)) (tN_ok (tL_ok ⟨k_170_42, gw_push⟩) (tL_ok ⟨k_170_43, gw_if2⟩))) (tN_ok (tN_ok (tL_ok ⟨k_170_46, gw_push⟩) (tL_ok ⟨k_170_48, gw_ret⟩)) (tN_ok (tL_ok ⟨k_170_49, gw_push⟩) (tL_ok ⟨k_170_51, gw_push⟩)))))) (tN_ok (tN_ok (tN_ok (tN_ok (tN_ok (tL_ok ⟨k_170_52, gw_aload⟩) (tL_ok ⟨k_170_53, gw_getf⟩)) (tN_ok (tL_ok ⟨k_170_56, gw_push⟩) (tL_ok ⟨k_170_58, gw_iald⟩))) (tN_ok (tN_ok (tL_ok ⟨k_170_59, gw_ib⟩) (tL_ok ⟨k_170_60, gw_ib⟩)) (tN_ok (tL_ok ⟨k_170_61, gw_istore⟩) (tL_ok ⟨k_170_62, gw_aload⟩)))) (tN_ok (tN_ok (tN_ok (tL_ok ⟨k_170_63, gw_getf⟩) (tL_ok ⟨k_170_66, gw_iload⟩)) (tN_ok (tL_ok ⟨k_170_67, gw_iload⟩) (tL_ok ⟨k_170_68, gw_iast⟩))) (tN_ok (tN_ok (tL_ok ⟨k_170_69, gw_aload⟩) (tL_ok ⟨k_170_70, gw_getf⟩)) (tN_ok (tL_ok ⟨k_170_73, gw_iload⟩) (tL_ok ⟨k_170_74, gw_push⟩))))) (tN_ok (tN_ok (tN_ok (tN_ok (tL_ok ⟨k_170_75, gw_ib⟩) (tL_ok ⟨k_170_76, gw_iload⟩)) (tN_ok (tL_ok ⟨k_170_77, gw_iast⟩) (tL_ok ⟨k_170_78, gw_aload⟩))) (tN_ok (tN_ok (tL_ok ⟨k_170_79, gw_getf⟩) (tL_ok ⟨k_170_82, gw_push⟩)) (tN_ok (tL_ok ⟨k_170_84, gw_dup2⟩) (tL_ok ⟨k_170_85, gw_iald⟩)))) (tN_ok (tN_ok (tN_ok (tL_ok ⟨k_170_86, gw_push⟩) (tL_ok ⟨k_170_87, gw_ib⟩)) (tN_ok (tL_ok ⟨k_170_88, gw_iast⟩) (tL_ok ⟨k_170_89, gw_aload⟩))) (tN_ok (tN_ok (tL_ok ⟨k_170_90, gw_getf⟩) (tL_ok ⟨k_170_93, gw_push⟩)) (tN_ok (tL_ok ⟨k_170_95, gw_iald⟩) (tL_ok ⟨k_170_96, gw_ret⟩)))))))
theorem k_171_0 : OkOp mt Ev 171 0 (o_push (.int (1)) 1) := ok_iconst (n := 1) (by decide +kernel) (by decide +kernel)
theorem k_171_1 : OkOp mt Ev 171 1 (o_istore 3 1) := ok_istore_n (k := 3) (by decide +kernel) rfl
theorem k_171_2 : OkOp mt Ev 171 2 (o_push (.int (0)) 1) := ok_iconst (n := 0) (by decide +kernel) (by decide +kernel)
theorem k_171_3 : OkOp mt Ev 171 3 (o_istore 4 2) := ok_istore (by decide +kernel)
theorem k_171_5 : OkOp mt Ev 171 5 (o_iload 4 2) := ok_iload (by decide +kernel)
theorem k_171_7 : OkOp mt Ev 171 7 (o_aload 0 1) := ok_aload_n (k := 0) (by decide +kernel) rfl
theorem k_171_8 : OkOp mt Ev 171 8 (o_getf 0 [12]) := ok_getf (i := 15) (rf := "BridgeSentencesModel") (nm := "now") (ds := "[I") (by decide +kernel) fc_47 wd_985
theorem k_171_11 : OkOp mt Ev 171 11 (o_push (.int (71)) 2) := ok_bipush (n := 71) (by decide +kernel) (by decide +kernel)
theorem k_171_13 : OkOp mt Ev 171 13 (o_iald 2) := ok_iald (by decide +kernel)
theorem k_171_14 : OkOp mt Ev 171 14 (o_if2 (fun x y => decide (y ≤ x)) 66) := ok_icmp_ge (off := 52) (by decide +kernel) (by decide +kernel)
theorem k_171_17 : OkOp mt Ev 171 17 (o_push (.int (72)) 2) := ok_bipush (n := 72) (by decide +kernel) (by decide +kernel)
theorem k_171_19 : OkOp mt Ev 171 19 (o_push (.int (2)) 1) := ok_iconst (n := 2) (by decide +kernel) (by decide +kernel)
theorem k_171_20 : OkOp mt Ev 171 20 (o_iload 4 2) := ok_iload (by decide +kernel)
theorem k_171_22 : OkOp mt Ev 171 22 (o_ib (fun x y => x * y)) := ok_imul (by decide +kernel)
theorem k_171_23 : OkOp mt Ev 171 23 (o_ib (fun x y => x + y)) := ok_iadd (by decide +kernel)
theorem k_171_24 : OkOp mt Ev 171 24 (o_istore 5 2) := ok_istore (by decide +kernel)
theorem k_171_26 : OkOp mt Ev 171 26 (o_iload 3 1) := ok_iload_n (k := 3) (by decide +kernel) rfl
theorem k_171_27 : OkOp mt Ev 171 27 (o_if1 (fun x => decide (x = 0)) 58) := ok_if_eq (off := 31) (by decide +kernel) (by decide +kernel)
theorem k_171_30 : OkOp mt Ev 171 30 (o_aload 0 1) := ok_aload_n (k := 0) (by decide +kernel) rfl
theorem k_171_31 : OkOp mt Ev 171 31 (o_getf 0 [12]) := ok_getf (i := 15) (rf := "BridgeSentencesModel") (nm := "now") (ds := "[I") (by decide +kernel) fc_47 wd_985
theorem k_171_34 : OkOp mt Ev 171 34 (o_iload 5 2) := ok_iload (by decide +kernel)
theorem k_171_36 : OkOp mt Ev 171 36 (o_iald 2) := ok_iald (by decide +kernel)
theorem k_171_37 : OkOp mt Ev 171 37 (o_iload 1 1) := ok_iload_n (k := 1) (by decide +kernel) rfl
theorem k_171_38 : OkOp mt Ev 171 38 (o_if2 (fun x y => decide (¬ x = y)) 54) := ok_icmp_ne (off := 16) (by decide +kernel) (by decide +kernel)
theorem k_171_41 : OkOp mt Ev 171 41 (o_aload 0 1) := ok_aload_n (k := 0) (by decide +kernel) rfl
theorem k_171_42 : OkOp mt Ev 171 42 (o_getf 0 [12]) := ok_getf (i := 15) (rf := "BridgeSentencesModel") (nm := "now") (ds := "[I") (by decide +kernel) fc_47 wd_985
theorem k_171_45 : OkOp mt Ev 171 45 (o_iload 5 2) := ok_iload (by decide +kernel)
theorem k_171_47 : OkOp mt Ev 171 47 (o_push (.int (1)) 1) := ok_iconst (n := 1) (by decide +kernel) (by decide +kernel)
theorem k_171_48 : OkOp mt Ev 171 48 (o_ib (fun x y => x + y)) := ok_iadd (by decide +kernel)
theorem k_171_49 : OkOp mt Ev 171 49 (o_iald 2) := ok_iald (by decide +kernel)
theorem k_171_50 : OkOp mt Ev 171 50 (o_iload 2 1) := ok_iload_n (k := 2) (by decide +kernel) rfl
theorem k_171_51 : OkOp mt Ev 171 51 (o_if2 (fun x y => decide (¬ x = y)) 58) := ok_icmp_ne (off := 7) (by decide +kernel) (by decide +kernel)
theorem k_171_54 : OkOp mt Ev 171 54 (o_push (.int (1)) 1) := ok_iconst (n := 1) (by decide +kernel) (by decide +kernel)
theorem k_171_55 : OkOp mt Ev 171 55 (o_goto 59) := ok_goto (off := 4) (by decide +kernel) (by decide +kernel)
theorem k_171_58 : OkOp mt Ev 171 58 (o_push (.int (0)) 1) := ok_iconst (n := 0) (by decide +kernel) (by decide +kernel)
theorem k_171_59 : OkOp mt Ev 171 59 (o_istore 3 1) := ok_istore_n (k := 3) (by decide +kernel) rfl
theorem k_171_60 : OkOp mt Ev 171 60 (o_iinc 4 (1)) := ok_iinc (n := 1) (by decide +kernel) (by decide +kernel)
theorem k_171_63 : OkOp mt Ev 171 63 (o_goto 5) := ok_goto (off := -58) (by decide +kernel) (by decide +kernel)
theorem k_171_66 : OkOp mt Ev 171 66 (o_iload 3 1) := ok_iload_n (k := 3) (by decide +kernel) rfl
theorem k_171_67 : OkOp mt Ev 171 67 (o_ret 1) := ok_reti (ty := .boolean) (by decide +kernel) rfl (Or.inr (Or.inl ⟨rfl, rfl⟩))
theorem kt_171 : ∀ pc o, cd_X12_isSeen Ev pc = some o → OkOp mt Ev 171 pc o ∧ Gw o := (tN_ok (tN_ok (tN_ok (tN_ok (tN_ok (tL_ok ⟨k_171_0, gw_push⟩) (tL_ok ⟨k_171_1, gw_istore⟩)) (tN_ok (tL_ok ⟨k_171_2, gw_push⟩) (tN_ok (tL_ok ⟨k_171_3, gw_istore⟩) (tL_ok ⟨k_171_5, gw_iload⟩)))) (tN_ok (tN_ok (tL_ok ⟨k_171_7, gw_aload⟩) (tL_ok ⟨k_171_8, gw_getf⟩)) (tN_ok (tL_ok ⟨k_171_11, gw_push⟩) (tN_ok (tL_ok ⟨k_171_13, gw_iald⟩) (tL_ok ⟨k_171_14, gw_if2⟩))))) (tN_ok (tN_ok (tN_ok (tL_ok ⟨k_171_17, gw_push⟩) (tL_ok ⟨k_171_19, gw_push⟩)) (tN_ok (tL_ok ⟨k_171_20, gw_iload⟩) (tN_ok (tL_ok ⟨k_171_22, gw_ib⟩) (tL_ok ⟨k_171_23, gw_ib⟩)))) (tN_ok (tN_ok (tL_ok ⟨k_171_24, gw_istore⟩) (tL_ok ⟨k_171_26, gw_iload⟩)) (tN_ok (tL_ok ⟨k_171_27, gw_if1⟩) (tN_ok (tL_ok ⟨k_171_30, gw_aload⟩) (tL_ok ⟨k_171_31, gw_getf⟩)))))) (tN_ok (tN_ok (tN_ok (tN_ok (tL_ok ⟨k_171_34, gw_iload⟩) (tL_ok ⟨k_171_36, gw_iald⟩)) (tN_ok (tL_ok ⟨k_171_37, gw_iload⟩) (tN_ok (tL_ok ⟨k_171_38, gw_if2⟩) (tL_ok ⟨k_171_41, gw_aload⟩)))) (tN_ok (tN_ok (tL_ok ⟨k_171_42, gw_getf⟩) (tL_ok ⟨k_171_45, gw_iload⟩)) (tN_ok (tL_ok ⟨k_171_47, gw_push⟩) (tN_ok (tL_ok ⟨k_171_48, gw_ib⟩) (tL_ok ⟨k_171_49, gw_iald⟩))))) (tN_ok (tN_ok (tN_ok (tL_ok ⟨k_171_50, gw_iload⟩) (tL_ok ⟨k_171_51, gw_if2⟩)) (tN_ok (tL_ok ⟨k_171_54, gw_push⟩) (tN_ok (tL_ok ⟨k_171_55, gw_goto⟩) (tL_ok ⟨k_171_58, gw_push⟩)))) (tN_ok (tN_ok (tL_ok ⟨k_171_59, gw_istore⟩) (tL_ok ⟨k_171_60, gw_iinc⟩)) (tN_ok (tL_ok ⟨k_171_63, gw_goto⟩) (tN_ok (tL_ok ⟨k_171_66, gw_iload⟩) (tL_ok ⟨k_171_67, gw_ret⟩)))))))
theorem k_172_0 : OkOp mt Ev 172 0 (o_aload 0 1) := ok_aload_n (k := 0) (by decide +kernel) rfl
theorem k_172_1 : OkOp mt Ev 172 1 (o_iload 1 1) := ok_iload_n (k := 1) (by decide +kernel) rfl
theorem k_172_2 : OkOp mt Ev 172 2 (o_cv [(12, 155)] 1) := ok_cv (i := 192) (by decide +kernel) vc_159
theorem k_172_5 : OkOp mt Ev 172 5 (o_push (.int (0)) 1) := ok_iconst (n := 0) (by decide +kernel) (by decide +kernel)
theorem k_172_6 : OkOp mt Ev 172 6 (o_istore 3 1) := ok_istore_n (k := 3) (by decide +kernel) rfl
theorem k_172_7 : OkOp mt Ev 172 7 (o_push (.int (-5)) 2) := ok_bipush (n := -5) (by decide +kernel) (by decide +kernel)
theorem k_172_9 : OkOp mt Ev 172 9 (o_istore 4 2) := ok_istore (by decide +kernel)
theorem k_172_11 : OkOp mt Ev 172 11 (o_push (.int (4095)) 3) := ok_sipush (n := 4095) (by decide +kernel) (by decide +kernel)
theorem k_172_14 : OkOp mt Ev 172 14 (o_istore 5 2) := ok_istore (by decide +kernel)
theorem k_172_16 : OkOp mt Ev 172 16 (o_iload 5 2) := ok_iload (by decide +kernel)
theorem k_172_18 : OkOp mt Ev 172 18 (o_if1 (fun x => decide (x < 0)) 68) := ok_if_lt (off := 50) (by decide +kernel) (by decide +kernel)
theorem k_172_21 : OkOp mt Ev 172 21 (o_aload 0 1) := ok_aload_n (k := 0) (by decide +kernel) rfl
theorem k_172_22 : OkOp mt Ev 172 22 (o_iload 1 1) := ok_iload_n (k := 1) (by decide +kernel) rfl
theorem k_172_23 : OkOp mt Ev 172 23 (o_aload 0 1) := ok_aload_n (k := 0) (by decide +kernel) rfl
theorem k_172_24 : OkOp mt Ev 172 24 (o_iload 1 1) := ok_iload_n (k := 1) (by decide +kernel) rfl
theorem k_172_25 : OkOp mt Ev 172 25 (o_iload 5 2) := ok_iload (by decide +kernel)
theorem k_172_27 : OkOp mt Ev 172 27 (o_cv [(12, 156)] 2) := ok_cv (i := 195) (by decide +kernel) vc_160
theorem k_172_30 : OkOp mt Ev 172 30 (o_cv [(12, 171)] 2) := ok_cv (i := 222) (by decide +kernel) vc_169
theorem k_172_33 : OkOp mt Ev 172 33 (o_istore 6 2) := ok_istore (by decide +kernel)
theorem k_172_35 : OkOp mt Ev 172 35 (o_iload 3 1) := ok_iload_n (k := 3) (by decide +kernel) rfl
theorem k_172_36 : OkOp mt Ev 172 36 (o_iload 6 2) := ok_iload (by decide +kernel)
theorem k_172_38 : OkOp mt Ev 172 38 (o_if1 (fun x => decide (x = 0)) 45) := ok_if_eq (off := 7) (by decide +kernel) (by decide +kernel)
theorem k_172_41 : OkOp mt Ev 172 41 (o_push (.int (1)) 1) := ok_iconst (n := 1) (by decide +kernel) (by decide +kernel)
theorem k_172_42 : OkOp mt Ev 172 42 (o_goto 46) := ok_goto (off := 4) (by decide +kernel) (by decide +kernel)
theorem k_172_45 : OkOp mt Ev 172 45 (o_push (.int (0)) 1) := ok_iconst (n := 0) (by decide +kernel) (by decide +kernel)
theorem k_172_46 : OkOp mt Ev 172 46 (o_ib (fun x y => x + y)) := ok_iadd (by decide +kernel)
theorem k_172_47 : OkOp mt Ev 172 47 (o_istore 3 1) := ok_istore_n (k := 3) (by decide +kernel) rfl
theorem k_172_48 : OkOp mt Ev 172 48 (o_iload 6 2) := ok_iload (by decide +kernel)
theorem k_172_50 : OkOp mt Ev 172 50 (o_if1 (fun x => decide (x = 0)) 58) := ok_if_eq (off := 8) (by decide +kernel) (by decide +kernel)
theorem k_172_53 : OkOp mt Ev 172 53 (o_iload 5 2) := ok_iload (by decide +kernel)
theorem k_172_55 : OkOp mt Ev 172 55 (o_goto 60) := ok_goto (off := 5) (by decide +kernel) (by decide +kernel)
theorem k_172_58 : OkOp mt Ev 172 58 (o_iload 4 2) := ok_iload (by decide +kernel)
theorem k_172_60 : OkOp mt Ev 172 60 (o_istore 4 2) := ok_istore (by decide +kernel)
theorem k_172_62 : OkOp mt Ev 172 62 (o_iinc 5 (-1)) := ok_iinc (n := -1) (by decide +kernel) (by decide +kernel)
theorem k_172_65 : OkOp mt Ev 172 65 (o_goto 16) := ok_goto (off := -49) (by decide +kernel) (by decide +kernel)
theorem k_172_68 : OkOp mt Ev 172 68 (o_iload 2 1) := ok_iload_n (k := 2) (by decide +kernel) rfl
theorem k_172_69 : OkOp mt Ev 172 69 (o_if1 (fun x => decide (x = 0)) 76) := ok_if_eq (off := 7) (by decide +kernel) (by decide +kernel)
theorem k_172_72 : OkOp mt Ev 172 72 (o_iload 3 1) := ok_iload_n (k := 3) (by decide +kernel) rfl
theorem k_172_73 : OkOp mt Ev 172 73 (o_goto 78) := ok_goto (off := 5) (by decide +kernel) (by decide +kernel)
theorem k_172_76 : OkOp mt Ev 172 76 (o_iload 4 2) := ok_iload (by decide +kernel)
theorem k_172_78 : OkOp mt Ev 172 78 (o_ret 0) := ok_reti (ty := .int) (by decide +kernel) rfl (Or.inl ⟨rfl, rfl⟩)
theorem kt_172 : ∀ pc o, cd_X12_had Ev pc = some o → OkOp mt Ev 172 pc o ∧ Gw o := (tN_ok (tN_ok (tN_ok (tN_ok (tN_ok (tL_ok ⟨k_172_0, gw_aload⟩) (tL_ok ⟨k_172_1, gw_iload⟩)) (tN_ok (tL_ok ⟨k_172_2, gw_cv⟩) (tN_ok (tL_ok ⟨k_172_5, gw_push⟩) (tL_ok ⟨k_172_6, gw_istore⟩)))) (tN_ok (tN_ok (tL_ok ⟨k_172_7, gw_push⟩) (tL_ok ⟨k_172_9, gw_istore⟩)) (tN_ok (tL_ok ⟨k_172_11, gw_push⟩) (tN_ok (tL_ok ⟨k_172_14, gw_istore⟩) (tL_ok ⟨k_172_16, gw_iload⟩))))) (tN_ok (tN_ok (tN_ok (tL_ok ⟨k_172_18, gw_if1⟩) (tL_ok ⟨k_172_21, gw_aload⟩)) (tN_ok (tL_ok ⟨k_172_22, gw_iload⟩) (tN_ok (tL_ok ⟨k_172_23, gw_aload⟩) (tL_ok ⟨k_172_24, gw_iload⟩)))) (tN_ok (tN_ok (tL_ok ⟨k_172_25, gw_iload⟩) (tL_ok ⟨k_172_27, gw_cv⟩)) (tN_ok (tL_ok ⟨k_172_30, gw_cv⟩) (tN_ok (tL_ok ⟨k_172_33, gw_istore⟩) (tL_ok ⟨k_172_35, gw_iload⟩)))))) (tN_ok (tN_ok (tN_ok (tN_ok (tL_ok ⟨k_172_36, gw_iload⟩) (tL_ok ⟨k_172_38, gw_if1⟩)) (tN_ok (tL_ok ⟨k_172_41, gw_push⟩) (tN_ok (tL_ok ⟨k_172_42, gw_goto⟩) (tL_ok ⟨k_172_45, gw_push⟩)))) (tN_ok (tN_ok (tL_ok ⟨k_172_46, gw_ib⟩) (tL_ok ⟨k_172_47, gw_istore⟩)) (tN_ok (tL_ok ⟨k_172_48, gw_iload⟩) (tN_ok (tL_ok ⟨k_172_50, gw_if1⟩) (tL_ok ⟨k_172_53, gw_iload⟩))))) (tN_ok (tN_ok (tN_ok (tL_ok ⟨k_172_55, gw_goto⟩) (tL_ok ⟨k_172_58, gw_iload⟩)) (tN_ok (tL_ok ⟨k_172_60, gw_istore⟩) (tN_ok (tL_ok ⟨k_172_62, gw_iinc⟩) (tL_ok ⟨k_172_65, gw_goto⟩)))) (tN_ok (tN_ok (tL_ok ⟨k_172_68, gw_iload⟩) (tN_ok (tL_ok ⟨k_172_69, gw_if1⟩) (tL_ok ⟨k_172_72, gw_iload⟩))) (tN_ok (tL_ok ⟨k_172_73, gw_goto⟩) (tN_ok (tL_ok ⟨k_172_76, gw_iload⟩) (tL_ok ⟨k_172_78, gw_ret⟩)))))))
theorem k_173_0 : OkOp mt Ev 173 0 (o_aload 0 1) := ok_aload_n (k := 0) (by decide +kernel) rfl
theorem k_173_1 : OkOp mt Ev 173 1 (o_getf 0 [12]) := ok_getf (i := 15) (rf := "BridgeSentencesModel") (nm := "now") (ds := "[I") (by decide +kernel) fc_47 wd_985
theorem k_173_4 : OkOp mt Ev 173 4 (o_iload 1 1) := ok_iload_n (k := 1) (by decide +kernel) rfl
theorem k_173_5 : OkOp mt Ev 173 5 (o_iald 2) := ok_iald (by decide +kernel)
theorem k_173_6 : OkOp mt Ev 173 6 (o_istore 2 1) := ok_istore_n (k := 2) (by decide +kernel) rfl
theorem k_173_7 : OkOp mt Ev 173 7 (o_push (.int (0)) 1) := ok_iconst (n := 0) (by decide +kernel) (by decide +kernel)
theorem k_173_8 : OkOp mt Ev 173 8 (o_istore 3 1) := ok_istore_n (k := 3) (by decide +kernel) rfl
theorem k_173_9 : OkOp mt Ev 173 9 (o_push (.int (0)) 1) := ok_iconst (n := 0) (by decide +kernel) (by decide +kernel)
theorem k_173_10 : OkOp mt Ev 173 10 (o_istore 4 2) := ok_istore (by decide +kernel)
theorem k_173_12 : OkOp mt Ev 173 12 (o_iload 4 2) := ok_iload (by decide +kernel)
theorem k_173_14 : OkOp mt Ev 173 14 (o_push (.int (20)) 2) := ok_bipush (n := 20) (by decide +kernel) (by decide +kernel)
theorem k_173_16 : OkOp mt Ev 173 16 (o_if2 (fun x y => decide (y < x)) 100) := ok_icmp_gt (off := 84) (by decide +kernel) (by decide +kernel)
theorem k_173_19 : OkOp mt Ev 173 19 (o_aload 0 1) := ok_aload_n (k := 0) (by decide +kernel) rfl
theorem k_173_20 : OkOp mt Ev 173 20 (o_getf 0 [12]) := ok_getf (i := 15) (rf := "BridgeSentencesModel") (nm := "now") (ds := "[I") (by decide +kernel) fc_47 wd_985
theorem k_173_23 : OkOp mt Ev 173 23 (o_iload 1 1) := ok_iload_n (k := 1) (by decide +kernel) rfl
theorem k_173_24 : OkOp mt Ev 173 24 (o_iload 4 2) := ok_iload (by decide +kernel)
theorem k_173_26 : OkOp mt Ev 173 26 (o_iast 2 (fun x => x)) := ok_iast (by decide +kernel)
theorem k_173_27 : OkOp mt Ev 173 27 (o_push (.int (1)) 1) := ok_iconst (n := 1) (by decide +kernel) (by decide +kernel)
theorem k_173_28 : OkOp mt Ev 173 28 (o_istore 5 2) := ok_istore (by decide +kernel)
theorem k_173_30 : OkOp mt Ev 173 30 (o_push (.int (0)) 1) := ok_iconst (n := 0) (by decide +kernel) (by decide +kernel)
theorem k_173_31 : OkOp mt Ev 173 31 (o_istore 6 2) := ok_istore (by decide +kernel)
theorem k_173_33 : OkOp mt Ev 173 33 (o_iload 6 2) := ok_iload (by decide +kernel)
theorem k_173_35 : OkOp mt Ev 173 35 (o_aload 0 1) := ok_aload_n (k := 0) (by decide +kernel) rfl
theorem k_173_36 : OkOp mt Ev 173 36 (o_getf 0 [12]) := ok_getf (i := 15) (rf := "BridgeSentencesModel") (nm := "now") (ds := "[I") (by decide +kernel) fc_47 wd_985
theorem k_173_39 : OkOp mt Ev 173 39 (o_push (.int (68)) 2) := ok_bipush (n := 68) (by decide +kernel) (by decide +kernel)
theorem k_173_41 : OkOp mt Ev 173 41 (o_iald 2) := ok_iald (by decide +kernel)
theorem k_173_42 : OkOp mt Ev 173 42 (o_if2 (fun x y => decide (y ≤ x)) 78) := ok_icmp_ge (off := 36) (by decide +kernel) (by decide +kernel)
theorem k_173_45 : OkOp mt Ev 173 45 (o_iload 5 2) := ok_iload (by decide +kernel)
theorem k_173_47 : OkOp mt Ev 173 47 (o_if1 (fun x => decide (x = 0)) 69) := ok_if_eq (off := 22) (by decide +kernel) (by decide +kernel)
theorem k_173_50 : OkOp mt Ev 173 50 (o_aload 0 1) := ok_aload_n (k := 0) (by decide +kernel) rfl
theorem k_173_51 : OkOp mt Ev 173 51 (o_iload 6 2) := ok_iload (by decide +kernel)
theorem k_173_53 : OkOp mt Ev 173 53 (o_aload 0 1) := ok_aload_n (k := 0) (by decide +kernel) rfl
theorem k_173_54 : OkOp mt Ev 173 54 (o_iload 6 2) := ok_iload (by decide +kernel)
theorem k_173_56 : OkOp mt Ev 173 56 (o_cv [(12, 157)] 1) := ok_cv (i := 99) (by decide +kernel) vc_144
theorem k_173_59 : OkOp mt Ev 173 59 (o_cv [(12, 171)] 2) := ok_cv (i := 222) (by decide +kernel) vc_169
theorem k_173_62 : OkOp mt Ev 173 62 (o_if1 (fun x => decide (x = 0)) 69) := ok_if_eq (off := 7) (by decide +kernel) (by decide +kernel)
theorem k_173_65 : OkOp mt Ev 173 65 (o_push (.int (1)) 1) := ok_iconst (n := 1) (by decide +kernel) (by decide +kernel)
theorem k_173_66 : OkOp mt Ev 173 66 (o_goto 70) := ok_goto (off := 4) (by decide +kernel) (by decide +kernel)
theorem k_173_69 : OkOp mt Ev 173 69 (o_push (.int (0)) 1) := ok_iconst (n := 0) (by decide +kernel) (by decide +kernel)
theorem k_173_70 : OkOp mt Ev 173 70 (o_istore 5 2) := ok_istore (by decide +kernel)
theorem k_173_72 : OkOp mt Ev 173 72 (o_iinc 6 (1)) := ok_iinc (n := 1) (by decide +kernel) (by decide +kernel)
theorem k_173_75 : OkOp mt Ev 173 75 (o_goto 33) := ok_goto (off := -42) (by decide +kernel) (by decide +kernel)
theorem k_173_78 : OkOp mt Ev 173 78 (o_iload 3 1) := ok_iload_n (k := 3) (by decide +kernel) rfl
theorem k_173_79 : OkOp mt Ev 173 79 (o_iload 5 2) := ok_iload (by decide +kernel)
theorem k_173_81 : OkOp mt Ev 173 81 (o_if1 (fun x => decide (x = 0)) 91) := ok_if_eq (off := 10) (by decide +kernel) (by decide +kernel)
theorem k_173_84 : OkOp mt Ev 173 84 (o_push (.int (1)) 1) := ok_iconst (n := 1) (by decide +kernel) (by decide +kernel)
theorem k_173_85 : OkOp mt Ev 173 85 (o_iload 4 2) := ok_iload (by decide +kernel)
theorem k_173_87 : OkOp mt Ev 173 87 (o_ib (fun x y => x <<< (y &&& 31))) := ok_ishl (by decide +kernel)
theorem k_173_88 : OkOp mt Ev 173 88 (o_goto 92) := ok_goto (off := 4) (by decide +kernel) (by decide +kernel)
theorem k_173_91 : OkOp mt Ev 173 91 (o_push (.int (0)) 1) := ok_iconst (n := 0) (by decide +kernel) (by decide +kernel)
theorem k_173_92 : OkOp mt Ev 173 92 (o_ib (fun x y => x ||| y)) := ok_ior (by decide +kernel)
theorem k_173_93 : OkOp mt Ev 173 93 (o_istore 3 1) := ok_istore_n (k := 3) (by decide +kernel) rfl
theorem k_173_94 : OkOp mt Ev 173 94 (o_iinc 4 (1)) := ok_iinc (n := 1) (by decide +kernel) (by decide +kernel)
theorem k_173_97 : OkOp mt Ev 173 97 (o_goto 12) := ok_goto (off := -85) (by decide +kernel) (by decide +kernel)
theorem k_173_100 : OkOp mt Ev 173 100 (o_aload 0 1) := ok_aload_n (k := 0) (by decide +kernel) rfl
theorem k_173_101 : OkOp mt Ev 173 101 (o_getf 0 [12]) := ok_getf (i := 15) (rf := "BridgeSentencesModel") (nm := "now") (ds := "[I") (by decide +kernel) fc_47 wd_985
theorem k_173_104 : OkOp mt Ev 173 104 (o_iload 1 1) := ok_iload_n (k := 1) (by decide +kernel) rfl
theorem k_173_105 : OkOp mt Ev 173 105 (o_iload 2 1) := ok_iload_n (k := 2) (by decide +kernel) rfl
theorem k_173_106 : OkOp mt Ev 173 106 (o_iast 2 (fun x => x)) := ok_iast (by decide +kernel)
theorem k_173_107 : OkOp mt Ev 173 107 (o_iload 3 1) := ok_iload_n (k := 3) (by decide +kernel) rfl
theorem k_173_108 : OkOp mt Ev 173 108 (o_ret 0) := ok_reti (ty := .int) (by decide +kernel) rfl (Or.inl ⟨rfl, rfl⟩)
theorem kt_173 : ∀ pc o, cd_X12_worths Ev pc = some o → OkOp mt Ev 173 pc o ∧ Gw o := (tN_ok (tN_ok (tN_ok (tN_ok (tN_ok (tL_ok ⟨k_173_0, gw_aload⟩) (tN_ok (tL_ok ⟨k_173_1, gw_getf⟩) (tL_ok ⟨k_173_4, gw_iload⟩))) (tN_ok (tN_ok (tL_ok ⟨k_173_5, gw_iald⟩) (tL_ok ⟨k_173_6, gw_istore⟩)) (tN_ok (tL_ok ⟨k_173_7, gw_push⟩) (tL_ok ⟨k_173_8, gw_istore⟩)))) (tN_ok (tN_ok (tN_ok (tL_ok ⟨k_173_9, gw_push⟩) (tL_ok ⟨k_173_10, gw_istore⟩)) (tN_ok (tL_ok ⟨k_173_12, gw_iload⟩) (tL_ok ⟨k_173_14, gw_push⟩))) (tN_ok (tN_ok (tL_ok ⟨k_173_16, gw_if2⟩) (tL_ok ⟨k_173_19, gw_aload⟩)) (tN_ok (tL_ok ⟨k_173_20, gw_getf⟩) (tL_ok ⟨k_173_23, gw_iload⟩))))) (tN_ok (tN_ok (tN_ok (tL_ok ⟨k_173_24, gw_iload⟩) (tN_ok (tL_ok ⟨k_173_26, gw_iast⟩) (tL_ok ⟨k_173_27, gw_push⟩))) (tN_ok (tN_ok (tL_ok ⟨k_173_28, gw_istore⟩) (tL_ok ⟨k_173_30, gw_push⟩)) (tN_ok (tL_ok ⟨k_173_31, gw_istore⟩) (tL_ok ⟨k_173_33, gw_iload⟩)))) (tN_ok (tN_ok (tN_ok (tL_ok ⟨k_173_35, gw_aload⟩) (tL_ok ⟨k_173_36, gw_getf⟩)) (tN_ok (tL_ok ⟨k_173_39, gw_push⟩) (tL_ok ⟨k_173_41, gw_iald⟩))) (tN_ok (tN_ok (tL_ok ⟨k_173_42, gw_if2⟩) (tL_ok ⟨k_173_45, gw_iload⟩)) (tN_ok (tL_ok ⟨k_173_47, gw_if1⟩) (tL_ok ⟨k_173_50, gw_aload⟩)))))) (tN_ok (tN_ok (tN_ok (tN_ok (tL_ok ⟨k_173_51, gw_iload⟩) (tN_ok (tL_ok ⟨k_173_53, gw_aload⟩) (tL_ok ⟨k_173_54, gw_iload⟩))) (tN_ok (tN_ok (tL_ok ⟨k_173_56, gw_cv⟩) (tL_ok ⟨k_173_59, gw_cv⟩)) (tN_ok (tL_ok ⟨k_173_62, gw_if1⟩) (tL_ok ⟨k_173_65, gw_push⟩)))) (tN_ok (tN_ok (tN_ok (tL_ok ⟨k_173_66, gw_goto⟩) (tL_ok ⟨k_173_69, gw_push⟩)) (tN_ok (tL_ok ⟨k_173_70, gw_istore⟩) (tL_ok ⟨k_173_72, gw_iinc⟩))) (tN_ok (tN_ok (tL_ok ⟨k_173_75, gw_goto⟩) (tL_ok ⟨k_173_78, gw_iload⟩)) (tN_ok (tL_ok ⟨k_173_79, gw_iload⟩) (tL_ok ⟨k_173_81, gw_if1⟩))))) (tN_ok (tN_ok (tN_ok (tN_ok (tL_ok ⟨k_173_84, gw_push⟩) (tL_ok ⟨k_173_85, gw_iload⟩)) (tN_ok (tL_ok ⟨k_173_87, gw_ib⟩) (tL_ok ⟨k_173_88, gw_goto⟩))) (tN_ok (tN_ok (tL_ok ⟨k_173_91, gw_push⟩) (tL_ok ⟨k_173_92, gw_ib⟩)) (tN_ok (tL_ok ⟨k_173_93, gw_istore⟩) (tL_ok ⟨k_173_94, gw_iinc⟩)))) (tN_ok (tN_ok (tN_ok (tL_ok ⟨k_173_97, gw_goto⟩) (tL_ok ⟨k_173_100, gw_aload⟩)) (tN_ok (tL_ok ⟨k_173_101, gw_getf⟩) (tL_ok ⟨k_173_104, gw_iload⟩))) (tN_ok (tN_ok (tL_ok ⟨k_173_105, gw_iload⟩) (tL_ok ⟨k_173_106, gw_iast⟩)) (tN_ok (tL_ok ⟨k_173_107, gw_iload⟩) (tL_ok ⟨k_173_108, gw_ret⟩)))))))
theorem k_174_0 : OkOp mt Ev 174 0 (o_aload 0 1) := ok_aload_n (k := 0) (by decide +kernel) rfl
theorem k_174_1 : OkOp mt Ev 174 1 (o_iload 1 1) := ok_iload_n (k := 1) (by decide +kernel) rfl
theorem k_174_2 : OkOp mt Ev 174 2 (o_cv [(12, 128)] 1) := ok_cv (i := 95) (by decide +kernel) vc_143
theorem k_174_5 : OkOp mt Ev 174 5 (o_if1 (fun x => decide (x = 0)) 17) := ok_if_eq (off := 12) (by decide +kernel) (by decide +kernel)
theorem k_174_8 : OkOp mt Ev 174 8 (o_iload 2 1) := ok_iload_n (k := 2) (by decide +kernel) rfl
theorem k_174_9 : OkOp mt Ev 174 9 (o_push (.int (0)) 1) := ok_iconst (n := 0) (by decide +kernel) (by decide +kernel)
theorem k_174_10 : OkOp mt Ev 174 10 (o_push (.int (1)) 1) := ok_iconst (n := 1) (by decide +kernel) (by decide +kernel)
theorem k_174_11 : OkOp mt Ev 174 11 (o_cs 123 3) := ok_cs (i := 83) (by decide +kernel) wd_1089 wd_1090 wd_62 wd_1091 nk_34
theorem k_174_14 : OkOp mt Ev 174 14 (o_if1 (fun x => decide (¬ x = 0)) 19) := ok_if_ne (off := 5) (by decide +kernel) (by decide +kernel)
theorem k_174_17 : OkOp mt Ev 174 17 (o_push (.int (-1)) 1) := ok_iconst (n := -1) (by decide +kernel) (by decide +kernel)
theorem k_174_18 : OkOp mt Ev 174 18 (o_ret 0) := ok_reti (ty := .int) (by decide +kernel) rfl (Or.inl ⟨rfl, rfl⟩)
theorem k_174_19 : OkOp mt Ev 174 19 (o_aload 0 1) := ok_aload_n (k := 0) (by decide +kernel) rfl
theorem k_174_20 : OkOp mt Ev 174 20 (o_iload 1 1) := ok_iload_n (k := 1) (by decide +kernel) rfl
theorem k_174_21 : OkOp mt Ev 174 21 (o_push (.int (1)) 1) := ok_iconst (n := 1) (by decide +kernel) (by decide +kernel)
theorem k_174_22 : OkOp mt Ev 174 22 (o_cv [(12, 132)] 2) := ok_cv (i := 87) (by decide +kernel) vc_141
theorem k_174_25 : OkOp mt Ev 174 25 (o_istore 3 1) := ok_istore_n (k := 3) (by decide +kernel) rfl
theorem k_174_26 : OkOp mt Ev 174 26 (o_push (.int (0)) 1) := ok_iconst (n := 0) (by decide +kernel) (by decide +kernel)
theorem k_174_27 : OkOp mt Ev 174 27 (o_istore 4 2) := ok_istore (by decide +kernel)
theorem k_174_29 : OkOp mt Ev 174 29 (o_push (.int (-5)) 2) := ok_bipush (n := -5) (by decide +kernel) (by decide +kernel)
theorem k_174_31 : OkOp mt Ev 174 31 (o_istore 5 2) := ok_istore (by decide +kernel)
theorem k_174_33 : OkOp mt Ev 174 33 (o_push (.int (9)) 2) := ok_bipush (n := 9) (by decide +kernel) (by decide +kernel)
theorem k_174_35 : OkOp mt Ev 174 35 (o_istore 6 2) := ok_istore (by decide +kernel)
theorem k_174_37 : OkOp mt Ev 174 37 (o_iload 6 2) := ok_iload (by decide +kernel)
theorem k_174_39 : OkOp mt Ev 174 39 (o_if1 (fun x => decide (x < 0)) 98) := ok_if_lt (off := 59) (by decide +kernel) (by decide +kernel)
theorem k_174_42 : OkOp mt Ev 174 42 (o_aload 0 1) := ok_aload_n (k := 0) (by decide +kernel) rfl
theorem k_174_43 : OkOp mt Ev 174 43 (o_iload 1 1) := ok_iload_n (k := 1) (by decide +kernel) rfl
theorem k_174_44 : OkOp mt Ev 174 44 (o_push (.int (1)) 1) := ok_iconst (n := 1) (by decide +kernel) (by decide +kernel)
theorem k_174_45 : OkOp mt Ev 174 45 (o_iload 6 2) := ok_iload (by decide +kernel)
theorem k_174_47 : OkOp mt Ev 174 47 (o_cv [(12, 133)] 3) := ok_cv (i := 91) (by decide +kernel) vc_142
theorem k_174_50 : OkOp mt Ev 174 50 (o_pop) := ok_pop (by decide +kernel)
theorem k_174_51 : OkOp mt Ev 174 51 (o_aload 0 1) := ok_aload_n (k := 0) (by decide +kernel) rfl
theorem k_174_52 : OkOp mt Ev 174 52 (o_iload 1 1) := ok_iload_n (k := 1) (by decide +kernel) rfl
theorem k_174_53 : OkOp mt Ev 174 53 (o_aload 0 1) := ok_aload_n (k := 0) (by decide +kernel) rfl
theorem k_174_54 : OkOp mt Ev 174 54 (o_iload 1 1) := ok_iload_n (k := 1) (by decide +kernel) rfl
theorem k_174_55 : OkOp mt Ev 174 55 (o_cv [(12, 157)] 1) := ok_cv (i := 99) (by decide +kernel) vc_144
theorem k_174_58 : OkOp mt Ev 174 58 (o_cv [(12, 171)] 2) := ok_cv (i := 222) (by decide +kernel) vc_169
theorem k_174_61 : OkOp mt Ev 174 61 (o_istore 7 2) := ok_istore (by decide +kernel)
theorem k_174_63 : OkOp mt Ev 174 63 (o_iload 4 2) := ok_iload (by decide +kernel)
theorem k_174_65 : OkOp mt Ev 174 65 (o_iload 7 2) := ok_iload (by decide +kernel)
theorem k_174_67 : OkOp mt Ev 174 67 (o_if1 (fun x => decide (x = 0)) 74) := ok_if_eq (off := 7) (by decide +kernel) (by decide +kernel)
theorem k_174_70 : OkOp mt Ev 174 70 (o_push (.int (1)) 1) := ok_iconst (n := 1) (by decide +kernel) (by decide +kernel)
theorem k_174_71 : OkOp mt Ev 174 71 (o_goto 75) := ok_goto (off := 4) (by decide +kernel) (by decide +kernel)
theorem k_174_74 : OkOp mt Ev 174 74 (o_push (.int (0)) 1) := ok_iconst (n := 0) (by decide +kernel) (by decide +kernel)
theorem k_174_75 : OkOp mt Ev 174 75 (o_ib (fun x y => x + y)) := ok_iadd (by decide +kernel)
theorem k_174_76 : OkOp mt Ev 174 76 (o_istore 4 2) := ok_istore (by decide +kernel)
theorem k_174_78 : OkOp mt Ev 174 78 (o_iload 7 2) := ok_iload (by decide +kernel)
theorem k_174_80 : OkOp mt Ev 174 80 (o_if1 (fun x => decide (x = 0)) 88) := ok_if_eq (off := 8) (by decide +kernel) (by decide +kernel)
theorem k_174_83 : OkOp mt Ev 174 83 (o_iload 6 2) := ok_iload (by decide +kernel)
theorem k_174_85 : OkOp mt Ev 174 85 (o_goto 90) := ok_goto (off := 5) (by decide +kernel) (by decide +kernel)
theorem k_174_88 : OkOp mt Ev 174 88 (o_iload 5 2) := ok_iload (by decide +kernel)
theorem k_174_90 : OkOp mt Ev 174 90 (o_istore 5 2) := ok_istore (by decide +kernel)
theorem k_174_92 : OkOp mt Ev 174 92 (o_iinc 6 (-1)) := ok_iinc (n := -1) (by decide +kernel) (by decide +kernel)
theorem k_174_95 : OkOp mt Ev 174 95 (o_goto 37) := ok_goto (off := -58) (by decide +kernel) (by decide +kernel)
theorem k_174_98 : OkOp mt Ev 174 98 (o_aload 0 1) := ok_aload_n (k := 0) (by decide +kernel) rfl
theorem k_174_99 : OkOp mt Ev 174 99 (o_iload 1 1) := ok_iload_n (k := 1) (by decide +kernel) rfl
theorem k_174_100 : OkOp mt Ev 174 100 (o_push (.int (1)) 1) := ok_iconst (n := 1) (by decide +kernel) (by decide +kernel)
theorem k_174_101 : OkOp mt Ev 174 101 (o_iload 3 1) := ok_iload_n (k := 3) (by decide +kernel) rfl
theorem k_174_102 : OkOp mt Ev 174 102 (o_cv [(12, 133)] 3) := ok_cv (i := 91) (by decide +kernel) vc_142
theorem k_174_105 : OkOp mt Ev 174 105 (o_pop) := ok_pop (by decide +kernel)
theorem k_174_106 : OkOp mt Ev 174 106 (o_iload 2 1) := ok_iload_n (k := 2) (by decide +kernel) rfl
theorem k_174_107 : OkOp mt Ev 174 107 (o_if1 (fun x => decide (¬ x = 0)) 115) := ok_if_ne (off := 8) (by decide +kernel) (by decide +kernel)
theorem k_174_110 : OkOp mt Ev 174 110 (o_iload 4 2) := ok_iload (by decide +kernel)
theorem k_174_112 : OkOp mt Ev 174 112 (o_goto 117) := ok_goto (off := 5) (by decide +kernel) (by decide +kernel)
theorem k_174_115 : OkOp mt Ev 174 115 (o_iload 5 2) := ok_iload (by decide +kernel)
theorem k_174_117 : OkOp mt Ev 174 117 (o_ret 0) := ok_reti (ty := .int) (by decide +kernel) rfl (Or.inl ⟨rfl, rfl⟩)
theorem kt_174 : ∀ pc o, cd_X12_can Ev pc = some o → OkOp mt Ev 174 pc o ∧ Gw o := (tN_ok (tN_ok (tN_ok (tN_ok (tN_ok (tN_ok (tL_ok ⟨k_174_0, gw_aload⟩) (tL_ok ⟨k_174_1, gw_iload⟩)) (tN_ok (tL_ok ⟨k_174_2, gw_cv⟩) (tL_ok ⟨k_174_5, gw_if1⟩))) (tN_ok (tN_ok (tL_ok ⟨k_174_8, gw_iload⟩) (tL_ok ⟨k_174_9, gw_push⟩)) (tN_ok (tL_ok ⟨k_174_10, gw_push⟩) (tL_ok ⟨k_174_11, gw_cs⟩)))) (tN_ok (tN_ok (tN_ok (tL_ok ⟨k_174_14, gw_if1⟩) (tL_ok ⟨k_174_17, gw_push⟩)) (tN_ok (tL_ok ⟨k_174_18, gw_ret⟩) (tL_ok ⟨k_174_19, gw_aload⟩))) (tN_ok (tN_ok (tL_ok ⟨k_174_20, gw_iload⟩) (tL_ok ⟨k_174_21, gw_push⟩)) (tN_ok (tL_ok ⟨k_174_22, gw_cv⟩) (tL_ok ⟨k_174_25, gw_istore⟩))))) (tN_ok (tN_ok (tN_ok (tN_ok (tL_ok ⟨k_174_26, gw_push⟩) (tL_ok ⟨k_174_27, gw_istore⟩)) (tN_ok (tL_ok ⟨k_174_29, gw_push⟩) (tL_ok ⟨k_174_31, gw_istore⟩))) (tN_ok (tN_ok (tL_ok ⟨k_174_33, gw_push⟩) (tL_ok ⟨k_174_35, gw_istore⟩)) (tN_ok (tL_ok ⟨k_174_37, gw_iload⟩) (tL_ok ⟨k_174_39, gw_if1⟩)))) (tN_ok (tN_ok (tN_ok (tL_ok ⟨k_174_42, gw_aload⟩) (tL_ok ⟨k_174_43, gw_iload⟩)) (tN_ok (tL_ok ⟨k_174_44, gw_push⟩) (tL_ok ⟨k_174_45, gw_iload⟩))) (tN_ok (tN_ok (tL_ok ⟨k_174_47, gw_cv⟩) (tL_ok ⟨k_174_50, gw_pop⟩)) (tN_ok (tL_ok ⟨k_174_51, gw_aload⟩) (tL_ok ⟨k_174_52, gw_iload⟩)))))) (tN_ok (tN_ok (tN_ok (tN_ok (tN_ok (tL_ok ⟨k_174_53, gw_aload⟩) (tL_ok ⟨k_174_54, gw_iload⟩)) (tN_ok (tL_ok ⟨k_174_55, gw_cv⟩) (tL_ok ⟨k_174_58, gw_cv⟩))) (tN_ok (tN_ok (tL_ok ⟨k_174_61, gw_istore⟩) (tL_ok ⟨k_174_63, gw_iload⟩)) (tN_ok (tL_ok ⟨k_174_65, gw_iload⟩) (tL_ok ⟨k_174_67, gw_if1⟩)))) (tN_ok (tN_ok (tN_ok (tL_ok ⟨k_174_70, gw_push⟩) (tL_ok ⟨k_174_71, gw_goto⟩)) (tN_ok (tL_ok ⟨k_174_74, gw_push⟩) (tL_ok ⟨k_174_75, gw_ib⟩))) (tN_ok (tN_ok (tL_ok ⟨k_174_76, gw_istore⟩) (tL_ok ⟨k_174_78, gw_iload⟩)) (tN_ok (tL_ok ⟨k_174_80, gw_if1⟩) (tL_ok ⟨k_174_83, gw_iload⟩))))) (tN_ok (tN_ok (tN_ok (tN_ok (tL_ok ⟨k_174_85, gw_goto⟩) (tL_ok ⟨k_174_88, gw_iload⟩)) (tN_ok (tL_ok ⟨k_174_90, gw_istore⟩) (tL_ok ⟨k_174_92, gw_iinc⟩))) (tN_ok (tN_ok (tL_ok ⟨k_174_95, gw_goto⟩) (tL_ok ⟨k_174_98, gw_aload⟩)) (tN_ok (tL_ok ⟨k_174_99, gw_iload⟩) (tL_ok ⟨k_174_100, gw_push⟩)))) (tN_ok (tN_ok (tN_ok (tL_ok ⟨k_174_101, gw_iload⟩) (tL_ok ⟨k_174_102, gw_cv⟩)) (tN_ok (tL_ok ⟨k_174_105, gw_pop⟩) (tL_ok ⟨k_174_106, gw_iload⟩))) (tN_ok (tN_ok (tL_ok ⟨k_174_107, gw_if1⟩) (tL_ok ⟨k_174_110, gw_iload⟩)) (tN_ok (tL_ok ⟨k_174_112, gw_goto⟩) (tN_ok (tL_ok ⟨k_174_115, gw_iload⟩) (tL_ok ⟨k_174_117, gw_ret⟩))))))))
theorem k_175_0 : OkOp mt Ev 175 0 (o_lload 0 1) := ok_lload_n (k := 0) (by decide +kernel) rfl
theorem k_175_1 : OkOp mt Ev 175 1 (o_lstore 5 2) := ok_lstore (by decide +kernel)
theorem k_175_3 : OkOp mt Ev 175 3 (o_lload 2 1) := ok_lload_n (k := 2) (by decide +kernel) rfl
theorem k_175_4 : OkOp mt Ev 175 4 (o_lstore 7 2) := ok_lstore (by decide +kernel)
theorem k_175_6 : OkOp mt Ev 175 6 (o_lload 7 2) := ok_lload (by decide +kernel)
theorem k_175_8 : OkOp mt Ev 175 8 (o_push (.long (0)) 1) := ok_lconst (n := 0) (by decide +kernel) (by decide +kernel)
theorem k_175_9 : OkOp mt Ev 175 9 (o_lcmp) := ok_lcmp (by decide +kernel)
theorem k_175_10 : OkOp mt Ev 175 10 (o_if1 (fun x => decide (x = 0)) 31) := ok_if_eq (off := 21) (by decide +kernel) (by decide +kernel)
theorem k_175_13 : OkOp mt Ev 175 13 (o_lload 5 2) := ok_lload (by decide +kernel)
theorem k_175_15 : OkOp mt Ev 175 15 (o_lload 7 2) := ok_lload (by decide +kernel)
theorem k_175_17 : OkOp mt Ev 175 17 (o_lbz (fun x y => x - x / y * y)) := ok_lrem (by decide +kernel)
theorem k_175_18 : OkOp mt Ev 175 18 (o_lstore 9 2) := ok_lstore (by decide +kernel)
theorem k_175_20 : OkOp mt Ev 175 20 (o_lload 7 2) := ok_lload (by decide +kernel)
theorem k_175_22 : OkOp mt Ev 175 22 (o_lstore 5 2) := ok_lstore (by decide +kernel)
theorem k_175_24 : OkOp mt Ev 175 24 (o_lload 9 2) := ok_lload (by decide +kernel)
theorem k_175_26 : OkOp mt Ev 175 26 (o_lstore 7 2) := ok_lstore (by decide +kernel)
theorem k_175_28 : OkOp mt Ev 175 28 (o_goto 6) := ok_goto (off := -22) (by decide +kernel) (by decide +kernel)
theorem k_175_31 : OkOp mt Ev 175 31 (o_iload 4 2) := ok_iload (by decide +kernel)
theorem k_175_33 : OkOp mt Ev 175 33 (o_if1 (fun x => decide (¬ x = 0)) 43) := ok_if_ne (off := 10) (by decide +kernel) (by decide +kernel)
theorem k_175_36 : OkOp mt Ev 175 36 (o_lload 0 1) := ok_lload_n (k := 0) (by decide +kernel) rfl
theorem k_175_37 : OkOp mt Ev 175 37 (o_lload 5 2) := ok_lload (by decide +kernel)
theorem k_175_39 : OkOp mt Ev 175 39 (o_lbz (fun x y => x / y)) := ok_ldiv (by decide +kernel)
theorem k_175_40 : OkOp mt Ev 175 40 (o_goto 47) := ok_goto (off := 7) (by decide +kernel) (by decide +kernel)
theorem k_175_43 : OkOp mt Ev 175 43 (o_lload 2 1) := ok_lload_n (k := 2) (by decide +kernel) rfl
theorem k_175_44 : OkOp mt Ev 175 44 (o_lload 5 2) := ok_lload (by decide +kernel)
theorem k_175_46 : OkOp mt Ev 175 46 (o_lbz (fun x y => x / y)) := ok_ldiv (by decide +kernel)
theorem k_175_47 : OkOp mt Ev 175 47 (o_ret 2) := ok_retl (by decide +kernel) rfl
theorem kt_175 : ∀ pc o, cd_X12_fraction Ev pc = some o → OkOp mt Ev 175 pc o ∧ Gw o := (tN_ok (tN_ok (tN_ok (tN_ok (tL_ok ⟨k_175_0, gw_lload⟩) (tN_ok (tL_ok ⟨k_175_1, gw_lstore⟩) (tL_ok ⟨k_175_3, gw_lload⟩))) (tN_ok (tL_ok ⟨k_175_4, gw_lstore⟩) (tN_ok (tL_ok ⟨k_175_6, gw_lload⟩) (tL_ok ⟨k_175_8, gw_push⟩)))) (tN_ok (tN_ok (tL_ok ⟨k_175_9, gw_lcmp⟩) (tN_ok (tL_ok ⟨k_175_10, gw_if1⟩) (tL_ok ⟨k_175_13, gw_lload⟩))) (tN_ok (tN_ok (tL_ok ⟨k_175_15, gw_lload⟩) (tL_ok ⟨k_175_17, gw_lbz⟩)) (tN_ok (tL_ok ⟨k_175_18, gw_lstore⟩) (tL_ok ⟨k_175_20, gw_lload⟩))))) (tN_ok (tN_ok (tN_ok (tL_ok ⟨k_175_22, gw_lstore⟩) (tN_ok (tL_ok ⟨k_175_24, gw_lload⟩) (tL_ok ⟨k_175_26, gw_lstore⟩))) (tN_ok (tN_ok (tL_ok ⟨k_175_28, gw_goto⟩) (tL_ok ⟨k_175_31, gw_iload⟩)) (tN_ok (tL_ok ⟨k_175_33, gw_if1⟩) (tL_ok ⟨k_175_36, gw_lload⟩)))) (tN_ok (tN_ok (tL_ok ⟨k_175_37, gw_lload⟩) (tN_ok (tL_ok ⟨k_175_39, gw_lbz⟩) (tL_ok ⟨k_175_40, gw_goto⟩))) (tN_ok (tN_ok (tL_ok ⟨k_175_43, gw_lload⟩) (tL_ok ⟨k_175_44, gw_lload⟩)) (tN_ok (tL_ok ⟨k_175_46, gw_lbz⟩) (tL_ok ⟨k_175_47, gw_ret⟩))))))
theorem k_176_0 : OkOp mt Ev 176 0 (o_aload 0 1) := ok_aload_n (k := 0) (by decide +kernel) rfl
theorem k_176_1 : OkOp mt Ev 176 1 (o_iload 1 1) := ok_iload_n (k := 1) (by decide +kernel) rfl
theorem k_176_2 : OkOp mt Ev 176 2 (o_cv [(12, 128)] 1) := ok_cv (i := 95) (by decide +kernel) vc_143
theorem k_176_5 : OkOp mt Ev 176 5 (o_if1 (fun x => decide (x = 0)) 17) := ok_if_eq (off := 12) (by decide +kernel) (by decide +kernel)
theorem k_176_8 : OkOp mt Ev 176 8 (o_iload 2 1) := ok_iload_n (k := 2) (by decide +kernel) rfl
theorem k_176_9 : OkOp mt Ev 176 9 (o_push (.int (0)) 1) := ok_iconst (n := 0) (by decide +kernel) (by decide +kernel)
theorem k_176_10 : OkOp mt Ev 176 10 (o_push (.int (1)) 1) := ok_iconst (n := 1) (by decide +kernel) (by decide +kernel)
theorem k_176_11 : OkOp mt Ev 176 11 (o_cs 123 3) := ok_cs (i := 83) (by decide +kernel) wd_1089 wd_1090 wd_62 wd_1091 nk_34
theorem k_176_14 : OkOp mt Ev 176 14 (o_if1 (fun x => decide (¬ x = 0)) 21) := ok_if_ne (off := 7) (by decide +kernel) (by decide +kernel)
theorem k_176_17 : OkOp mt Ev 176 17 (o_push (.long (-9223372036854775808)) 3) := ok_ldc2 (i := 226) (by decide +kernel) wd_1279
theorem k_176_20 : OkOp mt Ev 176 20 (o_ret 2) := ok_retl (by decide +kernel) rfl
theorem k_176_21 : OkOp mt Ev 176 21 (o_aload 0 1) := ok_aload_n (k := 0) (by decide +kernel) rfl
theorem k_176_22 : OkOp mt Ev 176 22 (o_iload 1 1) := ok_iload_n (k := 1) (by decide +kernel) rfl
theorem k_176_23 : OkOp mt Ev 176 23 (o_cv [(12, 157)] 1) := ok_cv (i := 99) (by decide +kernel) vc_144
theorem k_176_26 : OkOp mt Ev 176 26 (o_istore 3 1) := ok_istore_n (k := 3) (by decide +kernel) rfl
theorem k_176_27 : OkOp mt Ev 176 27 (o_push (.int (0)) 1) := ok_iconst (n := 0) (by decide +kernel) (by decide +kernel)
theorem k_176_28 : OkOp mt Ev 176 28 (o_istore 4 2) := ok_istore (by decide +kernel)
theorem k_176_30 : OkOp mt Ev 176 30 (o_push (.int (0)) 1) := ok_iconst (n := 0) (by decide +kernel) (by decide +kernel)
theorem k_176_31 : OkOp mt Ev 176 31 (o_istore 5 2) := ok_istore (by decide +kernel)
theorem k_176_33 : OkOp mt Ev 176 33 (o_iload 5 2) := ok_iload (by decide +kernel)
theorem k_176_35 : OkOp mt Ev 176 35 (o_push (.int (12)) 2) := ok_bipush (n := 12) (by decide +kernel) (by decide +kernel)
theorem k_176_37 : OkOp mt Ev 176 37 (o_if2 (fun x y => decide (y ≤ x)) 86) := ok_icmp_ge (off := 49) (by decide +kernel) (by decide +kernel)
theorem k_176_40 : OkOp mt Ev 176 40 (o_aload 0 1) := ok_aload_n (k := 0) (by decide +kernel) rfl
theorem k_176_41 : OkOp mt Ev 176 41 (o_iload 1 1) := ok_iload_n (k := 1) (by decide +kernel) rfl
theorem k_176_42 : OkOp mt Ev 176 42 (o_aload 0 1) := ok_aload_n (k := 0) (by decide +kernel) rfl
theorem k_176_43 : OkOp mt Ev 176 43 (o_iload 1 1) := ok_iload_n (k := 1) (by decide +kernel) rfl
theorem k_176_44 : OkOp mt Ev 176 44 (o_push (.int (2)) 1) := ok_iconst (n := 2) (by decide +kernel) (by decide +kernel)
theorem k_176_45 : OkOp mt Ev 176 45 (o_cv [(12, 132)] 2) := ok_cv (i := 87) (by decide +kernel) vc_141
theorem k_176_48 : OkOp mt Ev 176 48 (o_push (.int (1)) 1) := ok_iconst (n := 1) (by decide +kernel) (by decide +kernel)
theorem k_176_49 : OkOp mt Ev 176 49 (o_iload 5 2) := ok_iload (by decide +kernel)
theorem k_176_51 : OkOp mt Ev 176 51 (o_ib (fun x y => x <<< (y &&& 31))) := ok_ishl (by decide +kernel)
theorem k_176_52 : OkOp mt Ev 176 52 (o_ib (fun x y => x ||| y)) := ok_ior (by decide +kernel)
theorem k_176_53 : OkOp mt Ev 176 53 (o_cv [(12, 156)] 2) := ok_cv (i := 195) (by decide +kernel) vc_160
theorem k_176_56 : OkOp mt Ev 176 56 (o_istore 6 2) := ok_istore (by decide +kernel)
theorem k_176_58 : OkOp mt Ev 176 58 (o_iload 4 2) := ok_iload (by decide +kernel)
theorem k_176_60 : OkOp mt Ev 176 60 (o_iload 6 2) := ok_iload (by decide +kernel)
theorem k_176_62 : OkOp mt Ev 176 62 (o_push (.int (-1)) 1) := ok_iconst (n := -1) (by decide +kernel) (by decide +kernel)
theorem k_176_63 : OkOp mt Ev 176 63 (o_if2 (fun x y => decide (x = y)) 76) := ok_icmp_eq (off := 13) (by decide +kernel) (by decide +kernel)
theorem k_176_66 : OkOp mt Ev 176 66 (o_iload 6 2) := ok_iload (by decide +kernel)
theorem k_176_68 : OkOp mt Ev 176 68 (o_iload 3 1) := ok_iload_n (k := 3) (by decide +kernel) rfl
theorem k_176_69 : OkOp mt Ev 176 69 (o_if2 (fun x y => decide (x = y)) 76) := ok_icmp_eq (off := 7) (by decide +kernel) (by decide +kernel)
theorem k_176_72 : OkOp mt Ev 176 72 (o_push (.int (1)) 1) := ok_iconst (n := 1) (by decide +kernel) (by decide +kernel)
theorem k_176_73 : OkOp mt Ev 176 73 (o_goto 77) := ok_goto (off := 4) (by decide +kernel) (by decide +kernel)
theorem k_176_76 : OkOp mt Ev 176 76 (o_push (.int (0)) 1) := ok_iconst (n := 0) (by decide +kernel) (by decide +kernel)
theorem k_176_77 : OkOp mt Ev 176 77 (o_ib (fun x y => x + y)) := ok_iadd (by decide +kernel)
theorem k_176_78 : OkOp mt Ev 176 78 (o_istore 4 2) := ok_istore (by decide +kernel)
theorem k_176_80 : OkOp mt Ev 176 80 (o_iinc 5 (1)) := ok_iinc (n := 1) (by decide +kernel) (by decide +kernel)
theorem k_176_83 : OkOp mt Ev 176 83 (o_goto 33) := ok_goto (off := -50) (by decide +kernel) (by decide +kernel)
theorem k_176_86 : OkOp mt Ev 176 86 (o_iload 4 2) := ok_iload (by decide +kernel)
theorem k_176_88 : OkOp mt Ev 176 88 (o_i2l) := ok_i2l (by decide +kernel)
theorem k_176_89 : OkOp mt Ev 176 89 (o_push (.long (12)) 3) := ok_ldc2 (i := 228) (by decide +kernel) wd_1280
theorem k_176_92 : OkOp mt Ev 176 92 (o_iload 2 1) := ok_iload_n (k := 2) (by decide +kernel) rfl
theorem k_176_93 : OkOp mt Ev 176 93 (o_cs 175 3) := ok_cs (i := 230) (by decide +kernel) wd_1281 wd_1282 wd_62 wd_1283 nk_38
theorem k_176_96 : OkOp mt Ev 176 96 (o_ret 2) := ok_retl (by decide +kernel) rfl
theorem kt_176 : ∀ pc o, cd_X12_odds Ev pc = some o → OkOp mt Ev 176 pc o ∧ Gw o := (tN_ok (tN_ok (tN_ok (tN_ok (tN_ok (tL_ok ⟨k_176_0, gw_aload⟩) (tN_ok (tL_ok ⟨k_176_1, gw_iload⟩) (tL_ok ⟨k_176_2, gw_cv⟩))) (tN_ok (tL_ok ⟨k_176_5, gw_if1⟩) (tN_ok (tL_ok ⟨k_176_8, gw_iload⟩) (tL_ok ⟨k_176_9, gw_push⟩)))) (tN_ok (tN_ok (tL_ok ⟨k_176_10, gw_push⟩) (tN_ok (tL_ok ⟨k_176_11, gw_cs⟩) (tL_ok ⟨k_176_14, gw_if1⟩))) (tN_ok (tN_ok (tL_ok ⟨k_176_17, gw_push⟩) (tL_ok ⟨k_176_20, gw_ret⟩)) (tN_ok (tL_ok ⟨k_176_21, gw_aload⟩) (tL_ok ⟨k_176_22, gw_iload⟩))))) (tN_ok (tN_ok (tN_ok (tL_ok ⟨k_176_23, gw_cv⟩) (tN_ok (tL_ok ⟨k_176_26, gw_istore⟩) (tL_ok ⟨k_176_27, gw_push⟩))) (tN_ok (tN_ok (tL_ok ⟨k_176_28, gw_istore⟩) (tL_ok ⟨k_176_30, gw_push⟩)) (tN_ok (tL_ok ⟨k_176_31, gw_istore⟩) (tL_ok ⟨k_176_33, gw_iload⟩)))) (tN_ok (tN_ok (tL_ok ⟨k_176_35, gw_push⟩) (tN_ok (tL_ok ⟨k_176_37, gw_if2⟩) (tL_ok ⟨k_176_40, gw_aload⟩))) (tN_ok (tN_ok (tL_ok ⟨k_176_41, gw_iload⟩) (tL_ok ⟨k_176_42, gw_aload⟩)) (tN_ok (tL_ok ⟨k_176_43, gw_iload⟩) (tL_ok ⟨k_176_44, gw_push⟩)))))) (tN_ok (tN_ok (tN_ok (tN_ok (tL_ok ⟨k_176_45, gw_cv⟩) (tN_ok (tL_ok ⟨k_176_48, gw_push⟩) (tL_ok ⟨k_176_49, gw_iload⟩))) (tN_ok (tL_ok ⟨k_176_51, gw_ib⟩) (tN_ok (tL_ok ⟨k_176_52, gw_ib⟩) (tL_ok ⟨k_176_53, gw_cv⟩)))) (tN_ok (tN_ok (tL_ok ⟨k_176_56, gw_istore⟩) (tN_ok (tL_ok ⟨k_176_58, gw_iload⟩) (tL_ok ⟨k_176_60, gw_iload⟩))) (tN_ok (tN_ok (tL_ok ⟨k_176_62, gw_push⟩) (tL_ok ⟨k_176_63, gw_if2⟩)) (tN_ok (tL_ok ⟨k_176_66, gw_iload⟩) (tL_ok ⟨k_176_68, gw_iload⟩))))) (tN_ok (tN_ok (tN_ok (tL_ok ⟨k_176_69, gw_if2⟩) (tN_ok (tL_ok ⟨k_176_72, gw_push⟩) (tL_ok ⟨k_176_73, gw_goto⟩))) (tN_ok (tN_ok (tL_ok ⟨k_176_76, gw_push⟩) (tL_ok ⟨k_176_77, gw_ib⟩)) (tN_ok (tL_ok ⟨k_176_78, gw_istore⟩) (tL_ok ⟨k_176_80, gw_iinc⟩)))) (tN_ok (tN_ok (tL_ok ⟨k_176_83, gw_goto⟩) (tN_ok (tL_ok ⟨k_176_86, gw_iload⟩) (tL_ok ⟨k_176_88, gw_i2l⟩))) (tN_ok (tN_ok (tL_ok ⟨k_176_89, gw_push⟩) (tL_ok ⟨k_176_92, gw_iload⟩)) (tN_ok (tL_ok ⟨k_176_93, gw_cs⟩) (tL_ok ⟨k_176_96, gw_ret⟩)))))))
theorem k_177_0 : OkOp mt Ev 177 0 (o_iload 1 1) := ok_iload_n (k := 1) (by decide +kernel) rfl
theorem k_177_1 : OkOp mt Ev 177 1 (o_push (.int (0)) 1) := ok_iconst (n := 0) (by decide +kernel) (by decide +kernel)
theorem k_177_2 : OkOp mt Ev 177 2 (o_push (.int (60)) 2) := ok_bipush (n := 60) (by decide +kernel) (by decide +kernel)
theorem k_177_4 : OkOp mt Ev 177 4 (o_cs 123 3) := ok_cs (i := 83) (by decide +kernel) wd_1089 wd_1090 wd_62 wd_1091 nk_34
theorem k_177_7 : OkOp mt Ev 177 7 (o_if1 (fun x => decide (x = 0)) 19) := ok_if_eq (off := 12) (by decide +kernel) (by decide +kernel)
theorem k_177_10 : OkOp mt Ev 177 10 (o_iload 2 1) := ok_iload_n (k := 2) (by decide +kernel) rfl
theorem k_177_11 : OkOp mt Ev 177 11 (o_push (.int (0)) 1) := ok_iconst (n := 0) (by decide +kernel) (by decide +kernel)
theorem k_177_12 : OkOp mt Ev 177 12 (o_push (.int (1)) 1) := ok_iconst (n := 1) (by decide +kernel) (by decide +kernel)
theorem k_177_13 : OkOp mt Ev 177 13 (o_cs 123 3) := ok_cs (i := 83) (by decide +kernel) wd_1089 wd_1090 wd_62 wd_1091 nk_34
theorem k_177_16 : OkOp mt Ev 177 16 (o_if1 (fun x => decide (¬ x = 0)) 23) := ok_if_ne (off := 7) (by decide +kernel) (by decide +kernel)
theorem k_177_19 : OkOp mt Ev 177 19 (o_push (.long (-9223372036854775808)) 3) := ok_ldc2 (i := 226) (by decide +kernel) wd_1279
theorem k_177_22 : OkOp mt Ev 177 22 (o_ret 2) := ok_retl (by decide +kernel) rfl
theorem k_177_23 : OkOp mt Ev 177 23 (o_aload 0 1) := ok_aload_n (k := 0) (by decide +kernel) rfl
theorem k_177_24 : OkOp mt Ev 177 24 (o_iload 1 1) := ok_iload_n (k := 1) (by decide +kernel) rfl
theorem k_177_25 : OkOp mt Ev 177 25 (o_push (.int (1)) 1) := ok_iconst (n := 1) (by decide +kernel) (by decide +kernel)
theorem k_177_26 : OkOp mt Ev 177 26 (o_cv [(12, 168)] 2) := ok_cv (i := 234) (by decide +kernel) vc_170
theorem k_177_29 : OkOp mt Ev 177 29 (o_istore 3 1) := ok_istore_n (k := 3) (by decide +kernel) rfl
theorem k_177_30 : OkOp mt Ev 177 30 (o_push (.int (0)) 1) := ok_iconst (n := 0) (by decide +kernel) (by decide +kernel)
theorem k_177_31 : OkOp mt Ev 177 31 (o_istore 4 2) := ok_istore (by decide +kernel)
theorem k_177_33 : OkOp mt Ev 177 33 (o_push (.int (0)) 1) := ok_iconst (n := 0) (by decide +kernel) (by decide +kernel)
theorem k_177_34 : OkOp mt Ev 177 34 (o_istore 5 2) := ok_istore (by decide +kernel)
theorem k_177_36 : OkOp mt Ev 177 36 (o_iload 5 2) := ok_iload (by decide +kernel)
theorem k_177_38 : OkOp mt Ev 177 38 (o_push (.int (12)) 2) := ok_bipush (n := 12) (by decide +kernel) (by decide +kernel)
theorem k_177_40 : OkOp mt Ev 177 40 (o_if2 (fun x y => decide (y ≤ x)) 75) := ok_icmp_ge (off := 35) (by decide +kernel) (by decide +kernel)
theorem k_177_43 : OkOp mt Ev 177 43 (o_iload 4 2) := ok_iload (by decide +kernel)
theorem k_177_45 : OkOp mt Ev 177 45 (o_iload 3 1) := ok_iload_n (k := 3) (by decide +kernel) rfl
theorem k_177_46 : OkOp mt Ev 177 46 (o_iload 5 2) := ok_iload (by decide +kernel)
theorem k_177_48 : OkOp mt Ev 177 48 (o_ib (fun x y => x >>> (y &&& 31))) := ok_ishr (by decide +kernel)
theorem k_177_49 : OkOp mt Ev 177 49 (o_push (.int (1)) 1) := ok_iconst (n := 1) (by decide +kernel) (by decide +kernel)
theorem k_177_50 : OkOp mt Ev 177 50 (o_ib (fun x y => x &&& y)) := ok_iand (by decide +kernel)
theorem k_177_51 : OkOp mt Ev 177 51 (o_push (.int (1)) 1) := ok_iconst (n := 1) (by decide +kernel) (by decide +kernel)
theorem k_177_52 : OkOp mt Ev 177 52 (o_if2 (fun x y => decide (¬ x = y)) 65) := ok_icmp_ne (off := 13) (by decide +kernel) (by decide +kernel)
theorem k_177_55 : OkOp mt Ev 177 55 (o_aload 0 1) := ok_aload_n (k := 0) (by decide +kernel) rfl
theorem k_177_56 : OkOp mt Ev 177 56 (o_getf 0 [12]) := ok_getf (i := 15) (rf := "BridgeSentencesModel") (nm := "now") (ds := "[I") (by decide +kernel) fc_47 wd_985
theorem k_177_59 : OkOp mt Ev 177 59 (o_iload 5 2) := ok_iload (by decide +kernel)
theorem k_177_61 : OkOp mt Ev 177 61 (o_iald 2) := ok_iald (by decide +kernel)
theorem k_177_62 : OkOp mt Ev 177 62 (o_goto 66) := ok_goto (off := 4) (by decide +kernel) (by decide +kernel)
theorem k_177_65 : OkOp mt Ev 177 65 (o_push (.int (0)) 1) := ok_iconst (n := 0) (by decide +kernel) (by decide +kernel)
theorem k_177_66 : OkOp mt Ev 177 66 (o_ib (fun x y => x + y)) := ok_iadd (by decide +kernel)
theorem k_177_67 : OkOp mt Ev 177 67 (o_istore 4 2) := ok_istore (by decide +kernel)
theorem k_177_69 : OkOp mt Ev 177 69 (o_iinc 5 (1)) := ok_iinc (n := 1) (by decide +kernel) (by decide +kernel)
theorem k_177_72 : OkOp mt Ev 177 72 (o_goto 36) := ok_goto (off := -36) (by decide +kernel) (by decide +kernel)
theorem k_177_75 : OkOp mt Ev 177 75 (o_iload 3 1) := ok_iload_n (k := 3) (by decide +kernel) rfl
theorem k_177_76 : OkOp mt Ev 177 76 (o_if1 (fun x => decide (¬ x = 0)) 85) := ok_if_ne (off := 9) (by decide +kernel) (by decide +kernel)
theorem k_177_79 : OkOp mt Ev 177 79 (o_push (.long (-9223372036854775808)) 3) := ok_ldc2 (i := 226) (by decide +kernel) wd_1279
theorem k_177_82 : OkOp mt Ev 177 82 (o_goto 97) := ok_goto (off := 15) (by decide +kernel) (by decide +kernel)
theorem k_177_85 : OkOp mt Ev 177 85 (o_iload 4 2) := ok_iload (by decide +kernel)
theorem k_177_87 : OkOp mt Ev 177 87 (o_i2l) := ok_i2l (by decide +kernel)
theorem k_177_88 : OkOp mt Ev 177 88 (o_iload 3 1) := ok_iload_n (k := 3) (by decide +kernel) rfl
theorem k_177_89 : OkOp mt Ev 177 89 (o_cs 131 1) := ok_cs (i := 181) (by decide +kernel) wd_1168 wd_1169 wd_62 wd_1170 nk_37
theorem k_177_92 : OkOp mt Ev 177 92 (o_i2l) := ok_i2l (by decide +kernel)
theorem k_177_93 : OkOp mt Ev 177 93 (o_iload 2 1) := ok_iload_n (k := 2) (by decide +kernel) rfl
theorem k_177_94 : OkOp mt Ev 177 94 (o_cs 175 3) := ok_cs (i := 230) (by decide +kernel) wd_1281 wd_1282 wd_62 wd_1283 nk_38
theorem k_177_97 : OkOp mt Ev 177 97 (o_ret 2) := ok_retl (by decide +kernel) rfl
theorem kt_177 : ∀ pc o, cd_X12_mean Ev pc = some o → OkOp mt Ev 177 pc o ∧ Gw o := (tN_ok (tN_ok (tN_ok (tN_ok (tN_ok (tL_ok ⟨k_177_0, gw_iload⟩) (tN_ok (tL_ok ⟨k_177_1, gw_push⟩) (tL_ok ⟨k_177_2, gw_push⟩))) (tN_ok (tL_ok ⟨k_177_4, gw_cs⟩) (tN_ok (tL_ok ⟨k_177_7, gw_if1⟩) (tL_ok ⟨k_177_10, gw_iload⟩)))) (tN_ok (tN_ok (tL_ok ⟨k_177_11, gw_push⟩) (tN_ok (tL_ok ⟨k_177_12, gw_push⟩) (tL_ok ⟨k_177_13, gw_cs⟩))) (tN_ok (tN_ok (tL_ok ⟨k_177_16, gw_if1⟩) (tL_ok ⟨k_177_19, gw_push⟩)) (tN_ok (tL_ok ⟨k_177_22, gw_ret⟩) (tL_ok ⟨k_177_23, gw_aload⟩))))) (tN_ok (tN_ok (tN_ok (tL_ok ⟨k_177_24, gw_iload⟩) (tN_ok (tL_ok ⟨k_177_25, gw_push⟩) (tL_ok ⟨k_177_26, gw_cv⟩))) (tN_ok (tN_ok (tL_ok ⟨k_177_29, gw_istore⟩) (tL_ok ⟨k_177_30, gw_push⟩)) (tN_ok (tL_ok ⟨k_177_31, gw_istore⟩) (tL_ok ⟨k_177_33, gw_push⟩)))) (tN_ok (tN_ok (tL_ok ⟨k_177_34, gw_istore⟩) (tN_ok (tL_ok ⟨k_177_36, gw_iload⟩) (tL_ok ⟨k_177_38, gw_push⟩))) (tN_ok (tN_ok (tL_ok ⟨k_177_40, gw_if2⟩) (tL_ok ⟨k_177_43, gw_iload⟩)) (tN_ok (tL_ok ⟨k_177_45, gw_iload⟩) (tL_ok ⟨k_177_46, gw_iload⟩)))))) (tN_ok (tN_ok (tN_ok (tN_ok (tL_ok ⟨k_177_48, gw_ib⟩) (tN_ok (tL_ok ⟨k_177_49, gw_push⟩) (tL_ok ⟨k_177_50, gw_ib⟩))) (tN_ok (tL_ok ⟨k_177_51, gw_push⟩) (tN_ok (tL_ok ⟨k_177_52, gw_if2⟩) (tL_ok ⟨k_177_55, gw_aload⟩)))) (tN_ok (tN_ok (tL_ok ⟨k_177_56, gw_getf⟩) (tN_ok (tL_ok ⟨k_177_59, gw_iload⟩) (tL_ok ⟨k_177_61, gw_iald⟩))) (tN_ok (tN_ok (tL_ok ⟨k_177_62, gw_goto⟩) (tL_ok ⟨k_177_65, gw_push⟩)) (tN_ok (tL_ok ⟨k_177_66, gw_ib⟩) (tL_ok ⟨k_177_67, gw_istore⟩))))) (tN_ok (tN_ok (tN_ok (tL_ok ⟨k_177_69, gw_iinc⟩) (tN_ok (tL_ok ⟨k_177_72, gw_goto⟩) (tL_ok ⟨k_177_75, gw_iload⟩))) (tN_ok (tN_ok (tL_ok ⟨k_177_76, gw_if1⟩) (tL_ok ⟨k_177_79, gw_push⟩)) (tN_ok (tL_ok ⟨k_177_82, gw_goto⟩) (tL_ok ⟨k_177_85, gw_iload⟩)))) (tN_ok (tN_ok (tL_ok ⟨k_177_87, gw_i2l⟩) (tN_ok (tL_ok ⟨k_177_88, gw_iload⟩) (tL_ok ⟨k_177_89, gw_cs⟩))) (tN_ok (tN_ok (tL_ok ⟨k_177_92, gw_i2l⟩) (tL_ok ⟨k_177_93, gw_iload⟩)) (tN_ok (tL_ok ⟨k_177_94, gw_cs⟩) (tL_ok ⟨k_177_97, gw_ret⟩)))))))
theorem k_178_0 : OkOp mt Ev 178 0 (o_iload 1 1) := ok_iload_n (k := 1) (by decide +kernel) rfl
theorem k_178_1 : OkOp mt Ev 178 1 (o_push (.int (-1)) 1) := ok_iconst (n := -1) (by decide +kernel) (by decide +kernel)
theorem k_178_2 : OkOp mt Ev 178 2 (o_if2 (fun x y => decide (¬ x = y)) 15) := ok_icmp_ne (off := 13) (by decide +kernel) (by decide +kernel)
theorem k_178_5 : OkOp mt Ev 178 5 (o_aload 0 1) := ok_aload_n (k := 0) (by decide +kernel) rfl
theorem k_178_6 : OkOp mt Ev 178 6 (o_getf 0 [12]) := ok_getf (i := 15) (rf := "BridgeSentencesModel") (nm := "now") (ds := "[I") (by decide +kernel) fc_47 wd_985
theorem k_178_9 : OkOp mt Ev 178 9 (o_push (.int (82)) 2) := ok_bipush (n := 82) (by decide +kernel) (by decide +kernel)
theorem k_178_11 : OkOp mt Ev 178 11 (o_push (.int (0)) 1) := ok_iconst (n := 0) (by decide +kernel) (by decide +kernel)
theorem k_178_12 : OkOp mt Ev 178 12 (o_iast 2 (fun x => x)) := ok_iast (by decide +kernel)
theorem k_178_13 : OkOp mt Ev 178 13 (o_push (.int (0)) 1) := ok_iconst (n := 0) (by decide +kernel) (by decide +kernel)
theorem k_178_14 : OkOp mt Ev 178 14 (o_ret 0) := ok_reti (ty := .int) (by decide +kernel) rfl (Or.inl ⟨rfl, rfl⟩)
theorem k_178_15 : OkOp mt Ev 178 15 (o_iload 1 1) := ok_iload_n (k := 1) (by decide +kernel) rfl
theorem k_178_16 : OkOp mt Ev 178 16 (o_if1 (fun x => decide (x = 0)) 49) := ok_if_eq (off := 33) (by decide +kernel) (by decide +kernel)
theorem k_178_19 : OkOp mt Ev 178 19 (o_iload 1 1) := ok_iload_n (k := 1) (by decide +kernel) rfl
theorem k_178_20 : OkOp mt Ev 178 20 (o_push (.int (1)) 1) := ok_iconst (n := 1) (by decide +kernel) (by decide +kernel)
theorem k_178_21 : OkOp mt Ev 178 21 (o_if2 (fun x y => decide (x = y)) 29) := ok_icmp_eq (off := 8) (by decide +kernel) (by decide +kernel)
theorem k_178_24 : OkOp mt Ev 178 24 (o_iload 1 1) := ok_iload_n (k := 1) (by decide +kernel) rfl
theorem k_178_25 : OkOp mt Ev 178 25 (o_push (.int (2)) 1) := ok_iconst (n := 2) (by decide +kernel) (by decide +kernel)
theorem k_178_26 : OkOp mt Ev 178 26 (o_if2 (fun x y => decide (¬ x = y)) 37) := ok_icmp_ne (off := 11) (by decide +kernel) (by decide +kernel)
theorem k_178_29 : OkOp mt Ev 178 29 (o_aload 0 1) := ok_aload_n (k := 0) (by decide +kernel) rfl
theorem k_178_30 : OkOp mt Ev 178 30 (o_iload 2 1) := ok_iload_n (k := 2) (by decide +kernel) rfl
theorem k_178_31 : OkOp mt Ev 178 31 (o_cv [(12, 128)] 1) := ok_cv (i := 95) (by decide +kernel) vc_143
theorem k_178_34 : OkOp mt Ev 178 34 (o_if1 (fun x => decide (¬ x = 0)) 49) := ok_if_ne (off := 15) (by decide +kernel) (by decide +kernel)
theorem k_178_37 : OkOp mt Ev 178 37 (o_iload 1 1) := ok_iload_n (k := 1) (by decide +kernel) rfl
theorem k_178_38 : OkOp mt Ev 178 38 (o_push (.int (3)) 1) := ok_iconst (n := 3) (by decide +kernel) (by decide +kernel)
theorem k_178_39 : OkOp mt Ev 178 39 (o_if2 (fun x y => decide (¬ x = y)) 53) := ok_icmp_ne (off := 14) (by decide +kernel) (by decide +kernel)
theorem k_178_42 : OkOp mt Ev 178 42 (o_iload 2 1) := ok_iload_n (k := 2) (by decide +kernel) rfl
theorem k_178_43 : OkOp mt Ev 178 43 (o_cs 129 1) := ok_cs (i := 113) (by decide +kernel) wd_1192 wd_1193 wd_62 wd_1194 nk_36
theorem k_178_46 : OkOp mt Ev 178 46 (o_if1 (fun x => decide (x = 0)) 53) := ok_if_eq (off := 7) (by decide +kernel) (by decide +kernel)
theorem k_178_49 : OkOp mt Ev 178 49 (o_push (.int (1)) 1) := ok_iconst (n := 1) (by decide +kernel) (by decide +kernel)
theorem k_178_50 : OkOp mt Ev 178 50 (o_goto 54) := ok_goto (off := 4) (by decide +kernel) (by decide +kernel)
theorem k_178_53 : OkOp mt Ev 178 53 (o_push (.int (0)) 1) := ok_iconst (n := 0) (by decide +kernel) (by decide +kernel)
theorem k_178_54 : OkOp mt Ev 178 54 (o_istore 3 1) := ok_istore_n (k := 3) (by decide +kernel) rfl
theorem k_178_55 : OkOp mt Ev 178 55 (o_iload 3 1) := ok_iload_n (k := 3) (by decide +kernel) rfl
theorem k_178_56 : OkOp mt Ev 178 56 (o_if1 (fun x => decide (¬ x = 0)) 61) := ok_if_ne (off := 5) (by decide +kernel) (by decide +kernel)
theorem k_178_59 : OkOp mt Ev 178 59 (o_push (.int (-1)) 1) := ok_iconst (n := -1) (by decide +kernel) (by decide +kernel)
theorem k_178_60 : OkOp mt Ev 178 60 (o_ret 0) := ok_reti (ty := .int) (by decide +kernel) rfl (Or.inl ⟨rfl, rfl⟩)
theorem k_178_61 : OkOp mt Ev 178 61 (o_aload 0 1) := ok_aload_n (k := 0) (by decide +kernel) rfl
theorem k_178_62 : OkOp mt Ev 178 62 (o_getf 0 [12]) := ok_getf (i := 15) (rf := "BridgeSentencesModel") (nm := "now") (ds := "[I") (by decide +kernel) fc_47 wd_985
theorem k_178_65 : OkOp mt Ev 178 65 (o_push (.int (82)) 2) := ok_bipush (n := 82) (by decide +kernel) (by decide +kernel)
theorem k_178_67 : OkOp mt Ev 178 67 (o_iald 2) := ok_iald (by decide +kernel)
theorem k_178_68 : OkOp mt Ev 178 68 (o_push (.int (10)) 2) := ok_bipush (n := 10) (by decide +kernel) (by decide +kernel)
theorem k_178_70 : OkOp mt Ev 178 70 (o_if2 (fun x y => decide (¬ x = y)) 76) := ok_icmp_ne (off := 6) (by decide +kernel) (by decide +kernel)
theorem k_178_73 : OkOp mt Ev 178 73 (o_push (.int (-4)) 2) := ok_bipush (n := -4) (by decide +kernel) (by decide +kernel)
theorem k_178_75 : OkOp mt Ev 178 75 (o_ret 0) := ok_reti (ty := .int) (by decide +kernel) rfl (Or.inl ⟨rfl, rfl⟩)
theorem k_178_76 : OkOp mt Ev 178 76 (o_aload 0 1) := ok_aload_n (k := 0) (by decide +kernel) rfl
theorem k_178_77 : OkOp mt Ev 178 77 (o_getf 0 [12]) := ok_getf (i := 15) (rf := "BridgeSentencesModel") (nm := "now") (ds := "[I") (by decide +kernel) fc_47 wd_985
theorem k_178_80 : OkOp mt Ev 178 80 (o_push (.int (83)) 2) := ok_bipush (n := 83) (by decide +kernel) (by decide +kernel)
theorem k_178_82 : OkOp mt Ev 178 82 (o_push (.int (2)) 1) := ok_iconst (n := 2) (by decide +kernel) (by decide +kernel)
theorem k_178_83 : OkOp mt Ev 178 83 (o_aload 0 1) := ok_aload_n (k := 0) (by decide +kernel) rfl
theorem k_178_84 : OkOp mt Ev 178 84 (o_getf 0 [12]) := ok_getf (i := 15) (rf := "BridgeSentencesModel") (nm := "now") (ds := "[I") (by decide +kernel) fc_47 wd_985
theorem k_178_87 : OkOp mt Ev 178 87 (o_push (.int (82)) 2) := ok_bipush (n := 82) (by decide +kernel) (by decide +kernel)
theorem k_178_89 : OkOp mt Ev 178 89 (o_iald 2) := ok_iald (by decide +kernel)
theorem k_178_90 : OkOp mt Ev 178 90 (o_ib (fun x y => x * y)) := ok_imul (by decide +kernel)
theorem k_178_91 : OkOp mt Ev 178 91 (o_ib (fun x y => x + y)) := ok_iadd (by decide +kernel)
theorem k_178_92 : OkOp mt Ev 178 92 (o_iload 1 1) := ok_iload_n (k := 1) (by decide +kernel) rfl
theorem k_178_93 : OkOp mt Ev 178 93 (o_iast 2 (fun x => x)) := ok_iast (by decide +kernel)
theorem k_178_94 : OkOp mt Ev 178 94 (o_aload 0 1) := ok_aload_n (k := 0) (by decide +kernel) rfl
theorem k_178_95 : OkOp mt Ev 178 95 (o_getf 0 [12]) := ok_getf (i := 15) (rf := "BridgeSentencesModel") (nm := "now") (ds := "[I") (by decide +kernel) fc_47 wd_985
theorem k_178_98 : OkOp mt Ev 178 98 (o_push (.int (84)) 2) := ok_bipush (n := 84) (by decide +kernel) (by decide +kernel)
theorem k_178_100 : OkOp mt Ev 178 100 (o_push (.int (2)) 1) := ok_iconst (n := 2) (by decide +kernel) (by decide +kernel)
theorem k_178_101 : OkOp mt Ev 178 101 (o_aload 0 1) := ok_aload_n (k := 0) (by decide +kernel) rfl
theorem k_178_102 : OkOp mt Ev 178 102 (o_getf 0 [12]) := ok_getf (i := 15) (rf := "BridgeSentencesModel") (nm := "now") (ds := "[I") (by decide +kernel) fc_47 wd_985
theorem k_178_105 : OkOp mt Ev 178 105 (o_push (.int (82)) 2) := ok_bipush (n := 82) (by decide +kernel) (by decide +kernel)
theorem k_178_107 : OkOp mt Ev 178 107 (o_iald 2) := ok_iald (by decide +kernel)
theorem k_178_108 : OkOp mt Ev 178 108 (o_ib (fun x y => x * y)) := ok_imul (by decide +kernel)
theorem k_178_109 : OkOp mt Ev 178 109 (o_ib (fun x y => x + y)) := ok_iadd (by decide +kernel)
theorem k_178_110 : OkOp mt Ev 178 110 (o_iload 2 1) := ok_iload_n (k := 2) (by decide +kernel) rfl
theorem k_178_111 : OkOp mt Ev 178 111 (o_iast 2 (fun x => x)) := ok_iast (by decide +kernel)
theorem k_178_112 : OkOp mt Ev 178 112 (o_aload 0 1) := ok_aload_n (k := 0) (by decide +kernel) rfl
theorem k_178_113 : OkOp mt Ev 178 113 (o_getf 0 [12]) := ok_getf (i := 15) (rf := "BridgeSentencesModel") (nm := "now") (ds := "[I") (by decide +kernel) fc_47 wd_985
theorem k_178_116 : OkOp mt Ev 178 116 (o_push (.int (82)) 2) := ok_bipush (n := 82) (by decide +kernel) (by decide +kernel)
theorem k_178_118 : OkOp mt Ev 178 118 (o_dup2) := ok_dup2 (by decide +kernel)
theorem k_178_119 : OkOp mt Ev 178 119 (o_iald 2) := ok_iald (by decide +kernel)
theorem k_178_120 : OkOp mt Ev 178 120 (o_push (.int (1)) 1) := ok_iconst (n := 1) (by decide +kernel) (by decide +kernel)
theorem k_178_121 : OkOp mt Ev 178 121 (o_ib (fun x y => x + y)) := ok_iadd (by decide +kernel)
theorem k_178_122 : OkOp mt Ev 178 122 (o_iast 2 (fun x => x)) := ok_iast (by decide +kernel)
theorem k_178_123 : OkOp mt Ev 178 123 (o_aload 0 1) := ok_aload_n (k := 0) (by decide +kernel) rfl
theorem k_178_124 : OkOp mt Ev 178 124 (o_getf 0 [12]) := ok_getf (i := 15) (rf := "BridgeSentencesModel") (nm := "now") (ds := "[I") (by decide +kernel) fc_47 wd_985
theorem k_178_127 : OkOp mt Ev 178 127 (o_push (.int (82)) 2) := ok_bipush (n := 82) (by decide +kernel) (by decide +kernel)
theorem k_178_129 : OkOp mt Ev 178 129 (o_iald 2) := ok_iald (by decide +kernel)
theorem k_178_130 : OkOp mt Ev 178 130 (o_ret 0) := ok_reti (ty := .int) (by decide +kernel) rfl (Or.inl ⟨rfl, rfl⟩)
theorem kt_178 : ∀ pc o, cd_X12_plan Ev pc = some o → OkOp mt Ev 178 pc o ∧ Gw o := (tN_ok (tN_ok (tN_ok (tN_ok (tN_ok (tN_ok (tL_ok ⟨k_178_0, gw_iload⟩) (tL_ok ⟨k_178_1, gw_push⟩)) (tN_ok (tL_ok ⟨k_178_2, gw_if2⟩) (tN_ok (tL_ok ⟨k_178_5, gw_aload⟩) (tL_ok ⟨k_178_6, gw_getf⟩)))) (tN_ok (tN_ok (tL_ok ⟨k_178_9, gw_push⟩) (tL_ok ⟨k_178_11, gw_push⟩)) (tN_ok (tL_ok ⟨k_178_12, gw_iast⟩) (tN_ok (tL_ok ⟨k_178_13, gw_push⟩) (tL_ok ⟨k_178_14, gw_ret⟩))))) (tN_ok (tN_ok (tN_ok (tL_ok ⟨k_178_15, gw_iload⟩) (tL_ok ⟨k_178_16, gw_if1⟩)) (tN_ok (tL_ok ⟨k_178_19, gw_iload⟩) (tN_ok (tL_ok ⟨k_178_20, gw_push⟩) (tL_ok ⟨k_178_21, gw_if2⟩)))) (tN_ok (tN_ok (tL_ok ⟨k_178_24, gw_iload⟩) (tL_ok ⟨k_178_25, gw_push⟩)) (tN_ok (tL_ok ⟨k_178_26, gw_if2⟩) (tN_ok (tL_ok ⟨k_178_29, gw_aload⟩) (tL_ok ⟨k_178_30, gw_iload⟩)))))) (tN_ok (tN_ok (tN_ok (tN_ok (tL_ok ⟨k_178_31, gw_cv⟩) (tL_ok ⟨k_178_34, gw_if1⟩)) (tN_ok (tL_ok ⟨k_178_37, gw_iload⟩) (tN_ok (tL_ok ⟨k_178_38, gw_push⟩) (tL_ok ⟨k_178_39, gw_if2⟩)))) (tN_ok (tN_ok (tL_ok ⟨k_178_42, gw_iload⟩) (tL_ok ⟨k_178_43, gw_cs⟩)) (tN_ok (tL_ok ⟨k_178_46, gw_if1⟩) (tN_ok (tL_ok ⟨k_178_49, gw_push⟩) (tL_ok ⟨k_178_50, gw_goto⟩))))) (tN_ok (tN_ok (tN_ok (tL_ok ⟨k_178_53, gw_push⟩) (tL_ok ⟨k_178_54, gw_istore⟩)) (tN_ok (tL_ok ⟨k_178_55, gw_iload⟩) (tN_ok (tL_ok ⟨k_178_56, gw_if1⟩) (tL_ok ⟨k_178_59, gw_push⟩)))) (tN_ok (tN_ok (tL_ok ⟨k_178_60, gw_ret⟩) (tL_ok ⟨k_178_61, gw_aload⟩)) (tN_ok (tL_ok ⟨k_178_62, gw_getf⟩) (tN_ok (tL_ok ⟨k_178_65, gw_push⟩) (tL_ok ⟨k_178_67, gw_iald⟩))))))) (tN_ok (tN_ok (tN_ok (tN_ok (tN_ok (tL_ok ⟨k_178_68, gw_push⟩) (tL_ok ⟨k_178_70, gw_if2⟩)) (tN_ok (tL_ok ⟨k_178_73, gw_push⟩) (tN_ok (tL_ok ⟨k_178_75, gw_ret⟩) (tL_ok ⟨k_178_76, gw_aload⟩)))) (tN_ok (tN_ok (tL_ok ⟨k_178_77, gw_getf⟩) (tL_ok ⟨k_178_80, gw_push⟩)) (tN_ok (tL_ok ⟨k_178_82, gw_push⟩) (tN_ok (tL_ok ⟨k_178_83, gw_aload⟩) (tL_ok ⟨k_178_84, gw_getf⟩))))) (tN_ok (tN_ok (tN_ok (tL_ok ⟨k_178_87, gw_push⟩) (tL_ok ⟨k_178_89, gw_iald⟩)) (tN_ok (tL_ok ⟨k_178_90, gw_ib⟩) (tN_ok (tL_ok ⟨k_178_91, gw_ib⟩) (tL_ok ⟨k_178_92, gw_iload⟩)))) (tN_ok (tN_ok (tL_ok ⟨k_178_93, gw_iast⟩) (tL_ok ⟨k_178_94, gw_aload⟩)) (tN_ok (tL_ok ⟨k_178_95, gw_getf⟩) (tN_ok (tL_ok ⟨k_178_98, gw_push⟩) (tL_ok ⟨k_178_100, gw_push⟩)))))) (tN_ok (tN_ok (tN_ok (tN_ok (tL_ok ⟨k_178_101, gw_aload⟩) (tL_ok ⟨k_178_102, gw_getf⟩)) (tN_ok (tL_ok ⟨k_178_105, gw_push⟩) (tN_ok (tL_ok ⟨k_178_107, gw_iald⟩) (tL_ok ⟨k_178_108, gw_ib⟩)))) (tN_ok (tN_ok (tL_ok ⟨k_178_109, gw_ib⟩) (tL_ok ⟨k_178_110, gw_iload⟩)) (tN_ok (tL_ok ⟨k_178_111, gw_iast⟩) (tN_ok (tL_ok ⟨k_178_112, gw_aload⟩) (tL_ok ⟨k_178_113, gw_getf⟩))))) (tN_ok (tN_ok (tN_ok (tL_ok ⟨k_178_116, gw_push⟩) (tL_ok ⟨k_178_118, gw_dup2⟩)) (tN_ok (tL_ok ⟨k_178_119, gw_iald⟩) (tN_ok (tL_ok ⟨k_178_120, gw_push⟩) (tL_ok ⟨k_178_121, gw_ib⟩)))) (tN_ok (tN_ok (tL_ok ⟨k_178_122, gw_iast⟩) (tN_ok (tL_ok ⟨k_178_123, gw_aload⟩) (tL_ok ⟨k_178_124, gw_getf⟩))) (tN_ok (tL_ok ⟨k_178_127, gw_push⟩) (tN_ok (tL_ok ⟨k_178_129, gw_iald⟩) (tL_ok ⟨k_178_130, gw_ret⟩))))))))
end
